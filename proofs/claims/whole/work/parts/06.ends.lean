/-! ===== ends: returns, throws ===== -/
section ENDJ
variable {E : WE} {mi : MI} {C : CT} {d mc ms : Nat} {P : PO} {pc : Nat} {ls : List (Option Value)} {A : AH} {n k q : Nat} {z : Bool}
theorem J_iret (X : Cx E mi C) {v : Int32} (hr : mi.2.2.2 = some .int ∨ (mi.2.2.2 = some .boolean ∧ (v = 0 ∨ v = 1))) (hP : P (.inl (some (.int v))) A n z) (hk : k ≤ mc) (hq : q ≤ ms) (hdg : decode mi.2.1 pc = .ok (.ireturn, 1)) : J E mi C d mc ms P pc ls [.int v] A n z k q := by
  obtain ⟨p, e, s, m, args, below, meth, c⟩ := C
  intro H locs arr hS0 hS1 hl hlen
  obtain ⟨⟨hx, hbb, hml, hown, hts⟩, ⟨hret, hlocks, -, -⟩, -⟩ := X
  refine vx_ret (W.widen hk hq ?_)
  rcases hr with hr | ⟨hr, hv⟩
  · exact W.iret hx hbb (hret.trans hr) (fun t ht hW => ⟨⟨_, A, n, z, rfl, hP, by rw [ht]; exact hS0⟩, hS1.F ht⟩) hS1.2.2 hdg
  · exact W.zret hx hbb (hret.trans hr) (by rcases hv with e1 | e1 <;> subst e1 <;> rfl) (fun t ht hW => ⟨⟨_, A, n, z, rfl, hP, by rw [ht]; exact hS0⟩, hS1.F ht⟩) hS1.2.2 hdg
theorem J_vret (X : Cx E mi C) (hr : mi.2.2.2 = none) (hP : P (.inl none) A n z) (hk : k ≤ mc) (hq : q ≤ ms) (hdg : decode mi.2.1 pc = .ok (.return_, 1)) : J E mi C d mc ms P pc ls [] A n z k q := by
  obtain ⟨p, e, s, m, args, below, meth, c⟩ := C
  intro H locs arr hS0 hS1 hl hlen
  obtain ⟨⟨hx, hbb, hml, hown, hts⟩, ⟨hret, hlocks, -, -⟩, -⟩ := X
  refine vx_ret (W.widen hk hq ?_)
  exact W.vret hx hbb (hret.trans hr) (fun t ht hW => ⟨⟨_, A, n, z, rfl, hP, by rw [ht]; exact hS0⟩, hS1.F ht⟩) hS1.2.2 hdg
theorem J_dret (X : Cx E mi C) {v : UInt64} (hr : mi.2.2.2 = some .double) (hP : P (.inl (some (.double v))) A n z) (hk : k ≤ mc) (hq : q ≤ ms) (hdg : decode mi.2.1 pc = .ok (.dreturn, 1)) : J E mi C d mc ms P pc ls [.double v] A n z k q := by
  obtain ⟨p, e, s, m, args, below, meth, c⟩ := C
  intro H locs arr hS0 hS1 hl hlen
  obtain ⟨⟨hx, hbb, hml, hown, hts⟩, ⟨hret, hlocks, -, -⟩, -⟩ := X
  refine vx_ret (W.widen hk hq ?_)
  exact W.dret hx hbb (hret.trans hr) (fun t ht hW => ⟨⟨_, A, n, z, rfl, hP, by rw [ht]; exact hS0⟩, hS1.F ht⟩) hS1.2.2 hdg
/-- the words of 'throw new E(text)' in the class: by their places -/
def thOkB (cls : String) (ik ic : Nat) (pk pi : Nat) (ps : List Nat) : Bool :=
  wAt pk (.classLink RX8 ik cls) && wAt pi (.initialized cls) && decide (((vx_atS RX8 ic cls [wRTE, wEXC]).filter goodWord).length = ps.length) &&
  (((vx_atS RX8 ic cls [wRTE, wEXC]).filter goodWord).zip ps).all (fun q => wAt q.2 q.1) &&
  ((vx_atS RX8 ic cls [wRTE, wEXC]).filter (fun w => !goodWord w)).all (fun w => (wXs.any fun x => decide (w = .castable x x)) || (declWs.any fun x => decide (w = .declares x))) &&
  (Cond.classLink RX8 ik cls :: Cond.initialized cls :: vx_atS RX8 ic cls [wRTE, wEXC]).all vx_ot && Bundle.fit cls
theorem J_throwS (X : Cx E mi C) {cls : String} {ik is ic pk pi : Nat} {ps : List Nat} {text : String} {rest : List Value} (hown : mi.1.cls = RX8) (hth : thOkB cls ik ic pk pi ps = true) (hstr : (is, text) ∈ strWs)
    (hP : P (.inr cls) A n false) (hk : k + 1 ≤ mc) (hq : q + 6 ≤ ms) (hd : 6 ≤ d) (hcat : (rest.map fun v => v.category).sum ≤ 8)
    (d0 : decode mi.2.1 pc = .ok (.new ik, 3)) (d3 : decode mi.2.1 (pc + 3) = .ok (.dup, 1)) (d46 : (decode mi.2.1 (pc + 4) = .ok (.ldc is, 2) ∧ decode mi.2.1 (pc + 6) = .ok (.invokespecial ic, 3) ∧ decode mi.2.1 (pc + 9) = .ok (.athrow, 1)) ∨ (decode mi.2.1 (pc + 4) = .ok (.ldc_w is, 3) ∧ decode mi.2.1 (pc + 7) = .ok (.invokespecial ic, 3) ∧ decode mi.2.1 (pc + 10) = .ok (.athrow, 1))) :
    J E mi C d mc ms P pc ls rest A n z k q := by
  obtain ⟨p, e, s, m, args, below, meth, c⟩ := C
  intro H locs arr hS0 hS1 hl hlen
  obtain ⟨⟨hx, hbb, hml, hown0, hts⟩, ⟨hret, hlocks, htab, -⟩, hWK, -, hst9⟩ := X
  simp only [thOkB, Bool.and_eq_true, decide_eq_true_eq] at hth
  obtain ⟨⟨⟨⟨⟨⟨h1, h2⟩, h3⟩, h4⟩, h5⟩, h6⟩, h7⟩ := hth
  have hown : s.vm.findClass RX8 = some m.cls := by rw [← hown]; exact hown0
  obtain ⟨⟨-, -, hca, hde⟩, hss, -, ⟨hU, hN, -, -⟩, -⟩ := hWK
  obtain ⟨sa, hsa⟩ := hss _ hstr
  have hat : ∀ w ∈ vx_atS RX8 ic cls [wRTE, wEXC], w.before args s = true := by
    intro w hw
    by_cases g : goodWord w = true
    · have hf : w ∈ (vx_atS RX8 ic cls [wRTE, wEXC]).filter goodWord := List.mem_filter.mpr ⟨hw, g⟩
      obtain ⟨i, hi⟩ := List.getElem?_of_mem hf
      have hil := (List.getElem?_eq_some_iff.mp hi).1
      have hi2 : i < ps.length := by rw [← h3]; exact hil
      have hz : (w, ps[i]) ∈ ((vx_atS RX8 ic cls [wRTE, wEXC]).filter goodWord).zip ps := by
        refine List.mem_of_getElem? (i := i) ?_
        rw [List.getElem?_zip_eq_some]
        exact ⟨hi, List.getElem?_eq_getElem hi2⟩
      exact hts w (wAt_in (List.all_eq_true.mp h4 _ hz))
    · have hf : w ∈ (vx_atS RX8 ic cls [wRTE, wEXC]).filter (fun w => !goodWord w) := List.mem_filter.mpr ⟨hw, by simpa using g⟩
      have h9 := List.all_eq_true.mp h5 w hf
      simp only [Bool.or_eq_true, List.any_eq_true, decide_eq_true_eq] at h9
      rcases h9 with ⟨x, hx9, e9⟩ | ⟨x, hx9, e9⟩
      · subst e9; exact va_Nw.use rfl (hca x hx9)
      · subst e9; exact va_Nw.use rfl (hde x hx9)
  have hgood : ∀ w ∈ Cond.classLink RX8 ik cls :: Cond.initialized cls :: vx_atS RX8 ic cls [wRTE, wEXC], vx_ot w = true := fun w hw => List.all_eq_true.mp h6 w hw
  have hnames : ∀ n ∈ [wRTE, wEXC], Bundle.fit n = true := by decide +kernel
  have hxx : ∀ t : State, s.vm.Alike t.vm → H.size ≤ t.heap.size → (∀ q : Nat, q < H.size → t.heap[q]? = H[q]?) → XcP E P cls s t := fun t _ hz hq9 => by
    refine ⟨⟨A, n, false, hP, ⟨hS0.1.kept fun k9 q9 hk9 => hq9 _ (hS0.1 k9 q9 hk9).lt, Nat.le_trans hS0.2.1 hz, fun e9 => nomatch e9⟩⟩, Nat.le_trans hS1.1 hz, fun q9 h8 h9 => ?_⟩
    rw [hq9 q9 (Nat.lt_of_lt_of_le h8 hS1.1)]
    exact hS1.2.1 q9 h8 h9
  have hd1 : ([wRTE, wEXC] : List String).length + 3 < (rmOf d mc ms).frames := by show 2 + 3 < d; omega
  have hd2 : (rest.map fun v => v.category).sum + (13 * (([wRTE, wEXC] : List String).length + 1) + 43) ≤ (rmOf d mc ms).locals := by show _ + (13 * 3 + 43) ≤ 40 * d + 100; omega
  rcases d46 with ⟨d4, d6, d9⟩ | ⟨d4, d6, d9⟩
  · exact vx_throwS (names := [wRTE, wEXC]) (A := eA E) hx hbb hst9 hown h7 hnames (hts _ (wAt_in h1)) (hts _ (wAt_in h2)) hsa hat hgood hU hN hS1 (by rw [hml, hl.size, hlen]) d0 d3 d4 d6 d9 (fun x hx9 => (htab x hx9).elim) hd1 hd2 hk hq hlocks hxx hS1.2.2 hk hq
  · exact vx_throwSW (names := [wRTE, wEXC]) (A := eA E) hx hbb hst9 hown h7 hnames (hts _ (wAt_in h1)) (hts _ (wAt_in h2)) hsa hat hgood hU hN hS1 (by rw [hml, hl.size, hlen]) d0 d3 d4 d6 d9 (fun x hx9 => (htab x hx9).elim) hd1 hd2 hk hq hlocks hxx hS1.2.2 hk hq
end ENDJ
