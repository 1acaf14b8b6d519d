/-! ===== the class: throws ===== -/
theorem thIAE : thOkB wIAE 129 133 496 63 [60, 518, 527, 535, 538, 540, 519, 520, 81, 82, 521, 526, 536, 556, 508, 557, 510, 558, 512, 522, 524, 514, 552, 553, 555, 514, 543, 544, 545, 546, 546, 547, 548, 549, 549, 550, 551, 552, 542, 497, 505, 506, 507, 509, 511, 513, 517, 516, 515] = true := by decide +kernel
theorem thISE : thOkB wISE 58 62 568 64 [60, 518, 527, 535, 538, 540, 519, 520, 81, 82, 521, 526, 536, 556, 508, 557, 510, 558, 512, 522, 524, 514, 552, 553, 555, 514, 579, 580, 581, 546, 546, 547, 548, 549, 549, 550, 551, 552, 578, 569, 571, 531, 572, 573, 574, 575, 517, 516, 576] = true := by decide +kernel
theorem thIOB : thOkB wIOB 99 103 623 67 [60, 518, 527, 535, 538, 540, 519, 520, 81, 82, 521, 526, 536, 556, 508, 557, 510, 558, 512, 522, 524, 514, 552, 553, 555, 514, 596, 597, 598, 546, 546, 547, 548, 549, 549, 550, 551, 552, 633, 624, 626, 532, 627, 628, 629, 630, 517, 516, 631] = true := by decide +kernel
theorem thUOE : thOkB wUOE 266 270 875 73 [60, 518, 527, 535, 538, 540, 519, 520, 81, 82, 521, 526, 536, 556, 508, 557, 510, 558, 512, 522, 524, 514, 552, 553, 555, 514, 886, 887, 888, 546, 546, 547, 548, 549, 549, 550, 551, 552, 885, 876, 878, 533, 879, 880, 881, 882, 517, 516, 883] = true := by decide +kernel
theorem thARE : thOkB wARE 319 323 971 74 [60, 518, 527, 535, 538, 540, 519, 520, 81, 82, 521, 526, 536, 556, 508, 557, 510, 558, 512, 522, 524, 514, 552, 553, 555, 514, 955, 956, 957, 546, 546, 547, 548, 549, 549, 550, 551, 552, 973, 954, 966, 529, 960, 961, 963, 959, 517, 516, 958] = true := by decide +kernel
def zzOkB (pk pi : Nat) (ps : List Nat) : Bool :=
  wAt pk (.classLink RX8 150 wNSE) && wAt pi (.initialized wNSE) && decide (((zz_at RX8 154 wNSE [wRTE, wEXC]).filter goodWord).length = ps.length) &&
  (((zz_at RX8 154 wNSE [wRTE, wEXC]).filter goodWord).zip ps).all (fun q => wAt q.2 q.1) &&
  ((zz_at RX8 154 wNSE [wRTE, wEXC]).filter (fun w => !goodWord w)).all (fun w => (wXs.any fun x => decide (w = .castable x x)) || (declWs.any fun x => decide (w = .declares x))) &&
  (Cond.classLink RX8 150 wNSE :: Cond.initialized wNSE :: zz_at RX8 154 wNSE [wRTE, wEXC]).all vx_ot && Bundle.fit wNSE
theorem thNSE : zzOkB 724 72 [60, 518, 527, 535, 538, 540, 519, 520, 81, 82, 521, 526, 536, 556, 508, 557, 510, 558, 512, 522, 524, 514, 552, 553, 555, 514, 735, 736, 737, 546, 546, 547, 548, 549, 549, 550, 551, 552, 734, 725, 727, 534, 728, 729, 730, 731, 517, 516, 732] = true := by decide +kernel
section THR
variable {E : WE} {mi : MI} {C : CT} {d mc ms : Nat} {pc : Nat} {ls : List (Option Value)} {st : List Value}
theorem J_throwN {P : PO} {A : AH} {n k q : Nat} {z : Bool} (X : Cx E mi C) {is pk pi : Nat} {ps : List Nat} {text : String} {rest : List Value} (hown : mi.1.cls = RX8) (hth : zzOkB pk pi ps = true) (hstr : (is, text) ∈ strWs)
    (hP : P (.inr wNSE) A n false) (hk : k + 1 ≤ mc) (hq : q + 6 ≤ ms) (hd : 6 ≤ d) (hcat : (rest.map fun v => v.category).sum ≤ 8)
    (d0 : decode mi.2.1 pc = .ok (.new 150, 3)) (d3 : decode mi.2.1 (pc + 3) = .ok (.dup, 1)) (d46 : (decode mi.2.1 (pc + 4) = .ok (.ldc is, 2) ∧ decode mi.2.1 (pc + 6) = .ok (.invokespecial 154, 3) ∧ decode mi.2.1 (pc + 9) = .ok (.athrow, 1)) ∨ (decode mi.2.1 (pc + 4) = .ok (.ldc_w is, 3) ∧ decode mi.2.1 (pc + 7) = .ok (.invokespecial 154, 3) ∧ decode mi.2.1 (pc + 10) = .ok (.athrow, 1))) :
    J E mi C d mc ms P pc ls rest A n z k q := by
  obtain ⟨p, e, s, m, args, below, meth, c⟩ := C
  intro H locs arr hS0 hS1 hl hlen
  obtain ⟨⟨hx, hbb, hml, hown0, hts⟩, ⟨hret, hlocks, htab, -⟩, hWK, -, hst9⟩ := X
  simp only [zzOkB, Bool.and_eq_true, decide_eq_true_eq] at hth
  obtain ⟨⟨⟨⟨⟨⟨h1, h2⟩, h3⟩, h4⟩, h5⟩, h6⟩, h7⟩ := hth
  have hown : s.vm.findClass RX8 = some m.cls := by rw [← hown]; exact hown0
  obtain ⟨⟨-, -, hca, hde⟩, hss, -, ⟨hU, hN, -, -⟩, -⟩ := hWK
  obtain ⟨sa, hsa⟩ := hss _ hstr
  have hat : ∀ w ∈ zz_at RX8 154 wNSE [wRTE, wEXC], w.before args s = true := by
    intro w hw
    by_cases g : goodWord w = true
    · have hf : w ∈ (zz_at RX8 154 wNSE [wRTE, wEXC]).filter goodWord := List.mem_filter.mpr ⟨hw, g⟩
      obtain ⟨i, hi⟩ := List.getElem?_of_mem hf
      have hil := (List.getElem?_eq_some_iff.mp hi).1
      have hi2 : i < ps.length := by rw [← h3]; exact hil
      have hz : (w, ps[i]) ∈ ((zz_at RX8 154 wNSE [wRTE, wEXC]).filter goodWord).zip ps := by
        refine List.mem_of_getElem? (i := i) ?_
        rw [List.getElem?_zip_eq_some]
        exact ⟨hi, List.getElem?_eq_getElem hi2⟩
      exact hts w (wAt_in (List.all_eq_true.mp h4 _ hz))
    · have hf : w ∈ (zz_at RX8 154 wNSE [wRTE, wEXC]).filter (fun w => !goodWord w) := List.mem_filter.mpr ⟨hw, by simpa using g⟩
      have h9 := List.all_eq_true.mp h5 w hf
      simp only [Bool.or_eq_true, List.any_eq_true, decide_eq_true_eq] at h9
      rcases h9 with ⟨x, hx9, e9⟩ | ⟨x, hx9, e9⟩
      · subst e9; exact va_Nw.use rfl (hca x hx9)
      · subst e9; exact va_Nw.use rfl (hde x hx9)
  have hgood : ∀ w ∈ Cond.classLink RX8 150 wNSE :: Cond.initialized wNSE :: zz_at RX8 154 wNSE [wRTE, wEXC], vx_ot w = true := fun w hw => List.all_eq_true.mp h6 w hw
  have hnames : ∀ n ∈ [wRTE, wEXC], Bundle.fit n = true := by decide +kernel
  have hxx : ∀ t : State, s.vm.Alike t.vm → H.size ≤ t.heap.size → (∀ q : Nat, q < H.size → t.heap[q]? = H[q]?) → XcP E P wNSE s t := fun t _ hz hq9 => by
    refine ⟨⟨A, n, false, hP, ⟨hS0.1.kept fun k9 q9 hk9 => hq9 _ (hS0.1 k9 q9 hk9).lt, Nat.le_trans hS0.2.1 hz, fun e9 => nomatch e9⟩⟩, Nat.le_trans hS1.1 hz, fun q9 h8 h9 => ?_⟩
    rw [hq9 q9 (Nat.lt_of_lt_of_le h8 hS1.1)]
    exact hS1.2.1 q9 h8 h9
  have hd1 : ([wRTE, wEXC] : List String).length + 3 < (rmOf d mc ms).frames := by show 2 + 3 < d; omega
  have hd2 : (rest.map fun v => v.category).sum + (13 * (([wRTE, wEXC] : List String).length + 1) + 43) ≤ (rmOf d mc ms).locals := by show _ + (13 * 3 + 43) ≤ 40 * d + 100; omega
  rcases d46 with ⟨d4, d6, d9⟩ | ⟨d4, d6, d9⟩
  · exact zz_makeT (names := [wRTE, wEXC]) (A := eA E) hx hbb hst9 hown h7 hnames (hts _ (wAt_in h1)) (hts _ (wAt_in h2)) hsa hat hgood hU hN hS1 (by rw [hml, hl.size, hlen]) d0 d3 d4 d6 d9 (fun x hx9 => (htab x hx9).elim) hd1 hd2 hk hq hlocks hxx hS1.2.2 hk hq
  · exact zz_makeTW (names := [wRTE, wEXC]) (A := eA E) hx hbb hst9 hown h7 hnames (hts _ (wAt_in h1)) (hts _ (wAt_in h2)) hsa hat hgood hU hN hS1 (by rw [hml, hl.size, hlen]) d0 d3 d4 d6 d9 (fun x hx9 => (htab x hx9).elim) hd1 hd2 hk hq hlocks hxx hS1.2.2 hk hq
/-- the rows of a throw, read out of a method's table -/
def thPc (tb : TB) (pc ik is ic : Nat) : Bool :=
  decide (lkp tb pc = some (.new ik, 0)) && decide (lkp tb (pc + 3) = some (.dup, 0)) &&
  ((decide (lkp tb (pc + 4) = some (.ldc is, 0)) && decide (lkp tb (pc + 6) = some (.invokespecial ic, 0)) && decide (lkp tb (pc + 9) = some (.athrow, 0))) ||
   (decide (lkp tb (pc + 4) = some (.ldc_w is, 0)) && decide (lkp tb (pc + 7) = some (.invokespecial ic, 0)) && decide (lkp tb (pc + 10) = some (.athrow, 0))))
theorem lkp_dec {code : ByteArray} {tb : TB} (h : tbOk code tb = true) {pc t : Nat} {i : Instr} (hl : lkp tb pc = some (i, t)) (hn : ¬ instrLen i = 0) : decode code pc = .ok (i, instrLen i) := by
  obtain ⟨len, h1, -, h2⟩ := lkp_spec h hl
  have e := h2.resolve_right hn
  rw [e] at h1
  exact h1
theorem JM_throw {P : OC → ST → Prop} {s : ST} (X : Cx E mi C) {tb : TB} (htb : tbOk mi.2.1 tb = true) {cls : String} {ik is ic pk pi : Nat} {ps : List Nat} {text : String} (hown : mi.1.cls = RX8) (hth : thOkB cls ik ic pk pi ps = true) (hstr : (is, text) ∈ strWs) (hpc : thPc tb pc ik is ic = true)
    (hP : P (.inr cls) s) (hd : 6 ≤ d) (hcat : (st.map fun v => v.category).sum ≤ 8) : JM E mi C d 1 6 P pc ls st s := by
  simp only [thPc, Bool.and_eq_true, Bool.or_eq_true, decide_eq_true_eq] at hpc
  obtain ⟨⟨p0, p3⟩, p4⟩ := hpc
  refine J_throwS X hown hth hstr (P := PoC E P) (n := 622) (z := false) ⟨rfl, rfl, s, rfl, hP⟩ (Nat.le_refl _) (Nat.le_refl _) hd hcat (lkp_dec htb p0 (by simp [instrLen])) (lkp_dec htb p3 (by simp [instrLen])) ?_
  rcases p4 with ⟨⟨q4, q6⟩, q9⟩ | ⟨⟨q4, q6⟩, q9⟩
  · exact Or.inl ⟨lkp_dec htb q4 (by simp [instrLen]), lkp_dec htb q6 (by simp [instrLen]), lkp_dec htb q9 (by simp [instrLen])⟩
  · exact Or.inr ⟨lkp_dec htb q4 (by simp [instrLen]), lkp_dec htb q6 (by simp [instrLen]), lkp_dec htb q9 (by simp [instrLen])⟩
theorem JM_throwN {P : OC → ST → Prop} {s : ST} (X : Cx E mi C) {tb : TB} (htb : tbOk mi.2.1 tb = true) {is pk pi : Nat} {ps : List Nat} {text : String} (hown : mi.1.cls = RX8) (hth : zzOkB pk pi ps = true) (hstr : (is, text) ∈ strWs) (hpc : thPc tb pc 150 is 154 = true)
    (hP : P (.inr wNSE) s) (hd : 6 ≤ d) (hcat : (st.map fun v => v.category).sum ≤ 8) : JM E mi C d 1 6 P pc ls st s := by
  simp only [thPc, Bool.and_eq_true, Bool.or_eq_true, decide_eq_true_eq] at hpc
  obtain ⟨⟨p0, p3⟩, p4⟩ := hpc
  refine J_throwN X hown hth hstr (P := PoC E P) (n := 622) (z := false) ⟨rfl, rfl, s, rfl, hP⟩ (Nat.le_refl _) (Nat.le_refl _) hd hcat (lkp_dec htb p0 (by simp [instrLen])) (lkp_dec htb p3 (by simp [instrLen])) ?_
  rcases p4 with ⟨⟨q4, q6⟩, q9⟩ | ⟨⟨q4, q6⟩, q9⟩
  · exact Or.inl ⟨lkp_dec htb q4 (by simp [instrLen]), lkp_dec htb q6 (by simp [instrLen]), lkp_dec htb q9 (by simp [instrLen])⟩
  · exact Or.inr ⟨lkp_dec htb q4 (by simp [instrLen]), lkp_dec htb q6 (by simp [instrLen]), lkp_dec htb q9 (by simp [instrLen])⟩
end THR
