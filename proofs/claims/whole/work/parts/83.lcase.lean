/-! ===== the mean's wrapper; what the law's loop stands on ===== -/
section DST
variable {E : WE} {cc : ByteArray} {nL : Nat} {sc : SCR} {C : LT} {k q pc : Nat} {ls : List (Option Value)} {rest : List Value} {s : ST}
theorem JL_dast (X : CL E cc nL sc C) {tb : TB} (htb : tbOk cc tb = true) (hi : lkp tb pc = some (.dastore, 0)) {v : UInt64} (kk : JL E nL C k q (pc + 1) ls rest (sDo s v)) : JL E nL C k q pc ls (.double v :: .int (nI 0) :: .ref (aF E 621) :: rest) s := by
  obtain ⟨len, hdg, -, hlen9⟩ := lkp_spec htb hi
  have e9 : len = 1 := hlen9.resolve_right (by simp [instrLen])
  subst e9
  obtain ⟨p, e, s0, m, args, below, meth, c, R, Q⟩ := C
  obtain ⟨⟨hx, hb, -⟩, -, hWK, hB9, -⟩ := X
  intro H locs arr hS0 hS1 hl hlen
  have hK : va_K (eD E) wCl (eT E) s0 := hWK.1.1
  refine va_dast (f := s.2.2) (n := 1) hx hb hK hS0.1 ww_D hS1 621 3 (by rw [ww_get (by decide), cel_621]; rfl) rfl in01 hdg (fun H1 locs1 k1 k2 k3 => ?_)
  refine kk H1 locs1 arr ⟨?_, Nat.le_trans hB9 k3.1, fun e => nomatch e⟩ k3 hl hlen
  rw [cel_do1, ← ww_set]
  exact k1
theorem JL_dald (X : CL E cc nL sc C) {tb : TB} (htb : tbOk cc tb = true) (hi : lkp tb pc = some (.daload, 0)) (kk : JL E nL C k q (pc + 1) ls (.double (s.2.2 0) :: rest) s) : JL E nL C k q pc ls (.int (nI 0) :: .ref (aF E 621) :: rest) s := by
  obtain ⟨len, hdg, -, hlen9⟩ := lkp_spec htb hi
  have e9 : len = 1 := hlen9.resolve_right (by simp [instrLen])
  subst e9
  obtain ⟨p, e, s0, m, args, below, meth, c, R, Q⟩ := C
  obtain ⟨⟨hx, hb, -⟩, -, hWK, hB9, -⟩ := X
  intro H locs arr hS0 hS1 hl hlen
  have hK : va_K (eD E) wCl (eT E) s0 := hWK.1.1
  exact va_dald (f := s.2.2) (n := 1) hx hb hK hS0.1 621 3 (by rw [ww_get (by decide), cel_621]; rfl) rfl in01 hdg (kk H locs arr hS0 hS1 hl hlen)
/-- fewer locals known -/
theorem JL.weak {ls' : List (Option Value)} (hn : ls'.length = ls.length) (h : ∀ (i : Nat) (v : Value), ls'[i]? = some (some v) → ls[i]? = some (some v)) (kk : JL E nL C k q pc ls' rest s) : JL E nL C k q pc ls rest s := by
  obtain ⟨p, e, s0, m, args, below, meth, c, R, Q⟩ := C
  intro H locs arr hS0 hS1 hl hlen
  refine kk H locs arr hS0 hS1 ⟨⟨by rw [hn]; exact hl.1.1, hl.1.2.1, fun x hx => hl.1.2.2 x ?_⟩, fun v hv => ?_⟩ (hn.trans hlen)
  · have := (lsAll_mem ls' 0 x).mp hx
    exact (lsAll_mem ls 0 x).mpr ⟨this.1, h _ _ this.2⟩
  · obtain ⟨i, hi⟩ := List.getElem?_of_mem hv
    exact hl.2 v (List.mem_of_getElem? (h i v hi))
theorem JL.wid {k' q' : Nat} (hk : k ≤ k') (hq : q ≤ q') (kk : JL E nL C k' q' pc ls rest s) : JL E nL C k q pc ls rest s := by
  obtain ⟨p, e, s0, m, args, below, meth, c, R, Q⟩ := C
  intro H locs arr hS0 hS1 hl hlen
  exact W.widen hk hq (kk H locs arr hS0 hS1 hl hlen)
end DST
def PWm (s : ST) (o : AS × UInt64 × Int32) : OC → ST → Prop := fun oc s' => oc = .inl (some (.int o.2.2)) ∧ (∀ r, 20 ≤ r → s'.1 r = s.1 r) ∧ AbsC s' o.1 ∧ (o.2.2 = nI 0 → s'.2.2 0 = o.2.1)
theorem w_meanDistance {E : WE} {s : ST} {a : AS} {B : Nat} (h : AbsC s a) (hA : AInv B a) : SpW E mL_meanDistance hL_meanDistance 9 [.ref (aF E 0), .ref (aF E 621)] s (PWm s (oMean a)) := by
  have h1 : nI 1 = nI 0 → False := fun e => by rw [nI_inj (by decide) (by decide)] at e; cases e
  refine SpW.mk (by decide +kernel) rfl (fun v hv => by simp at hv; rcases hv with rfl | rfl <;> rfl) (Nat.le_of_ble_eq_true rfl) (fun p e s0 m args below meth c X htab hret => ?_)
  rw [show entL [.ref (aF E 0), .ref (aF E 621)] mL_meanDistance.2.2.1 = [some (.ref (aF E 0)), some (.ref (aF E 621)), none] from rfl]
  refine goJ X tL_meanDistance_ok 40 [3] ?_
  simp only [goL_go, gsL_some, ctL_ctL, stepL, fv0, fv1, fv2, fv3, List.getElem?_cons_zero, List.getElem?_cons_succ, List.set_cons_zero, List.set_cons_succ, List.mem_cons, List.not_mem_nil, or_false, or_self, if_false, if_true, List.length_cons, List.length_nil, Nat.reduceEqDiff, not_false_eq_true, true_or, or_true, false_or, Nat.zero_add, Nat.add_zero, Nat.reduceAdd, Nat.reduceMul, Nat.reduceLT, Nat.reduceSub, true_implies, false_implies, not_true_eq_false, true_and, and_true, eq_self, xLdA, cI_0, kL_meanDistance_0, kL_meanDistance_1, kL_meanDistance_2, kL_meanDistance_3]
  refine JL_callC X (As := []) (rest := [.int (nI 0), .ref (aF E 621)]) (c_meanDistance h hA (mean_num hA.inv)) tL_meanDistance_ok kL_meanDistance_3 vX8_meanDistance lL_meanDistance rfl rfl rfl (by show 1 + (1 + 0) ≤ 8; omega) (Nat.le_refl _) htab (fun v s' hp => ?_) (fun Z s' hp => ?_)
  · obtain ⟨g1, g2⟩ := hp
    unfold outM at g1
    split at g1
    · rename_i e0
      cases g1
      refine JL_dast X tL_meanDistance_ok kL_meanDistance_6 ?_
      refine goJ X tL_meanDistance_ok 40 [14] ?_
      simp only [goL_go, gsL_some, ctL_ctL, stepL, List.mem_cons, List.not_mem_nil, or_false, or_self, if_false, if_true, Nat.reduceEqDiff, Nat.reduceAdd, cI_0, kL_meanDistance_7, kL_meanDistance_13]
      refine JL_iret X tL_meanDistance_ok kL_meanDistance_14 hret ?_ (Nat.le_refl 1) (Nat.le_refl 6)
      refine ⟨by rw [e0], g2.1.2, g2.2, fun _ => ?_⟩
      simp [sDo, vf_upd]
    · cases g1
  · obtain ⟨g1, g2⟩ := hp
    unfold outM at g1
    split at g1
    · cases g1
    · rename_i e0
      have hz : Z = wARE := Sum.inr.inj g1
      subst hz
      have ho : (oMean a).2.2 = nI 1 := by
        unfold oMean at e0 ⊢
        split at e0
        · rename_i c4; rw [if_pos c4]
        · exact absurd rfl e0
      refine ⟨10, catch1 (by decide) kl_98 zARE, fun qa => goJ X tL_meanDistance_ok 40 [12] ?_⟩
      simp only [goL_go, gsL_some, ctL_ctL, stepL, fv0, fv1, fv2, fv3, List.set_cons_zero, List.set_cons_succ, List.mem_cons, List.not_mem_nil, or_false, or_self, if_false, if_true, List.length_cons, List.length_nil, Nat.reduceEqDiff, Nat.reduceAdd, Nat.reduceLT, true_and, xStA, cI_1, kL_meanDistance_10, kL_meanDistance_11]
      refine JL_iret X tL_meanDistance_ok kL_meanDistance_12 hret ⟨by rw [ho], g2.1.2, g2.2, fun e => ?_⟩ (Nat.le_refl 1) (Nat.le_refl 6)
      rw [ho] at e
      exact (h1 e).elim
/-- a wrapper, called from the law -/
theorem cWL {E : WE} {cc : ByteArray} {nL : Nat} {sc : SCR} {C : LT} {k q pc : Nat} {ls : List (Option Value)} {st : List Value} {s : ST} (X : CL E cc nL sc C) {mi' : MI} {hh : HT} {nA idx d' : Nat} {As rest : List Value} {P' : OC → ST → Prop} (hSp : SpW E mi' hh d' As s P') {tb : TB} (htb : tbOk cc tb = true) (hi : lkp tb pc = some (.invokestatic idx, 0)) (hv : SOk mi' hh nA idx)
    (hst : st = As.reverse ++ rest) (hn : As.length = nA) (hcat : (rest.map fun v => v.category).sum ≤ 8)
    (hd : d' + 1 ≤ C.2.2.2.2.2.2.2.2.1.frames ∧ 40 * d' + 140 ≤ C.2.2.2.2.2.2.2.2.1.locals) (hk : k + 1 ≤ C.2.2.2.2.2.2.2.2.1.cells) (hq : q + 6 ≤ C.2.2.2.2.2.2.2.2.1.slots)
    (kx : ∀ (Z : String) (s' : ST), P' (.inr Z) s' → False)
    (kk : ∀ (v : Option Value) (s' : ST), P' (.inl v) s' → JL E nL C (k + 1) (q + 6) (pc + 3) ls (v.toList ++ rest) s') : JL E nL C k q pc ls st s := by
  obtain ⟨p, e, s0, m, args, below, meth, c, R, Q⟩ := C
  obtain ⟨len, hdg, -, hlen9⟩ := lkp_spec htb hi
  have e9 : len = 3 := hlen9.resolve_right (by simp [instrLen])
  subst e9
  have X0 := X
  obtain ⟨⟨hx, hbb, hml, hown, hts⟩, -, hWK, -, hst9⟩ := X
  obtain ⟨⟨h1, h2, h3, h4⟩, h5, h6⟩ := hv
  intro H locs arr hS0 hS1 hl hlen
  refine JL_call (mc' := 1) (ms' := 6) (a := As.toArray) ?_ hS1 (fun v s' H1 locs1 hp g1 g2 => kk v s' hp H1 locs1 arr g1 g2 hl hlen) (fun Z s' _ _ _ _ hp _ _ _ _ _ => (kx Z s' hp).elim)
  have cw : vx_CSW R s0 args RL idx mi'.1 mi'.2.1 mi'.2.2.1 mi'.2.2.2 hh (Cond.codeWith mi'.1 mi'.2.1 mi'.2.2.1 mi'.2.2.2 hh :: wT) (rmOf d' 1 6) 1 6 nA := by
    refine vx_cwSW (Ts := wT) (ws' := wT) nA hts (fun w hw => ?_) rfl rfl rfl h5 ⟨hd.1, ?_⟩
    · have hw2 : w ∈ wT := by
        unfold va_wsS at hw
        rcases List.mem_append.mp hw with hw | hw
        · simp only [List.mem_cons, List.not_mem_nil, or_false] at hw
          rcases hw with rfl | rfl | rfl
          · exact h1
          · exact h2
          · exact h4
        · rcases List.mem_cons.mp hw with e1 | e1
          · subst e1; exact h3
          · exact e1
      exact ⟨hw2, good_of_word (wT_good hw2)⟩
    · show 8 + (mi'.2.2.1 + 11) + (40 * d' + 100) ≤ R.locals
      have : 40 * d' + 140 ≤ R.locals := hd.2
      omega
  exact vx_runSX (nL := nL) (Ts := wT) ⟨hx, hbb, hml, hown, hts⟩ (hSp hst9) cw ⟨SpB.blind, fun U hU hW => ⟨rfl, SpB.at hS0 hWK hS1 hU hW⟩⟩ rfl hn (by show arr.size = _; rw [hl.size, hlen]) hst (by show 2 * 0 + _ ≤ 8; omega) hdg ⟨hk, hq⟩
theorem AbsM.of {s s' : ST} {a : AS} (h : AbsM s a) (e : ∀ r, 20 ≤ r → s'.1 r = s.1 r) : AbsM s' a := by
  unfold AbsM
  rw [e 20 (by decide), e 21 (by decide), e 22 (by decide), e 23 (by decide), e 25 (by decide)]
  exact h
theorem AbsC.of {s s' : ST} {a : AS} (h : AbsC s a) (e : ∀ r, r < 20 → s'.1 r = s.1 r) : AbsC s' a := by
  obtain ⟨h1, ⟨x, h2, h3, h4, h5⟩, h6, h7, h8⟩ := h
  unfold AbsC
  rw [e 0 (by decide), e 10 (by decide), e 1 (by decide), e 15 (by decide)]
  exact ⟨h1, ⟨x, h2, h3, h4, fun k hk => by rw [e _ (by omega)]; exact h5 k hk⟩, h6, h7, h8⟩
theorem lcm_self {x y : Int64} (h : x = y) : lcm x y = nI 0 := by
  subst h
  unfold lcm
  rw [if_neg (by simp), if_pos (by simp)]
  rfl
/-- a case of the law: the wrapper, the reference, their answers -/
theorem caseI {E : WE} {C : LT} {b L : Nat} {xs : Nat → Int32} (X : CL E code 9 (some (b, L, xs)) C) {k q : Nat} {s : ST} {a : AS} {o : OR} {ls : List (Option Value)} {tb : TB} (htb : tbOk code tb = true) {p0 pw pm pt idw idm dw dm nw nm : Nat} {miw mim : MI} {hh : HT} {avw avm : List Value}
    (hR : (14 ≤ C.2.2.2.2.2.2.2.2.1.frames ∧ 1000 ≤ C.2.2.2.2.2.2.2.2.1.locals) ∧ k + 1 ≤ C.2.2.2.2.2.2.2.2.1.cells ∧ q + 6 ≤ C.2.2.2.2.2.2.2.2.1.slots) (hM : AbsM s a)
    (w : SpW E miw hh dw avw s (PW s o)) (hw : lkp tb pw = some (.invokestatic idw, 0)) (vw : SOk miw hh nw idw) (nw9 : avw.length = nw) (hdw : dw ≤ 11)
    (m : ∀ s1, AbsM s1 a → SpQ E mim dm (.ref (aF E 611) :: avm) s1 (some (.int o.2.1)) (PM s1 o.1 o.2.2)) (hm : lkp tb pm = some (.invokevirtual idm, 0)) (vm : IOk mim nm) (lm : Cond.methodLink RL idm mim.1 ∈ wT) (cm : mim.1.cls = RX9) (nm9 : avm.length = nm) (hdm : dm ≤ 11)
    (ht : lkp tb pt = some (.invokevirtual 123, 0)) (lt : Cond.methodLink RL 123 yX9_thrown ∈ wT)
    (b1 : JL E 9 C k q pw ls (avw.reverse ++ []) s → JL E 9 C k q p0 ls [] s)
    (b2 : ∀ s1 t, JL E 9 C (k + 1) (q + 6) pm (ls.set 6 (some (.int t))) (avm.reverse ++ .ref (aF E 611) :: []) s1 → JL E 9 C (k + 1) (q + 6) (pw + 3) ls [.int t] s1)
    (b3 : ∀ s2 t v, JL E 9 C (k + 1) (q + 6) pt ((ls.set 6 (some (.int t))).set 7 (some (.int v))) [.ref (aF E 611)] s2 → JL E 9 C (k + 1) (q + 6) (pm + 3) (ls.set 6 (some (.int t))) [.int v] s2)
    (b4 : ∀ s3 t v, v = o.2.1 → (t = nI 0 → lcm (s3.2.1 0) v.toInt64 = nI 0) → JL E 9 C (k + 1) (q + 6) 2077 ((ls.set 6 (some (.int t))).set 7 (some (.int v))) [] s3 → JL E 9 C (k + 1) (q + 6) (pt + 3) ((ls.set 6 (some (.int t))).set 7 (some (.int v))) [.int t] s3)
    (hN : ∀ s' t v, AbsC s' o.1 → AbsM s' o.1 → JL E 9 C (k + 1) (q + 6) 2077 ((ls.set 6 (some (.int t))).set 7 (some (.int v))) [] s') : JL E 9 C k q p0 ls [] s := by
  refine b1 ?_
  refine cWL X (rest := []) w htb hw vw rfl nw9 (by decide) ⟨by omega, by omega⟩ hR.2.1 hR.2.2 (fun Z s' h => by cases h.1) (fun v s1 h1 => ?_)
  obtain ⟨e1, ⟨g1, -⟩, g3, g4⟩ := h1
  cases e1
  have hM1 : AbsM s1 a := hM.of g1
  refine b2 s1 o.2.2 ?_
  refine cVL X (mc' := 0) (ms' := 0) (rest := []) (m s1 hM1) htb hm vm lm lA_611 (by rw [cm]; rfl) rfl nm9 (by decide) ⟨by omega, by omega⟩ (by omega) (by omega) (fun Z s' h => by cases h.1) (fun v s2 h2 => ?_)
  obtain ⟨e2, ⟨⟨f1, f2⟩, f3, f4⟩⟩ := h2
  cases e2
  refine b3 s2 o.2.2 o.2.1 ?_
  refine cVL X (mc' := 0) (ms' := 0) (As := []) (rest := []) (m_thrown (s := s2)) htb ht vX9_thrown lt lA_611 rfl rfl rfl (by decide) ⟨by omega, by omega⟩ (by omega) (by omega) (fun Z s' h => by cases h.1) (fun v s3 h3 => ?_)
  obtain ⟨e3, rfl⟩ := h3
  cases e3
  rw [f3]
  refine b4 s3 o.2.2 o.2.1 rfl (fun e => ?_) (hN s3 o.2.2 o.2.1 (g3.of f2) f4)
  refine lcm_self ?_
  rw [f1]
  exact g4 e
