/-! ===== the law's cases without a wrapper; the mean's ===== -/
theorem lm_allocate : Cond.methodLink RL 181 yX9_allocate ∈ wT := wAt_in (i := 1308) (by decide +kernel)
theorem lm_unstable : Cond.methodLink RL 189 yX9_unstable ∈ wT := wAt_in (i := 1336) (by decide +kernel)
theorem lm_save : Cond.methodLink RL 222 yX9_save ∈ wT := wAt_in (i := 1388) (by decide +kernel)
theorem lm_meanDistance : Cond.methodLink RL 208 yX9_meanDistance ∈ wT := wAt_in (i := 1372) (by decide +kernel)
theorem lc_allocate : Cond.methodLink RL 178 yX8_allocate ∈ wT := wAt_in (i := 342) (by decide +kernel)
theorem lc_unstable : Cond.methodLink RL 186 yX8_unstable ∈ wT := wAt_in (i := 447) (by decide +kernel)
theorem lc_save : Cond.methodLink RL 219 yX8_save ∈ wT := wAt_in (i := 475) (by decide +kernel)
theorem caseV {E : WE} {C : LT} {b L : Nat} {xs : Nat → Int32} (X : CL E code 9 (some (b, L, xs)) C) {k q : Nat} {s : ST} {a : AS} {o : OR} {ls : List (Option Value)} {tb : TB} (htb : tbOk code tb = true) {p0 pw pm idw idm dw dm : Nat} {mic mim : MI}
    (hR : RmL C k q) (hM : AbsM s a) (w : SpT E mic dw [.ref (aF E 0)] s [] o) (hw : lkp tb pw = some (.invokevirtual idw, 0)) (vw : IOk mic 0) (lw : Cond.methodLink RL idw mic.1 ∈ wT) (cw : mic.1.cls = RX8) (hdw : dw ≤ 11) (h0 : o.2.2 = nI 0)
    (m : ∀ s1, AbsM s1 a → SpQ E mim dm [.ref (aF E 611)] s1 (some (.int o.2.1)) (PM s1 o.1 o.2.2)) (hm : lkp tb pm = some (.invokevirtual idm, 0)) (vm : IOk mim 0) (lm : Cond.methodLink RL idm mim.1 ∈ wT) (cm : mim.1.cls = RX9) (hdm : dm ≤ 11)
    (b1 : JL E 9 C k q pw ls [.ref (aF E 0)] s → JL E 9 C k q p0 ls [] s)
    (b2 : ∀ s1 t, JL E 9 C (k + 1) (q + 6) pm ls (.ref (aF E 611) :: [.int t]) s1 → JL E 9 C (k + 1) (q + 6) (pw + 3) ls [.int t] s1)
    (b3 : ∀ s2 t, JL E 9 C (k + 1) (q + 6) 2077 ls [] s2 → JL E 9 C (k + 1) (q + 6) (pm + 3) ls [.int t, .int t] s2)
    (hN : ∀ s', AbsC s' o.1 → AbsM s' o.1 → JL E 9 C (k + 1) (q + 6) 2077 ls [] s') : JL E 9 C k q p0 ls [] s := by
  obtain ⟨⟨r1, r2⟩, r3, r4⟩ := hR
  refine b1 ?_
  refine cVL X (mc' := 1) (ms' := 6) (As := []) (rest := []) w htb hw vw lw lA_0 (by rw [cw]; rfl) rfl rfl (by decide) ⟨by omega, by omega⟩ r3 r4 (fun Z s' h => by
    have := h.1
    unfold outT at this
    rw [if_pos h0] at this
    cases this) (fun v s1 h1 => ?_)
  obtain ⟨e1, g⟩ := h1
  unfold outT at e1
  rw [if_pos h0] at e1
  cases e1
  have hM1 : AbsM s1 a := hM.of g.1.2
  refine b2 s1 o.2.1 ?_
  refine cVL X (mc' := 0) (ms' := 0) (As := []) (rest := [.int o.2.1]) (m s1 hM1) htb hm vm lm lA_611 (by rw [cm]; rfl) rfl rfl (by show 1 + 0 ≤ 8; omega) ⟨by omega, by omega⟩ (by omega) (by omega) (fun Z s' h => by cases h.1) (fun v s2 h2 => ?_)
  obtain ⟨e2, ⟨⟨f1, f2⟩, f3, f4⟩⟩ := h2
  cases e2
  exact b3 s2 o.2.1 (hN s2 (g.2.of f2) f4)
theorem lc_17 {E : WE} {C : LT} {b L : Nat} {xs : Nat → Int32} (X : CL E code 9 (some (b, L, xs)) C) {k q B i : Nat} {s : ST} {a : AS} (hR : RmL C k q) (hC : AbsC s a) (hM : AbsM s a) (hA : AInv B a) (hB : B + 300 ≤ 1073741824) {o6 o7 o8 : Option Value} (hN : NxL E C k q B b i) : JL E 9 C k q 1423 (lsL E b i o6 o7 o8) [] s := by
  unfold lsL
  refine caseV X tA_c17_ok (p0 := 1423) (pw := 1424) (pm := 1428) hR hM (c_allocate hC hA hB) kA_1424 vX8_allocate lc_allocate rfl (by decide) rfl (fun s1 h1 => m_allocate h1 hA hB) kA_1428 vX9_allocate lm_allocate rfl (by decide) (fun hJ => goJ X tA_c17_ok 60 [1424] ?_) (fun s1 t hJ => goJ X tA_c17_ok 60 [1428] ?_) (fun s2 t hJ => goJ X tA_c17_ok 60 [2077] ?_) (fun s' h1 h2 => hN s' _ _ _ _ h1 h2 (i_allocate hA hB))
  · simp only [goL_go, gsL_some, ctL_ctL, stepL, fv0, fv1, fv2, fv3, List.getElem?_cons_zero, List.getElem?_cons_succ, List.set_cons_zero, List.set_cons_succ, List.mem_cons, List.not_mem_nil, or_false, or_self, if_false, if_true, List.length_cons, List.length_nil, Nat.reduceEqDiff, not_false_eq_true, true_or, or_true, false_or, Nat.zero_add, Nat.add_zero, Nat.reduceAdd, Nat.reduceMul, Nat.reduceLT, Nat.reduceSub, true_implies, false_implies, not_true_eq_false, true_and, and_true, eq_self, nI_add, xLdA, xLdI, xSt, xStA, xI2l, xI2c, xLcmp, xLld, xIf, xCmp, xBin, xSld, cI_0, cI_1, cI_2, cI_3, cI_4, not_false_eq_true, cI_f4, kA_1423]
    exact hJ
  · simp only [goL_go, gsL_some, ctL_ctL, stepL, fv0, fv1, fv2, fv3, List.getElem?_cons_zero, List.getElem?_cons_succ, List.set_cons_zero, List.set_cons_succ, List.mem_cons, List.not_mem_nil, or_false, or_self, if_false, if_true, List.length_cons, List.length_nil, Nat.reduceEqDiff, not_false_eq_true, true_or, or_true, false_or, Nat.zero_add, Nat.add_zero, Nat.reduceAdd, Nat.reduceMul, Nat.reduceLT, Nat.reduceSub, true_implies, false_implies, not_true_eq_false, true_and, and_true, eq_self, nI_add, xLdA, xLdI, xSt, xStA, xI2l, xI2c, xLcmp, xLld, xIf, xCmp, xBin, xSld, cI_0, cI_1, cI_2, cI_3, cI_4, not_false_eq_true, cI_f4, kA_1427]
    exact hJ
  · simp only [goL_go, gsL_some, ctL_ctL, stepL, fv0, fv1, fv2, fv3, List.getElem?_cons_zero, List.getElem?_cons_succ, List.set_cons_zero, List.set_cons_succ, List.mem_cons, List.not_mem_nil, or_false, or_self, if_false, if_true, List.length_cons, List.length_nil, Nat.reduceEqDiff, not_false_eq_true, true_or, or_true, false_or, Nat.zero_add, Nat.add_zero, Nat.reduceAdd, Nat.reduceMul, Nat.reduceLT, Nat.reduceSub, true_implies, false_implies, not_true_eq_false, true_and, and_true, eq_self, nI_add, xLdA, xLdI, xSt, xStA, xI2l, xI2c, xLcmp, xLld, xIf, xCmp, xBin, xSld, cI_0, cI_1, cI_2, cI_3, cI_4, not_false_eq_true, cI_f4, kA_1431]
    exact hJ
theorem lc_19 {E : WE} {C : LT} {b L : Nat} {xs : Nat → Int32} (X : CL E code 9 (some (b, L, xs)) C) {k q B i : Nat} {s : ST} {a : AS} (hR : RmL C k q) (hC : AbsC s a) (hM : AbsM s a) (hA : AInv B a) (hB : B + 300 ≤ 1073741824) {o6 o7 o8 : Option Value} (hN : NxL E C k q B b i) : JL E 9 C k q 1492 (lsL E b i o6 o7 o8) [] s := by
  unfold lsL
  refine caseV X tA_c19_ok (p0 := 1492) (pw := 1493) (pm := 1497) hR hM (c_unstable hC hA) kA_1493 vX8_unstable lc_unstable rfl (by decide) rfl (fun s1 h1 => m_unstable h1 hA) kA_1497 vX9_unstable lm_unstable rfl (by decide) (fun hJ => goJ X tA_c19_ok 60 [1493] ?_) (fun s1 t hJ => goJ X tA_c19_ok 60 [1497] ?_) (fun s2 t hJ => goJ X tA_c19_ok 60 [2077] ?_) (fun s' h1 h2 => hN s' _ _ _ _ h1 h2 hA.o)
  · simp only [goL_go, gsL_some, ctL_ctL, stepL, fv0, fv1, fv2, fv3, List.getElem?_cons_zero, List.getElem?_cons_succ, List.set_cons_zero, List.set_cons_succ, List.mem_cons, List.not_mem_nil, or_false, or_self, if_false, if_true, List.length_cons, List.length_nil, Nat.reduceEqDiff, not_false_eq_true, true_or, or_true, false_or, Nat.zero_add, Nat.add_zero, Nat.reduceAdd, Nat.reduceMul, Nat.reduceLT, Nat.reduceSub, true_implies, false_implies, not_true_eq_false, true_and, and_true, eq_self, nI_add, xLdA, xLdI, xSt, xStA, xI2l, xI2c, xLcmp, xLld, xIf, xCmp, xBin, xSld, cI_0, cI_1, cI_2, cI_3, cI_4, not_false_eq_true, cI_f4, kA_1492]
    exact hJ
  · simp only [goL_go, gsL_some, ctL_ctL, stepL, fv0, fv1, fv2, fv3, List.getElem?_cons_zero, List.getElem?_cons_succ, List.set_cons_zero, List.set_cons_succ, List.mem_cons, List.not_mem_nil, or_false, or_self, if_false, if_true, List.length_cons, List.length_nil, Nat.reduceEqDiff, not_false_eq_true, true_or, or_true, false_or, Nat.zero_add, Nat.add_zero, Nat.reduceAdd, Nat.reduceMul, Nat.reduceLT, Nat.reduceSub, true_implies, false_implies, not_true_eq_false, true_and, and_true, eq_self, nI_add, xLdA, xLdI, xSt, xStA, xI2l, xI2c, xLcmp, xLld, xIf, xCmp, xBin, xSld, cI_0, cI_1, cI_2, cI_3, cI_4, not_false_eq_true, cI_f4, kA_1496]
    exact hJ
  · simp only [goL_go, gsL_some, ctL_ctL, stepL, fv0, fv1, fv2, fv3, List.getElem?_cons_zero, List.getElem?_cons_succ, List.set_cons_zero, List.set_cons_succ, List.mem_cons, List.not_mem_nil, or_false, or_self, if_false, if_true, List.length_cons, List.length_nil, Nat.reduceEqDiff, not_false_eq_true, true_or, or_true, false_or, Nat.zero_add, Nat.add_zero, Nat.reduceAdd, Nat.reduceMul, Nat.reduceLT, Nat.reduceSub, true_implies, false_implies, not_true_eq_false, true_and, and_true, eq_self, nI_add, xLdA, xLdI, xSt, xStA, xI2l, xI2c, xLcmp, xLld, xIf, xCmp, xBin, xSld, cI_0, cI_1, cI_2, cI_3, cI_4, not_false_eq_true, cI_f4, kA_1500]
    exact hJ
theorem lc_29 {E : WE} {C : LT} {b L : Nat} {xs : Nat → Int32} (X : CL E code 9 (some (b, L, xs)) C) {k q B i : Nat} {s : ST} {a : AS} (hR : RmL C k q) (hC : AbsC s a) (hM : AbsM s a) (hA : AInv B a) (hB : B + 300 ≤ 1073741824) {o6 o7 o8 : Option Value} (hN : NxL E C k q B b i) : JL E 9 C k q 2020 (lsL E b i o6 o7 o8) [] s := by
  unfold lsL
  refine caseV X tA_c29_ok (p0 := 2020) (pw := 2021) (pm := 2025) hR hM (c_save hC hA) kA_2021 vX8_save lc_save rfl (by decide) rfl (fun s1 h1 => m_save h1 hA) kA_2025 vX9_save lm_save rfl (by decide) (fun hJ => goJ X tA_c29_ok 60 [2021] ?_) (fun s1 t hJ => goJ X tA_c29_ok 60 [2025] ?_) (fun s2 t hJ => goJ X tA_c29_ok 60 [2077] ?_) (fun s' h1 h2 => hN s' _ _ _ _ h1 h2 (i_save hA))
  · simp only [goL_go, gsL_some, ctL_ctL, stepL, fv0, fv1, fv2, fv3, List.getElem?_cons_zero, List.getElem?_cons_succ, List.set_cons_zero, List.set_cons_succ, List.mem_cons, List.not_mem_nil, or_false, or_self, if_false, if_true, List.length_cons, List.length_nil, Nat.reduceEqDiff, not_false_eq_true, true_or, or_true, false_or, Nat.zero_add, Nat.add_zero, Nat.reduceAdd, Nat.reduceMul, Nat.reduceLT, Nat.reduceSub, true_implies, false_implies, not_true_eq_false, true_and, and_true, eq_self, nI_add, xLdA, xLdI, xSt, xStA, xI2l, xI2c, xLcmp, xLld, xIf, xCmp, xBin, xSld, cI_0, cI_1, cI_2, cI_3, cI_4, not_false_eq_true, cI_f4, kA_2020]
    exact hJ
  · simp only [goL_go, gsL_some, ctL_ctL, stepL, fv0, fv1, fv2, fv3, List.getElem?_cons_zero, List.getElem?_cons_succ, List.set_cons_zero, List.set_cons_succ, List.mem_cons, List.not_mem_nil, or_false, or_self, if_false, if_true, List.length_cons, List.length_nil, Nat.reduceEqDiff, not_false_eq_true, true_or, or_true, false_or, Nat.zero_add, Nat.add_zero, Nat.reduceAdd, Nat.reduceMul, Nat.reduceLT, Nat.reduceSub, true_implies, false_implies, not_true_eq_false, true_and, and_true, eq_self, nI_add, xLdA, xLdI, xSt, xStA, xI2l, xI2c, xLcmp, xLld, xIf, xCmp, xBin, xSld, cI_0, cI_1, cI_2, cI_3, cI_4, not_false_eq_true, cI_f4, kA_2024]
    exact hJ
  · simp only [goL_go, gsL_some, ctL_ctL, stepL, fv0, fv1, fv2, fv3, List.getElem?_cons_zero, List.getElem?_cons_succ, List.set_cons_zero, List.set_cons_succ, List.mem_cons, List.not_mem_nil, or_false, or_self, if_false, if_true, List.length_cons, List.length_nil, Nat.reduceEqDiff, not_false_eq_true, true_or, or_true, false_or, Nat.zero_add, Nat.add_zero, Nat.reduceAdd, Nat.reduceMul, Nat.reduceLT, Nat.reduceSub, true_implies, false_implies, not_true_eq_false, true_and, and_true, eq_self, nI_add, xLdA, xLdI, xSt, xStA, xI2l, xI2c, xLcmp, xLld, xIf, xCmp, xBin, xSld, cI_0, cI_1, cI_2, cI_3, cI_4, not_false_eq_true, cI_f4, kA_2028]
    exact hJ
