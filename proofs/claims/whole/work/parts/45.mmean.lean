/-! ===== the reference's mean distance ===== -/
section DBL
variable {E : WE} {mi : MI} {C : CT} {d mc ms : Nat} {P : OC → ST → Prop} {pc : Nat} {ls : List (Option Value)} {rest : List Value} {s : ST}
theorem JM_i2d (X : Cx E mi C) {tb : TB} {t : Nat} (htb : tbOk mi.2.1 tb = true) (hi9 : lkp tb pc = some (.i2d, t)) {x : Int32} (kk : JM E mi C d mc ms P (pc + 1) ls (.double (FP.i2d x) :: rest) s) : JM E mi C d mc ms P pc ls (.int x :: rest) s := by
  obtain ⟨p, e, s0, m, args, below, meth, c⟩ := C
  obtain ⟨len, hdg, -, hl9⟩ := lkp_spec htb hi9
  have e1 : len = 1 := hl9.resolve_right (by simp [instrLen])
  subst e1
  obtain ⟨⟨hx, hb, -⟩, -⟩ := X
  intro H locs arr hS0 hS1 hl hlen
  exact lv_i2d hx hb hdg (kk H locs arr hS0 hS1 hl hlen)
theorem JM_ddiv (X : Cx E mi C) {tb : TB} {t : Nat} (htb : tbOk mi.2.1 tb = true) (hi9 : lkp tb pc = some (.ddiv, t)) {x y : UInt64} (hn : vf_n64 (FP.ddiv x y)) (kk : JM E mi C d mc ms P (pc + 1) ls (.double (FP.ddiv x y) :: rest) s) : JM E mi C d mc ms P pc ls (.double y :: .double x :: rest) s := by
  obtain ⟨p, e, s0, m, args, below, meth, c⟩ := C
  obtain ⟨len, hdg, -, hl9⟩ := lkp_spec htb hi9
  have e1 : len = 1 := hl9.resolve_right (by simp [instrLen])
  subst e1
  obtain ⟨⟨hx, hb, -⟩, -⟩ := X
  intro H locs arr hS0 hS1 hl hlen
  exact lv_ddiv hx hb hdg hn (kk H locs arr hS0 hS1 hl hlen)
theorem JM_dconst0 (X : Cx E mi C) {tb : TB} {t : Nat} (htb : tbOk mi.2.1 tb = true) (hi9 : lkp tb pc = some (.dconst 0, t)) (kk : JM E mi C d mc ms P (pc + 1) ls (.double FP.dconst0 :: rest) s) : JM E mi C d mc ms P pc ls rest s := by
  obtain ⟨p, e, s0, m, args, below, meth, c⟩ := C
  obtain ⟨len, hdg, -, hl9⟩ := lkp_spec htb hi9
  have e1 : len = 1 := hl9.resolve_right (by simp [instrLen])
  subst e1
  obtain ⟨⟨hx, hb, -⟩, -⟩ := X
  intro H locs arr hS0 hS1 hl hlen
  exact lv_dconst0 hx hb hdg (kk H locs arr hS0 hS1 hl hlen)
theorem JM_dret (X : Cx E mi C) {tb : TB} {t : Nat} (htb : tbOk mi.2.1 tb = true) (hi9 : lkp tb pc = some (.dreturn, t)) {v : UInt64} (hr : mi.2.2.2 = some .double) (hP : P (.inl (some (.double v))) s) : JM E mi C d mc ms P pc ls [.double v] s := by
  obtain ⟨len, hdg, -, hl9⟩ := lkp_spec htb hi9
  have e1 : len = 1 := hl9.resolve_right (by simp [instrLen])
  subst e1
  exact J_dret X hr ⟨rfl, rfl, s, rfl, hP⟩ (Nat.zero_le _) (Nat.zero_le _) hdg
end DBL
def oMean (a : AS) : AS × UInt64 × Int32 := if cS4 (aR a) = 0 then (a, FP.dconst0, nI 1) else (a, FP.ddiv (FP.i2d (nI (cS7 (aR a)))) (FP.i2d (nI (cS4 (aR a)))), nI 0)
theorem m_meanDistance {E : WE} {s : ST} {a : AS} {B : Nat} (h : AbsM s a) (hA : AInv B a) (hn : cS4 (aR a) ≠ 0 → vf_n64 (FP.ddiv (FP.i2d (nI (cS7 (aR a)))) (FP.i2d (nI (cS4 (aR a)))))) : SpQ E mX9_meanDistance 3 [.ref (aF E 611)] s (some (.double (oMean a).2.1)) (PM s (oMean a).1 (oMean a).2.2) := by
  refine SpQ.of vX9_meanDistance.1 [some (.ref (aF E 611)), none] rfl (Nat.le_of_ble_eq_true rfl) rfl (fun C P X hP => ?_)
  have hI := hA.inv
  have hs := hI.s
  have hc := hI.c
  refine run X (rt := some .double) flX9_ok rfl tX9_meanDistance_ok 20 [] ?_
  simp only [go_go, gos_some, ctn_ctn, step, fv0, fv1, fv2, fv3, List.getElem?_cons_zero, List.getElem?_cons_succ, List.set_cons_zero, List.set_cons_succ, List.mem_cons, List.not_mem_nil, or_false, or_self, if_false, if_true, List.length_cons, List.length_nil, lval, upS_sr, sr_same, sr_sr, Nat.reduceEqDiff, not_false_eq_true, Classical.not_not, true_or, or_true, false_or, Nat.zero_add, Nat.add_zero, nI_add, pk_mul, Option.toList_some, Option.toList_none, List.cons_append, List.nil_append, n00, n11, n10, bv0, bv1, bft, bnf, bnt, Nat.reduceAdd, Nat.reduceEqDiff, Nat.reduceMul, Nat.reduceLT, Nat.reduceSub, true_implies, false_implies, not_true_eq_false, not_false_eq_true, true_and, and_true, sr_ne (show ¬ 21 = 20 by decide), sr_ne (show ¬ 20 = 21 by decide), sr_ne (show ¬ 22 = 20 by decide), sr_ne (show ¬ 22 = 21 by decide), sr_ne (show ¬ 20 = 22 by decide), sr_ne (show ¬ 21 = 22 by decide), kX9_meanDistance_0, kX9_meanDistance_1, kX9_meanDistance_2, kX9_meanDistance_5, kX9_meanDistance_6, kX9_meanDistance_7, kX9_meanDistance_10, kX9_meanDistance_11, kX9_meanDistance_12, kX9_meanDistance_15, kX9_meanDistance_16, kX9_meanDistance_17, kX9_meanDistance_20, kX9_meanDistance_21, kX9_meanDistance_22, kX9_meanDistance_23, kX9_meanDistance_25, kX9_meanDistance_28, kX9_meanDistance_29, kX9_meanDistance_30, kX9_meanDistance_31, kX9_meanDistance_32, xIf, xLdA, xLdI, xPut, xPutF, xSt, fX9_39, bI_7, cI_0, cI_1, cI_4, lA_611, fMod, lA_612, lA_613, lA_614, lA_615, lA_616, lA_617, lA_618, lA_619, putT]
  have h1 := PM.thr h (t := nI 0)
  generalize sr s 20 (ur (s.1 20) 2 (nI 0)) = s1 at h1 ⊢
  have hS1 := h1.2.2.1
  have l4 : cS4 (aR a) ≤ nn (aR a) 1 := ct_le _ _
  refine cV X  tX9_meanDistance_ok kX9_meanDistance_7 (m_sumOfChildren hS1 hI (show 4 ≤ 4 by decide) (show 4 < 8 by decide)) vX9_sumOfChildren lX9_228 lA_611 rfl rfl rfl (Nat.le_of_ble_eq_true rfl) (Nat.le_of_ble_eq_true rfl) ?_
  rw [show cSw (aR a) 4 (nn (aR a) 1) = cS4 (aR a) from rfl]
  have ez : (nI (cS4 (aR a)) = 0) = (cS4 (aR a) = 0) := by rw [show (0 : Int32) = nI 0 from rfl, nI_inj (by omega) (by decide)]
  refine run X (rt := some .double) flX9_ok rfl tX9_meanDistance_ok 20 [] ?_
  simp only [go_go, gos_some, ctn_ctn, step, fv0, fv1, fv2, fv3, List.getElem?_cons_zero, List.getElem?_cons_succ, List.set_cons_zero, List.set_cons_succ, List.mem_cons, List.not_mem_nil, or_false, or_self, if_false, if_true, List.length_cons, List.length_nil, lval, upS_sr, sr_same, sr_sr, Nat.reduceEqDiff, not_false_eq_true, Classical.not_not, true_or, or_true, false_or, Nat.zero_add, Nat.add_zero, nI_add, pk_mul, Option.toList_some, Option.toList_none, List.cons_append, List.nil_append, n00, n11, n10, bv0, bv1, bft, bnf, bnt, Nat.reduceAdd, Nat.reduceEqDiff, Nat.reduceMul, Nat.reduceLT, Nat.reduceSub, true_implies, false_implies, not_true_eq_false, not_false_eq_true, true_and, and_true, sr_ne (show ¬ 21 = 20 by decide), sr_ne (show ¬ 20 = 21 by decide), sr_ne (show ¬ 22 = 20 by decide), sr_ne (show ¬ 22 = 21 by decide), sr_ne (show ¬ 20 = 22 by decide), sr_ne (show ¬ 21 = 22 by decide), kX9_meanDistance_0, kX9_meanDistance_1, kX9_meanDistance_2, kX9_meanDistance_5, kX9_meanDistance_6, kX9_meanDistance_7, kX9_meanDistance_10, kX9_meanDistance_11, kX9_meanDistance_12, kX9_meanDistance_15, kX9_meanDistance_16, kX9_meanDistance_17, kX9_meanDistance_20, kX9_meanDistance_21, kX9_meanDistance_22, kX9_meanDistance_23, kX9_meanDistance_25, kX9_meanDistance_28, kX9_meanDistance_29, kX9_meanDistance_30, kX9_meanDistance_31, kX9_meanDistance_32, xIf, xLdA, xLdI, xPut, xPutF, xSt, fX9_39, bI_7, cI_0, cI_1, cI_4, lA_611, fMod, lA_612, lA_613, lA_614, lA_615, lA_616, lA_617, lA_618, lA_619, ez, putT]
  refine ⟨fun c1 => ?_, fun c1 => ?_⟩
  · rw [show oMean a = (a, FP.ddiv (FP.i2d (nI (cS7 (aR a)))) (FP.i2d (nI (cS4 (aR a)))), nI 0) from if_neg c1] at hP
    refine cV X  tX9_meanDistance_ok kX9_meanDistance_25 (m_sumOfChildren hS1 hI (show 4 ≤ 7 by decide) (show 7 < 8 by decide)) vX9_sumOfChildren lX9_228 lA_611 rfl rfl rfl (Nat.le_of_ble_eq_true rfl) (Nat.le_of_ble_eq_true rfl) ?_
    rw [show cSw (aR a) 7 (nn (aR a) 1) = cS7 (aR a) from rfl]
    refine JM_i2d X tX9_meanDistance_ok kX9_meanDistance_28 ?_
    refine run X (rt := some .double) flX9_ok rfl tX9_meanDistance_ok 20 [] ?_
    simp only [go_go, gos_some, ctn_ctn, step, fv0, fv1, fv2, fv3, List.getElem?_cons_zero, List.getElem?_cons_succ, List.set_cons_zero, List.set_cons_succ, List.mem_cons, List.not_mem_nil, or_false, or_self, if_false, if_true, List.length_cons, List.length_nil, lval, upS_sr, sr_same, sr_sr, Nat.reduceEqDiff, not_false_eq_true, Classical.not_not, true_or, or_true, false_or, Nat.zero_add, Nat.add_zero, nI_add, pk_mul, Option.toList_some, Option.toList_none, List.cons_append, List.nil_append, n00, n11, n10, bv0, bv1, bft, bnf, bnt, Nat.reduceAdd, Nat.reduceEqDiff, Nat.reduceMul, Nat.reduceLT, Nat.reduceSub, true_implies, false_implies, not_true_eq_false, not_false_eq_true, true_and, and_true, sr_ne (show ¬ 21 = 20 by decide), sr_ne (show ¬ 20 = 21 by decide), sr_ne (show ¬ 22 = 20 by decide), sr_ne (show ¬ 22 = 21 by decide), sr_ne (show ¬ 20 = 22 by decide), sr_ne (show ¬ 21 = 22 by decide), kX9_meanDistance_0, kX9_meanDistance_1, kX9_meanDistance_2, kX9_meanDistance_5, kX9_meanDistance_6, kX9_meanDistance_7, kX9_meanDistance_10, kX9_meanDistance_11, kX9_meanDistance_12, kX9_meanDistance_15, kX9_meanDistance_16, kX9_meanDistance_17, kX9_meanDistance_20, kX9_meanDistance_21, kX9_meanDistance_22, kX9_meanDistance_23, kX9_meanDistance_25, kX9_meanDistance_28, kX9_meanDistance_29, kX9_meanDistance_30, kX9_meanDistance_31, kX9_meanDistance_32, xIf, xLdA, xLdI, xPut, xPutF, xSt, fX9_39, bI_7, cI_0, cI_1, cI_4, lA_611, fMod, lA_612, lA_613, lA_614, lA_615, lA_616, lA_617, lA_618, lA_619]
    refine JM_i2d X tX9_meanDistance_ok kX9_meanDistance_30 ?_
    refine JM_ddiv X tX9_meanDistance_ok kX9_meanDistance_31 (hn c1) ?_
    exact JM_dret X tX9_meanDistance_ok kX9_meanDistance_32 rfl (hP _ h1)
  · rw [show oMean a = (a, FP.dconst0, nI 1) from if_pos c1] at hP
    refine JM_dconst0 X tX9_meanDistance_ok kX9_meanDistance_20 ?_
    exact JM_dret X tX9_meanDistance_ok kX9_meanDistance_21 rfl (hP _ (h1.tr (PM.thr h1.2.2)))
