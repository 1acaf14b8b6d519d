/-! ===== the reference's calls: reason, journal, accounts, input, past ===== -/
theorem cp0_ur {x y : RW} {k : Nat} : ur (cpy x y 0 k) k (y k) = cpy x y 0 (k + 1) := by
  have := cpy_ur (x := x) (y := y) (b := 0) (k := k)
  rwa [Nat.zero_add] at this
theorem cp0_at {x y : RW} {k i : Nat} (h : i < k) : cpy x y 0 k i = y i := by
  unfold cpy
  rw [if_pos ⟨Nat.zero_le _, by omega⟩, Nat.sub_zero]
theorem AbsM.mG {s : ST} {a : AS} (h : AbsM s a) {x : Int32} : AbsM (sr s 20 (ur (s.1 20) 3 x)) (wG a x) := by
  obtain ⟨h1, h2, h3, h4, h5⟩ := h
  unfold AbsM
  rw [sr_same, sr_ne (by decide), sr_ne (by decide), sr_ne (by decide), sr_ne (by decide), ur_ne (by decide), ur_ne (by decide), ur_eq, ur_ne (by decide), ur_ne (by decide)]
  exact ⟨h1, h2, h3, ⟨rfl, h4.2⟩, h5⟩
theorem AbsM.mE {s : ST} {a : AS} (h : AbsM s a) {x : Int32} : AbsM (sr s 20 (ur (s.1 20) 4 x)) (wE a x) := by
  obtain ⟨h1, h2, h3, h4, h5⟩ := h
  unfold AbsM
  rw [sr_same, sr_ne (by decide), sr_ne (by decide), sr_ne (by decide), sr_ne (by decide), ur_ne (by decide), ur_ne (by decide), ur_ne (by decide), ur_eq, ur_ne (by decide)]
  exact ⟨h1, h2, h3, ⟨h4.1, rfl⟩, h5⟩
theorem m_reason {E : WE} {s : ST} {a : AS} {B : Nat} (h : AbsM s a) (hA : AInv B a) : SpQ E mX9_reason 0 [.ref (aF E 611)] s (some (.int (oReason a).2.1)) (PM s (oReason a).1 (oReason a).2.2) := by
  refine SpQ.of vX9_reason.1 [some (.ref (aF E 611))] rfl (Nat.le_of_ble_eq_true rfl) rfl (fun C P X hP => ?_)
  have hI := hA.inv
  have hs := hI.s
  have hc := hI.c
  obtain ⟨b1, b2, b3, ⟨b4, b5⟩, b6⟩ := h
  have h : AbsM s a := ⟨b1, b2, b3, ⟨b4, b5⟩, b6⟩
  have e : aG a = nI 0 ∨ ¬ aG a = nI 0 := Decidable.em _
  have e2 : (aG a = 0) = (aG a = nI 0) := rfl
  refine run X (rt := some .int) flX9_ok rfl tX9_reason_ok 20 [] ?_
  simp only [go_go, gos_some, ctn_ctn, step, fv0, fv1, fv2, fv3, List.getElem?_cons_zero, List.getElem?_cons_succ, List.set_cons_zero, List.set_cons_succ, List.mem_cons, List.not_mem_nil, or_false, or_self, if_false, if_true, List.length_cons, List.length_nil, lval, upS_sr, sr_same, sr_sr, Nat.reduceEqDiff, not_false_eq_true, Classical.not_not, true_or, or_true, false_or, Nat.zero_add, Nat.add_zero, nI_add, pk_mul, Option.toList_some, Option.toList_none, List.cons_append, List.nil_append, n00, n11, n10, bv0, bv1, bft, bnf, bnt, Nat.reduceAdd, Nat.reduceEqDiff, Nat.reduceMul, Nat.reduceLT, Nat.reduceSub, true_implies, false_implies, not_true_eq_false, not_false_eq_true, true_and, and_true, sr_ne (show ¬ 21 = 20 by decide), sr_ne (show ¬ 20 = 21 by decide), sr_ne (show ¬ 22 = 20 by decide), sr_ne (show ¬ 22 = 21 by decide), sr_ne (show ¬ 20 = 22 by decide), sr_ne (show ¬ 21 = 22 by decide), kX9_reason_0, kX9_reason_1, kX9_reason_2, kX9_reason_5, kX9_reason_8, kX9_reason_9, kX9_reason_12, kX9_reason_13, kX9_reason_16, kX9_reason_17, kX9_reason_20, xGet, xGetF, xIf, xLdA, xPut, xPutF, xRet, fX9_222, fX9_39, cI_0, cI_1, lA_611, fMod, lA_612, lA_613, lA_614, lA_615, lA_616, lA_617, lA_618, lA_619, putT, b4, e2, ur_ne (show ¬ 3 = 2 by decide)]
  refine ⟨fun c => ?_, fun c => ?_⟩
  · rw [show oReason a = (a, aG a, nI 0) by unfold oReason; rw [if_neg c]] at hP
    exact hP _ (PM.thr h)
  · rw [show oReason a = (a, aG a, nI 1) by unfold oReason; rw [if_pos c]] at hP
    exact hP _ (PM.thr h)
theorem m_errorPosition {E : WE} {s : ST} {a : AS} {B : Nat} (h : AbsM s a) (hA : AInv B a) : SpQ E mX9_errorPosition 0 [.ref (aF E 611)] s (some (.int (oError a).2.1)) (PM s (oError a).1 (oError a).2.2) := by
  refine SpQ.of vX9_errorPosition.1 [some (.ref (aF E 611))] rfl (Nat.le_of_ble_eq_true rfl) rfl (fun C P X hP => ?_)
  have hI := hA.inv
  have hs := hI.s
  have hc := hI.c
  obtain ⟨b1, b2, b3, ⟨b4, b5⟩, b6⟩ := h
  have h : AbsM s a := ⟨b1, b2, b3, ⟨b4, b5⟩, b6⟩
  refine run X (rt := some .int) flX9_ok rfl tX9_errorPosition_ok 20 [] ?_
  simp only [go_go, gos_some, ctn_ctn, step, fv0, fv1, fv2, fv3, List.getElem?_cons_zero, List.getElem?_cons_succ, List.set_cons_zero, List.set_cons_succ, List.mem_cons, List.not_mem_nil, or_false, or_self, if_false, if_true, List.length_cons, List.length_nil, lval, upS_sr, sr_same, sr_sr, Nat.reduceEqDiff, not_false_eq_true, Classical.not_not, true_or, or_true, false_or, Nat.zero_add, Nat.add_zero, nI_add, pk_mul, Option.toList_some, Option.toList_none, List.cons_append, List.nil_append, n00, n11, n10, bv0, bv1, bft, bnf, bnt, Nat.reduceAdd, Nat.reduceEqDiff, Nat.reduceMul, Nat.reduceLT, Nat.reduceSub, true_implies, false_implies, not_true_eq_false, not_false_eq_true, true_and, and_true, sr_ne (show ¬ 21 = 20 by decide), sr_ne (show ¬ 20 = 21 by decide), sr_ne (show ¬ 22 = 20 by decide), sr_ne (show ¬ 22 = 21 by decide), sr_ne (show ¬ 20 = 22 by decide), sr_ne (show ¬ 21 = 22 by decide), kX9_errorPosition_0, kX9_errorPosition_1, kX9_errorPosition_2, kX9_errorPosition_5, kX9_errorPosition_6, kX9_errorPosition_9, kX9_errorPosition_10, kX9_errorPosition_13, kX9_errorPosition_14, kX9_errorPosition_17, kX9_errorPosition_18, kX9_errorPosition_21, kX9_errorPosition_24, kX9_errorPosition_25, kX9_errorPosition_28, kX9_errorPosition_31, kX9_errorPosition_32, xCmp, xGet, xGetF, xIf, xLdA, xPut, xPutF, xRet, fX9_22, fX9_39, cI_0, cI_1, cI_m1, lA_611, fMod, lA_612, lA_613, lA_614, lA_615, lA_616, lA_617, lA_618, lA_619, putT, b5, ur_eq, ur_ne (show ¬ 4 = 2 by decide)]
  refine ⟨fun c => ?_, fun c => ?_⟩
  · rw [show oError a = (a, aE a, nI 0) by unfold oError; rw [if_neg c]] at hP
    exact hP _ (PM.thr h)
  · rw [show oError a = (a, nI 0, nI 1) by unfold oError; rw [if_pos c]] at hP
    exact hP _ (PM.thr h)
theorem m_entry {E : WE} {s : ST} {a : AS} {B : Nat} (h : AbsM s a) (hA : AInv B a) {e w : Int32} : SpQ E mX9_entry 2 [.ref (aF E 611), .int e, .int w] s (some (.int (oEntry e w a).2.1)) (PM s (oEntry e w a).1 (oEntry e w a).2.2) := by
  refine SpQ.of vX9_entry.1 [some (.ref (aF E 611)), some (.int e), some (.int w)] rfl (Nat.le_of_ble_eq_true rfl) rfl (fun C P X hP => ?_)
  have hI := hA.inv
  have hs := hI.s
  have hc := hI.c
  refine run X (rt := some .int) flX9_ok rfl tX9_entry_ok 20 [] ?_
  simp only [go_go, gos_some, ctn_ctn, step, fv0, fv1, fv2, fv3, List.getElem?_cons_zero, List.getElem?_cons_succ, List.set_cons_zero, List.set_cons_succ, List.mem_cons, List.not_mem_nil, or_false, or_self, if_false, if_true, List.length_cons, List.length_nil, lval, upS_sr, sr_same, sr_sr, Nat.reduceEqDiff, not_false_eq_true, Classical.not_not, true_or, or_true, false_or, Nat.zero_add, Nat.add_zero, nI_add, pk_mul, Option.toList_some, Option.toList_none, List.cons_append, List.nil_append, n00, n11, n10, bv0, bv1, bft, bnf, bnt, Nat.reduceAdd, Nat.reduceEqDiff, Nat.reduceMul, Nat.reduceLT, Nat.reduceSub, true_implies, false_implies, not_true_eq_false, not_false_eq_true, true_and, and_true, sr_ne (show ¬ 21 = 20 by decide), sr_ne (show ¬ 20 = 21 by decide), sr_ne (show ¬ 22 = 20 by decide), sr_ne (show ¬ 22 = 21 by decide), sr_ne (show ¬ 20 = 22 by decide), sr_ne (show ¬ 21 = 22 by decide), kX9_entry_0, kX9_entry_1, kX9_entry_2, kX9_entry_5, kX9_entry_6, kX9_entry_7, kX9_entry_8, kX9_entry_11, kX9_entry_12, kX9_entry_13, kX9_entry_14, kX9_entry_15, kX9_entry_18, kX9_entry_21, kX9_entry_22, kX9_entry_24, kX9_entry_27, kX9_entry_28, kX9_entry_29, kX9_entry_32, kX9_entry_33, kX9_entry_34, kX9_entry_35, kX9_entry_36, kX9_entry_39, kX9_entry_42, kX9_entry_43, kX9_entry_46, kX9_entry_49, kX9_entry_50, kX9_entry_51, kX9_entry_52, kX9_entry_53, kX9_entry_54, kX9_entry_55, kX9_entry_56, kX9_entry_59, kX9_entry_60, kX9_entry_61, kX9_entry_64, xAld, xArrF, xBin, xCmp, xGet, xGetF, xIf, xLdA, xLdI, xPut, xPutF, xRet, fX9_39, fX9_9, bI_80, cI_0, cI_1, cI_2, cI_3, cI_4, sI_369, lA_611, fMod, lA_612, lA_613, lA_614, lA_615, lA_616, lA_617, lA_618, lA_619, putT]
  have h1 := PM.thr h (t := nI 0)
  generalize sr s 20 (ur (s.1 20) 2 (nI 0)) = s1 at h1 ⊢
  have hS1 := h1.2.2.1
  have hb : (ixB (nn (aR a) 2) e && decide (e < nI 80)) = false → JM E mX9_entry C 2 0 0 P 27 [some (.ref (aF E 611)), some (.int e), some (.int w)] [] s1 := by
    intro c
    rw [show oEntry e w a = (a, nI 0, nI 1) by simp only [oEntry, c, Bool.false_eq_true, if_false]] at hP
    refine run X (rt := some .int) flX9_ok rfl tX9_entry_ok 20 [] ?_
    simp only [go_go, gos_some, ctn_ctn, step, fv0, fv1, fv2, fv3, List.getElem?_cons_zero, List.getElem?_cons_succ, List.set_cons_zero, List.set_cons_succ, List.mem_cons, List.not_mem_nil, or_false, or_self, if_false, if_true, List.length_cons, List.length_nil, lval, upS_sr, sr_same, sr_sr, Nat.reduceEqDiff, not_false_eq_true, Classical.not_not, true_or, or_true, false_or, Nat.zero_add, Nat.add_zero, nI_add, pk_mul, Option.toList_some, Option.toList_none, List.cons_append, List.nil_append, n00, n11, n10, bv0, bv1, bft, bnf, bnt, Nat.reduceAdd, Nat.reduceEqDiff, Nat.reduceMul, Nat.reduceLT, Nat.reduceSub, true_implies, false_implies, not_true_eq_false, not_false_eq_true, true_and, and_true, sr_ne (show ¬ 21 = 20 by decide), sr_ne (show ¬ 20 = 21 by decide), sr_ne (show ¬ 22 = 20 by decide), sr_ne (show ¬ 22 = 21 by decide), sr_ne (show ¬ 20 = 22 by decide), sr_ne (show ¬ 21 = 22 by decide), kX9_entry_0, kX9_entry_1, kX9_entry_2, kX9_entry_5, kX9_entry_6, kX9_entry_7, kX9_entry_8, kX9_entry_11, kX9_entry_12, kX9_entry_13, kX9_entry_14, kX9_entry_15, kX9_entry_18, kX9_entry_21, kX9_entry_22, kX9_entry_24, kX9_entry_27, kX9_entry_28, kX9_entry_29, kX9_entry_32, kX9_entry_33, kX9_entry_34, kX9_entry_35, kX9_entry_36, kX9_entry_39, kX9_entry_42, kX9_entry_43, kX9_entry_46, kX9_entry_49, kX9_entry_50, kX9_entry_51, kX9_entry_52, kX9_entry_53, kX9_entry_54, kX9_entry_55, kX9_entry_56, kX9_entry_59, kX9_entry_60, kX9_entry_61, kX9_entry_64, xAld, xArrF, xBin, xCmp, xGet, xGetF, xIf, xLdA, xLdI, xPut, xPutF, xRet, fX9_39, fX9_9, bI_80, cI_0, cI_1, cI_2, cI_3, cI_4, sI_369, lA_611, fMod, lA_612, lA_613, lA_614, lA_615, lA_616, lA_617, lA_618, lA_619]
    refine cV X  tX9_entry_ok kX9_entry_29 (m_fail) vX9_fail lX9_82 lA_611 rfl rfl rfl (Nat.le_of_ble_eq_true rfl) (Nat.le_of_ble_eq_true rfl) ?_
    refine run X (rt := some .int) flX9_ok rfl tX9_entry_ok 20 [] ?_
    simp only [go_go, gos_some, ctn_ctn, step, fv0, fv1, fv2, fv3, List.getElem?_cons_zero, List.getElem?_cons_succ, List.set_cons_zero, List.set_cons_succ, List.mem_cons, List.not_mem_nil, or_false, or_self, if_false, if_true, List.length_cons, List.length_nil, lval, upS_sr, sr_same, sr_sr, Nat.reduceEqDiff, not_false_eq_true, Classical.not_not, true_or, or_true, false_or, Nat.zero_add, Nat.add_zero, nI_add, pk_mul, Option.toList_some, Option.toList_none, List.cons_append, List.nil_append, n00, n11, n10, bv0, bv1, bft, bnf, bnt, Nat.reduceAdd, Nat.reduceEqDiff, Nat.reduceMul, Nat.reduceLT, Nat.reduceSub, true_implies, false_implies, not_true_eq_false, not_false_eq_true, true_and, and_true, sr_ne (show ¬ 21 = 20 by decide), sr_ne (show ¬ 20 = 21 by decide), sr_ne (show ¬ 22 = 20 by decide), sr_ne (show ¬ 22 = 21 by decide), sr_ne (show ¬ 20 = 22 by decide), sr_ne (show ¬ 21 = 22 by decide), kX9_entry_0, kX9_entry_1, kX9_entry_2, kX9_entry_5, kX9_entry_6, kX9_entry_7, kX9_entry_8, kX9_entry_11, kX9_entry_12, kX9_entry_13, kX9_entry_14, kX9_entry_15, kX9_entry_18, kX9_entry_21, kX9_entry_22, kX9_entry_24, kX9_entry_27, kX9_entry_28, kX9_entry_29, kX9_entry_32, kX9_entry_33, kX9_entry_34, kX9_entry_35, kX9_entry_36, kX9_entry_39, kX9_entry_42, kX9_entry_43, kX9_entry_46, kX9_entry_49, kX9_entry_50, kX9_entry_51, kX9_entry_52, kX9_entry_53, kX9_entry_54, kX9_entry_55, kX9_entry_56, kX9_entry_59, kX9_entry_60, kX9_entry_61, kX9_entry_64, xAld, xArrF, xBin, xCmp, xGet, xGetF, xIf, xLdA, xLdI, xPut, xPutF, xRet, fX9_39, fX9_9, bI_80, cI_0, cI_1, cI_2, cI_3, cI_4, sI_369, lA_611, fMod, lA_612, lA_613, lA_614, lA_615, lA_616, lA_617, lA_618, lA_619]
    exact hP _ (h1.tr (PM.thr h1.2.2))
  have h02 : s.1 21 2 = nI (nn (aR a) 2) := h.1.1.2.2.trans hI.1.2.2.1
  have l2 : nn (aR a) 2 ≤ 1073741824 := hI.1.2.2.2
  have hB : nn (aR a) 2 < 2 ^ 30 ∨ nn (aR a) 2 = 2 ^ 30 := by omega
  have v2 : vp_in (nI 2) 689 := vp_in_nI (by decide) (by decide)
  have c2 : (nI 2).toNatClampNeg = 2 := nI31 (by decide)
  rw [c2, h02]
  refine ⟨v2, ?_⟩
  refine cS X tX9_entry_ok kX9_entry_15 (m_isIn) vX9_isIn lX9_45 rfl rfl (Nat.le_of_ble_eq_true rfl) (Nat.le_of_ble_eq_true rfl) ?_
  have e1 : decide (nI 0 ≤ e ∧ e ≤ nI (nn (aR a) 2) - nI 1) = ixB (nn (aR a) 2) e := by
    unfold ixB
    refine decide_eq_decide.mpr ?_
    have h3 : (nI (nn (aR a) 2) - nI 1).toInt = (nn (aR a) 2 : Int) - 1 := by
      by_cases h4 : 1 ≤ nn (aR a) 2
      · rw [pk_sub h4, nI_toInt (by omega)]; omega
      · rw [nI_sub_toInt (by omega) (by decide)]; rfl
    rw [i_le, i_le, h3, nI_toInt (by decide)]
    omega
  refine run X (rt := some .int) flX9_ok rfl tX9_entry_ok 20 [27] ?_
  simp only [go_go, gos_some, ctn_ctn, step, fv0, fv1, fv2, fv3, List.getElem?_cons_zero, List.getElem?_cons_succ, List.set_cons_zero, List.set_cons_succ, List.mem_cons, List.not_mem_nil, or_false, or_self, if_false, if_true, List.length_cons, List.length_nil, lval, upS_sr, sr_same, sr_sr, Nat.reduceEqDiff, not_false_eq_true, Classical.not_not, true_or, or_true, false_or, Nat.zero_add, Nat.add_zero, nI_add, pk_mul, Option.toList_some, Option.toList_none, List.cons_append, List.nil_append, n00, n11, n10, bv0, bv1, bft, bnf, bnt, Nat.reduceAdd, Nat.reduceEqDiff, Nat.reduceMul, Nat.reduceLT, Nat.reduceSub, true_implies, false_implies, not_true_eq_false, not_false_eq_true, true_and, and_true, sr_ne (show ¬ 21 = 20 by decide), sr_ne (show ¬ 20 = 21 by decide), sr_ne (show ¬ 22 = 20 by decide), sr_ne (show ¬ 22 = 21 by decide), sr_ne (show ¬ 20 = 22 by decide), sr_ne (show ¬ 21 = 22 by decide), kX9_entry_0, kX9_entry_1, kX9_entry_2, kX9_entry_5, kX9_entry_6, kX9_entry_7, kX9_entry_8, kX9_entry_11, kX9_entry_12, kX9_entry_13, kX9_entry_14, kX9_entry_15, kX9_entry_18, kX9_entry_21, kX9_entry_22, kX9_entry_24, kX9_entry_27, kX9_entry_28, kX9_entry_29, kX9_entry_32, kX9_entry_33, kX9_entry_34, kX9_entry_35, kX9_entry_36, kX9_entry_39, kX9_entry_42, kX9_entry_43, kX9_entry_46, kX9_entry_49, kX9_entry_50, kX9_entry_51, kX9_entry_52, kX9_entry_53, kX9_entry_54, kX9_entry_55, kX9_entry_56, kX9_entry_59, kX9_entry_60, kX9_entry_61, kX9_entry_64, xAld, xArrF, xBin, xCmp, xGet, xGetF, xIf, xLdA, xLdI, xPut, xPutF, xRet, fX9_39, fX9_9, bI_80, cI_0, cI_1, cI_2, cI_3, cI_4, sI_369, lA_611, fMod, lA_612, lA_613, lA_614, lA_615, lA_616, lA_617, lA_618, lA_619, e1]
  refine ⟨fun c => hb (by simp [c]), fun c3 => ⟨fun c4 => ?_, fun c4 => hb (by simp [c4])⟩⟩
  rw [show oEntry e w a = opt2 a (if ixB 4 w then some (aR a (369 + 4 * nx e + nx w)) else none) by simp only [oEntry, c3, decide_eq_true c4, Bool.and_self, if_true]] at hP
  refine cS X tX9_entry_ok kX9_entry_36 (m_in 3 (by decide)) vX9_isIn lX9_45 rfl rfl (Nat.le_of_ble_eq_true rfl) (Nat.le_of_ble_eq_true rfl) ?_
  obtain ⟨k, hk, rfl⟩ := ixB_of (by omega) c3
  have k80 : k < 80 := (nI_ltI (by omega) (by decide)).mp c4
  rw [nx_nI (by omega)] at hP
  cases c5 : ixB 4 w with
  | false =>
    rw [c5] at hP
    refine run X (rt := some .int) flX9_ok rfl tX9_entry_ok 20 [27] ?_
    simp only [go_go, gos_some, ctn_ctn, step, fv0, fv1, fv2, fv3, List.getElem?_cons_zero, List.getElem?_cons_succ, List.set_cons_zero, List.set_cons_succ, List.mem_cons, List.not_mem_nil, or_false, or_self, if_false, if_true, List.length_cons, List.length_nil, lval, upS_sr, sr_same, sr_sr, Nat.reduceEqDiff, not_false_eq_true, Classical.not_not, true_or, or_true, false_or, Nat.zero_add, Nat.add_zero, nI_add, pk_mul, Option.toList_some, Option.toList_none, List.cons_append, List.nil_append, n00, n11, n10, bv0, bv1, bft, bnf, bnt, Nat.reduceAdd, Nat.reduceEqDiff, Nat.reduceMul, Nat.reduceLT, Nat.reduceSub, true_implies, false_implies, not_true_eq_false, not_false_eq_true, true_and, and_true, sr_ne (show ¬ 21 = 20 by decide), sr_ne (show ¬ 20 = 21 by decide), sr_ne (show ¬ 22 = 20 by decide), sr_ne (show ¬ 22 = 21 by decide), sr_ne (show ¬ 20 = 22 by decide), sr_ne (show ¬ 21 = 22 by decide), kX9_entry_0, kX9_entry_1, kX9_entry_2, kX9_entry_5, kX9_entry_6, kX9_entry_7, kX9_entry_8, kX9_entry_11, kX9_entry_12, kX9_entry_13, kX9_entry_14, kX9_entry_15, kX9_entry_18, kX9_entry_21, kX9_entry_22, kX9_entry_24, kX9_entry_27, kX9_entry_28, kX9_entry_29, kX9_entry_32, kX9_entry_33, kX9_entry_34, kX9_entry_35, kX9_entry_36, kX9_entry_39, kX9_entry_42, kX9_entry_43, kX9_entry_46, kX9_entry_49, kX9_entry_50, kX9_entry_51, kX9_entry_52, kX9_entry_53, kX9_entry_54, kX9_entry_55, kX9_entry_56, kX9_entry_59, kX9_entry_60, kX9_entry_61, kX9_entry_64, xAld, xArrF, xBin, xCmp, xGet, xGetF, xIf, xLdA, xLdI, xPut, xPutF, xRet, fX9_39, fX9_9, bI_80, cI_0, cI_1, cI_2, cI_3, cI_4, sI_369, lA_611, fMod, lA_612, lA_613, lA_614, lA_615, lA_616, lA_617, lA_618, lA_619, c5, Bool.false_eq_true]
    refine cV X  tX9_entry_ok kX9_entry_61 (m_fail) vX9_fail lX9_82 lA_611 rfl rfl rfl (Nat.le_of_ble_eq_true rfl) (Nat.le_of_ble_eq_true rfl) ?_
    refine run X (rt := some .int) flX9_ok rfl tX9_entry_ok 20 [] ?_
    simp only [go_go, gos_some, ctn_ctn, step, fv0, fv1, fv2, fv3, List.getElem?_cons_zero, List.getElem?_cons_succ, List.set_cons_zero, List.set_cons_succ, List.mem_cons, List.not_mem_nil, or_false, or_self, if_false, if_true, List.length_cons, List.length_nil, lval, upS_sr, sr_same, sr_sr, Nat.reduceEqDiff, not_false_eq_true, Classical.not_not, true_or, or_true, false_or, Nat.zero_add, Nat.add_zero, nI_add, pk_mul, Option.toList_some, Option.toList_none, List.cons_append, List.nil_append, n00, n11, n10, bv0, bv1, bft, bnf, bnt, Nat.reduceAdd, Nat.reduceEqDiff, Nat.reduceMul, Nat.reduceLT, Nat.reduceSub, true_implies, false_implies, not_true_eq_false, not_false_eq_true, true_and, and_true, sr_ne (show ¬ 21 = 20 by decide), sr_ne (show ¬ 20 = 21 by decide), sr_ne (show ¬ 22 = 20 by decide), sr_ne (show ¬ 22 = 21 by decide), sr_ne (show ¬ 20 = 22 by decide), sr_ne (show ¬ 21 = 22 by decide), kX9_entry_0, kX9_entry_1, kX9_entry_2, kX9_entry_5, kX9_entry_6, kX9_entry_7, kX9_entry_8, kX9_entry_11, kX9_entry_12, kX9_entry_13, kX9_entry_14, kX9_entry_15, kX9_entry_18, kX9_entry_21, kX9_entry_22, kX9_entry_24, kX9_entry_27, kX9_entry_28, kX9_entry_29, kX9_entry_32, kX9_entry_33, kX9_entry_34, kX9_entry_35, kX9_entry_36, kX9_entry_39, kX9_entry_42, kX9_entry_43, kX9_entry_46, kX9_entry_49, kX9_entry_50, kX9_entry_51, kX9_entry_52, kX9_entry_53, kX9_entry_54, kX9_entry_55, kX9_entry_56, kX9_entry_59, kX9_entry_60, kX9_entry_61, kX9_entry_64, xAld, xArrF, xBin, xCmp, xGet, xGetF, xIf, xLdA, xLdI, xPut, xPutF, xRet, fX9_39, fX9_9, bI_80, cI_0, cI_1, cI_2, cI_3, cI_4, sI_369, lA_611, fMod, lA_612, lA_613, lA_614, lA_615, lA_616, lA_617, lA_618, lA_619]
    exact hP _ (h1.tr (PM.thr h1.2.2))
  | true =>
    obtain ⟨q, hq, rfl⟩ := ixB_of (by decide) c5
    rw [c5, nx_nI (by omega)] at hP
    refine run X (rt := some .int) flX9_ok rfl tX9_entry_ok 20 [27] ?_
    simp only [go_go, gos_some, ctn_ctn, step, fv0, fv1, fv2, fv3, List.getElem?_cons_zero, List.getElem?_cons_succ, List.set_cons_zero, List.set_cons_succ, List.mem_cons, List.not_mem_nil, or_false, or_self, if_false, if_true, List.length_cons, List.length_nil, lval, upS_sr, sr_same, sr_sr, Nat.reduceEqDiff, not_false_eq_true, Classical.not_not, true_or, or_true, false_or, Nat.zero_add, Nat.add_zero, nI_add, pk_mul, Option.toList_some, Option.toList_none, List.cons_append, List.nil_append, n00, n11, n10, bv0, bv1, bft, bnf, bnt, Nat.reduceAdd, Nat.reduceEqDiff, Nat.reduceMul, Nat.reduceLT, Nat.reduceSub, true_implies, false_implies, not_true_eq_false, not_false_eq_true, true_and, and_true, sr_ne (show ¬ 21 = 20 by decide), sr_ne (show ¬ 20 = 21 by decide), sr_ne (show ¬ 22 = 20 by decide), sr_ne (show ¬ 22 = 21 by decide), sr_ne (show ¬ 20 = 22 by decide), sr_ne (show ¬ 21 = 22 by decide), kX9_entry_0, kX9_entry_1, kX9_entry_2, kX9_entry_5, kX9_entry_6, kX9_entry_7, kX9_entry_8, kX9_entry_11, kX9_entry_12, kX9_entry_13, kX9_entry_14, kX9_entry_15, kX9_entry_18, kX9_entry_21, kX9_entry_22, kX9_entry_24, kX9_entry_27, kX9_entry_28, kX9_entry_29, kX9_entry_32, kX9_entry_33, kX9_entry_34, kX9_entry_35, kX9_entry_36, kX9_entry_39, kX9_entry_42, kX9_entry_43, kX9_entry_46, kX9_entry_49, kX9_entry_50, kX9_entry_51, kX9_entry_52, kX9_entry_53, kX9_entry_54, kX9_entry_55, kX9_entry_56, kX9_entry_59, kX9_entry_60, kX9_entry_61, kX9_entry_64, xAld, xArrF, xBin, xCmp, xGet, xGetF, xIf, xLdA, xLdI, xPut, xPutF, xRet, fX9_39, fX9_9, bI_80, cI_0, cI_1, cI_2, cI_3, cI_4, sI_369, lA_611, fMod, lA_612, lA_613, lA_614, lA_615, lA_616, lA_617, lA_618, lA_619, c5, Bool.true_eq_false, vp_in_nI (show 369 + 4 * k + q < 689 by omega) (by decide), nI31 (show 369 + 4 * k + q < 2 ^ 31 by omega), hS1.2.2.2.2.2 k q hk k80 hq]
    exact hP _ h1
