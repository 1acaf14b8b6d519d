/-! ===== the reference's allocation: asking ===== -/
/-- who asks next among the first k -/
def nxA (p : Nat → Bool) (dir : Bool) : Nat → Int32
  | 0 => -1
  | k + 1 => if p k && (!dir || decide (nxA p dir k = -1)) then nI k else nxA p dir k
def akB (R : RW) (as : Nat → Nat) (i : Nat) : Bool := decide (R (57 + 13 * i + 10) = -1) && decide (as i < nn R (57 + 13 * i + 5))
def Ask (s : ST) (R : RW) (as : Nat → Nat) : Prop := ∀ i, i < nn R 1 → s.1 27 i = nI (as i) ∧ as i ≤ 4
theorem m_asker {E : WE} {s : ST} {R : RW} (hS : Sh (s.1 21) R) (hI : Inv R) {as : Nat → Nat} (hA : Ask s R as) {dir : Bool} : SpR E mX9_asker 1 [.ref (aF E 611), .int (bv dir)] s (some (.int (nxA (akB R as) dir (nn R 1)))) s := by
  refine SpR.of vX9_asker.1 [some (.ref (aF E 611)), some (.int (bv dir)), none, none, none] rfl (Nat.le_of_ble_eq_true rfl) rfl (fun C P X hP => ?_)
  have hc := hI.c
  have hs := hI.s
  have h0 : s.1 21 0 = nI (nn R 0) := hS.1.1.trans hI.s0
  have h1 : s.1 21 1 = nI (nn R 1) := hS.1.2.1.trans hI.c0
  have v0 : vp_in (nI 0) 689 := vp_in_nI (by decide) (by decide)
  have v1 : vp_in (nI 1) 689 := vp_in_nI (by decide) (by decide)
  have c0 : (nI 0).toNatClampNeg = 0 := nI31 (by decide)
  have c1 : (nI 1).toNatClampNeg = 1 := nI31 (by decide)
  have hNc : nn R 1 < 2 ^ 31 := by omega
  have hNs : nn R 0 < 2 ^ 31 := by omega
  have gC := nI_le (Nat.le_refl (nn R 1)) hNc
  have gS := nI_le (Nat.le_refl (nn R 0)) hNs
  generalize hp : akB R as = pp at hP
  refine run X (rt := some .int) flX9_ok rfl tX9_asker_ok 20 [4] ?_
  simp only [go_go, gos_some, ctn_ctn, step, fv0, fv1, fv2, fv3, List.getElem?_cons_zero, List.getElem?_cons_succ, List.set_cons_zero, List.set_cons_succ, List.mem_cons, List.not_mem_nil, or_false, or_self, if_false, if_true, List.length_cons, List.length_nil, lval, upS_sr, sr_same, sr_sr, Nat.reduceEqDiff, not_false_eq_true, Classical.not_not, true_or, or_true, false_or, Nat.zero_add, Nat.add_zero, nI_add, pk_mul, Option.toList_some, Option.toList_none, List.cons_append, List.nil_append, n00, n11, n10, bv0, bv1, bft, bnf, bnt, Nat.reduceAdd, Nat.reduceEqDiff, Nat.reduceMul, Nat.reduceLT, Nat.reduceSub, true_implies, false_implies, not_true_eq_false, not_false_eq_true, true_and, and_true, sr_ne (show ¬ 21 = 20 by decide), sr_ne (show ¬ 20 = 21 by decide), sr_ne (show ¬ 22 = 20 by decide), sr_ne (show ¬ 22 = 21 by decide), sr_ne (show ¬ 20 = 22 by decide), sr_ne (show ¬ 21 = 22 by decide), kX9_asker_0, kX9_asker_1, kX9_asker_2, kX9_asker_3, kX9_asker_4, kX9_asker_5, kX9_asker_6, kX9_asker_9, kX9_asker_10, kX9_asker_11, kX9_asker_14, kX9_asker_15, kX9_asker_16, kX9_asker_18, kX9_asker_21, kX9_asker_22, kX9_asker_25, kX9_asker_26, kX9_asker_29, kX9_asker_30, kX9_asker_31, kX9_asker_32, kX9_asker_33, kX9_asker_34, kX9_asker_37, kX9_asker_40, kX9_asker_41, kX9_asker_44, kX9_asker_45, kX9_asker_47, kX9_asker_49, kX9_asker_52, kX9_asker_53, kX9_asker_56, kX9_asker_57, kX9_asker_58, kX9_asker_61, kX9_asker_62, kX9_asker_65, kX9_asker_66, kX9_asker_67, kX9_asker_70, kX9_asker_73, kX9_asker_74, xAld, xArrF, xCmp, xGet, xGetF, xIf, xInc, xLdA, xLdI, xRet, xSt, fX9_33, fX9_9, bI_10, cI_0, cI_1, cI_5, cI_m1, lA_611, fMod, lA_612, lA_613, lA_614, lA_615, lA_616, lA_617, lA_618, lA_619]
  suffices key : ∀ l4 : Option Value, JM E mX9_asker C 1 0 0 P 4 [some (.ref (aF E 611)), some (.int (bv dir)), some (.int (nxA pp dir 0)), some (.int (nI 0)), l4] [] s from key none
  refine loopU (N := nn R 1) (I := fun i => ∀ l4 : Option Value, JM E mX9_asker C 1 0 0 P 4 [some (.ref (aF E 611)), some (.int (bv dir)), some (.int (nxA pp dir i)), some (.int (nI i)), l4] [] s) ?_ (fun i hi ih => ?_)
  · intro l4
    refine run X (rt := some .int) flX9_ok rfl tX9_asker_ok 20 [4] ?_
    simp only [go_go, gos_some, ctn_ctn, step, fv0, fv1, fv2, fv3, List.getElem?_cons_zero, List.getElem?_cons_succ, List.set_cons_zero, List.set_cons_succ, List.mem_cons, List.not_mem_nil, or_false, or_self, if_false, if_true, List.length_cons, List.length_nil, lval, upS_sr, sr_same, sr_sr, Nat.reduceEqDiff, not_false_eq_true, Classical.not_not, true_or, or_true, false_or, Nat.zero_add, Nat.add_zero, nI_add, pk_mul, Option.toList_some, Option.toList_none, List.cons_append, List.nil_append, n00, n11, n10, bv0, bv1, bft, bnf, bnt, Nat.reduceAdd, Nat.reduceEqDiff, Nat.reduceMul, Nat.reduceLT, Nat.reduceSub, true_implies, false_implies, not_true_eq_false, not_false_eq_true, true_and, and_true, sr_ne (show ¬ 21 = 20 by decide), sr_ne (show ¬ 20 = 21 by decide), sr_ne (show ¬ 22 = 20 by decide), sr_ne (show ¬ 22 = 21 by decide), sr_ne (show ¬ 20 = 22 by decide), sr_ne (show ¬ 21 = 22 by decide), kX9_asker_0, kX9_asker_1, kX9_asker_2, kX9_asker_3, kX9_asker_4, kX9_asker_5, kX9_asker_6, kX9_asker_9, kX9_asker_10, kX9_asker_11, kX9_asker_14, kX9_asker_15, kX9_asker_16, kX9_asker_18, kX9_asker_21, kX9_asker_22, kX9_asker_25, kX9_asker_26, kX9_asker_29, kX9_asker_30, kX9_asker_31, kX9_asker_32, kX9_asker_33, kX9_asker_34, kX9_asker_37, kX9_asker_40, kX9_asker_41, kX9_asker_44, kX9_asker_45, kX9_asker_47, kX9_asker_49, kX9_asker_52, kX9_asker_53, kX9_asker_56, kX9_asker_57, kX9_asker_58, kX9_asker_61, kX9_asker_62, kX9_asker_65, kX9_asker_66, kX9_asker_67, kX9_asker_70, kX9_asker_73, kX9_asker_74, xAld, xArrF, xCmp, xGet, xGetF, xIf, xInc, xLdA, xLdI, xRet, xSt, fX9_33, fX9_9, bI_10, cI_0, cI_1, cI_5, cI_m1, lA_611, fMod, lA_612, lA_613, lA_614, lA_615, lA_616, lA_617, lA_618, lA_619, h0, h1, v0, v1, c0, c1, gC]
    exact hP
  · intro l4
    obtain ⟨a1, a2⟩ := hA i hi
    have hm := hI.m hi
    have hf : pp i = false → JM E mX9_asker C 1 0 0 P 45 [some (.ref (aF E 611)), some (.int (bv dir)), some (.int (nxA pp dir i)), some (.int (nI i)), l4] [.int (nI 0)] s := by
      intro e
      have := ih (some (.int (nI 0)))
      rw [nxA, e, Bool.false_and, if_neg (by decide)] at this
      refine run X (rt := some .int) flX9_ok rfl tX9_asker_ok 20 [4] ?_
      simp only [go_go, gos_some, ctn_ctn, step, fv0, fv1, fv2, fv3, List.getElem?_cons_zero, List.getElem?_cons_succ, List.set_cons_zero, List.set_cons_succ, List.mem_cons, List.not_mem_nil, or_false, or_self, if_false, if_true, List.length_cons, List.length_nil, lval, upS_sr, sr_same, sr_sr, Nat.reduceEqDiff, not_false_eq_true, Classical.not_not, true_or, or_true, false_or, Nat.zero_add, Nat.add_zero, nI_add, pk_mul, Option.toList_some, Option.toList_none, List.cons_append, List.nil_append, n00, n11, n10, bv0, bv1, bft, bnf, bnt, Nat.reduceAdd, Nat.reduceEqDiff, Nat.reduceMul, Nat.reduceLT, Nat.reduceSub, true_implies, false_implies, not_true_eq_false, not_false_eq_true, true_and, and_true, sr_ne (show ¬ 21 = 20 by decide), sr_ne (show ¬ 20 = 21 by decide), sr_ne (show ¬ 22 = 20 by decide), sr_ne (show ¬ 22 = 21 by decide), sr_ne (show ¬ 20 = 22 by decide), sr_ne (show ¬ 21 = 22 by decide), kX9_asker_0, kX9_asker_1, kX9_asker_2, kX9_asker_3, kX9_asker_4, kX9_asker_5, kX9_asker_6, kX9_asker_9, kX9_asker_10, kX9_asker_11, kX9_asker_14, kX9_asker_15, kX9_asker_16, kX9_asker_18, kX9_asker_21, kX9_asker_22, kX9_asker_25, kX9_asker_26, kX9_asker_29, kX9_asker_30, kX9_asker_31, kX9_asker_32, kX9_asker_33, kX9_asker_34, kX9_asker_37, kX9_asker_40, kX9_asker_41, kX9_asker_44, kX9_asker_45, kX9_asker_47, kX9_asker_49, kX9_asker_52, kX9_asker_53, kX9_asker_56, kX9_asker_57, kX9_asker_58, kX9_asker_61, kX9_asker_62, kX9_asker_65, kX9_asker_66, kX9_asker_67, kX9_asker_70, kX9_asker_73, kX9_asker_74, xAld, xArrF, xCmp, xGet, xGetF, xIf, xInc, xLdA, xLdI, xRet, xSt, fX9_33, fX9_9, bI_10, cI_0, cI_1, cI_5, cI_m1, lA_611, fMod, lA_612, lA_613, lA_614, lA_615, lA_616, lA_617, lA_618, lA_619]
      exact this
    have ht : pp i = true → JM E mX9_asker C 1 0 0 P 45 [some (.ref (aF E 611)), some (.int (bv dir)), some (.int (nxA pp dir i)), some (.int (nI i)), l4] [.int (nI 1)] s := by
      intro e
      have := ih (some (.int (nI 1)))
      rw [nxA, e, Bool.true_and] at this
      refine run X (rt := some .int) flX9_ok rfl tX9_asker_ok 20 [4] ?_
      simp only [go_go, gos_some, ctn_ctn, step, fv0, fv1, fv2, fv3, List.getElem?_cons_zero, List.getElem?_cons_succ, List.set_cons_zero, List.set_cons_succ, List.mem_cons, List.not_mem_nil, or_false, or_self, if_false, if_true, List.length_cons, List.length_nil, lval, upS_sr, sr_same, sr_sr, Nat.reduceEqDiff, not_false_eq_true, Classical.not_not, true_or, or_true, false_or, Nat.zero_add, Nat.add_zero, nI_add, pk_mul, Option.toList_some, Option.toList_none, List.cons_append, List.nil_append, n00, n11, n10, bv0, bv1, bft, bnf, bnt, Nat.reduceAdd, Nat.reduceEqDiff, Nat.reduceMul, Nat.reduceLT, Nat.reduceSub, true_implies, false_implies, not_true_eq_false, not_false_eq_true, true_and, and_true, sr_ne (show ¬ 21 = 20 by decide), sr_ne (show ¬ 20 = 21 by decide), sr_ne (show ¬ 22 = 20 by decide), sr_ne (show ¬ 22 = 21 by decide), sr_ne (show ¬ 20 = 22 by decide), sr_ne (show ¬ 21 = 22 by decide), kX9_asker_0, kX9_asker_1, kX9_asker_2, kX9_asker_3, kX9_asker_4, kX9_asker_5, kX9_asker_6, kX9_asker_9, kX9_asker_10, kX9_asker_11, kX9_asker_14, kX9_asker_15, kX9_asker_16, kX9_asker_18, kX9_asker_21, kX9_asker_22, kX9_asker_25, kX9_asker_26, kX9_asker_29, kX9_asker_30, kX9_asker_31, kX9_asker_32, kX9_asker_33, kX9_asker_34, kX9_asker_37, kX9_asker_40, kX9_asker_41, kX9_asker_44, kX9_asker_45, kX9_asker_47, kX9_asker_49, kX9_asker_52, kX9_asker_53, kX9_asker_56, kX9_asker_57, kX9_asker_58, kX9_asker_61, kX9_asker_62, kX9_asker_65, kX9_asker_66, kX9_asker_67, kX9_asker_70, kX9_asker_73, kX9_asker_74, xAld, xArrF, xCmp, xGet, xGetF, xIf, xInc, xLdA, xLdI, xRet, xSt, fX9_33, fX9_9, bI_10, cI_0, cI_1, cI_5, cI_m1, lA_611, fMod, lA_612, lA_613, lA_614, lA_615, lA_616, lA_617, lA_618, lA_619]
      refine ⟨fun c => ?_, fun c => ⟨fun c2 => ?_, fun c2 => ?_⟩⟩
      · rw [if_pos (by rw [c]; rfl)] at this; exact this
      · rw [if_neg (by rw [decide_eq_false c2, c]; decide)] at this; exact this
      · rw [if_pos (by rw [decide_eq_true c2, c]; decide)] at this; exact this
    refine run X (rt := some .int) flX9_ok rfl tX9_asker_ok 20 [4, 45] ?_
    simp only [go_go, gos_some, ctn_ctn, step, fv0, fv1, fv2, fv3, List.getElem?_cons_zero, List.getElem?_cons_succ, List.set_cons_zero, List.set_cons_succ, List.mem_cons, List.not_mem_nil, or_false, or_self, if_false, if_true, List.length_cons, List.length_nil, lval, upS_sr, sr_same, sr_sr, Nat.reduceEqDiff, not_false_eq_true, Classical.not_not, true_or, or_true, false_or, Nat.zero_add, Nat.add_zero, nI_add, pk_mul, Option.toList_some, Option.toList_none, List.cons_append, List.nil_append, n00, n11, n10, bv0, bv1, bft, bnf, bnt, Nat.reduceAdd, Nat.reduceEqDiff, Nat.reduceMul, Nat.reduceLT, Nat.reduceSub, true_implies, false_implies, not_true_eq_false, not_false_eq_true, true_and, and_true, sr_ne (show ¬ 21 = 20 by decide), sr_ne (show ¬ 20 = 21 by decide), sr_ne (show ¬ 22 = 20 by decide), sr_ne (show ¬ 22 = 21 by decide), sr_ne (show ¬ 20 = 22 by decide), sr_ne (show ¬ 21 = 22 by decide), kX9_asker_0, kX9_asker_1, kX9_asker_2, kX9_asker_3, kX9_asker_4, kX9_asker_5, kX9_asker_6, kX9_asker_9, kX9_asker_10, kX9_asker_11, kX9_asker_14, kX9_asker_15, kX9_asker_16, kX9_asker_18, kX9_asker_21, kX9_asker_22, kX9_asker_25, kX9_asker_26, kX9_asker_29, kX9_asker_30, kX9_asker_31, kX9_asker_32, kX9_asker_33, kX9_asker_34, kX9_asker_37, kX9_asker_40, kX9_asker_41, kX9_asker_44, kX9_asker_45, kX9_asker_47, kX9_asker_49, kX9_asker_52, kX9_asker_53, kX9_asker_56, kX9_asker_57, kX9_asker_58, kX9_asker_61, kX9_asker_62, kX9_asker_65, kX9_asker_66, kX9_asker_67, kX9_asker_70, kX9_asker_73, kX9_asker_74, xAld, xArrF, xCmp, xGet, xGetF, xIf, xInc, xLdA, xLdI, xRet, xSt, fX9_33, fX9_9, bI_10, cI_0, cI_1, cI_5, cI_m1, lA_611, fMod, lA_612, lA_613, lA_614, lA_615, lA_616, lA_617, lA_618, lA_619, h0, h1, v0, v1, c0, c1, nI_ge hi hNc]
    refine cV X  tX9_asker_ok kX9_asker_18 (m_c hS hI hi 10 (by decide) (by decide)) vX9_c lX9_49 lA_611 rfl rfl rfl (Nat.le_of_ble_eq_true rfl) (Nat.le_of_ble_eq_true rfl) ?_
    refine run X (rt := some .int) flX9_ok rfl tX9_asker_ok 20 [4, 45] ?_
    simp only [go_go, gos_some, ctn_ctn, step, fv0, fv1, fv2, fv3, List.getElem?_cons_zero, List.getElem?_cons_succ, List.set_cons_zero, List.set_cons_succ, List.mem_cons, List.not_mem_nil, or_false, or_self, if_false, if_true, List.length_cons, List.length_nil, lval, upS_sr, sr_same, sr_sr, Nat.reduceEqDiff, not_false_eq_true, Classical.not_not, true_or, or_true, false_or, Nat.zero_add, Nat.add_zero, nI_add, pk_mul, Option.toList_some, Option.toList_none, List.cons_append, List.nil_append, n00, n11, n10, bv0, bv1, bft, bnf, bnt, Nat.reduceAdd, Nat.reduceEqDiff, Nat.reduceMul, Nat.reduceLT, Nat.reduceSub, true_implies, false_implies, not_true_eq_false, not_false_eq_true, true_and, and_true, sr_ne (show ¬ 21 = 20 by decide), sr_ne (show ¬ 20 = 21 by decide), sr_ne (show ¬ 22 = 20 by decide), sr_ne (show ¬ 22 = 21 by decide), sr_ne (show ¬ 20 = 22 by decide), sr_ne (show ¬ 21 = 22 by decide), kX9_asker_0, kX9_asker_1, kX9_asker_2, kX9_asker_3, kX9_asker_4, kX9_asker_5, kX9_asker_6, kX9_asker_9, kX9_asker_10, kX9_asker_11, kX9_asker_14, kX9_asker_15, kX9_asker_16, kX9_asker_18, kX9_asker_21, kX9_asker_22, kX9_asker_25, kX9_asker_26, kX9_asker_29, kX9_asker_30, kX9_asker_31, kX9_asker_32, kX9_asker_33, kX9_asker_34, kX9_asker_37, kX9_asker_40, kX9_asker_41, kX9_asker_44, kX9_asker_45, kX9_asker_47, kX9_asker_49, kX9_asker_52, kX9_asker_53, kX9_asker_56, kX9_asker_57, kX9_asker_58, kX9_asker_61, kX9_asker_62, kX9_asker_65, kX9_asker_66, kX9_asker_67, kX9_asker_70, kX9_asker_73, kX9_asker_74, xAld, xArrF, xCmp, xGet, xGetF, xIf, xInc, xLdA, xLdI, xRet, xSt, fX9_33, fX9_9, bI_10, cI_0, cI_1, cI_5, cI_m1, lA_611, fMod, lA_612, lA_613, lA_614, lA_615, lA_616, lA_617, lA_618, lA_619, vp_in_nI (show i < 24 by omega) (show 24 < 2 ^ 31 by decide), nI31 (show i < 2 ^ 31 by omega), a1]
    refine ⟨fun c => hf (by rw [← hp]; simp [akB, c]), fun c => ?_⟩
    refine cV X  tX9_asker_ok kX9_asker_34 (m_c hS hI hi 5 (by decide) (by decide)) vX9_c lX9_49 lA_611 rfl rfl rfl (Nat.le_of_ble_eq_true rfl) (Nat.le_of_ble_eq_true rfl) ?_
    rw [hm.1]
    refine run X (rt := some .int) flX9_ok rfl tX9_asker_ok 20 [4, 45] ?_
    simp only [go_go, gos_some, ctn_ctn, step, fv0, fv1, fv2, fv3, List.getElem?_cons_zero, List.getElem?_cons_succ, List.set_cons_zero, List.set_cons_succ, List.mem_cons, List.not_mem_nil, or_false, or_self, if_false, if_true, List.length_cons, List.length_nil, lval, upS_sr, sr_same, sr_sr, Nat.reduceEqDiff, not_false_eq_true, Classical.not_not, true_or, or_true, false_or, Nat.zero_add, Nat.add_zero, nI_add, pk_mul, Option.toList_some, Option.toList_none, List.cons_append, List.nil_append, n00, n11, n10, bv0, bv1, bft, bnf, bnt, Nat.reduceAdd, Nat.reduceEqDiff, Nat.reduceMul, Nat.reduceLT, Nat.reduceSub, true_implies, false_implies, not_true_eq_false, not_false_eq_true, true_and, and_true, sr_ne (show ¬ 21 = 20 by decide), sr_ne (show ¬ 20 = 21 by decide), sr_ne (show ¬ 22 = 20 by decide), sr_ne (show ¬ 22 = 21 by decide), sr_ne (show ¬ 20 = 22 by decide), sr_ne (show ¬ 21 = 22 by decide), kX9_asker_0, kX9_asker_1, kX9_asker_2, kX9_asker_3, kX9_asker_4, kX9_asker_5, kX9_asker_6, kX9_asker_9, kX9_asker_10, kX9_asker_11, kX9_asker_14, kX9_asker_15, kX9_asker_16, kX9_asker_18, kX9_asker_21, kX9_asker_22, kX9_asker_25, kX9_asker_26, kX9_asker_29, kX9_asker_30, kX9_asker_31, kX9_asker_32, kX9_asker_33, kX9_asker_34, kX9_asker_37, kX9_asker_40, kX9_asker_41, kX9_asker_44, kX9_asker_45, kX9_asker_47, kX9_asker_49, kX9_asker_52, kX9_asker_53, kX9_asker_56, kX9_asker_57, kX9_asker_58, kX9_asker_61, kX9_asker_62, kX9_asker_65, kX9_asker_66, kX9_asker_67, kX9_asker_70, kX9_asker_73, kX9_asker_74, xAld, xArrF, xCmp, xGet, xGetF, xIf, xInc, xLdA, xLdI, xRet, xSt, fX9_33, fX9_9, bI_10, cI_0, cI_1, cI_5, cI_m1, lA_611, fMod, lA_612, lA_613, lA_614, lA_615, lA_616, lA_617, lA_618, lA_619, nI_leI (show nn R (57 + 13 * i + 5) < 2 ^ 31 by omega) (show as i < 2 ^ 31 by omega)]
    refine ⟨fun c2 => hf (by rw [← hp]; simp [akB]; omega), fun c2 => ht (by rw [← hp]; simp [akB, c]; omega)⟩
/-- the worst of those that a school holds -/
def wst (R : RW) (j : Nat) : Nat := nx (ht R j (nI (hl R j) - nI 1))
/-- a child asks at a school -/
def stA (R : RW) (i j : Nat) : RW :=
  if hl R j < nn R (3 + 7 * j + 2) then ur R (57 + 13 * i + 10) (nI j) else if hw R i j then ur (ur R (57 + 13 * wst R j + 10) (-1)) (57 + 13 * i + 10) (nI j) else R
theorem an_ct {p : Nat → Bool} : ∀ {n : Nat}, an p n = true → 0 < ct p n
  | 0, h => by cases h
  | n + 1, h => by
    rw [ct]
    by_cases e : p n = true
    · rw [if_pos e]; omega
    · rw [an, Bool.or_eq_true] at h
      have := an_ct (h.resolve_right e)
      omega
theorem ct_imp {p q : Nat → Bool} : ∀ {n : Nat}, (∀ k, k < n → p k = true → q k = true) → ct p n ≤ ct q n
  | 0, _ => Nat.le_refl _
  | n + 1, h => by
    have h1 := ct_imp (n := n) (fun k hk => h k (by omega))
    rw [ct, ct]
    by_cases e : p n = true
    · rw [if_pos e, if_pos (h n (by omega) e)]; omega
    · rw [if_neg e]; omega
/-- a greatest one of those that p takes, by f -/
theorem greatest {p : Nat → Bool} (f : Nat → Nat) : ∀ {n : Nat}, (∃ k, k < n ∧ p k = true) → ∃ k, k < n ∧ p k = true ∧ ∀ o, o < n → p o = true → f o ≤ f k
  | 0, h => by obtain ⟨k, hk, -⟩ := h; omega
  | n + 1, h => by
    by_cases h1 : ∃ k, k < n ∧ p k = true
    · obtain ⟨k, h2, h3, h4⟩ := greatest f h1
      by_cases e : p n = true ∧ f k < f n
      · exact ⟨n, by omega, e.1, fun o ho hpo => by
          by_cases e2 : o = n
          · subst e2; exact Nat.le_refl _
          · have := h4 o (by omega) hpo
            omega⟩
      · exact ⟨k, by omega, h3, fun o ho hpo => by
          by_cases e2 : o = n
          · subst e2
            by_cases e3 : f k < f o
            · exact absurd ⟨hpo, e3⟩ e
            · omega
          · exact h4 o (by omega) hpo⟩
    · obtain ⟨k, hk, hp⟩ := h
      have e : k = n := by
        by_cases e : k = n
        · exact e
        · exact absurd ⟨k, by omega, hp⟩ h1
      subst e
      exact ⟨k, by omega, hp, fun o ho hpo => by
        by_cases e2 : o = k
        · subst e2; exact Nat.le_refl _
        · exact absurd ⟨o, by omega, hpo⟩ h1⟩
theorem ky_inj {R : RW} (hI : Inv R) {i o j : Nat} (hi : i < nn R 1) (ho : o < nn R 1) (h : ky R i j = ky R o j) : i = o := by
  have hc := hI.c
  unfold ky at h
  omega
/-- where somebody is held, the last of the list is there, and is the worst -/
theorem wst_at {R : RW} (hI : Inv R) {j : Nat} (h : 0 < hl R j) : ∃ i, i < nn R 1 ∧ ht R j (nI (hl R j) - nI 1) = nI i ∧ wst R j = i ∧ R (57 + 13 * i + 10) = nI j ∧ ∀ o, o < nn R 1 → R (57 + 13 * o + 10) = nI j → ky R o j ≤ ky R i j := by
  have hc := hI.c
  obtain ⟨k, h1, h2, h3⟩ := greatest (p := fun i => decide (R (57 + 13 * i + 10) = nI j)) (fun i => ky R i j) (n := nn R 1) (ct_pos h)
  have hle : hl R j ≤ nn R 1 := ct_le _ _
  -- all the others are ahead of k
  have hk : ∀ n, k < n → n ≤ nn R 1 → ct (fun o => decide (R (57 + 13 * o + 10) = nI j) && decide (ky R o j < ky R k j)) n + 1 = ct (fun i => decide (R (57 + 13 * i + 10) = nI j)) n := by
    intro n
    induction n with
    | zero => intro h; omega
    | succ n ih =>
      intro h4 h5
      by_cases e : n = k
      · subst e
        have e1 : ct (fun o => decide (R (57 + 13 * o + 10) = nI j) && decide (ky R o j < ky R n j)) n = ct (fun i => decide (R (57 + 13 * i + 10) = nI j)) n := by
          refine ct_cong n (fun o ho => ?_)
          by_cases e2 : R (57 + 13 * o + 10) = nI j
          · have h6 := h3 o (by omega) (decide_eq_true e2)
            have h7 : ¬ ky R o j = ky R n j := fun e3 => by have := ky_inj hI (by omega) h1 e3; omega
            simp [e2]; omega
          · simp [e2]
        rw [ct, ct, e1, if_neg (by simp), if_pos h2]
      · have h6 := ih (by omega) (by omega)
        rw [ct, ct, ← h6]
        by_cases e2 : R (57 + 13 * n + 10) = nI j
        · have h7 := h3 n (by omega) (decide_eq_true e2)
          have h8 : ¬ ky R n j = ky R k j := fun e3 => e (ky_inj hI (by omega) h1 e3)
          rw [if_pos (by simp [e2]; omega), if_pos (decide_eq_true e2)]
        · rw [if_neg (by simp [e2]), if_neg (by simp [e2])]
  have hak : ha R k j + 1 = hl R j := hk (nn R 1) h1 (Nat.le_refl _)
  have es : nI (hl R j) - nI 1 = nI (ha R k j) := by rw [← hak, pk_sub (by omega)]; rfl
  have key : ∃ i, i < nn R 1 ∧ ht R j (nI (hl R j) - nI 1) = nI i ∧ R (57 + 13 * i + 10) = nI j ∧ nI (ha R i j) = nI (ha R k j) := by
    rw [es]
    unfold ht
    rcases fs_or (fun i => decide (R (57 + 13 * i + 10) = nI j) && decide (nI (ha R i j) = nI (ha R k j))) (nn R 1) 0 with ⟨-, h5⟩ | ⟨i, -, h6, h7, h8⟩
    · have := h5 k (Nat.zero_le _) (by omega)
      simp only [h2, decide_true, Bool.and_true] at this
      cases this
    · simp only [Bool.and_eq_true, decide_eq_true_eq] at h8
      exact ⟨i, by omega, h7, h8.1, h8.2⟩
  obtain ⟨i, i1, i2, i3, i4⟩ := key
  have la : ∀ i, ha R i j ≤ nn R 1 := fun i => ct_le _ _
  have i5 : ha R i j = ha R k j := by
    rw [nI_inj (by have := la i; omega) (by have := la k; omega)] at i4
    exact i4
  refine ⟨i, i1, i2, by unfold wst; rw [i2]; exact nx_nI (by omega), i3, fun o ho hoj => ?_⟩
  -- i is k: else it would be ahead of k, and fewer be ahead of it
  have hik := h3 i i1 (decide_eq_true i3)
  have hok := h3 o ho (decide_eq_true hoj)
  by_cases e : i = k
  · subst e; exact hok
  · exfalso
    have hlt : ky R i j < ky R k j := by
      have : ¬ ky R i j = ky R k j := fun e3 => e (ky_inj hI i1 h1 e3)
      have h9 : ky R i j ≤ ky R k j := hik
      omega
    have hdec : ∀ n, i < n → ct (fun o => decide (R (57 + 13 * o + 10) = nI j) && decide (ky R o j < ky R i j)) n < ct (fun o => decide (R (57 + 13 * o + 10) = nI j) && decide (ky R o j < ky R k j)) n := by
      intro n
      induction n with
      | zero => intro h; omega
      | succ n ih =>
        intro h4
        rw [ct, ct]
        by_cases e2 : n = i
        · subst e2
          have := ct_imp (p := fun o => decide (R (57 + 13 * o + 10) = nI j) && decide (ky R o j < ky R n j)) (q := fun o => decide (R (57 + 13 * o + 10) = nI j) && decide (ky R o j < ky R k j)) (n := n) (fun o _ h => by simp only [Bool.and_eq_true, decide_eq_true_eq] at h ⊢; exact ⟨h.1, by omega⟩)
          rw [if_neg (by simp), if_pos (by simp [i3, hlt])]
          omega
        · have := ih (by omega)
          by_cases e3 : (decide (R (57 + 13 * n + 10) = nI j) && decide (ky R n j < ky R i j)) = true
          · rw [if_pos e3, if_pos (by simp only [Bool.and_eq_true, decide_eq_true_eq] at e3 ⊢; exact ⟨e3.1, by omega⟩)]
            omega
          · rw [if_neg e3]; omega
    have := hdec (nn R 1) i1
    unfold ha at i5
    omega
