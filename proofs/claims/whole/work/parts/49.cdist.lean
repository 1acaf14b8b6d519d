/-! ===== the class: distances ===== -/
theorem lnkA : Cond.methodLink RX7 36 Lib.Math.abs.name ∈ wT := wAt_in (i := 407) (by decide +kernel)
theorem abs_adf {a b : Nat} (ha : a < 2 ^ 30) (hb : b < 2 ^ 30) : (if 0 ≤ nI a - nI b then nI a - nI b else 0 - (nI a - nI b)) = nI (adf b a) := by
  have h1 := nI_sub_toInt ha hb
  have h0 : (0 : Int32).toInt = 0 := rfl
  unfold adf
  by_cases h : b ≤ a
  · rw [if_pos (by rw [i_le, h1, h0]; omega), pk_sub h]
    by_cases e : b < a
    · rw [if_pos e]
    · rw [if_neg e, show a - b = b - a by omega]
  · rw [if_neg (by rw [i_le, h1, h0]; omega), if_neg (by omega), ← pk_sub (show a ≤ b by omega)]
    rw [Int32.zero_sub, Int32.neg_sub]
theorem c_distanceTo {E : WE} {s : ST} {R : RW} {dk : Nat} (hd : dk < 10) (hS : Sh (s.1 dk) R) (hI : Inv R) {i j : Nat} (hi : i < nn R 1) (hj : j < nn R 0) : SpR E mX7_distanceTo 1 [.ref (aS E dk j), .ref (aC E dk i)] s (some (.int (nI (ds R i j)))) s := by
  refine SpR.of vX7_distanceTo.1 [some (.ref (aS E dk j)), some (.ref (aC E dk i))] rfl (Nat.le_of_ble_eq_true rfl) rfl (fun C P X hP => ?_)
  have hc := hI.c
  have hs := hI.s
  have hi24 : i < 24 := by omega
  have hj6 : j < 6 := by omega
  obtain ⟨⟨⟨e1, l1⟩, ⟨e2, l2⟩, -⟩, -⟩ := hI.2.2 i hi
  obtain ⟨⟨e3, l3⟩, ⟨e4, l4⟩, -⟩ := hI.2.1 j hj
  have x1 : s.1 dk (57 + 13 * i) = nI (nn R (57 + 13 * i)) := (hS.c hi 0 (by decide) (by decide)).trans e1
  have x2 : s.1 dk (57 + 13 * i + 1) = nI (nn R (57 + 13 * i + 1)) := (hS.c hi 1 (by decide) (by decide)).trans e2
  have x3 : s.1 dk (3 + 7 * j) = nI (nn R (3 + 7 * j)) := (hS.s hj 0 (by decide)).trans e3
  have x4 : s.1 dk (3 + 7 * j + 1) = nI (nn R (3 + 7 * j + 1)) := (hS.s hj 1 (by decide)).trans e4
  refine run X (rt := some .int) flX7_ok rfl tX7_distanceTo_ok 20 [] ?_
  simp only [go_go, gos_some, ctn_ctn, step, fv0, fv1, fv2, fv3, List.getElem?_cons_zero, List.getElem?_cons_succ, List.set_cons_zero, List.set_cons_succ, List.mem_cons, List.not_mem_nil, or_false, or_self, if_false, if_true, List.length_cons, List.length_nil, lval, upS_sr, sr_same, sr_sr, Nat.reduceEqDiff, not_false_eq_true, Classical.not_not, true_or, or_true, false_or, Nat.zero_add, Nat.add_zero, nI_add, pk_mul, Option.toList_some, Option.toList_none, List.cons_append, List.nil_append, n00, n11, n10, bv0, bv1, bft, bnf, bnt, Nat.reduceAdd, Nat.reduceEqDiff, Nat.reduceMul, Nat.reduceLT, Nat.reduceSub, true_implies, false_implies, not_true_eq_false, not_false_eq_true, true_and, and_true, sr_ne (show ¬ 21 = 20 by decide), sr_ne (show ¬ 20 = 21 by decide), sr_ne (show ¬ 22 = 20 by decide), sr_ne (show ¬ 22 = 21 by decide), sr_ne (show ¬ 20 = 22 by decide), sr_ne (show ¬ 21 = 22 by decide), kX7_distanceTo_0, kX7_distanceTo_1, kX7_distanceTo_4, kX7_distanceTo_5, kX7_distanceTo_8, kX7_distanceTo_9, kX7_distanceTo_12, kX7_distanceTo_13, kX7_distanceTo_16, kX7_distanceTo_17, kX7_distanceTo_20, kX7_distanceTo_21, kX7_distanceTo_24, kX7_distanceTo_25, xBin, xGet, xGetF, xLdA, xRet, fX7_15, fX7_33, fX7_42, fX7_9, fSch, lA_S6 hd hj6, lA_C hd hi24, x1, x3, fChi]
  refine JM_abs X tX7_distanceTo_ok kX7_distanceTo_9 lnkA (Nat.le_refl _) (by decide) ?_
  rw [abs_adf (by omega) (by omega)]
  refine run X (rt := some .int) flX7_ok rfl tX7_distanceTo_ok 20 [] ?_
  simp only [go_go, gos_some, ctn_ctn, step, fv0, fv1, fv2, fv3, List.getElem?_cons_zero, List.getElem?_cons_succ, List.set_cons_zero, List.set_cons_succ, List.mem_cons, List.not_mem_nil, or_false, or_self, if_false, if_true, List.length_cons, List.length_nil, lval, upS_sr, sr_same, sr_sr, Nat.reduceEqDiff, not_false_eq_true, Classical.not_not, true_or, or_true, false_or, Nat.zero_add, Nat.add_zero, nI_add, pk_mul, Option.toList_some, Option.toList_none, List.cons_append, List.nil_append, n00, n11, n10, bv0, bv1, bft, bnf, bnt, Nat.reduceAdd, Nat.reduceEqDiff, Nat.reduceMul, Nat.reduceLT, Nat.reduceSub, true_implies, false_implies, not_true_eq_false, not_false_eq_true, true_and, and_true, sr_ne (show ¬ 21 = 20 by decide), sr_ne (show ¬ 20 = 21 by decide), sr_ne (show ¬ 22 = 20 by decide), sr_ne (show ¬ 22 = 21 by decide), sr_ne (show ¬ 20 = 22 by decide), sr_ne (show ¬ 21 = 22 by decide), kX7_distanceTo_0, kX7_distanceTo_1, kX7_distanceTo_4, kX7_distanceTo_5, kX7_distanceTo_8, kX7_distanceTo_9, kX7_distanceTo_12, kX7_distanceTo_13, kX7_distanceTo_16, kX7_distanceTo_17, kX7_distanceTo_20, kX7_distanceTo_21, kX7_distanceTo_24, kX7_distanceTo_25, xBin, xGet, xGetF, xLdA, xRet, fX7_15, fX7_33, fX7_42, fX7_9, fSch, lA_S6 hd hj6, lA_C hd hi24, x2, x4, fChi]
  refine JM_abs X tX7_distanceTo_ok kX7_distanceTo_21 lnkA (Nat.le_refl _) (Nat.le_of_ble_eq_true rfl) ?_
  rw [abs_adf (by omega) (by omega)]
  refine run X (rt := some .int) flX7_ok rfl tX7_distanceTo_ok 20 [] ?_
  simp only [go_go, gos_some, ctn_ctn, step, fv0, fv1, fv2, fv3, List.getElem?_cons_zero, List.getElem?_cons_succ, List.set_cons_zero, List.set_cons_succ, List.mem_cons, List.not_mem_nil, or_false, or_self, if_false, if_true, List.length_cons, List.length_nil, lval, upS_sr, sr_same, sr_sr, Nat.reduceEqDiff, not_false_eq_true, Classical.not_not, true_or, or_true, false_or, Nat.zero_add, Nat.add_zero, nI_add, pk_mul, Option.toList_some, Option.toList_none, List.cons_append, List.nil_append, n00, n11, n10, bv0, bv1, bft, bnf, bnt, Nat.reduceAdd, Nat.reduceEqDiff, Nat.reduceMul, Nat.reduceLT, Nat.reduceSub, true_implies, false_implies, not_true_eq_false, not_false_eq_true, true_and, and_true, sr_ne (show ¬ 21 = 20 by decide), sr_ne (show ¬ 20 = 21 by decide), sr_ne (show ¬ 22 = 20 by decide), sr_ne (show ¬ 22 = 21 by decide), sr_ne (show ¬ 20 = 22 by decide), sr_ne (show ¬ 21 = 22 by decide), kX7_distanceTo_0, kX7_distanceTo_1, kX7_distanceTo_4, kX7_distanceTo_5, kX7_distanceTo_8, kX7_distanceTo_9, kX7_distanceTo_12, kX7_distanceTo_13, kX7_distanceTo_16, kX7_distanceTo_17, kX7_distanceTo_20, kX7_distanceTo_21, kX7_distanceTo_24, kX7_distanceTo_25, xBin, xGet, xGetF, xLdA, xRet, fX7_15, fX7_33, fX7_42, fX7_9, fSch]
  exact hP
