/-! ===== the reference's allocation: a round ===== -/
theorem hw_pos {R : RW} {i j : Nat} (h : hw R i j = true) : 0 < hl R j := by
  have h1 := an_ct h
  have h2 := ct_imp (p := fun o => decide (R (57 + 13 * o + 10) = nI j) && decide (ky R i j < ky R o j)) (q := fun o => decide (R (57 + 13 * o + 10) = nI j)) (n := nn R 1) (fun k _ h => by simp only [Bool.and_eq_true] at h; exact h.1)
  unfold hl
  omega
theorem Inv.seat {R : RW} (h : Inv R) {i : Nat} {x : Int32} (hi : i < nn R 1) (hx : ix9 (nn R 0) x) : Inv (ur R (57 + 13 * i + 10) x) := h.uc (w := 10) hi (by decide) (by decide) hx
/-- all but the seats is as it was -/
def samS (R R' : RW) : Prop := ∀ k, (∀ i, i < 24 → ¬ k = 57 + 13 * i + 10) → R' k = R k
theorem samS.rf {R : RW} : samS R R := fun _ _ => rfl
theorem samS.tr {R R1 R2 : RW} (h : samS R R1) (h2 : samS R1 R2) : samS R R2 := fun k hk => (h2 k hk).trans (h k hk)
theorem samS.u {R : RW} {i : Nat} {x : Int32} (hi : i < 24) : samS R (ur R (57 + 13 * i + 10) x) := fun k hk => ur_ne (hk i hi)
theorem samS.n0 {R R' : RW} (h : samS R R') : nn R' 0 = nn R 0 := by unfold nn; rw [h 0 (fun i _ => by omega)]
theorem samS.n1 {R R' : RW} (h : samS R R') : nn R' 1 = nn R 1 := by unfold nn; rw [h 1 (fun i _ => by omega)]
theorem samS.m {R R' : RW} (h : samS R R') {i : Nat} : nn R' (57 + 13 * i + 5) = nn R (57 + 13 * i + 5) := by unfold nn; rw [h _ (fun i _ => by omega)]
theorem samS.ch {R R' : RW} (h : samS R R') {i p : Nat} (hp : p < 4) : R' (57 + 13 * i + 6 + p) = R (57 + 13 * i + 6 + p) := h _ (fun i _ => by omega)
theorem stA_ok {R : RW} (hI : Inv R) {i j : Nat} (hi : i < nn R 1) (hj : j < nn R 0) : Inv (stA R i j) ∧ samS R (stA R i j) := by
  have hc := hI.c
  unfold stA
  split
  · exact ⟨hI.seat hi (Or.inr ⟨j, hj, rfl⟩), samS.u (by omega)⟩
  · split
    · rename_i h
      obtain ⟨k, k1, -, k3, -⟩ := wst_at hI (hw_pos h)
      rw [k3]
      have h1 := hI.seat k1 (x := -1) (Or.inl rfl)
      have s1 : samS R (ur R (57 + 13 * k + 10) (-1)) := samS.u (by omega)
      exact ⟨h1.seat (by rw [s1.n1]; exact hi) (Or.inr ⟨j, by rw [s1.n0]; exact hj, rfl⟩), s1.tr (samS.u (by omega))⟩
    · exact ⟨hI, samS.rf⟩
theorem m_asks {E : WE} {s : ST} {R : RW} (hS : Sh (s.1 21) R) (hI : Inv R) {i j : Nat} (hi : i < nn R 1) (hj : j < nn R 0) : SpQ E mX9_asks 7 [.ref (aF E 611), .int (nI i), .int (nI j)] s none (Q21 s (stA R i j)) := by
  refine SpQ.of vX9_asks.1 [some (.ref (aF E 611)), some (.int (nI i)), some (.int (nI j))] rfl (Nat.le_of_ble_eq_true rfl) rfl (fun C P X hP => ?_)
  have hc := hI.c
  have hle : hl R j ≤ nn R 1 := ct_le _ _
  obtain ⟨-, -, ⟨e2, l2⟩, -⟩ := hI.2.1 j hj
  refine run X (rt := none) flX9_ok rfl tX9_asks_ok 20 [] ?_
  simp only [go_go, gos_some, ctn_ctn, step, fv0, fv1, fv2, fv3, List.getElem?_cons_zero, List.getElem?_cons_succ, List.set_cons_zero, List.set_cons_succ, List.mem_cons, List.not_mem_nil, or_false, or_self, if_false, if_true, List.length_cons, List.length_nil, lval, upS_sr, sr_same, sr_sr, Nat.reduceEqDiff, not_false_eq_true, Classical.not_not, true_or, or_true, false_or, Nat.zero_add, Nat.add_zero, nI_add, pk_mul, Option.toList_some, Option.toList_none, List.cons_append, List.nil_append, n00, n11, n10, bv0, bv1, bft, bnf, bnt, Nat.reduceAdd, Nat.reduceEqDiff, Nat.reduceMul, Nat.reduceLT, Nat.reduceSub, true_implies, false_implies, not_true_eq_false, not_false_eq_true, true_and, and_true, sr_ne (show ¬ 21 = 20 by decide), sr_ne (show ¬ 20 = 21 by decide), sr_ne (show ¬ 22 = 20 by decide), sr_ne (show ¬ 22 = 21 by decide), sr_ne (show ¬ 20 = 22 by decide), sr_ne (show ¬ 21 = 22 by decide), kX9_asks_0, kX9_asks_1, kX9_asks_2, kX9_asks_5, kX9_asks_6, kX9_asks_7, kX9_asks_8, kX9_asks_11, kX9_asks_14, kX9_asks_15, kX9_asks_16, kX9_asks_18, kX9_asks_19, kX9_asks_22, kX9_asks_25, kX9_asks_26, kX9_asks_27, kX9_asks_28, kX9_asks_31, kX9_asks_34, kX9_asks_35, kX9_asks_36, kX9_asks_37, kX9_asks_38, kX9_asks_39, kX9_asks_42, kX9_asks_43, kX9_asks_44, kX9_asks_47, kX9_asks_49, kX9_asks_50, kX9_asks_53, kX9_asks_54, kX9_asks_55, kX9_asks_57, kX9_asks_58, kX9_asks_61, xBin, xCmp, xIf, xLdA, xLdI, xVret, bI_10, cI_1, cI_2, cI_m1]
  refine cV X  tX9_asks_ok kX9_asks_2 (m_holds hS hI) vX9_holds lX9_78 lA_611 rfl rfl rfl (Nat.le_of_ble_eq_true rfl) (Nat.le_of_ble_eq_true rfl) ?_
  refine run X (rt := none) flX9_ok rfl tX9_asks_ok 20 [] ?_
  simp only [go_go, gos_some, ctn_ctn, step, fv0, fv1, fv2, fv3, List.getElem?_cons_zero, List.getElem?_cons_succ, List.set_cons_zero, List.set_cons_succ, List.mem_cons, List.not_mem_nil, or_false, or_self, if_false, if_true, List.length_cons, List.length_nil, lval, upS_sr, sr_same, sr_sr, Nat.reduceEqDiff, not_false_eq_true, Classical.not_not, true_or, or_true, false_or, Nat.zero_add, Nat.add_zero, nI_add, pk_mul, Option.toList_some, Option.toList_none, List.cons_append, List.nil_append, n00, n11, n10, bv0, bv1, bft, bnf, bnt, Nat.reduceAdd, Nat.reduceEqDiff, Nat.reduceMul, Nat.reduceLT, Nat.reduceSub, true_implies, false_implies, not_true_eq_false, not_false_eq_true, true_and, and_true, sr_ne (show ¬ 21 = 20 by decide), sr_ne (show ¬ 20 = 21 by decide), sr_ne (show ¬ 22 = 20 by decide), sr_ne (show ¬ 22 = 21 by decide), sr_ne (show ¬ 20 = 22 by decide), sr_ne (show ¬ 21 = 22 by decide), kX9_asks_0, kX9_asks_1, kX9_asks_2, kX9_asks_5, kX9_asks_6, kX9_asks_7, kX9_asks_8, kX9_asks_11, kX9_asks_14, kX9_asks_15, kX9_asks_16, kX9_asks_18, kX9_asks_19, kX9_asks_22, kX9_asks_25, kX9_asks_26, kX9_asks_27, kX9_asks_28, kX9_asks_31, kX9_asks_34, kX9_asks_35, kX9_asks_36, kX9_asks_37, kX9_asks_38, kX9_asks_39, kX9_asks_42, kX9_asks_43, kX9_asks_44, kX9_asks_47, kX9_asks_49, kX9_asks_50, kX9_asks_53, kX9_asks_54, kX9_asks_55, kX9_asks_57, kX9_asks_58, kX9_asks_61, xBin, xCmp, xIf, xLdA, xLdI, xVret, bI_10, cI_1, cI_2, cI_m1]
  refine cV X  tX9_asks_ok kX9_asks_8 (m_s hS hI hj 2 (by decide)) vX9_s lX9_53 lA_611 rfl rfl rfl (Nat.le_of_ble_eq_true rfl) (Nat.le_of_ble_eq_true rfl) ?_
  rw [e2]
  refine run X (rt := none) flX9_ok rfl tX9_asks_ok 20 [] ?_
  simp only [go_go, gos_some, ctn_ctn, step, fv0, fv1, fv2, fv3, List.getElem?_cons_zero, List.getElem?_cons_succ, List.set_cons_zero, List.set_cons_succ, List.mem_cons, List.not_mem_nil, or_false, or_self, if_false, if_true, List.length_cons, List.length_nil, lval, upS_sr, sr_same, sr_sr, Nat.reduceEqDiff, not_false_eq_true, Classical.not_not, true_or, or_true, false_or, Nat.zero_add, Nat.add_zero, nI_add, pk_mul, Option.toList_some, Option.toList_none, List.cons_append, List.nil_append, n00, n11, n10, bv0, bv1, bft, bnf, bnt, Nat.reduceAdd, Nat.reduceEqDiff, Nat.reduceMul, Nat.reduceLT, Nat.reduceSub, true_implies, false_implies, not_true_eq_false, not_false_eq_true, true_and, and_true, sr_ne (show ¬ 21 = 20 by decide), sr_ne (show ¬ 20 = 21 by decide), sr_ne (show ¬ 22 = 20 by decide), sr_ne (show ¬ 22 = 21 by decide), sr_ne (show ¬ 20 = 22 by decide), sr_ne (show ¬ 21 = 22 by decide), kX9_asks_0, kX9_asks_1, kX9_asks_2, kX9_asks_5, kX9_asks_6, kX9_asks_7, kX9_asks_8, kX9_asks_11, kX9_asks_14, kX9_asks_15, kX9_asks_16, kX9_asks_18, kX9_asks_19, kX9_asks_22, kX9_asks_25, kX9_asks_26, kX9_asks_27, kX9_asks_28, kX9_asks_31, kX9_asks_34, kX9_asks_35, kX9_asks_36, kX9_asks_37, kX9_asks_38, kX9_asks_39, kX9_asks_42, kX9_asks_43, kX9_asks_44, kX9_asks_47, kX9_asks_49, kX9_asks_50, kX9_asks_53, kX9_asks_54, kX9_asks_55, kX9_asks_57, kX9_asks_58, kX9_asks_61, xBin, xCmp, xIf, xLdA, xLdI, xVret, bI_10, cI_1, cI_2, cI_m1, nI_leI (show nn R (3 + 7 * j + 2) < 2 ^ 31 by omega) (show hl R j < 2 ^ 31 by omega)]
  refine ⟨fun c => ?_, fun c => ?_⟩
  · have e : stA R i j = if hw R i j then ur (ur R (57 + 13 * wst R j + 10) (-1)) (57 + 13 * i + 10) (nI j) else R := if_neg (by omega)
    rw [e] at hP
    refine cV X  tX9_asks_ok kX9_asks_28 (m_holdsWorse hS hI hi hj) vX9_holdsWorse lX9_195 lA_611 rfl rfl rfl (Nat.le_of_ble_eq_true rfl) (Nat.le_of_ble_eq_true rfl) ?_
    refine run X (rt := none) flX9_ok rfl tX9_asks_ok 20 [] ?_
    simp only [go_go, gos_some, ctn_ctn, step, fv0, fv1, fv2, fv3, List.getElem?_cons_zero, List.getElem?_cons_succ, List.set_cons_zero, List.set_cons_succ, List.mem_cons, List.not_mem_nil, or_false, or_self, if_false, if_true, List.length_cons, List.length_nil, lval, upS_sr, sr_same, sr_sr, Nat.reduceEqDiff, not_false_eq_true, Classical.not_not, true_or, or_true, false_or, Nat.zero_add, Nat.add_zero, nI_add, pk_mul, Option.toList_some, Option.toList_none, List.cons_append, List.nil_append, n00, n11, n10, bv0, bv1, bft, bnf, bnt, Nat.reduceAdd, Nat.reduceEqDiff, Nat.reduceMul, Nat.reduceLT, Nat.reduceSub, true_implies, false_implies, not_true_eq_false, not_false_eq_true, true_and, and_true, sr_ne (show ¬ 21 = 20 by decide), sr_ne (show ¬ 20 = 21 by decide), sr_ne (show ¬ 22 = 20 by decide), sr_ne (show ¬ 22 = 21 by decide), sr_ne (show ¬ 20 = 22 by decide), sr_ne (show ¬ 21 = 22 by decide), kX9_asks_0, kX9_asks_1, kX9_asks_2, kX9_asks_5, kX9_asks_6, kX9_asks_7, kX9_asks_8, kX9_asks_11, kX9_asks_14, kX9_asks_15, kX9_asks_16, kX9_asks_18, kX9_asks_19, kX9_asks_22, kX9_asks_25, kX9_asks_26, kX9_asks_27, kX9_asks_28, kX9_asks_31, kX9_asks_34, kX9_asks_35, kX9_asks_36, kX9_asks_37, kX9_asks_38, kX9_asks_39, kX9_asks_42, kX9_asks_43, kX9_asks_44, kX9_asks_47, kX9_asks_49, kX9_asks_50, kX9_asks_53, kX9_asks_54, kX9_asks_55, kX9_asks_57, kX9_asks_58, kX9_asks_61, xBin, xCmp, xIf, xLdA, xLdI, xVret, bI_10, cI_1, cI_2, cI_m1]
    refine ⟨fun c2 => ?_, fun c2 => ?_⟩
    · rw [if_neg (by rw [c2]; decide)] at hP
      exact hP _ ⟨s.1 21, sr_id.symm, hS⟩
    · rw [if_pos c2] at hP
      obtain ⟨k, k1, k2, k3, -⟩ := wst_at hI (hw_pos c2)
      rw [k3] at hP
      refine cV X  tX9_asks_ok kX9_asks_39 (m_holds hS hI) vX9_holds lX9_78 lA_611 rfl rfl rfl (Nat.le_of_ble_eq_true rfl) (Nat.le_of_ble_eq_true rfl) ?_
      refine run X (rt := none) flX9_ok rfl tX9_asks_ok 20 [] ?_
      simp only [go_go, gos_some, ctn_ctn, step, fv0, fv1, fv2, fv3, List.getElem?_cons_zero, List.getElem?_cons_succ, List.set_cons_zero, List.set_cons_succ, List.mem_cons, List.not_mem_nil, or_false, or_self, if_false, if_true, List.length_cons, List.length_nil, lval, upS_sr, sr_same, sr_sr, Nat.reduceEqDiff, not_false_eq_true, Classical.not_not, true_or, or_true, false_or, Nat.zero_add, Nat.add_zero, nI_add, pk_mul, Option.toList_some, Option.toList_none, List.cons_append, List.nil_append, n00, n11, n10, bv0, bv1, bft, bnf, bnt, Nat.reduceAdd, Nat.reduceEqDiff, Nat.reduceMul, Nat.reduceLT, Nat.reduceSub, true_implies, false_implies, not_true_eq_false, not_false_eq_true, true_and, and_true, sr_ne (show ¬ 21 = 20 by decide), sr_ne (show ¬ 20 = 21 by decide), sr_ne (show ¬ 22 = 20 by decide), sr_ne (show ¬ 22 = 21 by decide), sr_ne (show ¬ 20 = 22 by decide), sr_ne (show ¬ 21 = 22 by decide), kX9_asks_0, kX9_asks_1, kX9_asks_2, kX9_asks_5, kX9_asks_6, kX9_asks_7, kX9_asks_8, kX9_asks_11, kX9_asks_14, kX9_asks_15, kX9_asks_16, kX9_asks_18, kX9_asks_19, kX9_asks_22, kX9_asks_25, kX9_asks_26, kX9_asks_27, kX9_asks_28, kX9_asks_31, kX9_asks_34, kX9_asks_35, kX9_asks_36, kX9_asks_37, kX9_asks_38, kX9_asks_39, kX9_asks_42, kX9_asks_43, kX9_asks_44, kX9_asks_47, kX9_asks_49, kX9_asks_50, kX9_asks_53, kX9_asks_54, kX9_asks_55, kX9_asks_57, kX9_asks_58, kX9_asks_61, xBin, xCmp, xIf, xLdA, xLdI, xVret, bI_10, cI_1, cI_2, cI_m1]
      refine cV X  tX9_asks_ok kX9_asks_44 (m_heldAt hS hI hj) vX9_heldAt lX9_144 lA_611 rfl rfl rfl (Nat.le_of_ble_eq_true rfl) (Nat.le_of_ble_eq_true rfl) ?_
      rw [k2]
      refine run X (rt := none) flX9_ok rfl tX9_asks_ok 20 [] ?_
      simp only [go_go, gos_some, ctn_ctn, step, fv0, fv1, fv2, fv3, List.getElem?_cons_zero, List.getElem?_cons_succ, List.set_cons_zero, List.set_cons_succ, List.mem_cons, List.not_mem_nil, or_false, or_self, if_false, if_true, List.length_cons, List.length_nil, lval, upS_sr, sr_same, sr_sr, Nat.reduceEqDiff, not_false_eq_true, Classical.not_not, true_or, or_true, false_or, Nat.zero_add, Nat.add_zero, nI_add, pk_mul, Option.toList_some, Option.toList_none, List.cons_append, List.nil_append, n00, n11, n10, bv0, bv1, bft, bnf, bnt, Nat.reduceAdd, Nat.reduceEqDiff, Nat.reduceMul, Nat.reduceLT, Nat.reduceSub, true_implies, false_implies, not_true_eq_false, not_false_eq_true, true_and, and_true, sr_ne (show ¬ 21 = 20 by decide), sr_ne (show ¬ 20 = 21 by decide), sr_ne (show ¬ 22 = 20 by decide), sr_ne (show ¬ 22 = 21 by decide), sr_ne (show ¬ 20 = 22 by decide), sr_ne (show ¬ 21 = 22 by decide), kX9_asks_0, kX9_asks_1, kX9_asks_2, kX9_asks_5, kX9_asks_6, kX9_asks_7, kX9_asks_8, kX9_asks_11, kX9_asks_14, kX9_asks_15, kX9_asks_16, kX9_asks_18, kX9_asks_19, kX9_asks_22, kX9_asks_25, kX9_asks_26, kX9_asks_27, kX9_asks_28, kX9_asks_31, kX9_asks_34, kX9_asks_35, kX9_asks_36, kX9_asks_37, kX9_asks_38, kX9_asks_39, kX9_asks_42, kX9_asks_43, kX9_asks_44, kX9_asks_47, kX9_asks_49, kX9_asks_50, kX9_asks_53, kX9_asks_54, kX9_asks_55, kX9_asks_57, kX9_asks_58, kX9_asks_61, xBin, xCmp, xIf, xLdA, xLdI, xVret, bI_10, cI_1, cI_2, cI_m1]
      refine cV X  tX9_asks_ok kX9_asks_50 (m_setC (show k < 24 by omega) (show 10 < 13 by decide)) vX9_setC lX9_114 lA_611 rfl rfl rfl (Nat.le_of_ble_eq_true rfl) (Nat.le_of_ble_eq_true rfl) ?_
      refine run X (rt := none) flX9_ok rfl tX9_asks_ok 20 [] ?_
      simp only [go_go, gos_some, ctn_ctn, step, fv0, fv1, fv2, fv3, List.getElem?_cons_zero, List.getElem?_cons_succ, List.set_cons_zero, List.set_cons_succ, List.mem_cons, List.not_mem_nil, or_false, or_self, if_false, if_true, List.length_cons, List.length_nil, lval, upS_sr, sr_same, sr_sr, Nat.reduceEqDiff, not_false_eq_true, Classical.not_not, true_or, or_true, false_or, Nat.zero_add, Nat.add_zero, nI_add, pk_mul, Option.toList_some, Option.toList_none, List.cons_append, List.nil_append, n00, n11, n10, bv0, bv1, bft, bnf, bnt, Nat.reduceAdd, Nat.reduceEqDiff, Nat.reduceMul, Nat.reduceLT, Nat.reduceSub, true_implies, false_implies, not_true_eq_false, not_false_eq_true, true_and, and_true, sr_ne (show ¬ 21 = 20 by decide), sr_ne (show ¬ 20 = 21 by decide), sr_ne (show ¬ 22 = 20 by decide), sr_ne (show ¬ 22 = 21 by decide), sr_ne (show ¬ 20 = 22 by decide), sr_ne (show ¬ 21 = 22 by decide), kX9_asks_0, kX9_asks_1, kX9_asks_2, kX9_asks_5, kX9_asks_6, kX9_asks_7, kX9_asks_8, kX9_asks_11, kX9_asks_14, kX9_asks_15, kX9_asks_16, kX9_asks_18, kX9_asks_19, kX9_asks_22, kX9_asks_25, kX9_asks_26, kX9_asks_27, kX9_asks_28, kX9_asks_31, kX9_asks_34, kX9_asks_35, kX9_asks_36, kX9_asks_37, kX9_asks_38, kX9_asks_39, kX9_asks_42, kX9_asks_43, kX9_asks_44, kX9_asks_47, kX9_asks_49, kX9_asks_50, kX9_asks_53, kX9_asks_54, kX9_asks_55, kX9_asks_57, kX9_asks_58, kX9_asks_61, xBin, xCmp, xIf, xLdA, xLdI, xVret, bI_10, cI_1, cI_2, cI_m1]
      refine cV X  tX9_asks_ok kX9_asks_58 (m_setC (show i < 24 by omega) (show 10 < 13 by decide)) vX9_setC lX9_114 lA_611 rfl rfl rfl (Nat.le_of_ble_eq_true rfl) (Nat.le_of_ble_eq_true rfl) ?_
      refine run X (rt := none) flX9_ok rfl tX9_asks_ok 20 [] ?_
      simp only [go_go, gos_some, ctn_ctn, step, fv0, fv1, fv2, fv3, List.getElem?_cons_zero, List.getElem?_cons_succ, List.set_cons_zero, List.set_cons_succ, List.mem_cons, List.not_mem_nil, or_false, or_self, if_false, if_true, List.length_cons, List.length_nil, lval, upS_sr, sr_same, sr_sr, Nat.reduceEqDiff, not_false_eq_true, Classical.not_not, true_or, or_true, false_or, Nat.zero_add, Nat.add_zero, nI_add, pk_mul, Option.toList_some, Option.toList_none, List.cons_append, List.nil_append, n00, n11, n10, bv0, bv1, bft, bnf, bnt, Nat.reduceAdd, Nat.reduceEqDiff, Nat.reduceMul, Nat.reduceLT, Nat.reduceSub, true_implies, false_implies, not_true_eq_false, not_false_eq_true, true_and, and_true, sr_ne (show ¬ 21 = 20 by decide), sr_ne (show ¬ 20 = 21 by decide), sr_ne (show ¬ 22 = 20 by decide), sr_ne (show ¬ 22 = 21 by decide), sr_ne (show ¬ 20 = 22 by decide), sr_ne (show ¬ 21 = 22 by decide), kX9_asks_0, kX9_asks_1, kX9_asks_2, kX9_asks_5, kX9_asks_6, kX9_asks_7, kX9_asks_8, kX9_asks_11, kX9_asks_14, kX9_asks_15, kX9_asks_16, kX9_asks_18, kX9_asks_19, kX9_asks_22, kX9_asks_25, kX9_asks_26, kX9_asks_27, kX9_asks_28, kX9_asks_31, kX9_asks_34, kX9_asks_35, kX9_asks_36, kX9_asks_37, kX9_asks_38, kX9_asks_39, kX9_asks_42, kX9_asks_43, kX9_asks_44, kX9_asks_47, kX9_asks_49, kX9_asks_50, kX9_asks_53, kX9_asks_54, kX9_asks_55, kX9_asks_57, kX9_asks_58, kX9_asks_61, xBin, xCmp, xIf, xLdA, xLdI, xVret, bI_10, cI_1, cI_2, cI_m1]
      exact hP _ ⟨_, rfl, (hS.uc (by decide) (by decide)).uc (by decide) (by decide)⟩
  · have e : stA R i j = ur R (57 + 13 * i + 10) (nI j) := if_pos (by omega)
    rw [e] at hP
    refine cV X  tX9_asks_ok kX9_asks_19 (m_setC (show i < 24 by omega) (show 10 < 13 by decide)) vX9_setC lX9_114 lA_611 rfl rfl rfl (Nat.le_of_ble_eq_true rfl) (Nat.le_of_ble_eq_true rfl) ?_
    refine run X (rt := none) flX9_ok rfl tX9_asks_ok 20 [] ?_
    simp only [go_go, gos_some, ctn_ctn, step, fv0, fv1, fv2, fv3, List.getElem?_cons_zero, List.getElem?_cons_succ, List.set_cons_zero, List.set_cons_succ, List.mem_cons, List.not_mem_nil, or_false, or_self, if_false, if_true, List.length_cons, List.length_nil, lval, upS_sr, sr_same, sr_sr, Nat.reduceEqDiff, not_false_eq_true, Classical.not_not, true_or, or_true, false_or, Nat.zero_add, Nat.add_zero, nI_add, pk_mul, Option.toList_some, Option.toList_none, List.cons_append, List.nil_append, n00, n11, n10, bv0, bv1, bft, bnf, bnt, Nat.reduceAdd, Nat.reduceEqDiff, Nat.reduceMul, Nat.reduceLT, Nat.reduceSub, true_implies, false_implies, not_true_eq_false, not_false_eq_true, true_and, and_true, sr_ne (show ¬ 21 = 20 by decide), sr_ne (show ¬ 20 = 21 by decide), sr_ne (show ¬ 22 = 20 by decide), sr_ne (show ¬ 22 = 21 by decide), sr_ne (show ¬ 20 = 22 by decide), sr_ne (show ¬ 21 = 22 by decide), kX9_asks_0, kX9_asks_1, kX9_asks_2, kX9_asks_5, kX9_asks_6, kX9_asks_7, kX9_asks_8, kX9_asks_11, kX9_asks_14, kX9_asks_15, kX9_asks_16, kX9_asks_18, kX9_asks_19, kX9_asks_22, kX9_asks_25, kX9_asks_26, kX9_asks_27, kX9_asks_28, kX9_asks_31, kX9_asks_34, kX9_asks_35, kX9_asks_36, kX9_asks_37, kX9_asks_38, kX9_asks_39, kX9_asks_42, kX9_asks_43, kX9_asks_44, kX9_asks_47, kX9_asks_49, kX9_asks_50, kX9_asks_53, kX9_asks_54, kX9_asks_55, kX9_asks_57, kX9_asks_58, kX9_asks_61, xBin, xCmp, xIf, xLdA, xLdI, xVret, bI_10, cI_1, cI_2, cI_m1]
    exact hP _ ⟨_, rfl, hS.uc (by decide) (by decide)⟩
/-- nobody has a seat -/
def zs (R : RW) : Nat → RW
  | 0 => R
  | k + 1 => ur (zs R k) (57 + 13 * k + 10) (-1)
def up1 (as : Nat → Nat) (i : Nat) : Nat → Nat := fun k => if k = i then as k + 1 else as k
def rdN (dir : Bool) : Nat → RW → (Nat → Nat) → RW
  | 0, R, _ => R
  | m + 1, R, as => if nxA (akB R as) dir (nn R 1) = -1 then R else
    rdN dir m (stA R (nx (nxA (akB R as) dir (nn R 1))) (nx (R (57 + 13 * nx (nxA (akB R as) dir (nn R 1)) + 6 + as (nx (nxA (akB R as) dir (nn R 1))))))) (up1 as (nx (nxA (akB R as) dir (nn R 1))))
/-- a round -/
def rnd (dir : Bool) (R : RW) : RW := rdN dir 96 (zs R (nn R 1)) (fun _ => 0)
theorem nxA_or {p : Nat → Bool} {dir : Bool} : ∀ n, (nxA p dir n = -1 ∧ ∀ k, k < n → p k = false) ∨ ∃ i, i < n ∧ nxA p dir n = nI i ∧ p i = true
  | 0 => Or.inl ⟨rfl, fun k hk => absurd hk (Nat.not_lt_zero k)⟩
  | n + 1 => by
    rw [nxA]
    cases hp : p n with
    | false =>
      rw [Bool.false_and, if_neg (by decide)]
      rcases nxA_or (p := p) (dir := dir) n with ⟨h1, h2⟩ | ⟨i, h1, h2, h3⟩
      · exact Or.inl ⟨h1, fun k hk => by
          by_cases e : k = n
          · subst e; exact hp
          · exact h2 k (by omega)⟩
      · exact Or.inr ⟨i, by omega, h2, h3⟩
    | true =>
      rcases nxA_or (p := p) (dir := dir) n with ⟨h1, h2⟩ | ⟨i, h1, h2, h3⟩
      · rw [if_pos (by simp [h1])]
        exact Or.inr ⟨n, by omega, rfl, hp⟩
      · split
        · exact Or.inr ⟨n, by omega, rfl, hp⟩
        · exact Or.inr ⟨i, by omega, h2, h3⟩
/-- the asking that is left -/
def rem (R : RW) (as : Nat → Nat) : Nat := sm (fun i => nn R (57 + 13 * i + 5) - as i) (nn R 1)
theorem rem_dec {R R' : RW} (h : samS R R') {as : Nat → Nat} {i : Nat} (hi : i < nn R 1) (ha : as i < nn R (57 + 13 * i + 5)) : rem R' (up1 as i) < rem R as := by
  unfold rem
  rw [h.n1]
  refine sm_dec hi (fun k hk hn => ?_) ?_
  · show nn R' (57 + 13 * k + 5) - up1 as i k = _
    rw [h.m]; unfold up1; rw [if_neg hn]
  · show nn R' (57 + 13 * i + 5) - up1 as i i < _
    rw [h.m]; unfold up1; rw [if_pos rfl]; omega
theorem zs_ok {R : RW} (hI : Inv R) : ∀ k, k ≤ nn R 1 → Inv (zs R k) ∧ samS R (zs R k)
  | 0, _ => ⟨hI, samS.rf⟩
  | k + 1, h => by
    have hc := hI.c
    obtain ⟨h1, h2⟩ := zs_ok hI k (by omega)
    exact ⟨h1.seat (by rw [h2.n1]; omega) (Or.inl rfl), h2.tr (samS.u (by omega))⟩
theorem zs_sh {r R : RW} (hS : Sh r R) : ∀ k, Sh (zs r k) (zs R k)
  | 0 => hS
  | k + 1 => (zs_sh hS k).uc (by decide) (by decide)
theorem rdN_ok {dir : Bool} : ∀ (m : Nat) {R : RW} {as : Nat → Nat}, Inv R → Inv (rdN dir m R as) ∧ samS R (rdN dir m R as)
  | 0, R, as, h => ⟨h, samS.rf⟩
  | m + 1, R, as, h => by
    have hc := h.c
    have hs := h.s
    rw [rdN]
    split
    · exact ⟨h, samS.rf⟩
    · rename_i hne
      rcases nxA_or (p := akB R as) (dir := dir) (nn R 1) with ⟨h1, -⟩ | ⟨i, h1, h2, h3⟩
      · exact absurd h1 hne
      · rw [h2, nx_nI (by omega)]
        unfold akB at h3
        simp only [Bool.and_eq_true, decide_eq_true_eq] at h3
        obtain ⟨j, hj, e⟩ := (Inv.alt.mp h).2.2.2 i (as i) h1 h3.2
        rw [e, nx_nI (by omega)]
        obtain ⟨g1, g2⟩ := stA_ok h h1 hj
        obtain ⟨k1, k2⟩ := rdN_ok m (as := up1 as i) g1
        exact ⟨k1, g2.tr k2⟩
theorem rnd_ok {dir : Bool} {R : RW} (hI : Inv R) : Inv (rnd dir R) ∧ samS R (rnd dir R) := by
  obtain ⟨h1, h2⟩ := zs_ok hI (nn R 1) (Nat.le_refl _)
  obtain ⟨k1, k2⟩ := rdN_ok (dir := dir) 96 (as := fun _ => 0) h1
  exact ⟨k1, h2.tr k2⟩
/-- the present row shows R', and what was asked is another -/
def QA (s : ST) (R' : RW) : ST → Prop := fun s' => ∃ x r', s' = sr (sr s 27 x) 21 r' ∧ Sh r' R'
set_option maxRecDepth 10000 in
theorem m_round {E : WE} {s : ST} {R : RW} (hS : Sh (s.1 21) R) (hI : Inv R) {dir : Bool} : SpQ E mX9_round 8 [.ref (aF E 611), .int (bv dir)] s none (QA s (rnd dir R)) := by
  refine SpQ.of vX9_round.1 [some (.ref (aF E 611)), some (.int (bv dir)), none] rfl (Nat.le_of_ble_eq_true rfl) rfl (fun C P X hP => ?_)
  have hc := hI.c
  have hs := hI.s
  have h1 : ∀ {r : RW}, Sh r R → r 1 = nI (nn R 1) := fun h => h.1.2.1.trans hI.c0
  have v1 : vp_in (nI 1) 689 := vp_in_nI (by decide) (by decide)
  have c1 : (nI 1).toNatClampNeg = 1 := nI31 (by decide)
  have hNc : nn R 1 < 2 ^ 31 := by omega
  have gC := nI_le (Nat.le_refl (nn R 1)) hNc
  have hz1 : ∀ k, zs (s.1 21) k 1 = nI (nn R 1) := fun k => by
    induction k with
    | zero => exact h1 hS
    | succ k ih => rw [zs, ur_ne (by omega)]; exact ih
  -- the second half
  have loop : ∀ (m : Nat) (x r R' : RW) (as : Nat → Nat), Sh r R' → Inv R' → samS R R' → (∀ i, i < nn R 1 → x i = nI (as i) ∧ as i ≤ nn R (57 + 13 * i + 5)) → rem R' as ≤ m → rdN dir m R' as = rnd dir R →
      JM E mX9_round C 8 0 0 P 39 [some (.ref (aF E 611)), some (.int (bv dir)), some (.int (nxA (akB R' as) dir (nn R' 1)))] [] (sr (sr s 27 x) 21 r) := by
    intro m
    induction m with
    | zero =>
      intro x r R' as hr hI' hsm hx hm e
      have en : nxA (akB R' as) dir (nn R' 1) = -1 := by
        rcases nxA_or (p := akB R' as) (dir := dir) (nn R' 1) with ⟨h, -⟩ | ⟨i, h2, -, h3⟩
        · exact h
        · exfalso
          unfold akB at h3
          simp only [Bool.and_eq_true, decide_eq_true_eq] at h3
          have := rem_dec (samS.rf (R := R')) h2 h3.2
          omega
      rw [en]
      refine run X (rt := none) flX9_ok rfl tX9_round_ok 20 [39] ?_
      simp only [go_go, gos_some, ctn_ctn, step, fv0, fv1, fv2, fv3, List.getElem?_cons_zero, List.getElem?_cons_succ, List.set_cons_zero, List.set_cons_succ, List.mem_cons, List.not_mem_nil, or_false, or_self, if_false, if_true, List.length_cons, List.length_nil, lval, upS_sr, sr_same, sr_sr, Nat.reduceEqDiff, not_false_eq_true, Classical.not_not, true_or, or_true, false_or, Nat.zero_add, Nat.add_zero, nI_add, pk_mul, Option.toList_some, Option.toList_none, List.cons_append, List.nil_append, n00, n11, n10, bv0, bv1, bft, bnf, bnt, Nat.reduceAdd, Nat.reduceEqDiff, Nat.reduceMul, Nat.reduceLT, Nat.reduceSub, true_implies, false_implies, not_true_eq_false, not_false_eq_true, true_and, and_true, sr_ne (show ¬ 21 = 20 by decide), sr_ne (show ¬ 20 = 21 by decide), sr_ne (show ¬ 22 = 20 by decide), sr_ne (show ¬ 22 = 21 by decide), sr_ne (show ¬ 20 = 22 by decide), sr_ne (show ¬ 21 = 22 by decide), kX9_round_0, kX9_round_1, kX9_round_2, kX9_round_3, kX9_round_4, kX9_round_7, kX9_round_8, kX9_round_9, kX9_round_12, kX9_round_13, kX9_round_16, kX9_round_17, kX9_round_18, kX9_round_19, kX9_round_20, kX9_round_21, kX9_round_23, kX9_round_24, kX9_round_27, kX9_round_30, kX9_round_33, kX9_round_34, kX9_round_35, kX9_round_38, kX9_round_39, kX9_round_40, kX9_round_41, kX9_round_44, kX9_round_45, kX9_round_48, kX9_round_49, kX9_round_50, kX9_round_51, kX9_round_52, kX9_round_53, kX9_round_54, kX9_round_55, kX9_round_56, kX9_round_57, kX9_round_58, kX9_round_60, kX9_round_61, kX9_round_64, kX9_round_65, kX9_round_66, kX9_round_67, kX9_round_68, kX9_round_69, kX9_round_72, kX9_round_75, kX9_round_76, kX9_round_77, kX9_round_80, kX9_round_81, kX9_round_84, Nat.zero_ne_one, xAld, xArrF, xAst, xBin, xCmp, xDup2, xGet, xGetF, xInc, xLdA, xLdI, xSt, xVret, fX9_33, fX9_9, bI_10, bI_6, cI_0, cI_1, cI_m1, lA_611, fMod, lA_612, lA_613, lA_614, lA_615, lA_616, lA_617, lA_618, lA_619]
      rw [← e] at hP
      exact hP _ ⟨x, r, rfl, hr⟩
    | succ m ih =>
      intro x r R' as hr hI' hsm hx hm e
      rw [rdN] at e
      rcases nxA_or (p := akB R' as) (dir := dir) (nn R' 1) with ⟨en, -⟩ | ⟨i, h2, en, h3⟩
      · rw [if_pos en] at e
        rw [en]
        refine run X (rt := none) flX9_ok rfl tX9_round_ok 20 [39] ?_
        simp only [go_go, gos_some, ctn_ctn, step, fv0, fv1, fv2, fv3, List.getElem?_cons_zero, List.getElem?_cons_succ, List.set_cons_zero, List.set_cons_succ, List.mem_cons, List.not_mem_nil, or_false, or_self, if_false, if_true, List.length_cons, List.length_nil, lval, upS_sr, sr_same, sr_sr, Nat.reduceEqDiff, not_false_eq_true, Classical.not_not, true_or, or_true, false_or, Nat.zero_add, Nat.add_zero, nI_add, pk_mul, Option.toList_some, Option.toList_none, List.cons_append, List.nil_append, n00, n11, n10, bv0, bv1, bft, bnf, bnt, Nat.reduceAdd, Nat.reduceEqDiff, Nat.reduceMul, Nat.reduceLT, Nat.reduceSub, true_implies, false_implies, not_true_eq_false, not_false_eq_true, true_and, and_true, sr_ne (show ¬ 21 = 20 by decide), sr_ne (show ¬ 20 = 21 by decide), sr_ne (show ¬ 22 = 20 by decide), sr_ne (show ¬ 22 = 21 by decide), sr_ne (show ¬ 20 = 22 by decide), sr_ne (show ¬ 21 = 22 by decide), kX9_round_0, kX9_round_1, kX9_round_2, kX9_round_3, kX9_round_4, kX9_round_7, kX9_round_8, kX9_round_9, kX9_round_12, kX9_round_13, kX9_round_16, kX9_round_17, kX9_round_18, kX9_round_19, kX9_round_20, kX9_round_21, kX9_round_23, kX9_round_24, kX9_round_27, kX9_round_30, kX9_round_33, kX9_round_34, kX9_round_35, kX9_round_38, kX9_round_39, kX9_round_40, kX9_round_41, kX9_round_44, kX9_round_45, kX9_round_48, kX9_round_49, kX9_round_50, kX9_round_51, kX9_round_52, kX9_round_53, kX9_round_54, kX9_round_55, kX9_round_56, kX9_round_57, kX9_round_58, kX9_round_60, kX9_round_61, kX9_round_64, kX9_round_65, kX9_round_66, kX9_round_67, kX9_round_68, kX9_round_69, kX9_round_72, kX9_round_75, kX9_round_76, kX9_round_77, kX9_round_80, kX9_round_81, kX9_round_84, Nat.zero_ne_one, xAld, xArrF, xAst, xBin, xCmp, xDup2, xGet, xGetF, xInc, xLdA, xLdI, xSt, xVret, fX9_33, fX9_9, bI_10, bI_6, cI_0, cI_1, cI_m1, lA_611, fMod, lA_612, lA_613, lA_614, lA_615, lA_616, lA_617, lA_618, lA_619]
        rw [← e] at hP
        exact hP _ ⟨x, r, rfl, hr⟩
      · have hi : i < nn R 1 := by rw [← hsm.n1]; exact h2
        rw [en, if_neg (nI_m1' (by omega)), nx_nI (by omega)] at e
        unfold akB at h3
        simp only [Bool.and_eq_true, decide_eq_true_eq] at h3
        obtain ⟨j, hj, ej⟩ := (Inv.alt.mp hI').2.2.2 i (as i) h2 h3.2
        rw [ej, nx_nI (by have := hI'.s; omega)] at e
        rw [en]
        obtain ⟨x1, x2⟩ := hx i hi
        have hm4 := (hI'.m h2).2
        have es : nI (6 + (as i + 1)) - nI 1 = nI (6 + as i) := by rw [pk_sub (by omega)]; rfl
        refine run X (rt := none) flX9_ok rfl tX9_round_ok 40 [39] ?_
        simp only [go_go, gos_some, ctn_ctn, step, fv0, fv1, fv2, fv3, List.getElem?_cons_zero, List.getElem?_cons_succ, List.set_cons_zero, List.set_cons_succ, List.mem_cons, List.not_mem_nil, or_false, or_self, if_false, if_true, List.length_cons, List.length_nil, lval, upS_sr, sr_same, sr_sr, Nat.reduceEqDiff, not_false_eq_true, Classical.not_not, true_or, or_true, false_or, Nat.zero_add, Nat.add_zero, nI_add, pk_mul, Option.toList_some, Option.toList_none, List.cons_append, List.nil_append, n00, n11, n10, bv0, bv1, bft, bnf, bnt, Nat.reduceAdd, Nat.reduceEqDiff, Nat.reduceMul, Nat.reduceLT, Nat.reduceSub, true_implies, false_implies, not_true_eq_false, not_false_eq_true, true_and, and_true, sr_ne (show ¬ 21 = 20 by decide), sr_ne (show ¬ 20 = 21 by decide), sr_ne (show ¬ 22 = 20 by decide), sr_ne (show ¬ 22 = 21 by decide), sr_ne (show ¬ 20 = 22 by decide), sr_ne (show ¬ 21 = 22 by decide), kX9_round_0, kX9_round_1, kX9_round_2, kX9_round_3, kX9_round_4, kX9_round_7, kX9_round_8, kX9_round_9, kX9_round_12, kX9_round_13, kX9_round_16, kX9_round_17, kX9_round_18, kX9_round_19, kX9_round_20, kX9_round_21, kX9_round_23, kX9_round_24, kX9_round_27, kX9_round_30, kX9_round_33, kX9_round_34, kX9_round_35, kX9_round_38, kX9_round_39, kX9_round_40, kX9_round_41, kX9_round_44, kX9_round_45, kX9_round_48, kX9_round_49, kX9_round_50, kX9_round_51, kX9_round_52, kX9_round_53, kX9_round_54, kX9_round_55, kX9_round_56, kX9_round_57, kX9_round_58, kX9_round_60, kX9_round_61, kX9_round_64, kX9_round_65, kX9_round_66, kX9_round_67, kX9_round_68, kX9_round_69, kX9_round_72, kX9_round_75, kX9_round_76, kX9_round_77, kX9_round_80, kX9_round_81, kX9_round_84, Nat.zero_ne_one, xAld, xArrF, xAst, xBin, xCmp, xDup2, xGet, xGetF, xInc, xLdA, xLdI, xSt, xVret, fX9_33, fX9_9, bI_10, bI_6, cI_0, cI_1, cI_m1, lA_611, fMod, lA_612, lA_613, lA_614, lA_615, lA_616, lA_617, lA_618, lA_619, nI_m1 (show i < 2 ^ 31 by omega), vp_in_nI (show i < 24 by omega) (show 24 < 2 ^ 31 by decide), nI31 (show i < 2 ^ 31 by omega), x1, sr_ne (show ¬ 27 = 21 by decide), ur_eq, es]
        have hS9 : ∀ y : RW, Sh ((sr (sr (sr s 27 x) 21 r) 27 y).1 21) R' := fun y => by rw [sr_ne (by decide), sr_same]; exact hr
        refine cV X  tX9_round_ok kX9_round_69 (m_cp (hS9 _) hI' h2 (as i) h3.2) vX9_c lX9_49 lA_611 rfl rfl rfl (Nat.le_of_ble_eq_true rfl) (Nat.le_of_ble_eq_true rfl) ?_
        rw [ej]
        refine run X (rt := none) flX9_ok rfl tX9_round_ok 20 [39] ?_
        simp only [go_go, gos_some, ctn_ctn, step, fv0, fv1, fv2, fv3, List.getElem?_cons_zero, List.getElem?_cons_succ, List.set_cons_zero, List.set_cons_succ, List.mem_cons, List.not_mem_nil, or_false, or_self, if_false, if_true, List.length_cons, List.length_nil, lval, upS_sr, sr_same, sr_sr, Nat.reduceEqDiff, not_false_eq_true, Classical.not_not, true_or, or_true, false_or, Nat.zero_add, Nat.add_zero, nI_add, pk_mul, Option.toList_some, Option.toList_none, List.cons_append, List.nil_append, n00, n11, n10, bv0, bv1, bft, bnf, bnt, Nat.reduceAdd, Nat.reduceEqDiff, Nat.reduceMul, Nat.reduceLT, Nat.reduceSub, true_implies, false_implies, not_true_eq_false, not_false_eq_true, true_and, and_true, sr_ne (show ¬ 21 = 20 by decide), sr_ne (show ¬ 20 = 21 by decide), sr_ne (show ¬ 22 = 20 by decide), sr_ne (show ¬ 22 = 21 by decide), sr_ne (show ¬ 20 = 22 by decide), sr_ne (show ¬ 21 = 22 by decide), kX9_round_0, kX9_round_1, kX9_round_2, kX9_round_3, kX9_round_4, kX9_round_7, kX9_round_8, kX9_round_9, kX9_round_12, kX9_round_13, kX9_round_16, kX9_round_17, kX9_round_18, kX9_round_19, kX9_round_20, kX9_round_21, kX9_round_23, kX9_round_24, kX9_round_27, kX9_round_30, kX9_round_33, kX9_round_34, kX9_round_35, kX9_round_38, kX9_round_39, kX9_round_40, kX9_round_41, kX9_round_44, kX9_round_45, kX9_round_48, kX9_round_49, kX9_round_50, kX9_round_51, kX9_round_52, kX9_round_53, kX9_round_54, kX9_round_55, kX9_round_56, kX9_round_57, kX9_round_58, kX9_round_60, kX9_round_61, kX9_round_64, kX9_round_65, kX9_round_66, kX9_round_67, kX9_round_68, kX9_round_69, kX9_round_72, kX9_round_75, kX9_round_76, kX9_round_77, kX9_round_80, kX9_round_81, kX9_round_84, Nat.zero_ne_one, xAld, xArrF, xAst, xBin, xCmp, xDup2, xGet, xGetF, xInc, xLdA, xLdI, xSt, xVret, fX9_33, fX9_9, bI_10, bI_6, cI_0, cI_1, cI_m1, lA_611, fMod, lA_612, lA_613, lA_614, lA_615, lA_616, lA_617, lA_618, lA_619]
        refine cQ X  tX9_round_ok kX9_round_72 (m_asks (hS9 _) hI' h2 hj) vX9_asks lX9_205 lA_611 rfl rfl rfl (Nat.le_of_ble_eq_true rfl) (Nat.le_of_ble_eq_true rfl) ?_
        rintro _ ⟨r9, rfl, hr9⟩
        obtain ⟨g1, g2⟩ := stA_ok hI' h2 hj
        have hst : sr (sr (sr (sr s 27 x) 21 r) 27 (ur x i (nI (as i + 1)))) 21 r9 = sr (sr s 27 (ur x i (nI (as i + 1)))) 21 r9 := by
          rw [sr_comm (show ¬ 21 = 27 by decide), sr_sr, sr_sr]
        rw [hst]
        have hx9 : ∀ i', i' < nn R 1 → ur x i (nI (as i + 1)) i' = nI (up1 as i i') ∧ up1 as i i' ≤ nn R (57 + 13 * i' + 5) := by
          intro i' hi'
          unfold up1
          by_cases e9 : i' = i
          · subst e9
            rw [ur_eq, if_pos rfl]
            exact ⟨rfl, by rw [← hsm.m]; exact h3.2⟩
          · rw [ur_ne e9, if_neg e9]; exact hx i' hi'
        have hAsk : Ask (sr (sr s 27 (ur x i (nI (as i + 1)))) 21 r9) (stA R' i j) (up1 as i) := by
          intro i' hi'
          rw [g2.n1, hsm.n1] at hi'
          rw [sr_ne (by decide), sr_same]
          exact ⟨(hx9 i' hi').1, Nat.le_trans (hx9 i' hi').2 (hI.m hi').2⟩
        have hS10 : Sh ((sr (sr s 27 (ur x i (nI (as i + 1)))) 21 r9).1 21) (stA R' i j) := by rw [sr_same]; exact hr9
        refine run X (rt := none) flX9_ok rfl tX9_round_ok 20 [39] ?_
        simp only [go_go, gos_some, ctn_ctn, step, fv0, fv1, fv2, fv3, List.getElem?_cons_zero, List.getElem?_cons_succ, List.set_cons_zero, List.set_cons_succ, List.mem_cons, List.not_mem_nil, or_false, or_self, if_false, if_true, List.length_cons, List.length_nil, lval, upS_sr, sr_same, sr_sr, Nat.reduceEqDiff, not_false_eq_true, Classical.not_not, true_or, or_true, false_or, Nat.zero_add, Nat.add_zero, nI_add, pk_mul, Option.toList_some, Option.toList_none, List.cons_append, List.nil_append, n00, n11, n10, bv0, bv1, bft, bnf, bnt, Nat.reduceAdd, Nat.reduceEqDiff, Nat.reduceMul, Nat.reduceLT, Nat.reduceSub, true_implies, false_implies, not_true_eq_false, not_false_eq_true, true_and, and_true, sr_ne (show ¬ 21 = 20 by decide), sr_ne (show ¬ 20 = 21 by decide), sr_ne (show ¬ 22 = 20 by decide), sr_ne (show ¬ 22 = 21 by decide), sr_ne (show ¬ 20 = 22 by decide), sr_ne (show ¬ 21 = 22 by decide), kX9_round_0, kX9_round_1, kX9_round_2, kX9_round_3, kX9_round_4, kX9_round_7, kX9_round_8, kX9_round_9, kX9_round_12, kX9_round_13, kX9_round_16, kX9_round_17, kX9_round_18, kX9_round_19, kX9_round_20, kX9_round_21, kX9_round_23, kX9_round_24, kX9_round_27, kX9_round_30, kX9_round_33, kX9_round_34, kX9_round_35, kX9_round_38, kX9_round_39, kX9_round_40, kX9_round_41, kX9_round_44, kX9_round_45, kX9_round_48, kX9_round_49, kX9_round_50, kX9_round_51, kX9_round_52, kX9_round_53, kX9_round_54, kX9_round_55, kX9_round_56, kX9_round_57, kX9_round_58, kX9_round_60, kX9_round_61, kX9_round_64, kX9_round_65, kX9_round_66, kX9_round_67, kX9_round_68, kX9_round_69, kX9_round_72, kX9_round_75, kX9_round_76, kX9_round_77, kX9_round_80, kX9_round_81, kX9_round_84, Nat.zero_ne_one, xAld, xArrF, xAst, xBin, xCmp, xDup2, xGet, xGetF, xInc, xLdA, xLdI, xSt, xVret, fX9_33, fX9_9, bI_10, bI_6, cI_0, cI_1, cI_m1, lA_611, fMod, lA_612, lA_613, lA_614, lA_615, lA_616, lA_617, lA_618, lA_619]
        refine cV X  tX9_round_ok kX9_round_77 (m_asker hS10 g1 hAsk) vX9_asker lX9_201 lA_611 rfl rfl rfl (Nat.le_of_ble_eq_true rfl) (Nat.le_of_ble_eq_true rfl) ?_
        refine run X (rt := none) flX9_ok rfl tX9_round_ok 20 [39] ?_
        simp only [go_go, gos_some, ctn_ctn, step, fv0, fv1, fv2, fv3, List.getElem?_cons_zero, List.getElem?_cons_succ, List.set_cons_zero, List.set_cons_succ, List.mem_cons, List.not_mem_nil, or_false, or_self, if_false, if_true, List.length_cons, List.length_nil, lval, upS_sr, sr_same, sr_sr, Nat.reduceEqDiff, not_false_eq_true, Classical.not_not, true_or, or_true, false_or, Nat.zero_add, Nat.add_zero, nI_add, pk_mul, Option.toList_some, Option.toList_none, List.cons_append, List.nil_append, n00, n11, n10, bv0, bv1, bft, bnf, bnt, Nat.reduceAdd, Nat.reduceEqDiff, Nat.reduceMul, Nat.reduceLT, Nat.reduceSub, true_implies, false_implies, not_true_eq_false, not_false_eq_true, true_and, and_true, sr_ne (show ¬ 21 = 20 by decide), sr_ne (show ¬ 20 = 21 by decide), sr_ne (show ¬ 22 = 20 by decide), sr_ne (show ¬ 22 = 21 by decide), sr_ne (show ¬ 20 = 22 by decide), sr_ne (show ¬ 21 = 22 by decide), kX9_round_0, kX9_round_1, kX9_round_2, kX9_round_3, kX9_round_4, kX9_round_7, kX9_round_8, kX9_round_9, kX9_round_12, kX9_round_13, kX9_round_16, kX9_round_17, kX9_round_18, kX9_round_19, kX9_round_20, kX9_round_21, kX9_round_23, kX9_round_24, kX9_round_27, kX9_round_30, kX9_round_33, kX9_round_34, kX9_round_35, kX9_round_38, kX9_round_39, kX9_round_40, kX9_round_41, kX9_round_44, kX9_round_45, kX9_round_48, kX9_round_49, kX9_round_50, kX9_round_51, kX9_round_52, kX9_round_53, kX9_round_54, kX9_round_55, kX9_round_56, kX9_round_57, kX9_round_58, kX9_round_60, kX9_round_61, kX9_round_64, kX9_round_65, kX9_round_66, kX9_round_67, kX9_round_68, kX9_round_69, kX9_round_72, kX9_round_75, kX9_round_76, kX9_round_77, kX9_round_80, kX9_round_81, kX9_round_84, Nat.zero_ne_one, xAld, xArrF, xAst, xBin, xCmp, xDup2, xGet, xGetF, xInc, xLdA, xLdI, xSt, xVret, fX9_33, fX9_9, bI_10, bI_6, cI_0, cI_1, cI_m1, lA_611, fMod, lA_612, lA_613, lA_614, lA_615, lA_616, lA_617, lA_618, lA_619]
        exact ih (ur x i (nI (as i + 1))) r9 (stA R' i j) (up1 as i) hr9 g1 (hsm.tr g2) hx9 (by have := rem_dec g2 h2 h3.2; omega) e
  -- the first half
  suffices key : JM E mX9_round C 8 0 0 P 2 [some (.ref (aF E 611)), some (.int (bv dir)), some (.int (nI 0))] [] (sr (sr s 27 (cpy (s.1 27) (fun _ => nI 0) 0 0)) 21 (zs (s.1 21) 0)) by
    rw [cpy_0, sr_id, show zs (s.1 21) 0 = s.1 21 from rfl, sr_id] at key
    refine run X (rt := none) flX9_ok rfl tX9_round_ok 20 [2] ?_
    simp only [go_go, gos_some, ctn_ctn, step, fv0, fv1, fv2, fv3, List.getElem?_cons_zero, List.getElem?_cons_succ, List.set_cons_zero, List.set_cons_succ, List.mem_cons, List.not_mem_nil, or_false, or_self, if_false, if_true, List.length_cons, List.length_nil, lval, upS_sr, sr_same, sr_sr, Nat.reduceEqDiff, not_false_eq_true, Classical.not_not, true_or, or_true, false_or, Nat.zero_add, Nat.add_zero, nI_add, pk_mul, Option.toList_some, Option.toList_none, List.cons_append, List.nil_append, n00, n11, n10, bv0, bv1, bft, bnf, bnt, Nat.reduceAdd, Nat.reduceEqDiff, Nat.reduceMul, Nat.reduceLT, Nat.reduceSub, true_implies, false_implies, not_true_eq_false, not_false_eq_true, true_and, and_true, sr_ne (show ¬ 21 = 20 by decide), sr_ne (show ¬ 20 = 21 by decide), sr_ne (show ¬ 22 = 20 by decide), sr_ne (show ¬ 22 = 21 by decide), sr_ne (show ¬ 20 = 22 by decide), sr_ne (show ¬ 21 = 22 by decide), kX9_round_0, kX9_round_1, kX9_round_2, kX9_round_3, kX9_round_4, kX9_round_7, kX9_round_8, kX9_round_9, kX9_round_12, kX9_round_13, kX9_round_16, kX9_round_17, kX9_round_18, kX9_round_19, kX9_round_20, kX9_round_21, kX9_round_23, kX9_round_24, kX9_round_27, kX9_round_30, kX9_round_33, kX9_round_34, kX9_round_35, kX9_round_38, kX9_round_39, kX9_round_40, kX9_round_41, kX9_round_44, kX9_round_45, kX9_round_48, kX9_round_49, kX9_round_50, kX9_round_51, kX9_round_52, kX9_round_53, kX9_round_54, kX9_round_55, kX9_round_56, kX9_round_57, kX9_round_58, kX9_round_60, kX9_round_61, kX9_round_64, kX9_round_65, kX9_round_66, kX9_round_67, kX9_round_68, kX9_round_69, kX9_round_72, kX9_round_75, kX9_round_76, kX9_round_77, kX9_round_80, kX9_round_81, kX9_round_84, Nat.zero_ne_one, xAld, xArrF, xAst, xBin, xCmp, xDup2, xGet, xGetF, xInc, xLdA, xLdI, xSt, xVret, fX9_33, fX9_9, bI_10, bI_6, cI_0, cI_1, cI_m1, lA_611, fMod, lA_612, lA_613, lA_614, lA_615, lA_616, lA_617, lA_618, lA_619]
    exact key
  refine loopU (N := nn R 1) (I := fun k => JM E mX9_round C 8 0 0 P 2 [some (.ref (aF E 611)), some (.int (bv dir)), some (.int (nI k))] [] (sr (sr s 27 (cpy (s.1 27) (fun _ => nI 0) 0 k)) 21 (zs (s.1 21) k))) ?_ (fun k hk ih => ?_)
  · obtain ⟨z1, z2⟩ := zs_ok hI (nn R 1) (Nat.le_refl _)
    have hSz : Sh ((sr (sr s 27 (cpy (s.1 27) (fun _ => nI 0) 0 (nn R 1))) 21 (zs (s.1 21) (nn R 1))).1 21) (zs R (nn R 1)) := by rw [sr_same]; exact zs_sh hS _
    have hx : ∀ i, i < nn R 1 → cpy (s.1 27) (fun _ => nI 0) 0 (nn R 1) i = nI 0 ∧ 0 ≤ nn R (57 + 13 * i + 5) := fun i hi => ⟨cp0_at hi, Nat.zero_le _⟩
    have hAsk : Ask (sr (sr s 27 (cpy (s.1 27) (fun _ => nI 0) 0 (nn R 1))) 21 (zs (s.1 21) (nn R 1))) (zs R (nn R 1)) (fun _ => 0) := by
      intro i hi
      rw [z2.n1] at hi
      rw [sr_ne (by decide), sr_same]
      exact ⟨(hx i hi).1, Nat.zero_le _⟩
    refine run X (rt := none) flX9_ok rfl tX9_round_ok 20 [2, 39] ?_
    simp only [go_go, gos_some, ctn_ctn, step, fv0, fv1, fv2, fv3, List.getElem?_cons_zero, List.getElem?_cons_succ, List.set_cons_zero, List.set_cons_succ, List.mem_cons, List.not_mem_nil, or_false, or_self, if_false, if_true, List.length_cons, List.length_nil, lval, upS_sr, sr_same, sr_sr, Nat.reduceEqDiff, not_false_eq_true, Classical.not_not, true_or, or_true, false_or, Nat.zero_add, Nat.add_zero, nI_add, pk_mul, Option.toList_some, Option.toList_none, List.cons_append, List.nil_append, n00, n11, n10, bv0, bv1, bft, bnf, bnt, Nat.reduceAdd, Nat.reduceEqDiff, Nat.reduceMul, Nat.reduceLT, Nat.reduceSub, true_implies, false_implies, not_true_eq_false, not_false_eq_true, true_and, and_true, sr_ne (show ¬ 21 = 20 by decide), sr_ne (show ¬ 20 = 21 by decide), sr_ne (show ¬ 22 = 20 by decide), sr_ne (show ¬ 22 = 21 by decide), sr_ne (show ¬ 20 = 22 by decide), sr_ne (show ¬ 21 = 22 by decide), kX9_round_0, kX9_round_1, kX9_round_2, kX9_round_3, kX9_round_4, kX9_round_7, kX9_round_8, kX9_round_9, kX9_round_12, kX9_round_13, kX9_round_16, kX9_round_17, kX9_round_18, kX9_round_19, kX9_round_20, kX9_round_21, kX9_round_23, kX9_round_24, kX9_round_27, kX9_round_30, kX9_round_33, kX9_round_34, kX9_round_35, kX9_round_38, kX9_round_39, kX9_round_40, kX9_round_41, kX9_round_44, kX9_round_45, kX9_round_48, kX9_round_49, kX9_round_50, kX9_round_51, kX9_round_52, kX9_round_53, kX9_round_54, kX9_round_55, kX9_round_56, kX9_round_57, kX9_round_58, kX9_round_60, kX9_round_61, kX9_round_64, kX9_round_65, kX9_round_66, kX9_round_67, kX9_round_68, kX9_round_69, kX9_round_72, kX9_round_75, kX9_round_76, kX9_round_77, kX9_round_80, kX9_round_81, kX9_round_84, Nat.zero_ne_one, xAld, xArrF, xAst, xBin, xCmp, xDup2, xGet, xGetF, xInc, xLdA, xLdI, xSt, xVret, fX9_33, fX9_9, bI_10, bI_6, cI_0, cI_1, cI_m1, lA_611, fMod, lA_612, lA_613, lA_614, lA_615, lA_616, lA_617, lA_618, lA_619, v1, c1, hz1, gC]
    refine cV X  tX9_round_ok kX9_round_35 (m_asker hSz z1 hAsk) vX9_asker lX9_201 lA_611 rfl rfl rfl (Nat.le_of_ble_eq_true rfl) (Nat.le_of_ble_eq_true rfl) ?_
    refine run X (rt := none) flX9_ok rfl tX9_round_ok 20 [2, 39] ?_
    simp only [go_go, gos_some, ctn_ctn, step, fv0, fv1, fv2, fv3, List.getElem?_cons_zero, List.getElem?_cons_succ, List.set_cons_zero, List.set_cons_succ, List.mem_cons, List.not_mem_nil, or_false, or_self, if_false, if_true, List.length_cons, List.length_nil, lval, upS_sr, sr_same, sr_sr, Nat.reduceEqDiff, not_false_eq_true, Classical.not_not, true_or, or_true, false_or, Nat.zero_add, Nat.add_zero, nI_add, pk_mul, Option.toList_some, Option.toList_none, List.cons_append, List.nil_append, n00, n11, n10, bv0, bv1, bft, bnf, bnt, Nat.reduceAdd, Nat.reduceEqDiff, Nat.reduceMul, Nat.reduceLT, Nat.reduceSub, true_implies, false_implies, not_true_eq_false, not_false_eq_true, true_and, and_true, sr_ne (show ¬ 21 = 20 by decide), sr_ne (show ¬ 20 = 21 by decide), sr_ne (show ¬ 22 = 20 by decide), sr_ne (show ¬ 22 = 21 by decide), sr_ne (show ¬ 20 = 22 by decide), sr_ne (show ¬ 21 = 22 by decide), kX9_round_0, kX9_round_1, kX9_round_2, kX9_round_3, kX9_round_4, kX9_round_7, kX9_round_8, kX9_round_9, kX9_round_12, kX9_round_13, kX9_round_16, kX9_round_17, kX9_round_18, kX9_round_19, kX9_round_20, kX9_round_21, kX9_round_23, kX9_round_24, kX9_round_27, kX9_round_30, kX9_round_33, kX9_round_34, kX9_round_35, kX9_round_38, kX9_round_39, kX9_round_40, kX9_round_41, kX9_round_44, kX9_round_45, kX9_round_48, kX9_round_49, kX9_round_50, kX9_round_51, kX9_round_52, kX9_round_53, kX9_round_54, kX9_round_55, kX9_round_56, kX9_round_57, kX9_round_58, kX9_round_60, kX9_round_61, kX9_round_64, kX9_round_65, kX9_round_66, kX9_round_67, kX9_round_68, kX9_round_69, kX9_round_72, kX9_round_75, kX9_round_76, kX9_round_77, kX9_round_80, kX9_round_81, kX9_round_84, Nat.zero_ne_one, xAld, xArrF, xAst, xBin, xCmp, xDup2, xGet, xGetF, xInc, xLdA, xLdI, xSt, xVret, fX9_33, fX9_9, bI_10, bI_6, cI_0, cI_1, cI_m1, lA_611, fMod, lA_612, lA_613, lA_614, lA_615, lA_616, lA_617, lA_618, lA_619]
    refine loop 96 _ _ (zs R (nn R 1)) (fun _ => 0) (zs_sh hS _) z1 z2 hx ?_ rfl
    unfold rem
    have := sm_le (f := fun i => nn (zs R (nn R 1)) (57 + 13 * i + 5) - 0) (b := 4) (nn (zs R (nn R 1)) 1) (fun i hi => by
      have := (z1.m hi).2
      show nn (zs R (nn R 1)) (57 + 13 * i + 5) - 0 ≤ 4
      omega)
    have := z1.c
    show sm (fun i => nn (zs R (nn R 1)) (57 + 13 * i + 5) - 0) (nn (zs R (nn R 1)) 1) ≤ 96
    omega
  · refine run X (rt := none) flX9_ok rfl tX9_round_ok 40 [2] ?_
    simp only [go_go, gos_some, ctn_ctn, step, fv0, fv1, fv2, fv3, List.getElem?_cons_zero, List.getElem?_cons_succ, List.set_cons_zero, List.set_cons_succ, List.mem_cons, List.not_mem_nil, or_false, or_self, if_false, if_true, List.length_cons, List.length_nil, lval, upS_sr, sr_same, sr_sr, Nat.reduceEqDiff, not_false_eq_true, Classical.not_not, true_or, or_true, false_or, Nat.zero_add, Nat.add_zero, nI_add, pk_mul, Option.toList_some, Option.toList_none, List.cons_append, List.nil_append, n00, n11, n10, bv0, bv1, bft, bnf, bnt, Nat.reduceAdd, Nat.reduceEqDiff, Nat.reduceMul, Nat.reduceLT, Nat.reduceSub, true_implies, false_implies, not_true_eq_false, not_false_eq_true, true_and, and_true, sr_ne (show ¬ 21 = 20 by decide), sr_ne (show ¬ 20 = 21 by decide), sr_ne (show ¬ 22 = 20 by decide), sr_ne (show ¬ 22 = 21 by decide), sr_ne (show ¬ 20 = 22 by decide), sr_ne (show ¬ 21 = 22 by decide), kX9_round_0, kX9_round_1, kX9_round_2, kX9_round_3, kX9_round_4, kX9_round_7, kX9_round_8, kX9_round_9, kX9_round_12, kX9_round_13, kX9_round_16, kX9_round_17, kX9_round_18, kX9_round_19, kX9_round_20, kX9_round_21, kX9_round_23, kX9_round_24, kX9_round_27, kX9_round_30, kX9_round_33, kX9_round_34, kX9_round_35, kX9_round_38, kX9_round_39, kX9_round_40, kX9_round_41, kX9_round_44, kX9_round_45, kX9_round_48, kX9_round_49, kX9_round_50, kX9_round_51, kX9_round_52, kX9_round_53, kX9_round_54, kX9_round_55, kX9_round_56, kX9_round_57, kX9_round_58, kX9_round_60, kX9_round_61, kX9_round_64, kX9_round_65, kX9_round_66, kX9_round_67, kX9_round_68, kX9_round_69, kX9_round_72, kX9_round_75, kX9_round_76, kX9_round_77, kX9_round_80, kX9_round_81, kX9_round_84, Nat.zero_ne_one, xAld, xArrF, xAst, xBin, xCmp, xDup2, xGet, xGetF, xInc, xLdA, xLdI, xSt, xVret, fX9_33, fX9_9, bI_10, bI_6, cI_0, cI_1, cI_m1, lA_611, fMod, lA_612, lA_613, lA_614, lA_615, lA_616, lA_617, lA_618, lA_619, v1, c1, hz1, nI_ge hk hNc, vp_in_nI (show k < 24 by omega) (show 24 < 2 ^ 31 by decide), nI31 (show k < 2 ^ 31 by omega), sr_ne (show ¬ 27 = 21 by decide), sr_ne (show ¬ 21 = 27 by decide)]
    refine cV X  tX9_round_ok kX9_round_24 (m_setC (show k < 24 by omega) (show 10 < 13 by decide)) vX9_setC lX9_114 lA_611 rfl rfl rfl (Nat.le_of_ble_eq_true rfl) (Nat.le_of_ble_eq_true rfl) ?_
    refine run X (rt := none) flX9_ok rfl tX9_round_ok 20 [2] ?_
    simp only [go_go, gos_some, ctn_ctn, step, fv0, fv1, fv2, fv3, List.getElem?_cons_zero, List.getElem?_cons_succ, List.set_cons_zero, List.set_cons_succ, List.mem_cons, List.not_mem_nil, or_false, or_self, if_false, if_true, List.length_cons, List.length_nil, lval, upS_sr, sr_same, sr_sr, Nat.reduceEqDiff, not_false_eq_true, Classical.not_not, true_or, or_true, false_or, Nat.zero_add, Nat.add_zero, nI_add, pk_mul, Option.toList_some, Option.toList_none, List.cons_append, List.nil_append, n00, n11, n10, bv0, bv1, bft, bnf, bnt, Nat.reduceAdd, Nat.reduceEqDiff, Nat.reduceMul, Nat.reduceLT, Nat.reduceSub, true_implies, false_implies, not_true_eq_false, not_false_eq_true, true_and, and_true, sr_ne (show ¬ 21 = 20 by decide), sr_ne (show ¬ 20 = 21 by decide), sr_ne (show ¬ 22 = 20 by decide), sr_ne (show ¬ 22 = 21 by decide), sr_ne (show ¬ 20 = 22 by decide), sr_ne (show ¬ 21 = 22 by decide), kX9_round_0, kX9_round_1, kX9_round_2, kX9_round_3, kX9_round_4, kX9_round_7, kX9_round_8, kX9_round_9, kX9_round_12, kX9_round_13, kX9_round_16, kX9_round_17, kX9_round_18, kX9_round_19, kX9_round_20, kX9_round_21, kX9_round_23, kX9_round_24, kX9_round_27, kX9_round_30, kX9_round_33, kX9_round_34, kX9_round_35, kX9_round_38, kX9_round_39, kX9_round_40, kX9_round_41, kX9_round_44, kX9_round_45, kX9_round_48, kX9_round_49, kX9_round_50, kX9_round_51, kX9_round_52, kX9_round_53, kX9_round_54, kX9_round_55, kX9_round_56, kX9_round_57, kX9_round_58, kX9_round_60, kX9_round_61, kX9_round_64, kX9_round_65, kX9_round_66, kX9_round_67, kX9_round_68, kX9_round_69, kX9_round_72, kX9_round_75, kX9_round_76, kX9_round_77, kX9_round_80, kX9_round_81, kX9_round_84, Nat.zero_ne_one, xAld, xArrF, xAst, xBin, xCmp, xDup2, xGet, xGetF, xInc, xLdA, xLdI, xSt, xVret, fX9_33, fX9_9, bI_10, bI_6, cI_0, cI_1, cI_m1, lA_611, fMod, lA_612, lA_613, lA_614, lA_615, lA_616, lA_617, lA_618, lA_619]
    rw [cp0_ur (x := s.1 27) (y := fun _ => nI 0) (k := k)]
    have hst : ∀ x y z : RW, sr (sr (sr (sr s 27 x) 21 z) 27 y) 21 (ur z (57 + 13 * k + 10) (-1)) = sr (sr s 27 y) 21 (ur z (57 + 13 * k + 10) (-1)) := by
      intro x y z
      rw [sr_comm (show ¬ 21 = 27 by decide), sr_sr, sr_sr]
    exact (congrArg (fun t => JM E mX9_round C 8 0 0 P 2 [some (.ref (aF E 611)), some (.int (bv dir)), some (.int (nI (k + 1)))] [] t) (hst _ _ _)).mpr ih
