/-! ===== the reference's calls: giving up, appeals, unstable pairs ===== -/
/-- other choices of one child -/
theorem Inv.chs {R R' : RW} (h : Inv R) {i m : Nat} (hi : i < nn R 1) (e : ∀ k, (k < 57 + 13 * i + 5 ∨ 57 + 13 * i + 10 ≤ k) → R' k = R k) (em : R' (57 + 13 * i + 5) = nI m) (hm : m ≤ 4) (hp : ∀ p, p < m → okP (nn R 0) (R' (57 + 13 * i + 6 + p))) : Inv R' := by
  rw [Inv.alt] at h ⊢
  have hml := @Inv.ml R h
  obtain ⟨⟨h0, h1, h2⟩, hs, hc, hp0⟩ := h
  have l0 := h0.2
  have l1 := h1.2
  have en : ∀ k, (k < 57 + 13 * i + 5 ∨ 57 + 13 * i + 10 ≤ k) → nn R' k = nn R k := fun k hk => by unfold nn; rw [e k hk]
  have nm9 : nn R' (57 + 13 * i + 5) = m := by unfold nn; rw [em, nI31 (by omega)]
  refine ⟨⟨⟨by rw [en 0 (by omega), e 0 (by omega)]; exact h0.1, by rw [en 0 (by omega)]; exact h0.2⟩, ⟨by rw [en 1 (by omega), e 1 (by omega)]; exact h1.1, by rw [en 1 (by omega)]; exact h1.2⟩, ⟨by rw [en 2 (by omega), e 2 (by omega)]; exact h2.1, by rw [en 2 (by omega)]; exact h2.2⟩⟩, fun j w hj hw => ?_, fun i' w hi' hw => ?_, fun i' p hi' hp9 => ?_⟩
  · rw [en 0 (by omega)] at hj
    rw [e _ (by omega)]; exact hs j w hj hw
  · rw [en 1 (by omega)] at hi'
    rw [en 0 (by omega)]
    by_cases e1 : 57 + 13 * i' + w < 57 + 13 * i + 5 ∨ 57 + 13 * i + 10 ≤ 57 + 13 * i' + w
    · rw [e _ e1]; exact hc i' w hi' hw
    · have e2 : i' = i := by omega
      subst e2
      rcases (show w = 5 ∨ w = 6 ∨ w = 7 ∨ w = 8 ∨ w = 9 by omega) with rfl | rfl | rfl | rfl | rfl
      · rw [em]; exact ⟨m, hm, rfl⟩
      all_goals trivial
  · rw [en 1 (by omega)] at hi'
    rw [en 0 (by omega)]
    by_cases e2 : i' = i
    · subst e2
      rw [nm9] at hp9
      exact hp p hp9
    · have := hml hi'
      rw [en _ (by omega)] at hp9
      rw [e _ (by omega)]
      exact hp0 i' p hi' hp9
theorem Sh.chs {r R r' R' : RW} (hS : Sh r R) (h : Inv R) {i m : Nat} (hi : i < nn R 1) (e : ∀ k, (k < 57 + 13 * i + 5 ∨ 57 + 13 * i + 10 ≤ k) → R' k = R k) (e2 : ∀ k, (k < 57 + 13 * i + 5 ∨ 57 + 13 * i + 10 ≤ k) → r' k = r k) (em : R' (57 + 13 * i + 5) = nI m) (em2 : r' (57 + 13 * i + 5) = nI m) (hm : m ≤ 4)
    (hp : ∀ p, p < m → r' (57 + 13 * i + 6 + p) = R' (57 + 13 * i + 6 + p)) : Sh r' R' := by
  have l0 := h.s
  have l1 := h.c
  have hmm := fun i' (hi' : i' < nn R 1) => (h.m hi').2
  obtain ⟨⟨a0, a1, a2⟩, a3, a4, a5, a6, a7⟩ := hS
  have en : ∀ k, (k < 57 + 13 * i + 5 ∨ 57 + 13 * i + 10 ≤ k) → nn R' k = nn R k := fun k hk => by unfold nn; rw [e k hk]
  have nm9 : nn R' (57 + 13 * i + 5) = m := by unfold nn; rw [em, nI31 (by omega)]
  refine ⟨⟨by rw [e 0 (by omega), e2 0 (by omega)]; exact a0, by rw [e 1 (by omega), e2 1 (by omega)]; exact a1, by rw [e 2 (by omega), e2 2 (by omega)]; exact a2⟩, fun j w hj hw => ?_, fun f hf => ?_, fun i' w hi' hw hw2 => ?_, fun i' p hi' hp9 => ?_, fun x w hx hx8 hw => ?_⟩
  · rw [en 0 (by omega)] at hj
    rw [e _ (by omega), e2 _ (by omega)]; exact a3 j w hj hw
  · rw [e _ (by omega), e2 _ (by omega)]; exact a4 f hf
  · rw [en 1 (by omega)] at hi'
    by_cases e3 : 57 + 13 * i' + w < 57 + 13 * i + 5 ∨ 57 + 13 * i + 10 ≤ 57 + 13 * i' + w
    · rw [e _ e3, e2 _ e3]; exact a5 i' w hi' hw hw2
    · have e4 : i' = i := by omega
      subst e4
      rcases (show w = 5 by omega) with rfl
      rw [em, em2]
  · rw [en 1 (by omega)] at hi'
    by_cases e4 : i' = i
    · subst e4
      rw [nm9] at hp9
      exact hp p hp9
    · have := hmm i' hi'
      rw [en _ (by omega)] at hp9
      rw [e _ (by omega), e2 _ (by omega)]; exact a6 i' p hi' hp9
  · rw [en 2 (by omega)] at hx
    rw [e _ (by omega), e2 _ (by omega)]; exact a7 x w hx hx8 hw
def m0 (R : RW) (i : Nat) : RW := ur R (57 + 13 * i + 5) (nI 0)
theorem m0_inv {R : RW} (h : Inv R) {i : Nat} (hi : i < nn R 1) : Inv (m0 R i) := h.chs hi (m := 0) (fun k hk => ur_ne (by omega)) ur_eq (by decide) (fun p hp => absurd hp (Nat.not_lt_zero p))
theorem m0_sh {r R : RW} (hS : Sh r R) (h : Inv R) {i : Nat} (hi : i < nn R 1) : Sh (m0 r i) (m0 R i) := hS.chs h hi (m := 0) (fun k hk => ur_ne (by omega)) (fun k hk => ur_ne (by omega)) ur_eq ur_eq (by decide) (fun p hp => absurd hp (Nat.not_lt_zero p))
def wdR (R : RW) (i : Nat) : RW := m0 (mv R 3 i (-1)) i
def oWithdraw (i : Int32) (a : AS) : OR :=
  if ixB (nn (aR a) 1) i then (if aR a (57 + 13 * nx i + 10) = -1 then (a, nI 0, nI 2) else (wR (puA a) (flN 96 (wdR (aR a) (nx i))).2, nI (flN 96 (wdR (aR a) (nx i))).1, nI 0)) else (a, nI 0, nI 1)
theorem nn1_mv {R : RW} {kind i : Nat} {x : Int32} : nn (mv R kind i x) 1 = nn R 1 := nn_mv (by decide) (by decide) (by omega)
theorem nn0_mv {R : RW} {kind i : Nat} {x : Int32} : nn (mv R kind i x) 0 = nn R 0 := nn_mv (by decide) (by decide) (by omega)
theorem ROk.mv {B : Nat} {R : RW} (h : ROk B R) {kind i : Nat} {x : Int32} (hi : i < nn R 1) (hx : ix9 (nn R 0) x) (hB : B + 1 ≤ 1073741824) : ROk (B + 1) (mv R kind i x) := ⟨h.1.mv hi hx (by have := h.2; omega), by rw [mv_2 (by have := h.2; omega)]; have := h.2; omega⟩
theorem ROk.wd {B : Nat} {R : RW} (h : ROk B R) {i : Nat} (hi : i < nn R 1) (hB : B + 1 ≤ 1073741824) : ROk (B + 1) (wdR R i) := by
  have h1 := h.mv (kind := 3) hi (Or.inl rfl) hB
  exact ⟨m0_inv h1.1 (by rw [nn1_mv]; exact hi), by unfold wdR m0; rw [nn_ur_ne (by omega)]; exact h1.2⟩
theorem m_withdraw {E : WE} {s : ST} {a : AS} {B : Nat} (h : AbsM s a) (hA : AInv B a) (hB : B + 300 ≤ 1073741824) {i : Int32} : SpQ E mX9_withdraw 8 [.ref (aF E 611), .int i] s (some (.int (oWithdraw i a).2.1)) (PM s (oWithdraw i a).1 (oWithdraw i a).2.2) := by
  refine SpQ.of vX9_withdraw.1 [some (.ref (aF E 611)), some (.int i)] rfl (Nat.le_of_ble_eq_true rfl) rfl (fun C P X hP => ?_)
  have hI := hA.inv
  have hs := hI.s
  have hc := hI.c
  refine run X (rt := some .int) flX9_ok rfl tX9_withdraw_ok 20 [] ?_
  simp only [go_go, gos_some, ctn_ctn, step, fv0, fv1, fv2, fv3, List.getElem?_cons_zero, List.getElem?_cons_succ, List.set_cons_zero, List.set_cons_succ, List.mem_cons, List.not_mem_nil, or_false, or_self, if_false, if_true, List.length_cons, List.length_nil, lval, upS_sr, sr_same, sr_sr, Nat.reduceEqDiff, not_false_eq_true, Classical.not_not, true_or, or_true, false_or, Nat.zero_add, Nat.add_zero, nI_add, pk_mul, Option.toList_some, Option.toList_none, List.cons_append, List.nil_append, n00, n11, n10, bv0, bv1, bft, bnf, bnt, Nat.reduceAdd, Nat.reduceEqDiff, Nat.reduceMul, Nat.reduceLT, Nat.reduceSub, true_implies, false_implies, not_true_eq_false, not_false_eq_true, true_and, and_true, sr_ne (show ¬ 21 = 20 by decide), sr_ne (show ¬ 20 = 21 by decide), sr_ne (show ¬ 22 = 20 by decide), sr_ne (show ¬ 22 = 21 by decide), sr_ne (show ¬ 20 = 22 by decide), sr_ne (show ¬ 21 = 22 by decide), kX9_withdraw_0, kX9_withdraw_1, kX9_withdraw_2, kX9_withdraw_3, kX9_withdraw_6, kX9_withdraw_9, kX9_withdraw_10, kX9_withdraw_13, kX9_withdraw_14, kX9_withdraw_15, kX9_withdraw_17, kX9_withdraw_20, kX9_withdraw_21, kX9_withdraw_24, kX9_withdraw_25, kX9_withdraw_28, kX9_withdraw_29, kX9_withdraw_32, kX9_withdraw_33, kX9_withdraw_36, kX9_withdraw_39, kX9_withdraw_40, kX9_withdraw_41, kX9_withdraw_42, kX9_withdraw_45, kX9_withdraw_46, kX9_withdraw_47, kX9_withdraw_48, kX9_withdraw_49, kX9_withdraw_52, kX9_withdraw_53, kX9_withdraw_54, kX9_withdraw_55, kX9_withdraw_56, kX9_withdraw_59, kX9_withdraw_60, kX9_withdraw_63, xCmp, xGet, xGetF, xIf, xLdA, xLdI, xPut, xPutF, xRet, fX9_39, bI_10, cI_0, cI_1, cI_2, cI_3, cI_5, cI_m1, lA_611, fMod, lA_612, lA_613, lA_614, lA_615, lA_616, lA_617, lA_618, lA_619]
  refine cV X  tX9_withdraw_ok kX9_withdraw_3 (m_isChild h.1 hI) vX9_isChild lX9_192 lA_611 rfl rfl rfl (Nat.le_of_ble_eq_true rfl) (Nat.le_of_ble_eq_true rfl) ?_
  cases c1 : ixB (nn (aR a) 1) i with
  | false =>
    rw [show oWithdraw i a = (a, nI 0, nI 1) by simp [oWithdraw, c1]] at hP
    refine run X (rt := some .int) flX9_ok rfl tX9_withdraw_ok 20 [] ?_
    simp only [go_go, gos_some, ctn_ctn, step, fv0, fv1, fv2, fv3, List.getElem?_cons_zero, List.getElem?_cons_succ, List.set_cons_zero, List.set_cons_succ, List.mem_cons, List.not_mem_nil, or_false, or_self, if_false, if_true, List.length_cons, List.length_nil, lval, upS_sr, sr_same, sr_sr, Nat.reduceEqDiff, not_false_eq_true, Classical.not_not, true_or, or_true, false_or, Nat.zero_add, Nat.add_zero, nI_add, pk_mul, Option.toList_some, Option.toList_none, List.cons_append, List.nil_append, n00, n11, n10, bv0, bv1, bft, bnf, bnt, Nat.reduceAdd, Nat.reduceEqDiff, Nat.reduceMul, Nat.reduceLT, Nat.reduceSub, true_implies, false_implies, not_true_eq_false, not_false_eq_true, true_and, and_true, sr_ne (show ¬ 21 = 20 by decide), sr_ne (show ¬ 20 = 21 by decide), sr_ne (show ¬ 22 = 20 by decide), sr_ne (show ¬ 22 = 21 by decide), sr_ne (show ¬ 20 = 22 by decide), sr_ne (show ¬ 21 = 22 by decide), kX9_withdraw_0, kX9_withdraw_1, kX9_withdraw_2, kX9_withdraw_3, kX9_withdraw_6, kX9_withdraw_9, kX9_withdraw_10, kX9_withdraw_13, kX9_withdraw_14, kX9_withdraw_15, kX9_withdraw_17, kX9_withdraw_20, kX9_withdraw_21, kX9_withdraw_24, kX9_withdraw_25, kX9_withdraw_28, kX9_withdraw_29, kX9_withdraw_32, kX9_withdraw_33, kX9_withdraw_36, kX9_withdraw_39, kX9_withdraw_40, kX9_withdraw_41, kX9_withdraw_42, kX9_withdraw_45, kX9_withdraw_46, kX9_withdraw_47, kX9_withdraw_48, kX9_withdraw_49, kX9_withdraw_52, kX9_withdraw_53, kX9_withdraw_54, kX9_withdraw_55, kX9_withdraw_56, kX9_withdraw_59, kX9_withdraw_60, kX9_withdraw_63, xCmp, xGet, xGetF, xIf, xLdA, xLdI, xPut, xPutF, xRet, fX9_39, bI_10, cI_0, cI_1, cI_2, cI_3, cI_5, cI_m1, lA_611, fMod, lA_612, lA_613, lA_614, lA_615, lA_616, lA_617, lA_618, lA_619, putT, c1, Bool.false_eq_true, ur_eq, n10]
    exact hP _ (PM.thr h)
  | true =>
    obtain ⟨k, hk, rfl⟩ := ixB_of (by omega) c1
    refine run X (rt := some .int) flX9_ok rfl tX9_withdraw_ok 20 [] ?_
    simp only [go_go, gos_some, ctn_ctn, step, fv0, fv1, fv2, fv3, List.getElem?_cons_zero, List.getElem?_cons_succ, List.set_cons_zero, List.set_cons_succ, List.mem_cons, List.not_mem_nil, or_false, or_self, if_false, if_true, List.length_cons, List.length_nil, lval, upS_sr, sr_same, sr_sr, Nat.reduceEqDiff, not_false_eq_true, Classical.not_not, true_or, or_true, false_or, Nat.zero_add, Nat.add_zero, nI_add, pk_mul, Option.toList_some, Option.toList_none, List.cons_append, List.nil_append, n00, n11, n10, bv0, bv1, bft, bnf, bnt, Nat.reduceAdd, Nat.reduceEqDiff, Nat.reduceMul, Nat.reduceLT, Nat.reduceSub, true_implies, false_implies, not_true_eq_false, not_false_eq_true, true_and, and_true, sr_ne (show ¬ 21 = 20 by decide), sr_ne (show ¬ 20 = 21 by decide), sr_ne (show ¬ 22 = 20 by decide), sr_ne (show ¬ 22 = 21 by decide), sr_ne (show ¬ 20 = 22 by decide), sr_ne (show ¬ 21 = 22 by decide), kX9_withdraw_0, kX9_withdraw_1, kX9_withdraw_2, kX9_withdraw_3, kX9_withdraw_6, kX9_withdraw_9, kX9_withdraw_10, kX9_withdraw_13, kX9_withdraw_14, kX9_withdraw_15, kX9_withdraw_17, kX9_withdraw_20, kX9_withdraw_21, kX9_withdraw_24, kX9_withdraw_25, kX9_withdraw_28, kX9_withdraw_29, kX9_withdraw_32, kX9_withdraw_33, kX9_withdraw_36, kX9_withdraw_39, kX9_withdraw_40, kX9_withdraw_41, kX9_withdraw_42, kX9_withdraw_45, kX9_withdraw_46, kX9_withdraw_47, kX9_withdraw_48, kX9_withdraw_49, kX9_withdraw_52, kX9_withdraw_53, kX9_withdraw_54, kX9_withdraw_55, kX9_withdraw_56, kX9_withdraw_59, kX9_withdraw_60, kX9_withdraw_63, xCmp, xGet, xGetF, xIf, xLdA, xLdI, xPut, xPutF, xRet, fX9_39, bI_10, cI_0, cI_1, cI_2, cI_3, cI_5, cI_m1, lA_611, fMod, lA_612, lA_613, lA_614, lA_615, lA_616, lA_617, lA_618, lA_619, c1, Bool.true_eq_false]
    refine cV X  tX9_withdraw_ok kX9_withdraw_17 (m_c h.1 hI hk 10 (by decide) (by decide)) vX9_c lX9_49 lA_611 rfl rfl rfl (Nat.le_of_ble_eq_true rfl) (Nat.le_of_ble_eq_true rfl) ?_
    refine run X (rt := some .int) flX9_ok rfl tX9_withdraw_ok 20 [41] ?_
    simp only [go_go, gos_some, ctn_ctn, step, fv0, fv1, fv2, fv3, List.getElem?_cons_zero, List.getElem?_cons_succ, List.set_cons_zero, List.set_cons_succ, List.mem_cons, List.not_mem_nil, or_false, or_self, if_false, if_true, List.length_cons, List.length_nil, lval, upS_sr, sr_same, sr_sr, Nat.reduceEqDiff, not_false_eq_true, Classical.not_not, true_or, or_true, false_or, Nat.zero_add, Nat.add_zero, nI_add, pk_mul, Option.toList_some, Option.toList_none, List.cons_append, List.nil_append, n00, n11, n10, bv0, bv1, bft, bnf, bnt, Nat.reduceAdd, Nat.reduceEqDiff, Nat.reduceMul, Nat.reduceLT, Nat.reduceSub, true_implies, false_implies, not_true_eq_false, not_false_eq_true, true_and, and_true, sr_ne (show ¬ 21 = 20 by decide), sr_ne (show ¬ 20 = 21 by decide), sr_ne (show ¬ 22 = 20 by decide), sr_ne (show ¬ 22 = 21 by decide), sr_ne (show ¬ 20 = 22 by decide), sr_ne (show ¬ 21 = 22 by decide), kX9_withdraw_0, kX9_withdraw_1, kX9_withdraw_2, kX9_withdraw_3, kX9_withdraw_6, kX9_withdraw_9, kX9_withdraw_10, kX9_withdraw_13, kX9_withdraw_14, kX9_withdraw_15, kX9_withdraw_17, kX9_withdraw_20, kX9_withdraw_21, kX9_withdraw_24, kX9_withdraw_25, kX9_withdraw_28, kX9_withdraw_29, kX9_withdraw_32, kX9_withdraw_33, kX9_withdraw_36, kX9_withdraw_39, kX9_withdraw_40, kX9_withdraw_41, kX9_withdraw_42, kX9_withdraw_45, kX9_withdraw_46, kX9_withdraw_47, kX9_withdraw_48, kX9_withdraw_49, kX9_withdraw_52, kX9_withdraw_53, kX9_withdraw_54, kX9_withdraw_55, kX9_withdraw_56, kX9_withdraw_59, kX9_withdraw_60, kX9_withdraw_63, xCmp, xGet, xGetF, xIf, xLdA, xLdI, xPut, xPutF, xRet, fX9_39, bI_10, cI_0, cI_1, cI_2, cI_3, cI_5, cI_m1, lA_611, fMod, lA_612, lA_613, lA_614, lA_615, lA_616, lA_617, lA_618, lA_619, putT, ur_eq, n20]
    refine ⟨fun c2 => ?_, fun c2 => ?_⟩
    rotate_left
    · rw [show oWithdraw (nI k) a = (a, nI 0, nI 2) by simp [oWithdraw, c1, nx_nI (show k < 2 ^ 31 by omega), c2]] at hP
      exact hP _ (PM.thr h)
    rw [show oWithdraw (nI k) a = (wR (puA a) (flN 96 (wdR (aR a) k)).2, nI (flN 96 (wdR (aR a) k)).1, nI 0) by simp [oWithdraw, c1, nx_nI (show k < 2 ^ 31 by omega), c2]] at hP
    have h1 := PM.thr h (t := nI 0)
    generalize sr s 20 (ur (s.1 20) 2 (nI 0)) = s1 at h1 ⊢
    refine run X (rt := some .int) flX9_ok rfl tX9_withdraw_ok 20 [] ?_
    simp only [go_go, gos_some, ctn_ctn, step, fv0, fv1, fv2, fv3, List.getElem?_cons_zero, List.getElem?_cons_succ, List.set_cons_zero, List.set_cons_succ, List.mem_cons, List.not_mem_nil, or_false, or_self, if_false, if_true, List.length_cons, List.length_nil, lval, upS_sr, sr_same, sr_sr, Nat.reduceEqDiff, not_false_eq_true, Classical.not_not, true_or, or_true, false_or, Nat.zero_add, Nat.add_zero, nI_add, pk_mul, Option.toList_some, Option.toList_none, List.cons_append, List.nil_append, n00, n11, n10, bv0, bv1, bft, bnf, bnt, Nat.reduceAdd, Nat.reduceEqDiff, Nat.reduceMul, Nat.reduceLT, Nat.reduceSub, true_implies, false_implies, not_true_eq_false, not_false_eq_true, true_and, and_true, sr_ne (show ¬ 21 = 20 by decide), sr_ne (show ¬ 20 = 21 by decide), sr_ne (show ¬ 22 = 20 by decide), sr_ne (show ¬ 22 = 21 by decide), sr_ne (show ¬ 20 = 22 by decide), sr_ne (show ¬ 21 = 22 by decide), kX9_withdraw_0, kX9_withdraw_1, kX9_withdraw_2, kX9_withdraw_3, kX9_withdraw_6, kX9_withdraw_9, kX9_withdraw_10, kX9_withdraw_13, kX9_withdraw_14, kX9_withdraw_15, kX9_withdraw_17, kX9_withdraw_20, kX9_withdraw_21, kX9_withdraw_24, kX9_withdraw_25, kX9_withdraw_28, kX9_withdraw_29, kX9_withdraw_32, kX9_withdraw_33, kX9_withdraw_36, kX9_withdraw_39, kX9_withdraw_40, kX9_withdraw_41, kX9_withdraw_42, kX9_withdraw_45, kX9_withdraw_46, kX9_withdraw_47, kX9_withdraw_48, kX9_withdraw_49, kX9_withdraw_52, kX9_withdraw_53, kX9_withdraw_54, kX9_withdraw_55, kX9_withdraw_56, kX9_withdraw_59, kX9_withdraw_60, kX9_withdraw_63, xCmp, xGet, xGetF, xIf, xLdA, xLdI, xPut, xPutF, xRet, fX9_39, bI_10, cI_0, cI_1, cI_2, cI_3, cI_5, cI_m1, lA_611, fMod, lA_612, lA_613, lA_614, lA_615, lA_616, lA_617, lA_618, lA_619]
    refine cQ X  tX9_withdraw_ok kX9_withdraw_42 (m_remember h1.2.2 hA) vX9_remember lX9_85 lA_611 rfl rfl rfl (Nat.le_of_ble_eq_true rfl) (Nat.le_of_ble_eq_true rfl) ?_
    intro s2 h2
    have h3 := h1.ft h2
    refine run X (rt := some .int) flX9_ok rfl tX9_withdraw_ok 20 [] ?_
    simp only [go_go, gos_some, ctn_ctn, step, fv0, fv1, fv2, fv3, List.getElem?_cons_zero, List.getElem?_cons_succ, List.set_cons_zero, List.set_cons_succ, List.mem_cons, List.not_mem_nil, or_false, or_self, if_false, if_true, List.length_cons, List.length_nil, lval, upS_sr, sr_same, sr_sr, Nat.reduceEqDiff, not_false_eq_true, Classical.not_not, true_or, or_true, false_or, Nat.zero_add, Nat.add_zero, nI_add, pk_mul, Option.toList_some, Option.toList_none, List.cons_append, List.nil_append, n00, n11, n10, bv0, bv1, bft, bnf, bnt, Nat.reduceAdd, Nat.reduceEqDiff, Nat.reduceMul, Nat.reduceLT, Nat.reduceSub, true_implies, false_implies, not_true_eq_false, not_false_eq_true, true_and, and_true, sr_ne (show ¬ 21 = 20 by decide), sr_ne (show ¬ 20 = 21 by decide), sr_ne (show ¬ 22 = 20 by decide), sr_ne (show ¬ 22 = 21 by decide), sr_ne (show ¬ 20 = 22 by decide), sr_ne (show ¬ 21 = 22 by decide), kX9_withdraw_0, kX9_withdraw_1, kX9_withdraw_2, kX9_withdraw_3, kX9_withdraw_6, kX9_withdraw_9, kX9_withdraw_10, kX9_withdraw_13, kX9_withdraw_14, kX9_withdraw_15, kX9_withdraw_17, kX9_withdraw_20, kX9_withdraw_21, kX9_withdraw_24, kX9_withdraw_25, kX9_withdraw_28, kX9_withdraw_29, kX9_withdraw_32, kX9_withdraw_33, kX9_withdraw_36, kX9_withdraw_39, kX9_withdraw_40, kX9_withdraw_41, kX9_withdraw_42, kX9_withdraw_45, kX9_withdraw_46, kX9_withdraw_47, kX9_withdraw_48, kX9_withdraw_49, kX9_withdraw_52, kX9_withdraw_53, kX9_withdraw_54, kX9_withdraw_55, kX9_withdraw_56, kX9_withdraw_59, kX9_withdraw_60, kX9_withdraw_63, xCmp, xGet, xGetF, xIf, xLdA, xLdI, xPut, xPutF, xRet, fX9_39, bI_10, cI_0, cI_1, cI_2, cI_3, cI_5, cI_m1, lA_611, fMod, lA_612, lA_613, lA_614, lA_615, lA_616, lA_617, lA_618, lA_619]
    refine cQ X  tX9_withdraw_ok kX9_withdraw_49 (m_moves (kind := 3) h3.shp hI hk) vX9_moves lX9_124 lA_611 rfl rfl rfl (Nat.le_of_ble_eq_true rfl) (Nat.le_of_ble_eq_true rfl) ?_
    intro s4 h5
    have h6 := h3.fill h5
    have hR1 := hA.1.mv (kind := 3) (i := k) (x := -1) hk (Or.inl rfl) (by omega)
    have hk1 : k < nn (mv (aR a) 3 k (-1)) 1 := by rw [nn1_mv]; exact hk
    refine run X (rt := some .int) flX9_ok rfl tX9_withdraw_ok 20 [] ?_
    simp only [go_go, gos_some, ctn_ctn, step, fv0, fv1, fv2, fv3, List.getElem?_cons_zero, List.getElem?_cons_succ, List.set_cons_zero, List.set_cons_succ, List.mem_cons, List.not_mem_nil, or_false, or_self, if_false, if_true, List.length_cons, List.length_nil, lval, upS_sr, sr_same, sr_sr, Nat.reduceEqDiff, not_false_eq_true, Classical.not_not, true_or, or_true, false_or, Nat.zero_add, Nat.add_zero, nI_add, pk_mul, Option.toList_some, Option.toList_none, List.cons_append, List.nil_append, n00, n11, n10, bv0, bv1, bft, bnf, bnt, Nat.reduceAdd, Nat.reduceEqDiff, Nat.reduceMul, Nat.reduceLT, Nat.reduceSub, true_implies, false_implies, not_true_eq_false, not_false_eq_true, true_and, and_true, sr_ne (show ¬ 21 = 20 by decide), sr_ne (show ¬ 20 = 21 by decide), sr_ne (show ¬ 22 = 20 by decide), sr_ne (show ¬ 22 = 21 by decide), sr_ne (show ¬ 20 = 22 by decide), sr_ne (show ¬ 21 = 22 by decide), kX9_withdraw_0, kX9_withdraw_1, kX9_withdraw_2, kX9_withdraw_3, kX9_withdraw_6, kX9_withdraw_9, kX9_withdraw_10, kX9_withdraw_13, kX9_withdraw_14, kX9_withdraw_15, kX9_withdraw_17, kX9_withdraw_20, kX9_withdraw_21, kX9_withdraw_24, kX9_withdraw_25, kX9_withdraw_28, kX9_withdraw_29, kX9_withdraw_32, kX9_withdraw_33, kX9_withdraw_36, kX9_withdraw_39, kX9_withdraw_40, kX9_withdraw_41, kX9_withdraw_42, kX9_withdraw_45, kX9_withdraw_46, kX9_withdraw_47, kX9_withdraw_48, kX9_withdraw_49, kX9_withdraw_52, kX9_withdraw_53, kX9_withdraw_54, kX9_withdraw_55, kX9_withdraw_56, kX9_withdraw_59, kX9_withdraw_60, kX9_withdraw_63, xCmp, xGet, xGetF, xIf, xLdA, xLdI, xPut, xPutF, xRet, fX9_39, bI_10, cI_0, cI_1, cI_2, cI_3, cI_5, cI_m1, lA_611, fMod, lA_612, lA_613, lA_614, lA_615, lA_616, lA_617, lA_618, lA_619]
    refine cV X  tX9_withdraw_ok kX9_withdraw_56 (m_setC (show k < 24 by omega) (show 5 < 13 by decide)) vX9_setC lX9_114 lA_611 rfl rfl rfl (Nat.le_of_ble_eq_true rfl) (Nat.le_of_ble_eq_true rfl) ?_
    refine run X (rt := some .int) flX9_ok rfl tX9_withdraw_ok 20 [] ?_
    simp only [go_go, gos_some, ctn_ctn, step, fv0, fv1, fv2, fv3, List.getElem?_cons_zero, List.getElem?_cons_succ, List.set_cons_zero, List.set_cons_succ, List.mem_cons, List.not_mem_nil, or_false, or_self, if_false, if_true, List.length_cons, List.length_nil, lval, upS_sr, sr_same, sr_sr, Nat.reduceEqDiff, not_false_eq_true, Classical.not_not, true_or, or_true, false_or, Nat.zero_add, Nat.add_zero, nI_add, pk_mul, Option.toList_some, Option.toList_none, List.cons_append, List.nil_append, n00, n11, n10, bv0, bv1, bft, bnf, bnt, Nat.reduceAdd, Nat.reduceEqDiff, Nat.reduceMul, Nat.reduceLT, Nat.reduceSub, true_implies, false_implies, not_true_eq_false, not_false_eq_true, true_and, and_true, sr_ne (show ¬ 21 = 20 by decide), sr_ne (show ¬ 20 = 21 by decide), sr_ne (show ¬ 22 = 20 by decide), sr_ne (show ¬ 22 = 21 by decide), sr_ne (show ¬ 20 = 22 by decide), sr_ne (show ¬ 21 = 22 by decide), kX9_withdraw_0, kX9_withdraw_1, kX9_withdraw_2, kX9_withdraw_3, kX9_withdraw_6, kX9_withdraw_9, kX9_withdraw_10, kX9_withdraw_13, kX9_withdraw_14, kX9_withdraw_15, kX9_withdraw_17, kX9_withdraw_20, kX9_withdraw_21, kX9_withdraw_24, kX9_withdraw_25, kX9_withdraw_28, kX9_withdraw_29, kX9_withdraw_32, kX9_withdraw_33, kX9_withdraw_36, kX9_withdraw_39, kX9_withdraw_40, kX9_withdraw_41, kX9_withdraw_42, kX9_withdraw_45, kX9_withdraw_46, kX9_withdraw_47, kX9_withdraw_48, kX9_withdraw_49, kX9_withdraw_52, kX9_withdraw_53, kX9_withdraw_54, kX9_withdraw_55, kX9_withdraw_56, kX9_withdraw_59, kX9_withdraw_60, kX9_withdraw_63, xCmp, xGet, xGetF, xIf, xLdA, xLdI, xPut, xPutF, xRet, fX9_39, bI_10, cI_0, cI_1, cI_2, cI_3, cI_5, cI_m1, lA_611, fMod, lA_612, lA_613, lA_614, lA_615, lA_616, lA_617, lA_618, lA_619]
    have h7 := h6.row (m0_sh h6.2.2.1 hR1.1 hk1)
    generalize hs5 : sr s4 21 (ur (s4.1 21) (57 + 13 * k + 5) (nI 0)) = s5
    rw [show sr s4 21 (m0 (s4.1 21) k) = s5 from hs5] at h7
    refine cQ X  tX9_withdraw_ok kX9_withdraw_60 (m_fl h7 (hA.1.wd hk (by omega)) (by omega)) vX9_fills lX9_135 lA_611 rfl rfl rfl (Nat.le_of_ble_eq_true rfl) (Nat.le_of_ble_eq_true rfl) ?_
    intro s6 h8
    refine run X (rt := some .int) flX9_ok rfl tX9_withdraw_ok 20 [] ?_
    simp only [go_go, gos_some, ctn_ctn, step, fv0, fv1, fv2, fv3, List.getElem?_cons_zero, List.getElem?_cons_succ, List.set_cons_zero, List.set_cons_succ, List.mem_cons, List.not_mem_nil, or_false, or_self, if_false, if_true, List.length_cons, List.length_nil, lval, upS_sr, sr_same, sr_sr, Nat.reduceEqDiff, not_false_eq_true, Classical.not_not, true_or, or_true, false_or, Nat.zero_add, Nat.add_zero, nI_add, pk_mul, Option.toList_some, Option.toList_none, List.cons_append, List.nil_append, n00, n11, n10, bv0, bv1, bft, bnf, bnt, Nat.reduceAdd, Nat.reduceEqDiff, Nat.reduceMul, Nat.reduceLT, Nat.reduceSub, true_implies, false_implies, not_true_eq_false, not_false_eq_true, true_and, and_true, sr_ne (show ¬ 21 = 20 by decide), sr_ne (show ¬ 20 = 21 by decide), sr_ne (show ¬ 22 = 20 by decide), sr_ne (show ¬ 22 = 21 by decide), sr_ne (show ¬ 20 = 22 by decide), sr_ne (show ¬ 21 = 22 by decide), kX9_withdraw_0, kX9_withdraw_1, kX9_withdraw_2, kX9_withdraw_3, kX9_withdraw_6, kX9_withdraw_9, kX9_withdraw_10, kX9_withdraw_13, kX9_withdraw_14, kX9_withdraw_15, kX9_withdraw_17, kX9_withdraw_20, kX9_withdraw_21, kX9_withdraw_24, kX9_withdraw_25, kX9_withdraw_28, kX9_withdraw_29, kX9_withdraw_32, kX9_withdraw_33, kX9_withdraw_36, kX9_withdraw_39, kX9_withdraw_40, kX9_withdraw_41, kX9_withdraw_42, kX9_withdraw_45, kX9_withdraw_46, kX9_withdraw_47, kX9_withdraw_48, kX9_withdraw_49, kX9_withdraw_52, kX9_withdraw_53, kX9_withdraw_54, kX9_withdraw_55, kX9_withdraw_56, kX9_withdraw_59, kX9_withdraw_60, kX9_withdraw_63, xCmp, xGet, xGetF, xIf, xLdA, xLdI, xPut, xPutF, xRet, fX9_39, bI_10, cI_0, cI_1, cI_2, cI_3, cI_5, cI_m1, lA_611, fMod, lA_612, lA_613, lA_614, lA_615, lA_616, lA_617, lA_618, lA_619]
    exact hP _ (h7.fill h8)
