/-! ===== the class: its state; the history ===== -/
def AbsC (s : ST) (a : AS) : Prop := Sh (s.1 0) (aR a) ∧ (∃ x, x < 8 ∧ s.1 10 3 = nI x ∧ s.1 10 4 = nI (aN a) ∧ ∀ k, k < aN a → Sh (s.1 (2 + (x + 8 - aN a + k) % 8)) (aP a k)) ∧
  (s.1 10 0 = bv (aV a) ∧ (aV a = true → Sh (s.1 1) (aW a))) ∧ (s.1 10 1 = aG a ∧ s.1 10 2 = aE a) ∧ (s.1 10 5 = nI (aT a) ∧ ∀ k, k < aT a → s.1 15 k = aI a k)
/-- the class's numbers alone have changed -/
def frC (s s' : ST) : Prop := s'.2 = s.2 ∧ ∀ r, 20 ≤ r → s'.1 r = s.1 r
theorem frC.rf {s : ST} : frC s s := ⟨rfl, fun _ _ => rfl⟩
theorem frC.tr {s s1 s2 : ST} (h : frC s s1) (h2 : frC s1 s2) : frC s s2 := ⟨h2.1.trans h.1, fun r hr => (h2.2 r hr).trans (h.2 r hr)⟩
theorem frC.sr {s : ST} {r : Nat} {x : RW} (h : r < 20) : frC s (sr s r x) := ⟨rfl, fun r' hr => sr_ne (by omega)⟩
def PC (s : ST) (a' : AS) : ST → Prop := fun s' => frC s s' ∧ AbsC s' a'
theorem PC.rf {s : ST} {a : AS} (h : AbsC s a) : PC s a s := ⟨frC.rf, h⟩
theorem PC.tr {s s1 s2 : ST} {a a' : AS} (h : PC s a s1) (h2 : PC s1 a' s2) : PC s a' s2 := ⟨h.1.tr h2.1, h2.2⟩
theorem AbsC.row {s : ST} {a : AS} (h : AbsC s a) {r' R' : RW} (hS : Sh r' R') : AbsC (sr s 0 r') (wR a R') := by
  obtain ⟨h1, ⟨x, h2, h3, h4, h5⟩, h6, h7, h8⟩ := h
  unfold AbsC
  rw [sr_same, sr_ne (show ¬ 10 = 0 by decide), sr_ne (show ¬ 1 = 0 by decide), sr_ne (show ¬ 15 = 0 by decide)]
  exact ⟨hS, ⟨x, h2, h3, h4, fun k hk => by rw [sr_ne (by omega)]; exact h5 k hk⟩, h6, h7, h8⟩
theorem PC.row {s s1 : ST} {a : AS} (h : PC s a s1) {r' R' : RW} (hS : Sh r' R') : PC s (wR a R') (sr s1 0 r') := ⟨h.1.tr (frC.sr (by decide)), h.2.row hS⟩
theorem PC.q0 {s s1 s2 : ST} {a : AS} {R : RW} (h : PC s a s1) (h2 : Q0 s1 R s2) : PC s (wR a R) s2 := by
  obtain ⟨r, rfl, hS⟩ := h2
  exact h.row hS
theorem PC.shp {s s1 : ST} {a : AS} (h : PC s (puA a) s1) : Sh (s1.1 0) (aR a) := by have := h.2.1; rw [aR_pu] at this; exact this
/-- rows and scalars that the state doesn't show -/
theorem AbsC.far {s s1 : ST} {a : AS} (h : AbsC s a) (h1 : ∀ r, (r < 10 ∨ r = 15) → s1.1 r = s.1 r) (h2 : ∀ j, j < 6 → s1.1 10 j = s.1 10 j) : AbsC s1 a := by
  obtain ⟨g1, ⟨x, g2, g3, g4, g5⟩, g6, g7, g8⟩ := h
  unfold AbsC
  rw [h1 0 (by decide), h1 1 (by decide), h1 15 (by decide), h2 0 (by decide), h2 1 (by decide), h2 2 (by decide), h2 5 (by decide)]
  exact ⟨g1, ⟨x, g2, by rw [h2 3 (by decide)]; exact g3, by rw [h2 4 (by decide)]; exact g4, fun k hk => by rw [h1 _ (by omega)]; exact g5 k hk⟩, g6, g7, g8⟩
theorem PC.far {s s1 s2 : ST} {a : AS} (h : PC s a s1) (h0 : frC s1 s2) (h1 : ∀ r, (r < 10 ∨ r = 15) → s2.1 r = s1.1 r) (h2 : ∀ j, j < 6 → s2.1 10 j = s1.1 10 j) : PC s a s2 := ⟨h.1.tr h0, h.2.far h1 h2⟩
theorem vp8 {x : Nat} (h : x < 8) : vp_in (nI x) 8 := vp_in_nI h (by decide)
theorem n8_0 : ¬ nI 8 = 0 := by decide
theorem iRem_8 {x : Nat} (h : x < 2 ^ 20) : iRem (nI x) (nI 8) = nI (x % 8) := by
  have h1 : (iRem (nI x) (nI 8)).toInt = (nI x).toInt.tmod (nI 8).toInt := rem_toInt (nI x) (nI 8)
  apply Int32.toInt_inj.mp
  rw [h1, nI_toInt (by omega), nI_toInt (by decide), nI_toInt (by omega)]
  show ((x : Int)).tmod ((8 : Nat) : Int) = ((x % 8 : Nat) : Int)
  rw [Int.tmod_eq_emod_of_nonneg (by omega)]
  omega
/-- what the text's reader keeps is as it was -/
def txS (s s' : ST) : Prop := (∀ r, 11 ≤ r → s'.1 r = s.1 r) ∧ ∀ j, 5 ≤ j → s'.1 10 j = s.1 10 j
set_option maxRecDepth 10000 in
theorem c_pushG {E : WE} {s : ST} {a : AS} {B : Nat} (h : AbsC s a) (hA : AInv B a) (Q : ST → Prop) (hQ : ∀ s', PC s (puA a) s' → txS s s' → Q s') : SpQ E mX4_push 4 [.ref (aF E 121), .ref (aD E 0)] s none Q := by
  refine SpQ.of vX4_push.1 [some (.ref (aF E 121)), some (.ref (aD E 0))] rfl (Nat.le_of_ble_eq_true rfl) rfl (fun C P X hP => ?_)
  obtain ⟨h1, ⟨x, h2, h3, h4, h5⟩, h6, h7, h8⟩ := h
  obtain ⟨g1, ⟨g2, g3⟩, -⟩ := hA
  refine run X (rt := none) flX4_ok rfl tX4_push_ok 20 [] ?_
  simp only [go_go, gos_some, ctn_ctn, step, fv0, fv1, fv2, fv3, List.getElem?_cons_zero, List.getElem?_cons_succ, List.set_cons_zero, List.set_cons_succ, List.mem_cons, List.not_mem_nil, or_false, or_self, if_false, if_true, List.length_cons, List.length_nil, lval, upS_sr, sr_same, sr_sr, Nat.reduceEqDiff, not_false_eq_true, Classical.not_not, true_or, or_true, false_or, Nat.zero_add, Nat.add_zero, nI_add, pk_mul, Option.toList_some, Option.toList_none, List.cons_append, List.nil_append, n00, n11, n10, bv0, bv1, bft, bnf, bnt, Nat.reduceAdd, Nat.reduceEqDiff, Nat.reduceMul, Nat.reduceLT, Nat.reduceSub, true_implies, false_implies, not_true_eq_false, not_false_eq_true, true_and, and_true, sr_ne (show ¬ 21 = 20 by decide), sr_ne (show ¬ 20 = 21 by decide), sr_ne (show ¬ 22 = 20 by decide), sr_ne (show ¬ 22 = 21 by decide), sr_ne (show ¬ 20 = 22 by decide), sr_ne (show ¬ 21 = 22 by decide), kX4_push_0, kX4_push_1, kX4_push_4, kX4_push_5, kX4_push_8, kX4_push_9, kX4_push_10, kX4_push_13, kX4_push_14, kX4_push_15, kX4_push_18, kX4_push_19, kX4_push_20, kX4_push_22, kX4_push_23, kX4_push_26, kX4_push_27, kX4_push_28, kX4_push_31, kX4_push_32, kX4_push_33, kX4_push_35, kX4_push_38, kX4_push_41, xBin, xGet, xGetF, xLdA, xPut, xPutF, xQld, xQldF, xRem, xVret, fX4_11, fX4_18, fX4_26, bI_8, cI_1, lA_121, fHis, lA_122, h3, vp8 h2, nI31 (show x < 2 ^ 31 by omega)]
  refine cQ X  tX4_push_ok kX4_push_10 (c_dCopy (d := 2 + x) (e := 0) (by omega) (by decide) (by omega) h1 g1.1) vX3_copyFrom lX4_22 (lA_D (show 2 + x < 10 by omega)) rfl rfl rfl (Nat.le_of_ble_eq_true rfl) (Nat.le_of_ble_eq_true rfl) ?_
  rintro _ ⟨r, rfl, hS⟩
  have h3' : (sr s (2 + x) r).1 10 = s.1 10 := sr_ne (by omega)
  refine run X (rt := none) flX4_ok rfl tX4_push_ok 20 [] ?_
  simp only [go_go, gos_some, ctn_ctn, step, fv0, fv1, fv2, fv3, List.getElem?_cons_zero, List.getElem?_cons_succ, List.set_cons_zero, List.set_cons_succ, List.mem_cons, List.not_mem_nil, or_false, or_self, if_false, if_true, List.length_cons, List.length_nil, lval, upS_sr, sr_same, sr_sr, Nat.reduceEqDiff, not_false_eq_true, Classical.not_not, true_or, or_true, false_or, Nat.zero_add, Nat.add_zero, nI_add, pk_mul, Option.toList_some, Option.toList_none, List.cons_append, List.nil_append, n00, n11, n10, bv0, bv1, bft, bnf, bnt, Nat.reduceAdd, Nat.reduceEqDiff, Nat.reduceMul, Nat.reduceLT, Nat.reduceSub, true_implies, false_implies, not_true_eq_false, not_false_eq_true, true_and, and_true, sr_ne (show ¬ 21 = 20 by decide), sr_ne (show ¬ 20 = 21 by decide), sr_ne (show ¬ 22 = 20 by decide), sr_ne (show ¬ 22 = 21 by decide), sr_ne (show ¬ 20 = 22 by decide), sr_ne (show ¬ 21 = 22 by decide), kX4_push_0, kX4_push_1, kX4_push_4, kX4_push_5, kX4_push_8, kX4_push_9, kX4_push_10, kX4_push_13, kX4_push_14, kX4_push_15, kX4_push_18, kX4_push_19, kX4_push_20, kX4_push_22, kX4_push_23, kX4_push_26, kX4_push_27, kX4_push_28, kX4_push_31, kX4_push_32, kX4_push_33, kX4_push_35, kX4_push_38, kX4_push_41, xBin, xGet, xGetF, xLdA, xPut, xPutF, xQld, xQldF, xRem, xVret, fX4_11, fX4_18, fX4_26, bI_8, cI_1, lA_121, fHis, lA_122, h3', h3, h4, putT, n8_0, iRem_8 (show x + 1 < 2 ^ 20 by omega), ur_ne (show ¬ 4 = 3 by decide)]
  refine JM_min X tX4_push_ok kX4_push_35 (wAt_in (i := 378) (by decide +kernel)) (Nat.le_of_ble_eq_true rfl) (Nat.le_of_ble_eq_true rfl) ?_
  refine run X (rt := none) flX4_ok rfl tX4_push_ok 20 [] ?_
  simp only [go_go, gos_some, ctn_ctn, step, fv0, fv1, fv2, fv3, List.getElem?_cons_zero, List.getElem?_cons_succ, List.set_cons_zero, List.set_cons_succ, List.mem_cons, List.not_mem_nil, or_false, or_self, if_false, if_true, List.length_cons, List.length_nil, lval, upS_sr, sr_same, sr_sr, Nat.reduceEqDiff, not_false_eq_true, Classical.not_not, true_or, or_true, false_or, Nat.zero_add, Nat.add_zero, nI_add, pk_mul, Option.toList_some, Option.toList_none, List.cons_append, List.nil_append, n00, n11, n10, bv0, bv1, bft, bnf, bnt, Nat.reduceAdd, Nat.reduceEqDiff, Nat.reduceMul, Nat.reduceLT, Nat.reduceSub, true_implies, false_implies, not_true_eq_false, not_false_eq_true, true_and, and_true, sr_ne (show ¬ 21 = 20 by decide), sr_ne (show ¬ 20 = 21 by decide), sr_ne (show ¬ 22 = 20 by decide), sr_ne (show ¬ 22 = 21 by decide), sr_ne (show ¬ 20 = 22 by decide), sr_ne (show ¬ 21 = 22 by decide), kX4_push_0, kX4_push_1, kX4_push_4, kX4_push_5, kX4_push_8, kX4_push_9, kX4_push_10, kX4_push_13, kX4_push_14, kX4_push_15, kX4_push_18, kX4_push_19, kX4_push_20, kX4_push_22, kX4_push_23, kX4_push_26, kX4_push_27, kX4_push_28, kX4_push_31, kX4_push_32, kX4_push_33, kX4_push_35, kX4_push_38, kX4_push_41, xBin, xGet, xGetF, xLdA, xPut, xPutF, xQld, xQldF, xRem, xVret, fX4_11, fX4_18, fX4_26, bI_8, cI_1, lA_121, fHis, lA_122, h3', h4, putT]
  refine hP _ (hQ _ ⟨(frC.sr (by omega)).tr (frC.sr (by decide)), ?_⟩ ⟨fun r9 h9 => by rw [sr_ne (by omega), sr_ne (by omega)], fun j9 h9 => by rw [sr_same, ur_ne (by omega), ur_ne (by omega)]⟩)
  unfold AbsC
  rw [sr_ne (show ¬ 0 = 10 by decide), sr_ne (show ¬ 1 = 10 by decide), sr_ne (show ¬ 15 = 10 by decide), sr_ne (show ¬ 0 = 2 + x by omega), sr_ne (show ¬ 1 = 2 + x by omega), sr_ne (show ¬ 15 = 2 + x by omega), sr_same, aR_pu]
  rw [ur_ne (show ¬ 0 = 4 by decide), ur_ne (show ¬ 0 = 3 by decide), ur_ne (show ¬ 1 = 4 by decide), ur_ne (show ¬ 1 = 3 by decide), ur_ne (show ¬ 2 = 4 by decide), ur_ne (show ¬ 2 = 3 by decide), ur_ne (show ¬ 5 = 4 by decide), ur_ne (show ¬ 5 = 3 by decide)]
  have hv : aV (puA a) = aV a ∧ aW (puA a) = aW a ∧ aG (puA a) = aG a ∧ aE (puA a) = aE a ∧ aT (puA a) = aT a ∧ aI (puA a) = aI a := by unfold puA; split <;> exact ⟨rfl, rfl, rfl, rfl, rfl, rfl⟩
  obtain ⟨v1, v2, v3, v4, v5, v6⟩ := hv
  rw [v1, v2, v3, v4, v5, v6]
  refine ⟨h1, ⟨(x + 1) % 8, by omega, by rw [ur_ne (by decide), ur_eq], ?_, fun k hk => ?_⟩, h6, h7, h8⟩
  · rw [ur_eq]
    unfold puA
    by_cases e : aN a = 8
    · rw [if_pos e, e, if_pos (by decide)]; rfl
    · rw [if_neg e, if_neg (nI_nlt (show aN a + 1 ≤ 8 by omega) (by decide))]; rfl
  · rw [sr_ne (by omega)]
    revert hk
    unfold puA
    by_cases e : aN a = 8
    · rw [if_pos e]
      show k < 8 → Sh ((sr s (2 + x) r).1 (2 + ((x + 1) % 8 + 8 - 8 + k) % 8)) (if k = 7 then aR a else aP a (k + 1))
      intro hk
      by_cases e7 : k = 7
      · rw [if_pos e7, e7, show 2 + ((x + 1) % 8 + 8 - 8 + 7) % 8 = 2 + x by omega, sr_same]; exact hS
      · rw [if_neg e7, sr_ne (by omega), show 2 + ((x + 1) % 8 + 8 - 8 + k) % 8 = 2 + (x + 8 - aN a + (k + 1)) % 8 by omega]
        exact h5 (k + 1) (by omega)
    · rw [if_neg e]
      show k < aN a + 1 → Sh ((sr s (2 + x) r).1 (2 + ((x + 1) % 8 + 8 - (aN a + 1) + k) % 8)) (if k = aN a then aR a else aP a k)
      intro hk
      by_cases e7 : k = aN a
      · rw [if_pos e7, e7, show 2 + ((x + 1) % 8 + 8 - (aN a + 1) + aN a) % 8 = 2 + x by omega, sr_same]; exact hS
      · rw [if_neg e7, sr_ne (by omega), show 2 + ((x + 1) % 8 + 8 - (aN a + 1) + k) % 8 = 2 + (x + 8 - aN a + k) % 8 by omega]
        exact h5 k (by omega)
theorem c_push {E : WE} {s : ST} {a : AS} {B : Nat} (h : AbsC s a) (hA : AInv B a) : SpQ E mX4_push 4 [.ref (aF E 121), .ref (aD E 0)] s none (PC s (puA a)) := c_pushG h hA _ (fun _ h _ => h)
theorem c_pop {E : WE} {s : ST} {a : AS} {B : Nat} (h : AbsC s a) (hA : AInv B a) (hn : ¬ aN a = 0) : SpQ E mX4_pop 4 [.ref (aF E 121), .ref (aD E 0)] s none (PC s (wH (wR a (aP a (aN a - 1))) (aN a - 1) (aP a))) := by
  refine SpQ.of vX4_pop.1 [some (.ref (aF E 121)), some (.ref (aD E 0))] rfl (Nat.le_of_ble_eq_true rfl) rfl (fun C P X hP => ?_)
  obtain ⟨h1, ⟨x, h2, h3, h4, h5⟩, h6, h7, h8⟩ := h
  obtain ⟨g1, ⟨g2, g3⟩, -⟩ := hA
  have es : nI (x + 8) - nI 1 = nI (x + 7) := pk_sub (show 1 ≤ x + 8 by omega)
  have es2 : nI (aN a) - nI 1 = nI (aN a - 1) := pk_sub (by omega)
  refine run X (rt := none) flX4_ok rfl tX4_pop_ok 40 [] ?_
  simp only [go_go, gos_some, ctn_ctn, step, fv0, fv1, fv2, fv3, List.getElem?_cons_zero, List.getElem?_cons_succ, List.set_cons_zero, List.set_cons_succ, List.mem_cons, List.not_mem_nil, or_false, or_self, if_false, if_true, List.length_cons, List.length_nil, lval, upS_sr, sr_same, sr_sr, Nat.reduceEqDiff, not_false_eq_true, Classical.not_not, true_or, or_true, false_or, Nat.zero_add, Nat.add_zero, nI_add, pk_mul, Option.toList_some, Option.toList_none, List.cons_append, List.nil_append, n00, n11, n10, bv0, bv1, bft, bnf, bnt, Nat.reduceAdd, Nat.reduceEqDiff, Nat.reduceMul, Nat.reduceLT, Nat.reduceSub, true_implies, false_implies, not_true_eq_false, not_false_eq_true, true_and, and_true, sr_ne (show ¬ 21 = 20 by decide), sr_ne (show ¬ 20 = 21 by decide), sr_ne (show ¬ 22 = 20 by decide), sr_ne (show ¬ 22 = 21 by decide), sr_ne (show ¬ 20 = 22 by decide), sr_ne (show ¬ 21 = 22 by decide), kX4_pop_0, kX4_pop_1, kX4_pop_2, kX4_pop_5, kX4_pop_7, kX4_pop_8, kX4_pop_9, kX4_pop_10, kX4_pop_12, kX4_pop_13, kX4_pop_16, kX4_pop_17, kX4_pop_18, kX4_pop_21, kX4_pop_22, kX4_pop_23, kX4_pop_26, kX4_pop_27, kX4_pop_28, kX4_pop_31, kX4_pop_32, kX4_pop_35, kX4_pop_36, kX4_pop_39, xBin, xDup, xGet, xGetF, xLdA, xPut, xPutF, xQld, xQldF, xRem, xVret, fX4_11, fX4_18, fX4_26, bI_8, cI_1, lA_121, fHis, lA_122, h3, h4, es, es2, n8_0, putT, iRem_8 (show x + 7 < 2 ^ 20 by omega), ur_ne (show ¬ 4 = 3 by decide), ur_ne (show ¬ 3 = 4 by decide), ur_eq, vp8 (show (x + 7) % 8 < 8 by omega), nI31 (show (x + 7) % 8 < 2 ^ 31 by omega)]
  have h50 := h5 (aN a - 1) (by omega)
  rw [show 2 + (x + 8 - aN a + (aN a - 1)) % 8 = 2 + (x + 7) % 8 by omega] at h50
  generalize hs1 : sr s 10 (ur (ur (s.1 10) 3 (nI ((x + 7) % 8))) 4 (nI (aN a - 1))) = s1
  have eo : ∀ r, ¬ r = 10 → s1.1 r = s.1 r := fun r hr => by rw [← hs1, sr_ne hr]
  refine cQ X  tX4_pop_ok kX4_pop_36 (c_dCopy (s := s1) (d := 0) (e := 2 + (x + 7) % 8) (by decide) (by omega) (by omega) (by rw [eo _ (by omega)]; exact h50) (g3 (aN a - 1) (by omega)).1) vX3_copyFrom lX4_22 (lA_D (by decide)) rfl rfl rfl (Nat.le_of_ble_eq_true rfl) (Nat.le_of_ble_eq_true rfl) ?_
  rintro _ ⟨r, rfl, hS⟩
  refine run X (rt := none) flX4_ok rfl tX4_pop_ok 40 [] ?_
  simp only [go_go, gos_some, ctn_ctn, step, fv0, fv1, fv2, fv3, List.getElem?_cons_zero, List.getElem?_cons_succ, List.set_cons_zero, List.set_cons_succ, List.mem_cons, List.not_mem_nil, or_false, or_self, if_false, if_true, List.length_cons, List.length_nil, lval, upS_sr, sr_same, sr_sr, Nat.reduceEqDiff, not_false_eq_true, Classical.not_not, true_or, or_true, false_or, Nat.zero_add, Nat.add_zero, nI_add, pk_mul, Option.toList_some, Option.toList_none, List.cons_append, List.nil_append, n00, n11, n10, bv0, bv1, bft, bnf, bnt, Nat.reduceAdd, Nat.reduceEqDiff, Nat.reduceMul, Nat.reduceLT, Nat.reduceSub, true_implies, false_implies, not_true_eq_false, not_false_eq_true, true_and, and_true, sr_ne (show ¬ 21 = 20 by decide), sr_ne (show ¬ 20 = 21 by decide), sr_ne (show ¬ 22 = 20 by decide), sr_ne (show ¬ 22 = 21 by decide), sr_ne (show ¬ 20 = 22 by decide), sr_ne (show ¬ 21 = 22 by decide), kX4_pop_0, kX4_pop_1, kX4_pop_2, kX4_pop_5, kX4_pop_7, kX4_pop_8, kX4_pop_9, kX4_pop_10, kX4_pop_12, kX4_pop_13, kX4_pop_16, kX4_pop_17, kX4_pop_18, kX4_pop_21, kX4_pop_22, kX4_pop_23, kX4_pop_26, kX4_pop_27, kX4_pop_28, kX4_pop_31, kX4_pop_32, kX4_pop_35, kX4_pop_36, kX4_pop_39, xBin, xDup, xGet, xGetF, xLdA, xPut, xPutF, xQld, xQldF, xRem, xVret, fX4_11, fX4_18, fX4_26, bI_8, cI_1, lA_121, fHis, lA_122]
  refine hP _ ⟨(show frC s s1 by rw [← hs1]; exact frC.sr (by decide)).tr (frC.sr (by decide)), ?_⟩
  unfold AbsC
  rw [sr_same, sr_ne (show ¬ 10 = 0 by decide), sr_ne (show ¬ 1 = 0 by decide), sr_ne (show ¬ 15 = 0 by decide), eo 1 (by decide), eo 15 (by decide)]
  rw [← hs1, sr_same, ur_ne (show ¬ 0 = 4 by decide), ur_ne (show ¬ 0 = 3 by decide), ur_ne (show ¬ 1 = 4 by decide), ur_ne (show ¬ 1 = 3 by decide), ur_ne (show ¬ 2 = 4 by decide), ur_ne (show ¬ 2 = 3 by decide), ur_ne (show ¬ 5 = 4 by decide), ur_ne (show ¬ 5 = 3 by decide)]
  refine ⟨hS, ⟨(x + 7) % 8, by omega, by rw [ur_ne (by decide), ur_eq], ur_eq, ?_⟩, h6, h7, h8⟩
  show ∀ k, k < aN a - 1 → Sh ((sr (sr s 10 (ur (ur (s.1 10) 3 (nI ((x + 7) % 8))) 4 (nI (aN a - 1)))) 0 r).1 (2 + ((x + 7) % 8 + 8 - (aN a - 1) + k) % 8)) (aP a k)
  intro k hk
  rw [sr_ne (by omega), sr_ne (by omega), show 2 + ((x + 7) % 8 + 8 - (aN a - 1) + k) % 8 = 2 + (x + 8 - aN a + k) % 8 by omega]
  exact h5 k (by omega)
