/-! ===== the reference's allocation: all rounds ===== -/
def az1 (R : RW) : Nat → RW
  | 0 => R
  | k + 1 => ur (az1 R k) (3 + 7 * k + 6) (nI 0)
def az2 (R : RW) : Nat → RW
  | 0 => R
  | k + 1 => ur (ur (az2 R k) (57 + 13 * k + 11) (nI 0)) (57 + 13 * k + 12) (nI 0)
def azR (R : RW) : RW := az2 (az1 R (nn R 0)) (nn R 1)
def alN (dir : Bool) : Nat → RW → (Nat → Nat → Bool) → Nat → RW × Nat
  | 0, R, q, r => (mkR (rnd dir R) q (nn R 1), r)
  | m + 1, R, q, r => if nfT (rnd dir R) q (nn R 1) then alN dir m (mkR (rnd dir R) q (nn R 1)) (fun i => mq (rnd dir R) q i (nn R 1)) (r + 1) else (mkR (rnd dir R) q (nn R 1), r)
/-- allocated: the row, and the number of rounds -/
def alo (dir : Bool) (R : RW) : RW × Nat := alN dir 144 (azR R) (fun _ _ => false) 1
theorem az1_far {R : RW} : ∀ {k x : Nat}, (∀ j, j < k → ¬ x = 3 + 7 * j + 6) → az1 R k x = R x
  | 0, _, _ => rfl
  | k + 1, x, h => by rw [az1, ur_ne (h k (by omega))]; exact az1_far (fun j hj => h j (by omega))
theorem az2_far {R : RW} : ∀ {k x : Nat}, (∀ i, i < k → ¬ x = 57 + 13 * i + 11 ∧ ¬ x = 57 + 13 * i + 12) → az2 R k x = R x
  | 0, _, _ => rfl
  | k + 1, x, h => by rw [az2, ur_ne (h k (by omega)).2, ur_ne (h k (by omega)).1]; exact az2_far (fun i hi => h i (by omega))
theorem az2_at {R : RW} : ∀ {k i : Nat}, i < k → az2 R k (57 + 13 * i + 11) = nI 0
  | 0, i, h => absurd h (Nat.not_lt_zero i)
  | k + 1, i, h => by
    rw [az2, ur_ne (by omega)]
    by_cases e : i = k
    · subst e; rw [ur_eq]
    · rw [ur_ne (by omega)]; exact az2_at (by omega)
theorem az1_ok {R : RW} (hI : Inv R) : ∀ k, k ≤ nn R 0 → Inv (az1 R k) ∧ nn (az1 R k) 0 = nn R 0 ∧ nn (az1 R k) 1 = nn R 1 ∧ nn (az1 R k) 2 = nn R 2
  | 0, _ => ⟨hI, rfl, rfl, rfl⟩
  | k + 1, h => by
    obtain ⟨h1, h2, h3, h4⟩ := az1_ok hI k (by omega)
    exact ⟨h1.us (w := 6) (by omega) (by decide) ⟨0, by decide, rfl⟩, by rw [az1, nn_ur_ne (by omega)]; exact h2, by rw [az1, nn_ur_ne (by omega)]; exact h3, by rw [az1, nn_ur_ne (by omega)]; exact h4⟩
theorem az2_ok {R : RW} (hI : Inv R) : ∀ k, k ≤ nn R 1 → Inv (az2 R k) ∧ nn (az2 R k) 0 = nn R 0 ∧ nn (az2 R k) 1 = nn R 1 ∧ nn (az2 R k) 2 = nn R 2
  | 0, _ => ⟨hI, rfl, rfl, rfl⟩
  | k + 1, h => by
    obtain ⟨h1, h2, h3, h4⟩ := az2_ok hI k (by omega)
    have h5 : Inv (ur (az2 R k) (57 + 13 * k + 11) (nI 0)) := h1.mark (by omega)
    have h6 : nn (ur (az2 R k) (57 + 13 * k + 11) (nI 0)) 1 = nn R 1 := by rw [nn_ur_ne (by omega)]; exact h3
    exact ⟨h5.uc (w := 12) (by omega) (by decide) (by decide) trivial, by rw [az2, nn_ur_ne (by omega), nn_ur_ne (by omega)]; exact h2, by rw [az2, nn_ur_ne (by omega), nn_ur_ne (by omega)]; exact h3, by rw [az2, nn_ur_ne (by omega), nn_ur_ne (by omega)]; exact h4⟩
theorem az1_sh {r R : RW} (hS : Sh r R) : ∀ k, k ≤ 6 → Sh (az1 r k) (az1 R k)
  | 0, _ => hS
  | k + 1, h => (az1_sh hS k (by omega)).us (w := 6) (by omega) (by decide)
theorem az2_sh {r R : RW} (hS : Sh r R) : ∀ k, Sh (az2 r k) (az2 R k)
  | 0 => hS
  | k + 1 => ((az2_sh hS k).uc (w := 11) (by decide) (by decide)).uc (w := 12) (by decide) (by decide)
theorem azR_ok {R : RW} (hI : Inv R) : Inv (azR R) ∧ nn (azR R) 0 = nn R 0 ∧ nn (azR R) 1 = nn R 1 ∧ nn (azR R) 2 = nn R 2 ∧ ∀ i, i < nn R 1 → azR R (57 + 13 * i + 11) = nI 0 := by
  obtain ⟨h1, h2, h3, h4⟩ := az1_ok hI (nn R 0) (Nat.le_refl _)
  obtain ⟨k1, k2, k3, k4⟩ := az2_ok h1 (nn R 1) (by omega)
  exact ⟨k1, k2.trans h2, k3.trans h3, k4.trans h4, fun i hi => az2_at hi⟩
/-- the marks that are not set -/
def un (q : Nat → Nat → Bool) (n : Nat) : Nat := sm (fun i => ct (fun j => !q i j) 6) n
theorem sm_le2 {f g : Nat → Nat} : ∀ {n : Nat}, (∀ k, k < n → f k ≤ g k) → sm f n ≤ sm g n
  | 0, _ => Nat.le_refl _
  | n + 1, h => by have h1 := sm_le2 (n := n) (fun k hk => h k (by omega)); have h2 := h n (by omega); rw [sm, sm]; omega
theorem sm_lt {f g : Nat → Nat} : ∀ {n i : Nat}, i < n → (∀ k, k < n → f k ≤ g k) → f i < g i → sm f n < sm g n
  | 0, i, h, _, _ => absurd h (Nat.not_lt_zero i)
  | n + 1, i, h, h1, h2 => by
    rw [sm, sm]
    by_cases e : i = n
    · subst e
      have := sm_le2 (n := i) (fun k hk => h1 k (by omega))
      omega
    · have := sm_lt (n := n) (i := i) (by omega) (fun k hk => h1 k (by omega)) h2
      have := h1 n (by omega)
      omega
theorem ct_lt {p q : Nat → Bool} : ∀ {n i : Nat}, i < n → (∀ k, k < n → p k = true → q k = true) → p i = false → q i = true → ct p n < ct q n
  | 0, i, h, _, _, _ => absurd h (Nat.not_lt_zero i)
  | n + 1, i, h, h1, h2, h3 => by
    rw [ct, ct]
    by_cases e : i = n
    · subst e
      have := ct_imp (n := i) (fun k hk => h1 k (by omega))
      rw [if_neg (by rw [h2]; decide), if_pos h3]; omega
    · have := ct_lt (n := n) (i := i) (by omega) (fun k hk => h1 k (by omega)) h2 h3
      by_cases e2 : p n = true
      · rw [if_pos e2, if_pos (h1 n (by omega) e2)]; omega
      · rw [if_neg e2]; omega
theorem an_ex {p : Nat → Bool} : ∀ {n : Nat}, an p n = true → ∃ k, k < n ∧ p k = true
  | 0, h => by cases h
  | n + 1, h => by
    rw [an, Bool.or_eq_true] at h
    rcases h with h | h
    · obtain ⟨k, hk, hp⟩ := an_ex h
      exact ⟨k, by omega, hp⟩
    · exact ⟨n, by omega, h⟩
theorem un_dec {R : RW} {q : Nat → Nat → Bool} {n : Nat} (h : nfT R q n = true) : un (fun i => mq R q i (nn R 1)) n < un q n := by
  obtain ⟨i, hi, hp⟩ := an_ex h
  obtain ⟨j, hj, hp2⟩ := an_ex hp
  simp only [Bool.and_eq_true, Bool.not_eq_true'] at hp2
  refine sm_lt hi (fun k hk => ct_imp (fun j hj e => ?_)) (ct_lt hj (fun j hj e => ?_) ?_ ?_)
  · simp only [mq, Bool.not_eq_true', Bool.or_eq_false_iff] at e ⊢; exact e.1
  · simp only [mq, Bool.not_eq_true', Bool.or_eq_false_iff] at e ⊢; exact e.1
  · simp [mq, hp2.1]
  · simp [hp2.2]
theorem mkR_n {R : RW} {q : Nat → Nat → Bool} {k x : Nat} (hx : x < 57 ∨ x % 13 ≠ 3) : nn (mkR R q k) x = nn R x := by unfold nn; rw [mkR_far (fun i _ => by omega)]
theorem mkR_at {R : RW} {q : Nat → Nat → Bool} : ∀ {k i : Nat}, i < k → mkR R q k (57 + 13 * i + 11) = msk (mq R q i (nn R 1))
  | 0, i, h => absurd h (Nat.not_lt_zero i)
  | k + 1, i, h => by
    rw [mkR]
    by_cases e : i = k
    · subst e; rw [ur_eq]
    · rw [ur_ne (by omega)]; exact mkR_at (by omega)
set_option maxRecDepth 10000 in
theorem m_allocates {E : WE} {s : ST} {R : RW} (hS : Sh (s.1 21) R) (hI : Inv R) {dir : Bool} : SpQ E mX9_allocates 9 [.ref (aF E 611), .int (bv dir)] s (some (.int (nI (alo dir R).2))) (QA s (alo dir R).1) := by
  refine SpQ.of vX9_allocates.1 [some (.ref (aF E 611)), some (.int (bv dir)), none] rfl (Nat.le_of_ble_eq_true rfl) rfl (fun C P X hP => ?_)
  have hc := hI.c
  have hs := hI.s
  have v0 : vp_in (nI 0) 689 := vp_in_nI (by decide) (by decide)
  have v1 : vp_in (nI 1) 689 := vp_in_nI (by decide) (by decide)
  have c0 : (nI 0).toNatClampNeg = 0 := nI31 (by decide)
  have c1 : (nI 1).toNatClampNeg = 1 := nI31 (by decide)
  have hNc : nn R 1 < 2 ^ 31 := by omega
  have hNs : nn R 0 < 2 ^ 31 := by omega
  have gC := nI_le (Nat.le_refl (nn R 1)) hNc
  have gS := nI_le (Nat.le_refl (nn R 0)) hNs
  obtain ⟨z1, z2, z3, z4, z5⟩ := azR_ok hI
  -- the rounds, from 67 on
  have loop : ∀ (m : Nat) (x r R' : RW) (q : Nat → Nat → Bool) (rr : Nat), Sh r (rnd dir R') → Inv R' → nn R' 1 = nn R 1 → (∀ i, i < nn R 1 → R' (57 + 13 * i + 11) = msk (q i)) → un q (nn R 1) ≤ m → alN dir m R' q rr = alo dir R →
      JM E mX9_allocates C 9 0 0 P 67 [some (.ref (aF E 611)), some (.int (bv dir)), some (.int (nI rr))] [] (sr (sr s 27 x) 21 r) := by
    intro m
    induction m with
    | zero =>
      intro x r R' q rr hr hI' hn hq hu e
      obtain ⟨g1, g2⟩ := rnd_ok (dir := dir) hI'
      have hS9 : Sh ((sr (sr s 27 x) 21 r).1 21) (rnd dir R') := by rw [sr_same]; exact hr
      have hq9 : ∀ i, i < nn (rnd dir R') 1 → rnd dir R' (57 + 13 * i + 11) = msk (q i) := fun i hi => by rw [g2 _ (fun i' _ => by omega)]; exact hq i (by rw [g2.n1, hn] at hi; exact hi)
      have hf : nfT (rnd dir R') q (nn R 1) = false := by
        cases h : nfT (rnd dir R') q (nn R 1) with
        | false => rfl
        | true => have := un_dec h; omega
      refine run X (rt := some .int) flX9_ok rfl tX9_allocates_ok 20 [67] ?_
      simp only [go_go, gos_some, ctn_ctn, step, fv0, fv1, fv2, fv3, List.getElem?_cons_zero, List.getElem?_cons_succ, List.set_cons_zero, List.set_cons_succ, List.mem_cons, List.not_mem_nil, or_false, or_self, if_false, if_true, List.length_cons, List.length_nil, lval, upS_sr, sr_same, sr_sr, Nat.reduceEqDiff, not_false_eq_true, Classical.not_not, true_or, or_true, false_or, Nat.zero_add, Nat.add_zero, nI_add, pk_mul, Option.toList_some, Option.toList_none, List.cons_append, List.nil_append, n00, n11, n10, bv0, bv1, bft, bnf, bnt, Nat.reduceAdd, Nat.reduceEqDiff, Nat.reduceMul, Nat.reduceLT, Nat.reduceSub, true_implies, false_implies, not_true_eq_false, not_false_eq_true, true_and, and_true, sr_ne (show ¬ 21 = 20 by decide), sr_ne (show ¬ 20 = 21 by decide), sr_ne (show ¬ 22 = 20 by decide), sr_ne (show ¬ 22 = 21 by decide), sr_ne (show ¬ 20 = 22 by decide), sr_ne (show ¬ 21 = 22 by decide), kX9_allocates_0, kX9_allocates_1, kX9_allocates_2, kX9_allocates_3, kX9_allocates_4, kX9_allocates_7, kX9_allocates_8, kX9_allocates_9, kX9_allocates_12, kX9_allocates_13, kX9_allocates_14, kX9_allocates_16, kX9_allocates_17, kX9_allocates_20, kX9_allocates_23, kX9_allocates_26, kX9_allocates_27, kX9_allocates_28, kX9_allocates_29, kX9_allocates_30, kX9_allocates_33, kX9_allocates_34, kX9_allocates_35, kX9_allocates_38, kX9_allocates_39, kX9_allocates_40, kX9_allocates_42, kX9_allocates_43, kX9_allocates_46, kX9_allocates_47, kX9_allocates_48, kX9_allocates_50, kX9_allocates_51, kX9_allocates_54, kX9_allocates_57, kX9_allocates_60, kX9_allocates_61, kX9_allocates_62, kX9_allocates_63, kX9_allocates_64, kX9_allocates_67, kX9_allocates_68, kX9_allocates_71, kX9_allocates_74, kX9_allocates_75, kX9_allocates_76, kX9_allocates_79, kX9_allocates_82, kX9_allocates_85, kX9_allocates_86, xAld, xArrF, xCmp, xGet, xGetF, xIf, xInc, xLdA, xLdI, xRet, xSt, fX9_9, bI_11, bI_12, bI_6, cI_0, cI_1, lA_611, fMod, lA_612, lA_613, lA_614, lA_615, lA_616, lA_617, lA_618, lA_619]
      refine cQ X  tX9_allocates_ok kX9_allocates_68 (m_marks hS9 g1 hq9) vX9_marks lX9_213 lA_611 rfl rfl rfl (Nat.le_of_ble_eq_true rfl) (Nat.le_of_ble_eq_true rfl) ?_
      rintro _ ⟨r9, rfl, hr9⟩
      rw [g2.n1, hn, hf, sr_sr]
      rw [g2.n1] at hr9
      refine run X (rt := some .int) flX9_ok rfl tX9_allocates_ok 20 [67] ?_
      simp only [go_go, gos_some, ctn_ctn, step, fv0, fv1, fv2, fv3, List.getElem?_cons_zero, List.getElem?_cons_succ, List.set_cons_zero, List.set_cons_succ, List.mem_cons, List.not_mem_nil, or_false, or_self, if_false, if_true, List.length_cons, List.length_nil, lval, upS_sr, sr_same, sr_sr, Nat.reduceEqDiff, not_false_eq_true, Classical.not_not, true_or, or_true, false_or, Nat.zero_add, Nat.add_zero, nI_add, pk_mul, Option.toList_some, Option.toList_none, List.cons_append, List.nil_append, n00, n11, n10, bv0, bv1, bft, bnf, bnt, Nat.reduceAdd, Nat.reduceEqDiff, Nat.reduceMul, Nat.reduceLT, Nat.reduceSub, true_implies, false_implies, not_true_eq_false, not_false_eq_true, true_and, and_true, sr_ne (show ¬ 21 = 20 by decide), sr_ne (show ¬ 20 = 21 by decide), sr_ne (show ¬ 22 = 20 by decide), sr_ne (show ¬ 22 = 21 by decide), sr_ne (show ¬ 20 = 22 by decide), sr_ne (show ¬ 21 = 22 by decide), kX9_allocates_0, kX9_allocates_1, kX9_allocates_2, kX9_allocates_3, kX9_allocates_4, kX9_allocates_7, kX9_allocates_8, kX9_allocates_9, kX9_allocates_12, kX9_allocates_13, kX9_allocates_14, kX9_allocates_16, kX9_allocates_17, kX9_allocates_20, kX9_allocates_23, kX9_allocates_26, kX9_allocates_27, kX9_allocates_28, kX9_allocates_29, kX9_allocates_30, kX9_allocates_33, kX9_allocates_34, kX9_allocates_35, kX9_allocates_38, kX9_allocates_39, kX9_allocates_40, kX9_allocates_42, kX9_allocates_43, kX9_allocates_46, kX9_allocates_47, kX9_allocates_48, kX9_allocates_50, kX9_allocates_51, kX9_allocates_54, kX9_allocates_57, kX9_allocates_60, kX9_allocates_61, kX9_allocates_62, kX9_allocates_63, kX9_allocates_64, kX9_allocates_67, kX9_allocates_68, kX9_allocates_71, kX9_allocates_74, kX9_allocates_75, kX9_allocates_76, kX9_allocates_79, kX9_allocates_82, kX9_allocates_85, kX9_allocates_86, xAld, xArrF, xCmp, xGet, xGetF, xIf, xInc, xLdA, xLdI, xRet, xSt, fX9_9, bI_11, bI_12, bI_6, cI_0, cI_1, lA_611, fMod, lA_612, lA_613, lA_614, lA_615, lA_616, lA_617, lA_618, lA_619]
      rw [← e] at hP
      exact hP _ ⟨x, r9, rfl, hr9⟩
    | succ m ih =>
      intro x r R' q rr hr hI' hn hq hu e
      obtain ⟨g1, g2⟩ := rnd_ok (dir := dir) hI'
      have hS9 : Sh ((sr (sr s 27 x) 21 r).1 21) (rnd dir R') := by rw [sr_same]; exact hr
      have hq9 : ∀ i, i < nn (rnd dir R') 1 → rnd dir R' (57 + 13 * i + 11) = msk (q i) := fun i hi => by rw [g2 _ (fun i' _ => by omega)]; exact hq i (by rw [g2.n1, hn] at hi; exact hi)
      rw [alN] at e
      refine run X (rt := some .int) flX9_ok rfl tX9_allocates_ok 20 [67] ?_
      simp only [go_go, gos_some, ctn_ctn, step, fv0, fv1, fv2, fv3, List.getElem?_cons_zero, List.getElem?_cons_succ, List.set_cons_zero, List.set_cons_succ, List.mem_cons, List.not_mem_nil, or_false, or_self, if_false, if_true, List.length_cons, List.length_nil, lval, upS_sr, sr_same, sr_sr, Nat.reduceEqDiff, not_false_eq_true, Classical.not_not, true_or, or_true, false_or, Nat.zero_add, Nat.add_zero, nI_add, pk_mul, Option.toList_some, Option.toList_none, List.cons_append, List.nil_append, n00, n11, n10, bv0, bv1, bft, bnf, bnt, Nat.reduceAdd, Nat.reduceEqDiff, Nat.reduceMul, Nat.reduceLT, Nat.reduceSub, true_implies, false_implies, not_true_eq_false, not_false_eq_true, true_and, and_true, sr_ne (show ¬ 21 = 20 by decide), sr_ne (show ¬ 20 = 21 by decide), sr_ne (show ¬ 22 = 20 by decide), sr_ne (show ¬ 22 = 21 by decide), sr_ne (show ¬ 20 = 22 by decide), sr_ne (show ¬ 21 = 22 by decide), kX9_allocates_0, kX9_allocates_1, kX9_allocates_2, kX9_allocates_3, kX9_allocates_4, kX9_allocates_7, kX9_allocates_8, kX9_allocates_9, kX9_allocates_12, kX9_allocates_13, kX9_allocates_14, kX9_allocates_16, kX9_allocates_17, kX9_allocates_20, kX9_allocates_23, kX9_allocates_26, kX9_allocates_27, kX9_allocates_28, kX9_allocates_29, kX9_allocates_30, kX9_allocates_33, kX9_allocates_34, kX9_allocates_35, kX9_allocates_38, kX9_allocates_39, kX9_allocates_40, kX9_allocates_42, kX9_allocates_43, kX9_allocates_46, kX9_allocates_47, kX9_allocates_48, kX9_allocates_50, kX9_allocates_51, kX9_allocates_54, kX9_allocates_57, kX9_allocates_60, kX9_allocates_61, kX9_allocates_62, kX9_allocates_63, kX9_allocates_64, kX9_allocates_67, kX9_allocates_68, kX9_allocates_71, kX9_allocates_74, kX9_allocates_75, kX9_allocates_76, kX9_allocates_79, kX9_allocates_82, kX9_allocates_85, kX9_allocates_86, xAld, xArrF, xCmp, xGet, xGetF, xIf, xInc, xLdA, xLdI, xRet, xSt, fX9_9, bI_11, bI_12, bI_6, cI_0, cI_1, lA_611, fMod, lA_612, lA_613, lA_614, lA_615, lA_616, lA_617, lA_618, lA_619]
      refine cQ X  tX9_allocates_ok kX9_allocates_68 (m_marks hS9 g1 hq9) vX9_marks lX9_213 lA_611 rfl rfl rfl (Nat.le_of_ble_eq_true rfl) (Nat.le_of_ble_eq_true rfl) ?_
      rintro _ ⟨r9, rfl, hr9⟩
      rw [g2.n1, hn, sr_sr]
      rw [g2.n1] at hr9
      cases hf : nfT (rnd dir R') q (nn R 1) with
      | false =>
        rw [hn, hf, if_neg (by decide)] at e
        rw [hn] at hr9
        refine run X (rt := some .int) flX9_ok rfl tX9_allocates_ok 20 [67] ?_
        simp only [go_go, gos_some, ctn_ctn, step, fv0, fv1, fv2, fv3, List.getElem?_cons_zero, List.getElem?_cons_succ, List.set_cons_zero, List.set_cons_succ, List.mem_cons, List.not_mem_nil, or_false, or_self, if_false, if_true, List.length_cons, List.length_nil, lval, upS_sr, sr_same, sr_sr, Nat.reduceEqDiff, not_false_eq_true, Classical.not_not, true_or, or_true, false_or, Nat.zero_add, Nat.add_zero, nI_add, pk_mul, Option.toList_some, Option.toList_none, List.cons_append, List.nil_append, n00, n11, n10, bv0, bv1, bft, bnf, bnt, Nat.reduceAdd, Nat.reduceEqDiff, Nat.reduceMul, Nat.reduceLT, Nat.reduceSub, true_implies, false_implies, not_true_eq_false, not_false_eq_true, true_and, and_true, sr_ne (show ¬ 21 = 20 by decide), sr_ne (show ¬ 20 = 21 by decide), sr_ne (show ¬ 22 = 20 by decide), sr_ne (show ¬ 22 = 21 by decide), sr_ne (show ¬ 20 = 22 by decide), sr_ne (show ¬ 21 = 22 by decide), kX9_allocates_0, kX9_allocates_1, kX9_allocates_2, kX9_allocates_3, kX9_allocates_4, kX9_allocates_7, kX9_allocates_8, kX9_allocates_9, kX9_allocates_12, kX9_allocates_13, kX9_allocates_14, kX9_allocates_16, kX9_allocates_17, kX9_allocates_20, kX9_allocates_23, kX9_allocates_26, kX9_allocates_27, kX9_allocates_28, kX9_allocates_29, kX9_allocates_30, kX9_allocates_33, kX9_allocates_34, kX9_allocates_35, kX9_allocates_38, kX9_allocates_39, kX9_allocates_40, kX9_allocates_42, kX9_allocates_43, kX9_allocates_46, kX9_allocates_47, kX9_allocates_48, kX9_allocates_50, kX9_allocates_51, kX9_allocates_54, kX9_allocates_57, kX9_allocates_60, kX9_allocates_61, kX9_allocates_62, kX9_allocates_63, kX9_allocates_64, kX9_allocates_67, kX9_allocates_68, kX9_allocates_71, kX9_allocates_74, kX9_allocates_75, kX9_allocates_76, kX9_allocates_79, kX9_allocates_82, kX9_allocates_85, kX9_allocates_86, xAld, xArrF, xCmp, xGet, xGetF, xIf, xInc, xLdA, xLdI, xRet, xSt, fX9_9, bI_11, bI_12, bI_6, cI_0, cI_1, lA_611, fMod, lA_612, lA_613, lA_614, lA_615, lA_616, lA_617, lA_618, lA_619]
        rw [← e] at hP
        exact hP _ ⟨x, r9, rfl, hr9⟩
      | true =>
        rw [hn, hf, if_pos rfl] at e
        rw [hn] at hr9
        have hIm : Inv (mkR (rnd dir R') q (nn R 1)) := mkR_inv g1 _ (by rw [g2.n1, hn]; exact Nat.le_refl _)
        have hS10 : Sh ((sr (sr s 27 x) 21 r9).1 21) (mkR (rnd dir R') q (nn R 1)) := by rw [sr_same]; exact hr9
        have hnm : nn (mkR (rnd dir R') q (nn R 1)) 1 = nn R 1 := by rw [mkR_n (by omega), g2.n1, hn]
        refine run X (rt := some .int) flX9_ok rfl tX9_allocates_ok 20 [67] ?_
        simp only [go_go, gos_some, ctn_ctn, step, fv0, fv1, fv2, fv3, List.getElem?_cons_zero, List.getElem?_cons_succ, List.set_cons_zero, List.set_cons_succ, List.mem_cons, List.not_mem_nil, or_false, or_self, if_false, if_true, List.length_cons, List.length_nil, lval, upS_sr, sr_same, sr_sr, Nat.reduceEqDiff, not_false_eq_true, Classical.not_not, true_or, or_true, false_or, Nat.zero_add, Nat.add_zero, nI_add, pk_mul, Option.toList_some, Option.toList_none, List.cons_append, List.nil_append, n00, n11, n10, bv0, bv1, bft, bnf, bnt, Nat.reduceAdd, Nat.reduceEqDiff, Nat.reduceMul, Nat.reduceLT, Nat.reduceSub, true_implies, false_implies, not_true_eq_false, not_false_eq_true, true_and, and_true, sr_ne (show ¬ 21 = 20 by decide), sr_ne (show ¬ 20 = 21 by decide), sr_ne (show ¬ 22 = 20 by decide), sr_ne (show ¬ 22 = 21 by decide), sr_ne (show ¬ 20 = 22 by decide), sr_ne (show ¬ 21 = 22 by decide), kX9_allocates_0, kX9_allocates_1, kX9_allocates_2, kX9_allocates_3, kX9_allocates_4, kX9_allocates_7, kX9_allocates_8, kX9_allocates_9, kX9_allocates_12, kX9_allocates_13, kX9_allocates_14, kX9_allocates_16, kX9_allocates_17, kX9_allocates_20, kX9_allocates_23, kX9_allocates_26, kX9_allocates_27, kX9_allocates_28, kX9_allocates_29, kX9_allocates_30, kX9_allocates_33, kX9_allocates_34, kX9_allocates_35, kX9_allocates_38, kX9_allocates_39, kX9_allocates_40, kX9_allocates_42, kX9_allocates_43, kX9_allocates_46, kX9_allocates_47, kX9_allocates_48, kX9_allocates_50, kX9_allocates_51, kX9_allocates_54, kX9_allocates_57, kX9_allocates_60, kX9_allocates_61, kX9_allocates_62, kX9_allocates_63, kX9_allocates_64, kX9_allocates_67, kX9_allocates_68, kX9_allocates_71, kX9_allocates_74, kX9_allocates_75, kX9_allocates_76, kX9_allocates_79, kX9_allocates_82, kX9_allocates_85, kX9_allocates_86, xAld, xArrF, xCmp, xGet, xGetF, xIf, xInc, xLdA, xLdI, xRet, xSt, fX9_9, bI_11, bI_12, bI_6, cI_0, cI_1, lA_611, fMod, lA_612, lA_613, lA_614, lA_615, lA_616, lA_617, lA_618, lA_619, Bool.true_eq_false]
        refine cQ X  tX9_allocates_ok kX9_allocates_76 (m_round hS10 hIm) vX9_round lX9_209 lA_611 rfl rfl rfl (Nat.le_of_ble_eq_true rfl) (Nat.le_of_ble_eq_true rfl) ?_
        rintro _ ⟨x2, r2, rfl, hr2⟩
        have hst : sr (sr (sr (sr s 27 x) 21 r9) 27 x2) 21 r2 = sr (sr s 27 x2) 21 r2 := by rw [sr_comm (show ¬ 21 = 27 by decide), sr_sr, sr_sr]
        rw [hst]
        refine run X (rt := some .int) flX9_ok rfl tX9_allocates_ok 20 [67] ?_
        simp only [go_go, gos_some, ctn_ctn, step, fv0, fv1, fv2, fv3, List.getElem?_cons_zero, List.getElem?_cons_succ, List.set_cons_zero, List.set_cons_succ, List.mem_cons, List.not_mem_nil, or_false, or_self, if_false, if_true, List.length_cons, List.length_nil, lval, upS_sr, sr_same, sr_sr, Nat.reduceEqDiff, not_false_eq_true, Classical.not_not, true_or, or_true, false_or, Nat.zero_add, Nat.add_zero, nI_add, pk_mul, Option.toList_some, Option.toList_none, List.cons_append, List.nil_append, n00, n11, n10, bv0, bv1, bft, bnf, bnt, Nat.reduceAdd, Nat.reduceEqDiff, Nat.reduceMul, Nat.reduceLT, Nat.reduceSub, true_implies, false_implies, not_true_eq_false, not_false_eq_true, true_and, and_true, sr_ne (show ¬ 21 = 20 by decide), sr_ne (show ¬ 20 = 21 by decide), sr_ne (show ¬ 22 = 20 by decide), sr_ne (show ¬ 22 = 21 by decide), sr_ne (show ¬ 20 = 22 by decide), sr_ne (show ¬ 21 = 22 by decide), kX9_allocates_0, kX9_allocates_1, kX9_allocates_2, kX9_allocates_3, kX9_allocates_4, kX9_allocates_7, kX9_allocates_8, kX9_allocates_9, kX9_allocates_12, kX9_allocates_13, kX9_allocates_14, kX9_allocates_16, kX9_allocates_17, kX9_allocates_20, kX9_allocates_23, kX9_allocates_26, kX9_allocates_27, kX9_allocates_28, kX9_allocates_29, kX9_allocates_30, kX9_allocates_33, kX9_allocates_34, kX9_allocates_35, kX9_allocates_38, kX9_allocates_39, kX9_allocates_40, kX9_allocates_42, kX9_allocates_43, kX9_allocates_46, kX9_allocates_47, kX9_allocates_48, kX9_allocates_50, kX9_allocates_51, kX9_allocates_54, kX9_allocates_57, kX9_allocates_60, kX9_allocates_61, kX9_allocates_62, kX9_allocates_63, kX9_allocates_64, kX9_allocates_67, kX9_allocates_68, kX9_allocates_71, kX9_allocates_74, kX9_allocates_75, kX9_allocates_76, kX9_allocates_79, kX9_allocates_82, kX9_allocates_85, kX9_allocates_86, xAld, xArrF, xCmp, xGet, xGetF, xIf, xInc, xLdA, xLdI, xRet, xSt, fX9_9, bI_11, bI_12, bI_6, cI_0, cI_1, lA_611, fMod, lA_612, lA_613, lA_614, lA_615, lA_616, lA_617, lA_618, lA_619]
        refine ih x2 r2 _ (fun i => mq (rnd dir R') q i (nn R 1)) (rr + 1) hr2 hIm hnm (fun i hi => by rw [mkR_at hi, g2.n1, hn]) ?_ e
        have := un_dec hf
        rw [g2.n1, hn] at this
        omega
  -- the children, from 28 on
  have ch : JM E mX9_allocates C 9 0 0 P 28 [some (.ref (aF E 611)), some (.int (bv dir)), some (.int (nI 0))] [] (sr s 21 (az1 (s.1 21) (nn R 0))) := by
    refine loopU (N := nn R 1) (I := fun k => JM E mX9_allocates C 9 0 0 P 28 [some (.ref (aF E 611)), some (.int (bv dir)), some (.int (nI k))] [] (sr s 21 (az2 (az1 (s.1 21) (nn R 0)) k))) ?_ (fun k hk ih => ?_)
    · have e1 : az2 (az1 (s.1 21) (nn R 0)) (nn R 1) 1 = nI (nn R 1) := by rw [az2_far (fun i _ => by omega), az1_far (fun i _ => by omega)]; exact hS.1.2.1.trans hI.c0
      have hS9 : Sh ((sr s 21 (az2 (az1 (s.1 21) (nn R 0)) (nn R 1))).1 21) (azR R) := by rw [sr_same]; exact az2_sh (az1_sh hS _ (by omega)) _
      refine run X (rt := some .int) flX9_ok rfl tX9_allocates_ok 20 [28] ?_
      simp only [go_go, gos_some, ctn_ctn, step, fv0, fv1, fv2, fv3, List.getElem?_cons_zero, List.getElem?_cons_succ, List.set_cons_zero, List.set_cons_succ, List.mem_cons, List.not_mem_nil, or_false, or_self, if_false, if_true, List.length_cons, List.length_nil, lval, upS_sr, sr_same, sr_sr, Nat.reduceEqDiff, not_false_eq_true, Classical.not_not, true_or, or_true, false_or, Nat.zero_add, Nat.add_zero, nI_add, pk_mul, Option.toList_some, Option.toList_none, List.cons_append, List.nil_append, n00, n11, n10, bv0, bv1, bft, bnf, bnt, Nat.reduceAdd, Nat.reduceEqDiff, Nat.reduceMul, Nat.reduceLT, Nat.reduceSub, true_implies, false_implies, not_true_eq_false, not_false_eq_true, true_and, and_true, sr_ne (show ¬ 21 = 20 by decide), sr_ne (show ¬ 20 = 21 by decide), sr_ne (show ¬ 22 = 20 by decide), sr_ne (show ¬ 22 = 21 by decide), sr_ne (show ¬ 20 = 22 by decide), sr_ne (show ¬ 21 = 22 by decide), kX9_allocates_0, kX9_allocates_1, kX9_allocates_2, kX9_allocates_3, kX9_allocates_4, kX9_allocates_7, kX9_allocates_8, kX9_allocates_9, kX9_allocates_12, kX9_allocates_13, kX9_allocates_14, kX9_allocates_16, kX9_allocates_17, kX9_allocates_20, kX9_allocates_23, kX9_allocates_26, kX9_allocates_27, kX9_allocates_28, kX9_allocates_29, kX9_allocates_30, kX9_allocates_33, kX9_allocates_34, kX9_allocates_35, kX9_allocates_38, kX9_allocates_39, kX9_allocates_40, kX9_allocates_42, kX9_allocates_43, kX9_allocates_46, kX9_allocates_47, kX9_allocates_48, kX9_allocates_50, kX9_allocates_51, kX9_allocates_54, kX9_allocates_57, kX9_allocates_60, kX9_allocates_61, kX9_allocates_62, kX9_allocates_63, kX9_allocates_64, kX9_allocates_67, kX9_allocates_68, kX9_allocates_71, kX9_allocates_74, kX9_allocates_75, kX9_allocates_76, kX9_allocates_79, kX9_allocates_82, kX9_allocates_85, kX9_allocates_86, xAld, xArrF, xCmp, xGet, xGetF, xIf, xInc, xLdA, xLdI, xRet, xSt, fX9_9, bI_11, bI_12, bI_6, cI_0, cI_1, lA_611, fMod, lA_612, lA_613, lA_614, lA_615, lA_616, lA_617, lA_618, lA_619, v1, c1, e1, gC]
      refine cQ X  tX9_allocates_ok kX9_allocates_64 (m_round hS9 z1) vX9_round lX9_209 lA_611 rfl rfl rfl (Nat.le_of_ble_eq_true rfl) (Nat.le_of_ble_eq_true rfl) ?_
      rintro _ ⟨x2, r2, rfl, hr2⟩
      have hst : sr (sr (sr s 21 (az2 (az1 (s.1 21) (nn R 0)) (nn R 1))) 27 x2) 21 r2 = sr (sr s 27 x2) 21 r2 := by rw [sr_comm (show ¬ 21 = 27 by decide), sr_sr]
      rw [hst]
      have hl := loop 144 x2 r2 (azR R) (fun _ _ => false) 1 hr2 z1 z3 (fun i hi => z5 i hi) (by
        have := sm_le (f := fun i => ct (fun j => !(fun (_ _ : Nat) => false) i j) 6) (b := 6) (nn R 1) (fun k _ => ct_le _ 6)
        unfold un; omega) rfl
      exact hl
    · have e1 : az2 (az1 (s.1 21) (nn R 0)) k 1 = nI (nn R 1) := by rw [az2_far (fun i _ => by omega), az1_far (fun i _ => by omega)]; exact hS.1.2.1.trans hI.c0
      refine run X (rt := some .int) flX9_ok rfl tX9_allocates_ok 20 [28] ?_
      simp only [go_go, gos_some, ctn_ctn, step, fv0, fv1, fv2, fv3, List.getElem?_cons_zero, List.getElem?_cons_succ, List.set_cons_zero, List.set_cons_succ, List.mem_cons, List.not_mem_nil, or_false, or_self, if_false, if_true, List.length_cons, List.length_nil, lval, upS_sr, sr_same, sr_sr, Nat.reduceEqDiff, not_false_eq_true, Classical.not_not, true_or, or_true, false_or, Nat.zero_add, Nat.add_zero, nI_add, pk_mul, Option.toList_some, Option.toList_none, List.cons_append, List.nil_append, n00, n11, n10, bv0, bv1, bft, bnf, bnt, Nat.reduceAdd, Nat.reduceEqDiff, Nat.reduceMul, Nat.reduceLT, Nat.reduceSub, true_implies, false_implies, not_true_eq_false, not_false_eq_true, true_and, and_true, sr_ne (show ¬ 21 = 20 by decide), sr_ne (show ¬ 20 = 21 by decide), sr_ne (show ¬ 22 = 20 by decide), sr_ne (show ¬ 22 = 21 by decide), sr_ne (show ¬ 20 = 22 by decide), sr_ne (show ¬ 21 = 22 by decide), kX9_allocates_0, kX9_allocates_1, kX9_allocates_2, kX9_allocates_3, kX9_allocates_4, kX9_allocates_7, kX9_allocates_8, kX9_allocates_9, kX9_allocates_12, kX9_allocates_13, kX9_allocates_14, kX9_allocates_16, kX9_allocates_17, kX9_allocates_20, kX9_allocates_23, kX9_allocates_26, kX9_allocates_27, kX9_allocates_28, kX9_allocates_29, kX9_allocates_30, kX9_allocates_33, kX9_allocates_34, kX9_allocates_35, kX9_allocates_38, kX9_allocates_39, kX9_allocates_40, kX9_allocates_42, kX9_allocates_43, kX9_allocates_46, kX9_allocates_47, kX9_allocates_48, kX9_allocates_50, kX9_allocates_51, kX9_allocates_54, kX9_allocates_57, kX9_allocates_60, kX9_allocates_61, kX9_allocates_62, kX9_allocates_63, kX9_allocates_64, kX9_allocates_67, kX9_allocates_68, kX9_allocates_71, kX9_allocates_74, kX9_allocates_75, kX9_allocates_76, kX9_allocates_79, kX9_allocates_82, kX9_allocates_85, kX9_allocates_86, xAld, xArrF, xCmp, xGet, xGetF, xIf, xInc, xLdA, xLdI, xRet, xSt, fX9_9, bI_11, bI_12, bI_6, cI_0, cI_1, lA_611, fMod, lA_612, lA_613, lA_614, lA_615, lA_616, lA_617, lA_618, lA_619, v1, c1, e1, nI_ge hk hNc]
      refine cV X  tX9_allocates_ok kX9_allocates_43 (m_setC (show k < 24 by omega) (show 11 < 13 by decide)) vX9_setC lX9_114 lA_611 rfl rfl rfl (Nat.le_of_ble_eq_true rfl) (Nat.le_of_ble_eq_true rfl) ?_
      refine run X (rt := some .int) flX9_ok rfl tX9_allocates_ok 20 [28] ?_
      simp only [go_go, gos_some, ctn_ctn, step, fv0, fv1, fv2, fv3, List.getElem?_cons_zero, List.getElem?_cons_succ, List.set_cons_zero, List.set_cons_succ, List.mem_cons, List.not_mem_nil, or_false, or_self, if_false, if_true, List.length_cons, List.length_nil, lval, upS_sr, sr_same, sr_sr, Nat.reduceEqDiff, not_false_eq_true, Classical.not_not, true_or, or_true, false_or, Nat.zero_add, Nat.add_zero, nI_add, pk_mul, Option.toList_some, Option.toList_none, List.cons_append, List.nil_append, n00, n11, n10, bv0, bv1, bft, bnf, bnt, Nat.reduceAdd, Nat.reduceEqDiff, Nat.reduceMul, Nat.reduceLT, Nat.reduceSub, true_implies, false_implies, not_true_eq_false, not_false_eq_true, true_and, and_true, sr_ne (show ¬ 21 = 20 by decide), sr_ne (show ¬ 20 = 21 by decide), sr_ne (show ¬ 22 = 20 by decide), sr_ne (show ¬ 22 = 21 by decide), sr_ne (show ¬ 20 = 22 by decide), sr_ne (show ¬ 21 = 22 by decide), kX9_allocates_0, kX9_allocates_1, kX9_allocates_2, kX9_allocates_3, kX9_allocates_4, kX9_allocates_7, kX9_allocates_8, kX9_allocates_9, kX9_allocates_12, kX9_allocates_13, kX9_allocates_14, kX9_allocates_16, kX9_allocates_17, kX9_allocates_20, kX9_allocates_23, kX9_allocates_26, kX9_allocates_27, kX9_allocates_28, kX9_allocates_29, kX9_allocates_30, kX9_allocates_33, kX9_allocates_34, kX9_allocates_35, kX9_allocates_38, kX9_allocates_39, kX9_allocates_40, kX9_allocates_42, kX9_allocates_43, kX9_allocates_46, kX9_allocates_47, kX9_allocates_48, kX9_allocates_50, kX9_allocates_51, kX9_allocates_54, kX9_allocates_57, kX9_allocates_60, kX9_allocates_61, kX9_allocates_62, kX9_allocates_63, kX9_allocates_64, kX9_allocates_67, kX9_allocates_68, kX9_allocates_71, kX9_allocates_74, kX9_allocates_75, kX9_allocates_76, kX9_allocates_79, kX9_allocates_82, kX9_allocates_85, kX9_allocates_86, xAld, xArrF, xCmp, xGet, xGetF, xIf, xInc, xLdA, xLdI, xRet, xSt, fX9_9, bI_11, bI_12, bI_6, cI_0, cI_1, lA_611, fMod, lA_612, lA_613, lA_614, lA_615, lA_616, lA_617, lA_618, lA_619]
      refine cV X  tX9_allocates_ok kX9_allocates_51 (m_setC (show k < 24 by omega) (show 12 < 13 by decide)) vX9_setC lX9_114 lA_611 rfl rfl rfl (Nat.le_of_ble_eq_true rfl) (Nat.le_of_ble_eq_true rfl) ?_
      refine run X (rt := some .int) flX9_ok rfl tX9_allocates_ok 20 [28] ?_
      simp only [go_go, gos_some, ctn_ctn, step, fv0, fv1, fv2, fv3, List.getElem?_cons_zero, List.getElem?_cons_succ, List.set_cons_zero, List.set_cons_succ, List.mem_cons, List.not_mem_nil, or_false, or_self, if_false, if_true, List.length_cons, List.length_nil, lval, upS_sr, sr_same, sr_sr, Nat.reduceEqDiff, not_false_eq_true, Classical.not_not, true_or, or_true, false_or, Nat.zero_add, Nat.add_zero, nI_add, pk_mul, Option.toList_some, Option.toList_none, List.cons_append, List.nil_append, n00, n11, n10, bv0, bv1, bft, bnf, bnt, Nat.reduceAdd, Nat.reduceEqDiff, Nat.reduceMul, Nat.reduceLT, Nat.reduceSub, true_implies, false_implies, not_true_eq_false, not_false_eq_true, true_and, and_true, sr_ne (show ¬ 21 = 20 by decide), sr_ne (show ¬ 20 = 21 by decide), sr_ne (show ¬ 22 = 20 by decide), sr_ne (show ¬ 22 = 21 by decide), sr_ne (show ¬ 20 = 22 by decide), sr_ne (show ¬ 21 = 22 by decide), kX9_allocates_0, kX9_allocates_1, kX9_allocates_2, kX9_allocates_3, kX9_allocates_4, kX9_allocates_7, kX9_allocates_8, kX9_allocates_9, kX9_allocates_12, kX9_allocates_13, kX9_allocates_14, kX9_allocates_16, kX9_allocates_17, kX9_allocates_20, kX9_allocates_23, kX9_allocates_26, kX9_allocates_27, kX9_allocates_28, kX9_allocates_29, kX9_allocates_30, kX9_allocates_33, kX9_allocates_34, kX9_allocates_35, kX9_allocates_38, kX9_allocates_39, kX9_allocates_40, kX9_allocates_42, kX9_allocates_43, kX9_allocates_46, kX9_allocates_47, kX9_allocates_48, kX9_allocates_50, kX9_allocates_51, kX9_allocates_54, kX9_allocates_57, kX9_allocates_60, kX9_allocates_61, kX9_allocates_62, kX9_allocates_63, kX9_allocates_64, kX9_allocates_67, kX9_allocates_68, kX9_allocates_71, kX9_allocates_74, kX9_allocates_75, kX9_allocates_76, kX9_allocates_79, kX9_allocates_82, kX9_allocates_85, kX9_allocates_86, xAld, xArrF, xCmp, xGet, xGetF, xIf, xInc, xLdA, xLdI, xRet, xSt, fX9_9, bI_11, bI_12, bI_6, cI_0, cI_1, lA_611, fMod, lA_612, lA_613, lA_614, lA_615, lA_616, lA_617, lA_618, lA_619]
      exact ih
  suffices key : JM E mX9_allocates C 9 0 0 P 2 [some (.ref (aF E 611)), some (.int (bv dir)), some (.int (nI 0))] [] (sr s 21 (az1 (s.1 21) 0)) by
    rw [show az1 (s.1 21) 0 = s.1 21 from rfl, sr_id] at key
    refine run X (rt := some .int) flX9_ok rfl tX9_allocates_ok 20 [2] ?_
    simp only [go_go, gos_some, ctn_ctn, step, fv0, fv1, fv2, fv3, List.getElem?_cons_zero, List.getElem?_cons_succ, List.set_cons_zero, List.set_cons_succ, List.mem_cons, List.not_mem_nil, or_false, or_self, if_false, if_true, List.length_cons, List.length_nil, lval, upS_sr, sr_same, sr_sr, Nat.reduceEqDiff, not_false_eq_true, Classical.not_not, true_or, or_true, false_or, Nat.zero_add, Nat.add_zero, nI_add, pk_mul, Option.toList_some, Option.toList_none, List.cons_append, List.nil_append, n00, n11, n10, bv0, bv1, bft, bnf, bnt, Nat.reduceAdd, Nat.reduceEqDiff, Nat.reduceMul, Nat.reduceLT, Nat.reduceSub, true_implies, false_implies, not_true_eq_false, not_false_eq_true, true_and, and_true, sr_ne (show ¬ 21 = 20 by decide), sr_ne (show ¬ 20 = 21 by decide), sr_ne (show ¬ 22 = 20 by decide), sr_ne (show ¬ 22 = 21 by decide), sr_ne (show ¬ 20 = 22 by decide), sr_ne (show ¬ 21 = 22 by decide), kX9_allocates_0, kX9_allocates_1, kX9_allocates_2, kX9_allocates_3, kX9_allocates_4, kX9_allocates_7, kX9_allocates_8, kX9_allocates_9, kX9_allocates_12, kX9_allocates_13, kX9_allocates_14, kX9_allocates_16, kX9_allocates_17, kX9_allocates_20, kX9_allocates_23, kX9_allocates_26, kX9_allocates_27, kX9_allocates_28, kX9_allocates_29, kX9_allocates_30, kX9_allocates_33, kX9_allocates_34, kX9_allocates_35, kX9_allocates_38, kX9_allocates_39, kX9_allocates_40, kX9_allocates_42, kX9_allocates_43, kX9_allocates_46, kX9_allocates_47, kX9_allocates_48, kX9_allocates_50, kX9_allocates_51, kX9_allocates_54, kX9_allocates_57, kX9_allocates_60, kX9_allocates_61, kX9_allocates_62, kX9_allocates_63, kX9_allocates_64, kX9_allocates_67, kX9_allocates_68, kX9_allocates_71, kX9_allocates_74, kX9_allocates_75, kX9_allocates_76, kX9_allocates_79, kX9_allocates_82, kX9_allocates_85, kX9_allocates_86, xAld, xArrF, xCmp, xGet, xGetF, xIf, xInc, xLdA, xLdI, xRet, xSt, fX9_9, bI_11, bI_12, bI_6, cI_0, cI_1, lA_611, fMod, lA_612, lA_613, lA_614, lA_615, lA_616, lA_617, lA_618, lA_619]
    exact key
  refine loopU (N := nn R 0) (I := fun k => JM E mX9_allocates C 9 0 0 P 2 [some (.ref (aF E 611)), some (.int (bv dir)), some (.int (nI k))] [] (sr s 21 (az1 (s.1 21) k))) ?_ (fun k hk ih => ?_)
  · have e1 : az1 (s.1 21) (nn R 0) 0 = nI (nn R 0) := by rw [az1_far (fun i _ => by omega)]; exact hS.1.1.trans hI.s0
    refine run X (rt := some .int) flX9_ok rfl tX9_allocates_ok 20 [2, 28] ?_
    simp only [go_go, gos_some, ctn_ctn, step, fv0, fv1, fv2, fv3, List.getElem?_cons_zero, List.getElem?_cons_succ, List.set_cons_zero, List.set_cons_succ, List.mem_cons, List.not_mem_nil, or_false, or_self, if_false, if_true, List.length_cons, List.length_nil, lval, upS_sr, sr_same, sr_sr, Nat.reduceEqDiff, not_false_eq_true, Classical.not_not, true_or, or_true, false_or, Nat.zero_add, Nat.add_zero, nI_add, pk_mul, Option.toList_some, Option.toList_none, List.cons_append, List.nil_append, n00, n11, n10, bv0, bv1, bft, bnf, bnt, Nat.reduceAdd, Nat.reduceEqDiff, Nat.reduceMul, Nat.reduceLT, Nat.reduceSub, true_implies, false_implies, not_true_eq_false, not_false_eq_true, true_and, and_true, sr_ne (show ¬ 21 = 20 by decide), sr_ne (show ¬ 20 = 21 by decide), sr_ne (show ¬ 22 = 20 by decide), sr_ne (show ¬ 22 = 21 by decide), sr_ne (show ¬ 20 = 22 by decide), sr_ne (show ¬ 21 = 22 by decide), kX9_allocates_0, kX9_allocates_1, kX9_allocates_2, kX9_allocates_3, kX9_allocates_4, kX9_allocates_7, kX9_allocates_8, kX9_allocates_9, kX9_allocates_12, kX9_allocates_13, kX9_allocates_14, kX9_allocates_16, kX9_allocates_17, kX9_allocates_20, kX9_allocates_23, kX9_allocates_26, kX9_allocates_27, kX9_allocates_28, kX9_allocates_29, kX9_allocates_30, kX9_allocates_33, kX9_allocates_34, kX9_allocates_35, kX9_allocates_38, kX9_allocates_39, kX9_allocates_40, kX9_allocates_42, kX9_allocates_43, kX9_allocates_46, kX9_allocates_47, kX9_allocates_48, kX9_allocates_50, kX9_allocates_51, kX9_allocates_54, kX9_allocates_57, kX9_allocates_60, kX9_allocates_61, kX9_allocates_62, kX9_allocates_63, kX9_allocates_64, kX9_allocates_67, kX9_allocates_68, kX9_allocates_71, kX9_allocates_74, kX9_allocates_75, kX9_allocates_76, kX9_allocates_79, kX9_allocates_82, kX9_allocates_85, kX9_allocates_86, xAld, xArrF, xCmp, xGet, xGetF, xIf, xInc, xLdA, xLdI, xRet, xSt, fX9_9, bI_11, bI_12, bI_6, cI_0, cI_1, lA_611, fMod, lA_612, lA_613, lA_614, lA_615, lA_616, lA_617, lA_618, lA_619, v0, c0, e1, gS]
    exact ch
  · have e1 : az1 (s.1 21) k 0 = nI (nn R 0) := by rw [az1_far (fun i _ => by omega)]; exact hS.1.1.trans hI.s0
    refine run X (rt := some .int) flX9_ok rfl tX9_allocates_ok 20 [2, 28] ?_
    simp only [go_go, gos_some, ctn_ctn, step, fv0, fv1, fv2, fv3, List.getElem?_cons_zero, List.getElem?_cons_succ, List.set_cons_zero, List.set_cons_succ, List.mem_cons, List.not_mem_nil, or_false, or_self, if_false, if_true, List.length_cons, List.length_nil, lval, upS_sr, sr_same, sr_sr, Nat.reduceEqDiff, not_false_eq_true, Classical.not_not, true_or, or_true, false_or, Nat.zero_add, Nat.add_zero, nI_add, pk_mul, Option.toList_some, Option.toList_none, List.cons_append, List.nil_append, n00, n11, n10, bv0, bv1, bft, bnf, bnt, Nat.reduceAdd, Nat.reduceEqDiff, Nat.reduceMul, Nat.reduceLT, Nat.reduceSub, true_implies, false_implies, not_true_eq_false, not_false_eq_true, true_and, and_true, sr_ne (show ¬ 21 = 20 by decide), sr_ne (show ¬ 20 = 21 by decide), sr_ne (show ¬ 22 = 20 by decide), sr_ne (show ¬ 22 = 21 by decide), sr_ne (show ¬ 20 = 22 by decide), sr_ne (show ¬ 21 = 22 by decide), kX9_allocates_0, kX9_allocates_1, kX9_allocates_2, kX9_allocates_3, kX9_allocates_4, kX9_allocates_7, kX9_allocates_8, kX9_allocates_9, kX9_allocates_12, kX9_allocates_13, kX9_allocates_14, kX9_allocates_16, kX9_allocates_17, kX9_allocates_20, kX9_allocates_23, kX9_allocates_26, kX9_allocates_27, kX9_allocates_28, kX9_allocates_29, kX9_allocates_30, kX9_allocates_33, kX9_allocates_34, kX9_allocates_35, kX9_allocates_38, kX9_allocates_39, kX9_allocates_40, kX9_allocates_42, kX9_allocates_43, kX9_allocates_46, kX9_allocates_47, kX9_allocates_48, kX9_allocates_50, kX9_allocates_51, kX9_allocates_54, kX9_allocates_57, kX9_allocates_60, kX9_allocates_61, kX9_allocates_62, kX9_allocates_63, kX9_allocates_64, kX9_allocates_67, kX9_allocates_68, kX9_allocates_71, kX9_allocates_74, kX9_allocates_75, kX9_allocates_76, kX9_allocates_79, kX9_allocates_82, kX9_allocates_85, kX9_allocates_86, xAld, xArrF, xCmp, xGet, xGetF, xIf, xInc, xLdA, xLdI, xRet, xSt, fX9_9, bI_11, bI_12, bI_6, cI_0, cI_1, lA_611, fMod, lA_612, lA_613, lA_614, lA_615, lA_616, lA_617, lA_618, lA_619, v0, c0, e1, nI_ge hk hNs]
    refine cV X  tX9_allocates_ok kX9_allocates_17 (m_setS (show k < 6 by omega) (show 6 < 7 by decide)) vX9_setS lX9_88 lA_611 rfl rfl rfl (Nat.le_of_ble_eq_true rfl) (Nat.le_of_ble_eq_true rfl) ?_
    refine run X (rt := some .int) flX9_ok rfl tX9_allocates_ok 20 [2, 28] ?_
    simp only [go_go, gos_some, ctn_ctn, step, fv0, fv1, fv2, fv3, List.getElem?_cons_zero, List.getElem?_cons_succ, List.set_cons_zero, List.set_cons_succ, List.mem_cons, List.not_mem_nil, or_false, or_self, if_false, if_true, List.length_cons, List.length_nil, lval, upS_sr, sr_same, sr_sr, Nat.reduceEqDiff, not_false_eq_true, Classical.not_not, true_or, or_true, false_or, Nat.zero_add, Nat.add_zero, nI_add, pk_mul, Option.toList_some, Option.toList_none, List.cons_append, List.nil_append, n00, n11, n10, bv0, bv1, bft, bnf, bnt, Nat.reduceAdd, Nat.reduceEqDiff, Nat.reduceMul, Nat.reduceLT, Nat.reduceSub, true_implies, false_implies, not_true_eq_false, not_false_eq_true, true_and, and_true, sr_ne (show ¬ 21 = 20 by decide), sr_ne (show ¬ 20 = 21 by decide), sr_ne (show ¬ 22 = 20 by decide), sr_ne (show ¬ 22 = 21 by decide), sr_ne (show ¬ 20 = 22 by decide), sr_ne (show ¬ 21 = 22 by decide), kX9_allocates_0, kX9_allocates_1, kX9_allocates_2, kX9_allocates_3, kX9_allocates_4, kX9_allocates_7, kX9_allocates_8, kX9_allocates_9, kX9_allocates_12, kX9_allocates_13, kX9_allocates_14, kX9_allocates_16, kX9_allocates_17, kX9_allocates_20, kX9_allocates_23, kX9_allocates_26, kX9_allocates_27, kX9_allocates_28, kX9_allocates_29, kX9_allocates_30, kX9_allocates_33, kX9_allocates_34, kX9_allocates_35, kX9_allocates_38, kX9_allocates_39, kX9_allocates_40, kX9_allocates_42, kX9_allocates_43, kX9_allocates_46, kX9_allocates_47, kX9_allocates_48, kX9_allocates_50, kX9_allocates_51, kX9_allocates_54, kX9_allocates_57, kX9_allocates_60, kX9_allocates_61, kX9_allocates_62, kX9_allocates_63, kX9_allocates_64, kX9_allocates_67, kX9_allocates_68, kX9_allocates_71, kX9_allocates_74, kX9_allocates_75, kX9_allocates_76, kX9_allocates_79, kX9_allocates_82, kX9_allocates_85, kX9_allocates_86, xAld, xArrF, xCmp, xGet, xGetF, xIf, xInc, xLdA, xLdI, xRet, xSt, fX9_9, bI_11, bI_12, bI_6, cI_0, cI_1, lA_611, fMod, lA_612, lA_613, lA_614, lA_615, lA_616, lA_617, lA_618, lA_619]
    exact ih
