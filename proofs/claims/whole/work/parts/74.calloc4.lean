/-! ===== the class allocates: what is taken over ===== -/
theorem alN_far {dir : Bool} : ∀ (m : Nat) {R : RW} {q : Nat → Nat → Bool} {r x : Nat}, Inv R → (x < 57 ∨ (57 ≤ x ∧ (x - 57) % 13 = 12)) → (alN dir m R q r).1 x = R x
  | 0, R, q, r, x, h, hx => by
    obtain ⟨g1, g2⟩ := rnd_ok (dir := dir) h
    show mkR (rnd dir R) q (nn R 1) x = R x
    rw [mkR_far (fun i hi => by omega)]
    exact g2 _ (fun i hi => by omega)
  | m + 1, R, q, r, x, h, hx => by
    obtain ⟨g1, g2⟩ := rnd_ok (dir := dir) h
    have k1 : Inv (mkR (rnd dir R) q (nn R 1)) := mkR_inv g1 _ (by rw [g2.n1]; exact Nat.le_refl _)
    have e : mkR (rnd dir R) q (nn R 1) x = R x := by
      rw [mkR_far (fun i hi => by omega)]
      exact g2 _ (fun i hi => by omega)
    rw [alN]
    split
    · rw [alN_far m k1 hx]; exact e
    · exact e
theorem alN_q {dir : Bool} : ∀ (m : Nat) {R : RW} {q : Nat → Nat → Bool} {r : Nat}, Inv R → samQ R (alN dir m R q r).1
  | 0, R, q, r, h => by
    obtain ⟨g1, g2⟩ := rnd_ok (dir := dir) h
    exact g2.q.tr (mkR_q h.c)
  | m + 1, R, q, r, h => by
    obtain ⟨g1, g2⟩ := rnd_ok (dir := dir) h
    have k1 : Inv (mkR (rnd dir R) q (nn R 1)) := mkR_inv g1 _ (by rw [g2.n1]; exact Nat.le_refl _)
    rw [alN]
    split
    · exact (g2.q.tr (mkR_q h.c)).tr (alN_q m k1)
    · exact g2.q.tr (mkR_q h.c)
theorem az2_at12 {R : RW} : ∀ {k i : Nat}, i < k → az2 R k (57 + 13 * i + 12) = nI 0
  | 0, i, h => absurd h (Nat.not_lt_zero i)
  | k + 1, i, h => by
    rw [az2]
    by_cases e : i = k
    · subst e; rw [ur_eq]
    · rw [ur_ne (by omega), ur_ne (by omega)]; exact az2_at12 (by omega)
theorem alo_F {dir : Bool} {R : RW} (hI : Inv R) : samQ R (alo dir R).1 ∧ (∀ x, x < 57 → (alo dir R).1 x = az1 R (nn R 0) x) ∧ ∀ i, i < nn R 1 → (alo dir R).1 (57 + 13 * i + 12) = nI 0 := by
  obtain ⟨z1, z2, z3, -⟩ := azR_ok hI
  refine ⟨(azR_q hI).tr (alN_q 144 z1), fun x hx => ?_, fun i hi => ?_⟩
  · unfold alo
    rw [alN_far 144 z1 (Or.inl hx)]
    unfold azR
    exact az2_far (fun i hi => by omega)
  · unfold alo
    rw [alN_far 144 z1 (by omega)]
    exact az2_at12 hi
/-- the desk's row while the result F is taken over -/
def tkA (R F T : RW) (k : Nat) : RW := ur (ur T (57 + 13 * k + 12) (nI 0)) (57 + 13 * k + 11) (F (57 + 13 * k + 11))
def tkR (R F : RW) : Nat → RW
  | 0 => az1 R (nn R 0)
  | k + 1 => if R (57 + 13 * k + 10) = F (57 + 13 * k + 10) then tkA R F (tkR R F k) k else mv (tkA R F (tkR R F k) k) 0 k (F (57 + 13 * k + 10))
theorem ntE_cong {X Y : RW} {e x : Nat} {a b c d : Int32} (h : X x = Y x) : ntE X e a b c d x = ntE Y e a b c d x := by
  unfold ntE
  rw [h]
theorem tkA_far {R F T : RW} {k x : Nat} (h : x < 57 + 13 * k + 11 ∨ 57 + 13 * k + 13 ≤ x) : tkA R F T k x = T x := by
  unfold tkA
  rw [ur_ne (by omega), ur_ne (by omega)]
theorem tkR_ok {R F : RW} (hI : Inv R) (hF : Inv F) (hq : samQ R F) (h12 : ∀ i, i < nn R 1 → F (57 + 13 * i + 12) = nI 0) (hB : nn R 2 + 24 ≤ 1073741824) : ∀ k, k ≤ nn R 1 →
    (Inv (tkR R F k) ∧ nn (tkR R F k) 0 = nn R 0 ∧ nn (tkR R F k) 1 = nn R 1 ∧ nn (tkR R F k) 2 ≤ nn R 2 + k) ∧ (∀ x, (x = 2 ∨ 369 ≤ x) → tkR R F k x = nts R F k x) ∧ (∀ x, x < 369 → ¬ x = 2 → tkR R F k x = if 57 ≤ x ∧ x < 57 + 13 * k then F x else az1 R (nn R 0) x)
  | 0, _ => by
    have hs := hI.s
    obtain ⟨a1, a2, a3, a4⟩ := az1_ok hI (nn R 0) (Nat.le_refl _)
    refine ⟨⟨a1, a2, a3, by show nn (az1 R (nn R 0)) 2 ≤ nn R 2 + 0; omega⟩, fun x hx => ?_, fun x hx h2 => ?_⟩
    · show az1 R (nn R 0) x = F x
      rw [az1_far (fun j hj => by omega)]
      exact (hq x (by omega)).symm
    · rw [if_neg (by omega)]; rfl
  | k + 1, hk => by
    have hc := hI.c
    have hs := hI.s
    obtain ⟨⟨b1, b2, b3, b4⟩, b5, b6⟩ := tkR_ok hI hF hq h12 hB k (by omega)
    have az : ∀ x, 45 ≤ x → az1 R (nn R 0) x = R x := fun x hx => az1_far (fun j hj => by omega)
    -- the child's marks and appeals
    have A1 : Inv (ur (tkR R F k) (57 + 13 * k + 12) (nI 0)) := b1.uc (w := 12) (by omega) (by decide) (by decide) trivial
    have hA : Inv (tkA R F (tkR R F k) k) := A1.mark (by rw [nn_ur_ne (by omega)]; omega)
    have n0 : nn (tkA R F (tkR R F k) k) 0 = nn R 0 := by unfold nn; rw [tkA_far (by omega)]; exact b2
    have n1 : nn (tkA R F (tkR R F k) k) 1 = nn R 1 := by unfold nn; rw [tkA_far (by omega)]; exact b3
    have n2 : nn (tkA R F (tkR R F k) k) 2 = nn (tkR R F k) 2 := by unfold nn; rw [tkA_far (by omega)]
    have sk : tkA R F (tkR R F k) k (57 + 13 * k + 10) = R (57 + 13 * k + 10) := by rw [tkA_far (by omega), b6 _ (by omega) (by omega), if_neg (by omega), az _ (by omega)]
    have at_ : ∀ x, x < 369 → ¬ x = 2 → ¬ x = 57 + 13 * k + 10 → tkA R F (tkR R F k) k x = if 57 ≤ x ∧ x < 57 + 13 * (k + 1) then F x else az1 R (nn R 0) x := by
      intro x hx h2 h10
      by_cases e12 : x = 57 + 13 * k + 12
      · rw [if_pos (by omega), e12, h12 k (by omega)]
        unfold tkA
        rw [ur_ne (by omega), ur_eq]
      · by_cases e11 : x = 57 + 13 * k + 11
        · rw [if_pos (by omega), e11]
          unfold tkA
          rw [ur_eq]
        · rw [tkA_far (by omega), b6 x hx h2]
          by_cases ei : 57 ≤ x ∧ x < 57 + 13 * k
          · rw [if_pos ei, if_pos (by omega)]
          · rw [if_neg ei]
            by_cases ej : 57 ≤ x ∧ x < 57 + 13 * (k + 1)
            · rw [if_pos ej, az _ (by omega)]
              exact (hq x (by omega)).symm
            · rw [if_neg ej]
    rw [tkR, nts]
    by_cases e : R (57 + 13 * k + 10) = F (57 + 13 * k + 10)
    · rw [if_pos e, if_pos e]
      refine ⟨⟨hA, n0, n1, by omega⟩, fun x hx => ?_, fun x hx h2 => ?_⟩
      · rw [tkA_far (by omega)]; exact b5 x hx
      · by_cases e10 : x = 57 + 13 * k + 10
        · rw [if_pos (by omega), e10, sk, e]
        · exact at_ x hx h2 e10
    · rw [if_neg e, if_neg e]
      have hxF : ix9 (nn (tkA R F (tkR R F k) k) 0) (F (57 + 13 * k + 10)) := by
        have h9 := (hF.2.2 k (by rw [hq.n1]; omega)).2.2.2.1
        rcases h9 with h9 | ⟨j, hj, h9⟩
        · exact Or.inl h9
        · exact Or.inr ⟨j, by rw [n0, ← hq.n0]; exact hj, h9⟩
      refine ⟨⟨hA.mv (by omega) hxF (by omega), by rw [nn0_mv]; exact n0, by rw [nn1_mv]; exact n1, by rw [mv_2 (by omega)]; omega⟩, fun x hx => ?_, fun x hx h2 => ?_⟩
      · unfold mv
        rw [ur_ne (by omega), sk, n2]
        have e2 : nn (tkR R F k) 2 = nn (nts R F k) 2 := by unfold nn; rw [b5 2 (Or.inl rfl)]
        rw [e2]
        exact ntE_cong (by rw [tkA_far (by omega)]; exact b5 x hx)
      · by_cases e10 : x = 57 + 13 * k + 10
        · rw [if_pos (by omega), e10, mv_seat]
        · rw [mv_lo hx h2 e10]
          exact at_ x hx h2 e10
theorem Sh_cong {r R R' : RW} (h : Sh r R) (hI : Inv R) (e : ∀ x, (x < 3 + 7 * nn R 0 ∨ (45 ≤ x ∧ x < 57 + 13 * nn R 1) ∨ 369 ≤ x) → R' x = R x) : Sh r R' := by
  obtain ⟨⟨a0, a1, a2⟩, a3, a4, a5, a6, a7⟩ := h
  have hs := hI.s
  have hc := hI.c
  have n0 : nn R' 0 = nn R 0 := by unfold nn; rw [e 0 (by omega)]
  have n1 : nn R' 1 = nn R 1 := by unfold nn; rw [e 1 (by omega)]
  have n2 : nn R' 2 = nn R 2 := by unfold nn; rw [e 2 (by omega)]
  refine ⟨⟨by rw [e 0 (by omega)]; exact a0, by rw [e 1 (by omega)]; exact a1, by rw [e 2 (by omega)]; exact a2⟩, fun j w hj hw => ?_, fun f hf => ?_, fun i w hi hw hw2 => ?_, fun i p hi hp => ?_, fun x w hx hx8 hw => ?_⟩
  · rw [n0] at hj; rw [e _ (by omega)]; exact a3 j w hj hw
  · rw [e _ (by omega)]; exact a4 f hf
  · rw [n1] at hi; rw [e _ (by omega)]; exact a5 i w hi hw hw2
  · rw [n1] at hi
    have hm := (hI.m hi).2
    have e5 : nn R' (57 + 13 * i + 5) = nn R (57 + 13 * i + 5) := by unfold nn; rw [e _ (by omega)]
    rw [e5] at hp
    rw [e _ (by omega)]; exact a6 i p hi hp
  · rw [n2] at hx; rw [e _ (by omega)]; exact a7 x w hx hx8 hw
set_option maxRecDepth 10000 in
theorem c_take {E : WE} {s : ST} {R F : RW} (hS : Sh (s.1 0) R) (hI : Inv R) (hF : Inv F) (hq : samQ R F) (hlo : ∀ x, x < 57 → F x = az1 R (nn R 0) x) (hap : ∀ i, i < nn R 1 → F (57 + 13 * i + 12) = nI 0) (hB : nn R 2 + 24 ≤ 1073741824) (hr : ∀ i, i < nn R 1 → s.1 11 i = F (57 + 13 * i + 10) ∧ s.1 12 i = F (57 + 13 * i + 11)) :
    SpQ E mX3_take 2 [.ref (aD E 0), .ref (aF E 603)] s none (Q0 s (nts R F (nn R 1))) := by
  refine SpQ.of vX3_take.1 [some (.ref (aD E 0)), some (.ref (aF E 603)), none] rfl (Nat.le_of_ble_eq_true rfl) rfl (fun C P X hP => ?_)
  have hc := hI.c
  have hs := hI.s
  have hNc : nn R 1 < 2 ^ 31 := by omega
  have hNs : nn R 0 < 2 ^ 31 := by omega
  have gC := nI_le (Nat.le_refl (nn R 1)) hNc
  have gS := nI_le (Nat.le_refl (nn R 0)) hNs
  -- the children
  have kids : ∀ r : RW, Sh r (tkR R F 0) → JM E mX3_take C 2 0 0 P 28 [some (.ref (aD E 0)), some (.ref (aF E 603)), some (.int (nI 0))] [] (sr s 0 r) := by
    refine loopU (N := nn R 1) (I := fun i => ∀ r : RW, Sh r (tkR R F i) → JM E mX3_take C 2 0 0 P 28 [some (.ref (aD E 0)), some (.ref (aF E 603)), some (.int (nI i))] [] (sr s 0 r)) ?_ (fun i hi ih => ?_)
    · intro r hr9
      obtain ⟨⟨b1, b2, b3, b4⟩, b5, b6⟩ := tkR_ok hI hF hq hap hB (nn R 1) (Nat.le_refl _)
      have e1 : r 1 = nI (nn R 1) := by rw [hr9.1.2.1, b1.c0, b3]
      refine run X (rt := none) flX3_ok rfl tX3_take_ok 20 [2, 28] ?_
      simp only [go_go, gos_some, ctn_ctn, step, fv0, fv1, fv2, fv3, List.getElem?_cons_zero, List.getElem?_cons_succ, List.set_cons_zero, List.set_cons_succ, List.mem_cons, List.not_mem_nil, or_false, or_self, if_false, if_true, List.length_cons, List.length_nil, lval, upS_sr, sr_same, sr_sr, Nat.reduceEqDiff, not_false_eq_true, Classical.not_not, true_or, or_true, false_or, Nat.zero_add, Nat.add_zero, nI_add, pk_mul, Option.toList_some, Option.toList_none, List.cons_append, List.nil_append, n00, n11, n10, bv0, bv1, bft, bnf, bnt, Nat.reduceAdd, Nat.reduceEqDiff, Nat.reduceMul, Nat.reduceLT, Nat.reduceSub, true_implies, false_implies, not_true_eq_false, not_false_eq_true, true_and, and_true, sr_ne (show ¬ 21 = 20 by decide), sr_ne (show ¬ 20 = 21 by decide), sr_ne (show ¬ 22 = 20 by decide), sr_ne (show ¬ 22 = 21 by decide), sr_ne (show ¬ 20 = 22 by decide), sr_ne (show ¬ 21 = 22 by decide), kX3_take_0, kX3_take_1, kX3_take_2, kX3_take_3, kX3_take_4, kX3_take_7, kX3_take_10, kX3_take_11, kX3_take_14, kX3_take_15, kX3_take_16, kX3_take_17, kX3_take_20, kX3_take_23, kX3_take_26, kX3_take_27, kX3_take_28, kX3_take_29, kX3_take_30, kX3_take_33, kX3_take_36, kX3_take_37, kX3_take_40, kX3_take_41, kX3_take_42, kX3_take_43, kX3_take_46, kX3_take_47, kX3_take_50, kX3_take_51, kX3_take_52, kX3_take_53, kX3_take_56, kX3_take_57, kX3_take_58, kX3_take_61, kX3_take_62, kX3_take_65, kX3_take_66, kX3_take_67, kX3_take_70, kX3_take_71, kX3_take_74, kX3_take_75, kX3_take_76, kX3_take_79, kX3_take_80, kX3_take_81, kX3_take_82, kX3_take_85, kX3_take_86, kX3_take_87, kX3_take_88, kX3_take_91, kX3_take_94, kX3_take_97, xAld, xArrF, xCmp, xGet, xGetF, xInc, xLdA, xLdI, xPut, xPutF, xQld, xQldF, xSt, xVret, fX3_103, fX3_11, fX3_121, fX3_153, fX3_156, fX3_160, fX3_20, fX3_36, fX3_40, fX3_96, cI_0, cI_1, fDesk, lD0, fDesk, e1, gC]
      refine hP _ ⟨r, rfl, Sh_cong hr9 b1 (fun x hx => ?_)⟩
      rw [b2, b3] at hx
      obtain ⟨-, -, -, -, t5⟩ := nts_ok (R0 := R) hF (nn R 1) hc (by rw [show nn F 2 = nn R 2 from hq.n (hq 2 (by omega))]; omega)
      by_cases e2 : x = 2 ∨ 369 ≤ x
      · exact (b5 x e2).symm
      · rw [t5 x (by omega) (by omega), b6 x (by omega) (by omega)]
        by_cases e3 : 57 ≤ x ∧ x < 57 + 13 * nn R 1
        · rw [if_pos e3]
        · rw [if_neg e3]; exact hlo x (by omega)
    · intro r hr9
      obtain ⟨⟨b1, b2, b3, b4⟩, b5, b6⟩ := tkR_ok hI hF hq hap hB i (by omega)
      have e1 : r 1 = nI (nn R 1) := by rw [hr9.1.2.1, b1.c0, b3]
      have e10 : r (57 + 13 * i + 10) = R (57 + 13 * i + 10) := by rw [hr9.c (by rw [b3]; exact hi) 10 (by decide) (by decide), b6 _ (by omega) (by omega), if_neg (by omega), az1_far (fun j hj => by omega)]
      obtain ⟨x11, x12⟩ := hr i hi
      have hA := (hr9.uc (i := i) (w := 12) (v := nI 0) (by decide) (by decide)).uc (i := i) (w := 11) (v := F (57 + 13 * i + 11)) (by decide) (by decide)
      have hA : Sh (ur (ur r (57 + 13 * i + 12) (nI 0)) (57 + 13 * i + 11) (F (57 + 13 * i + 11))) (tkA R F (tkR R F i) i) := hA
      refine run X (rt := none) flX3_ok rfl tX3_take_ok 60 [2, 28] ?_
      simp only [go_go, gos_some, ctn_ctn, step, fv0, fv1, fv2, fv3, List.getElem?_cons_zero, List.getElem?_cons_succ, List.set_cons_zero, List.set_cons_succ, List.mem_cons, List.not_mem_nil, or_false, or_self, if_false, if_true, List.length_cons, List.length_nil, lval, upS_sr, sr_same, sr_sr, Nat.reduceEqDiff, not_false_eq_true, Classical.not_not, true_or, or_true, false_or, Nat.zero_add, Nat.add_zero, nI_add, pk_mul, Option.toList_some, Option.toList_none, List.cons_append, List.nil_append, n00, n11, n10, bv0, bv1, bft, bnf, bnt, Nat.reduceAdd, Nat.reduceEqDiff, Nat.reduceMul, Nat.reduceLT, Nat.reduceSub, true_implies, false_implies, not_true_eq_false, not_false_eq_true, true_and, and_true, sr_ne (show ¬ 21 = 20 by decide), sr_ne (show ¬ 20 = 21 by decide), sr_ne (show ¬ 22 = 20 by decide), sr_ne (show ¬ 22 = 21 by decide), sr_ne (show ¬ 20 = 22 by decide), sr_ne (show ¬ 21 = 22 by decide), kX3_take_0, kX3_take_1, kX3_take_2, kX3_take_3, kX3_take_4, kX3_take_7, kX3_take_10, kX3_take_11, kX3_take_14, kX3_take_15, kX3_take_16, kX3_take_17, kX3_take_20, kX3_take_23, kX3_take_26, kX3_take_27, kX3_take_28, kX3_take_29, kX3_take_30, kX3_take_33, kX3_take_36, kX3_take_37, kX3_take_40, kX3_take_41, kX3_take_42, kX3_take_43, kX3_take_46, kX3_take_47, kX3_take_50, kX3_take_51, kX3_take_52, kX3_take_53, kX3_take_56, kX3_take_57, kX3_take_58, kX3_take_61, kX3_take_62, kX3_take_65, kX3_take_66, kX3_take_67, kX3_take_70, kX3_take_71, kX3_take_74, kX3_take_75, kX3_take_76, kX3_take_79, kX3_take_80, kX3_take_81, kX3_take_82, kX3_take_85, kX3_take_86, kX3_take_87, kX3_take_88, kX3_take_91, kX3_take_94, kX3_take_97, xAld, xArrF, xCmp, xGet, xGetF, xInc, xLdA, xLdI, xPut, xPutF, xQld, xQldF, xSt, xVret, fX3_103, fX3_11, fX3_121, fX3_153, fX3_156, fX3_160, fX3_20, fX3_36, fX3_40, fX3_96, cI_0, cI_1, fDesk, lD0, lCs0, lA_603, fDesk, fChi, fAll, lA_604, lA_605, e1, nI_ge hi hNc, vp_in_nI (show i < 24 by omega) (show 24 < 2 ^ 31 by decide), nI31 (show i < 2 ^ 31 by omega), lA_C (E := E) (d := 0) (i := i) (by decide) (by omega), vp_in_nI (show i < 24 by omega) (show 24 < 2 ^ 31 by decide), sr_ne (show ¬ 11 = 0 by decide), sr_ne (show ¬ 12 = 0 by decide), x11, x12, putT, ur_ne (show ¬ 57 + 13 * i + 10 = 57 + 13 * i + 11 by omega), ur_ne (show ¬ 57 + 13 * i + 10 = 57 + 13 * i + 12 by omega), e10]
      refine ⟨fun c => ?_, fun c => ?_⟩
      · exact ih _ (by rw [tkR, if_pos c]; exact hA)
      · have hIA : Inv (tkA R F (tkR R F i) i) := (b1.uc (w := 12) (v := nI 0) (i := i) (by omega) (by decide) (by decide) trivial).mark (by rw [nn_ur_ne (by omega)]; omega)
        have n1 : nn (tkA R F (tkR R F i) i) 1 = nn R 1 := by unfold nn; rw [tkA_far (by omega)]; exact b3
        refine cQ X  tX3_take_ok kX3_take_88 (c_moveChild (kind := 0) (s := sr s 0 (ur (ur r (57 + 13 * i + 12) (nI 0)) (57 + 13 * i + 11) (F (57 + 13 * i + 11)))) (by rw [sr_same]; exact hA) hIA (by rw [n1]; exact hi)) vX3_moveChild lX3_149 (lA_D (d := 0) (by decide)) rfl rfl rfl (Nat.le_of_ble_eq_true rfl) (Nat.le_of_ble_eq_true rfl) ?_
        rintro _ ⟨r2, rfl, hR2⟩
        refine run X (rt := none) flX3_ok rfl tX3_take_ok 20 [2, 28] ?_
        simp only [go_go, gos_some, ctn_ctn, step, fv0, fv1, fv2, fv3, List.getElem?_cons_zero, List.getElem?_cons_succ, List.set_cons_zero, List.set_cons_succ, List.mem_cons, List.not_mem_nil, or_false, or_self, if_false, if_true, List.length_cons, List.length_nil, lval, upS_sr, sr_same, sr_sr, Nat.reduceEqDiff, not_false_eq_true, Classical.not_not, true_or, or_true, false_or, Nat.zero_add, Nat.add_zero, nI_add, pk_mul, Option.toList_some, Option.toList_none, List.cons_append, List.nil_append, n00, n11, n10, bv0, bv1, bft, bnf, bnt, Nat.reduceAdd, Nat.reduceEqDiff, Nat.reduceMul, Nat.reduceLT, Nat.reduceSub, true_implies, false_implies, not_true_eq_false, not_false_eq_true, true_and, and_true, sr_ne (show ¬ 21 = 20 by decide), sr_ne (show ¬ 20 = 21 by decide), sr_ne (show ¬ 22 = 20 by decide), sr_ne (show ¬ 22 = 21 by decide), sr_ne (show ¬ 20 = 22 by decide), sr_ne (show ¬ 21 = 22 by decide), kX3_take_0, kX3_take_1, kX3_take_2, kX3_take_3, kX3_take_4, kX3_take_7, kX3_take_10, kX3_take_11, kX3_take_14, kX3_take_15, kX3_take_16, kX3_take_17, kX3_take_20, kX3_take_23, kX3_take_26, kX3_take_27, kX3_take_28, kX3_take_29, kX3_take_30, kX3_take_33, kX3_take_36, kX3_take_37, kX3_take_40, kX3_take_41, kX3_take_42, kX3_take_43, kX3_take_46, kX3_take_47, kX3_take_50, kX3_take_51, kX3_take_52, kX3_take_53, kX3_take_56, kX3_take_57, kX3_take_58, kX3_take_61, kX3_take_62, kX3_take_65, kX3_take_66, kX3_take_67, kX3_take_70, kX3_take_71, kX3_take_74, kX3_take_75, kX3_take_76, kX3_take_79, kX3_take_80, kX3_take_81, kX3_take_82, kX3_take_85, kX3_take_86, kX3_take_87, kX3_take_88, kX3_take_91, kX3_take_94, kX3_take_97, xAld, xArrF, xCmp, xGet, xGetF, xInc, xLdA, xLdI, xPut, xPutF, xQld, xQldF, xSt, xVret, fX3_103, fX3_11, fX3_121, fX3_153, fX3_156, fX3_160, fX3_20, fX3_36, fX3_40, fX3_96, cI_0, cI_1, fDesk]
        exact ih r2 (by rw [tkR, if_neg c]; exact hR2)
  suffices key : ∀ r : RW, Sh r (az1 R 0) → JM E mX3_take C 2 0 0 P 2 [some (.ref (aD E 0)), some (.ref (aF E 603)), some (.int (nI 0))] [] (sr s 0 r) by
    have := key (s.1 0) hS
    rw [sr_id] at this
    refine run X (rt := none) flX3_ok rfl tX3_take_ok 20 [2] ?_
    simp only [go_go, gos_some, ctn_ctn, step, fv0, fv1, fv2, fv3, List.getElem?_cons_zero, List.getElem?_cons_succ, List.set_cons_zero, List.set_cons_succ, List.mem_cons, List.not_mem_nil, or_false, or_self, if_false, if_true, List.length_cons, List.length_nil, lval, upS_sr, sr_same, sr_sr, Nat.reduceEqDiff, not_false_eq_true, Classical.not_not, true_or, or_true, false_or, Nat.zero_add, Nat.add_zero, nI_add, pk_mul, Option.toList_some, Option.toList_none, List.cons_append, List.nil_append, n00, n11, n10, bv0, bv1, bft, bnf, bnt, Nat.reduceAdd, Nat.reduceEqDiff, Nat.reduceMul, Nat.reduceLT, Nat.reduceSub, true_implies, false_implies, not_true_eq_false, not_false_eq_true, true_and, and_true, sr_ne (show ¬ 21 = 20 by decide), sr_ne (show ¬ 20 = 21 by decide), sr_ne (show ¬ 22 = 20 by decide), sr_ne (show ¬ 22 = 21 by decide), sr_ne (show ¬ 20 = 22 by decide), sr_ne (show ¬ 21 = 22 by decide), kX3_take_0, kX3_take_1, kX3_take_2, kX3_take_3, kX3_take_4, kX3_take_7, kX3_take_10, kX3_take_11, kX3_take_14, kX3_take_15, kX3_take_16, kX3_take_17, kX3_take_20, kX3_take_23, kX3_take_26, kX3_take_27, kX3_take_28, kX3_take_29, kX3_take_30, kX3_take_33, kX3_take_36, kX3_take_37, kX3_take_40, kX3_take_41, kX3_take_42, kX3_take_43, kX3_take_46, kX3_take_47, kX3_take_50, kX3_take_51, kX3_take_52, kX3_take_53, kX3_take_56, kX3_take_57, kX3_take_58, kX3_take_61, kX3_take_62, kX3_take_65, kX3_take_66, kX3_take_67, kX3_take_70, kX3_take_71, kX3_take_74, kX3_take_75, kX3_take_76, kX3_take_79, kX3_take_80, kX3_take_81, kX3_take_82, kX3_take_85, kX3_take_86, kX3_take_87, kX3_take_88, kX3_take_91, kX3_take_94, kX3_take_97, xAld, xArrF, xCmp, xGet, xGetF, xInc, xLdA, xLdI, xPut, xPutF, xQld, xQldF, xSt, xVret, fX3_103, fX3_11, fX3_121, fX3_153, fX3_156, fX3_160, fX3_20, fX3_36, fX3_40, fX3_96, cI_0, cI_1, fDesk]
    exact this
  refine loopU (N := nn R 0) (I := fun j => ∀ r : RW, Sh r (az1 R j) → JM E mX3_take C 2 0 0 P 2 [some (.ref (aD E 0)), some (.ref (aF E 603)), some (.int (nI j))] [] (sr s 0 r)) ?_ (fun j hj ih => ?_)
  · intro r hr9
    obtain ⟨a1, a2, -, -⟩ := az1_ok hI (nn R 0) (Nat.le_refl _)
    have e0 : r 0 = nI (nn R 0) := by rw [hr9.1.1, a1.s0, a2]
    refine run X (rt := none) flX3_ok rfl tX3_take_ok 20 [2, 28] ?_
    simp only [go_go, gos_some, ctn_ctn, step, fv0, fv1, fv2, fv3, List.getElem?_cons_zero, List.getElem?_cons_succ, List.set_cons_zero, List.set_cons_succ, List.mem_cons, List.not_mem_nil, or_false, or_self, if_false, if_true, List.length_cons, List.length_nil, lval, upS_sr, sr_same, sr_sr, Nat.reduceEqDiff, not_false_eq_true, Classical.not_not, true_or, or_true, false_or, Nat.zero_add, Nat.add_zero, nI_add, pk_mul, Option.toList_some, Option.toList_none, List.cons_append, List.nil_append, n00, n11, n10, bv0, bv1, bft, bnf, bnt, Nat.reduceAdd, Nat.reduceEqDiff, Nat.reduceMul, Nat.reduceLT, Nat.reduceSub, true_implies, false_implies, not_true_eq_false, not_false_eq_true, true_and, and_true, sr_ne (show ¬ 21 = 20 by decide), sr_ne (show ¬ 20 = 21 by decide), sr_ne (show ¬ 22 = 20 by decide), sr_ne (show ¬ 22 = 21 by decide), sr_ne (show ¬ 20 = 22 by decide), sr_ne (show ¬ 21 = 22 by decide), kX3_take_0, kX3_take_1, kX3_take_2, kX3_take_3, kX3_take_4, kX3_take_7, kX3_take_10, kX3_take_11, kX3_take_14, kX3_take_15, kX3_take_16, kX3_take_17, kX3_take_20, kX3_take_23, kX3_take_26, kX3_take_27, kX3_take_28, kX3_take_29, kX3_take_30, kX3_take_33, kX3_take_36, kX3_take_37, kX3_take_40, kX3_take_41, kX3_take_42, kX3_take_43, kX3_take_46, kX3_take_47, kX3_take_50, kX3_take_51, kX3_take_52, kX3_take_53, kX3_take_56, kX3_take_57, kX3_take_58, kX3_take_61, kX3_take_62, kX3_take_65, kX3_take_66, kX3_take_67, kX3_take_70, kX3_take_71, kX3_take_74, kX3_take_75, kX3_take_76, kX3_take_79, kX3_take_80, kX3_take_81, kX3_take_82, kX3_take_85, kX3_take_86, kX3_take_87, kX3_take_88, kX3_take_91, kX3_take_94, kX3_take_97, xAld, xArrF, xCmp, xGet, xGetF, xInc, xLdA, xLdI, xPut, xPutF, xQld, xQldF, xSt, xVret, fX3_103, fX3_11, fX3_121, fX3_153, fX3_156, fX3_160, fX3_20, fX3_36, fX3_40, fX3_96, cI_0, cI_1, fDesk, lD0, fDesk, e0, gS]
    exact kids r hr9
  · intro r hr9
    obtain ⟨a1, a2, -, -⟩ := az1_ok hI j (by omega)
    have e0 : r 0 = nI (nn R 0) := by rw [hr9.1.1, a1.s0, a2]
    refine run X (rt := none) flX3_ok rfl tX3_take_ok 40 [2, 28] ?_
    simp only [go_go, gos_some, ctn_ctn, step, fv0, fv1, fv2, fv3, List.getElem?_cons_zero, List.getElem?_cons_succ, List.set_cons_zero, List.set_cons_succ, List.mem_cons, List.not_mem_nil, or_false, or_self, if_false, if_true, List.length_cons, List.length_nil, lval, upS_sr, sr_same, sr_sr, Nat.reduceEqDiff, not_false_eq_true, Classical.not_not, true_or, or_true, false_or, Nat.zero_add, Nat.add_zero, nI_add, pk_mul, Option.toList_some, Option.toList_none, List.cons_append, List.nil_append, n00, n11, n10, bv0, bv1, bft, bnf, bnt, Nat.reduceAdd, Nat.reduceEqDiff, Nat.reduceMul, Nat.reduceLT, Nat.reduceSub, true_implies, false_implies, not_true_eq_false, not_false_eq_true, true_and, and_true, sr_ne (show ¬ 21 = 20 by decide), sr_ne (show ¬ 20 = 21 by decide), sr_ne (show ¬ 22 = 20 by decide), sr_ne (show ¬ 22 = 21 by decide), sr_ne (show ¬ 20 = 22 by decide), sr_ne (show ¬ 21 = 22 by decide), kX3_take_0, kX3_take_1, kX3_take_2, kX3_take_3, kX3_take_4, kX3_take_7, kX3_take_10, kX3_take_11, kX3_take_14, kX3_take_15, kX3_take_16, kX3_take_17, kX3_take_20, kX3_take_23, kX3_take_26, kX3_take_27, kX3_take_28, kX3_take_29, kX3_take_30, kX3_take_33, kX3_take_36, kX3_take_37, kX3_take_40, kX3_take_41, kX3_take_42, kX3_take_43, kX3_take_46, kX3_take_47, kX3_take_50, kX3_take_51, kX3_take_52, kX3_take_53, kX3_take_56, kX3_take_57, kX3_take_58, kX3_take_61, kX3_take_62, kX3_take_65, kX3_take_66, kX3_take_67, kX3_take_70, kX3_take_71, kX3_take_74, kX3_take_75, kX3_take_76, kX3_take_79, kX3_take_80, kX3_take_81, kX3_take_82, kX3_take_85, kX3_take_86, kX3_take_87, kX3_take_88, kX3_take_91, kX3_take_94, kX3_take_97, xAld, xArrF, xCmp, xGet, xGetF, xInc, xLdA, xLdI, xPut, xPutF, xQld, xQldF, xSt, xVret, fX3_103, fX3_11, fX3_121, fX3_153, fX3_156, fX3_160, fX3_20, fX3_36, fX3_40, fX3_96, cI_0, cI_1, fDesk, lD0, lSs0, fDesk, fSch, e0, nI_ge hj hNs, vp_in_nI (show j < 6 by omega) (show 6 < 2 ^ 31 by decide), nI31 (show j < 2 ^ 31 by omega), lA_S6 (E := E) (d := 0) (i := j) (by decide) (by omega), putT]
    exact ih _ (hr9.us (j := j) (w := 6) (v := nI 0) (by omega) (by decide))
theorem c_allocate {E : WE} {s : ST} {a : AS} {B : Nat} (h : AbsC s a) (hA : AInv B a) (hB : B + 300 ≤ 1073741824) : SpT E mX8_allocate 8 [.ref (aF E 0)] s [] (oAllocate a) := by
  refine SpT.of vX8_allocate.1 [some (.ref (aF E 0)), none] rfl (Nat.le_of_ble_eq_true rfl) rfl (fun C P X hP => ?_)
  have hS := h.1
  have hI := hA.inv
  have hs := hI.s
  have hc := hI.c
  have h0 : s.1 0 0 = nI (nn (aR a) 0) := hS.1.1.trans hI.s0
  have h1 : s.1 0 1 = nI (nn (aR a) 1) := hS.1.2.1.trans hI.c0
  rw [show oAllocate a = (wR (puA a) (nts (aR a) (alo true (aR a)).1 (nn (aR a) 1)), nI (alo true (aR a)).2, nI 0) from rfl] at hP
  refine run X (rt := some .int) flX8_ok rfl tX8_allocate_ok 20 [] ?_
  simp only [go_go, gos_some, ctn_ctn, step, fv0, fv1, fv2, fv3, List.getElem?_cons_zero, List.getElem?_cons_succ, List.set_cons_zero, List.set_cons_succ, List.mem_cons, List.not_mem_nil, or_false, or_self, if_false, if_true, List.length_cons, List.length_nil, lval, upS_sr, sr_same, sr_sr, Nat.reduceEqDiff, not_false_eq_true, Classical.not_not, true_or, or_true, false_or, Nat.zero_add, Nat.add_zero, nI_add, pk_mul, Option.toList_some, Option.toList_none, List.cons_append, List.nil_append, n00, n11, n10, bv0, bv1, bft, bnf, bnt, Nat.reduceAdd, Nat.reduceEqDiff, Nat.reduceMul, Nat.reduceLT, Nat.reduceSub, true_implies, false_implies, not_true_eq_false, not_false_eq_true, true_and, and_true, sr_ne (show ¬ 21 = 20 by decide), sr_ne (show ¬ 20 = 21 by decide), sr_ne (show ¬ 22 = 20 by decide), sr_ne (show ¬ 22 = 21 by decide), sr_ne (show ¬ 20 = 22 by decide), sr_ne (show ¬ 21 = 22 by decide), kX8_allocate_0, kX8_allocate_1, kX8_allocate_4, kX8_allocate_5, kX8_allocate_8, kX8_allocate_11, kX8_allocate_12, kX8_allocate_15, kX8_allocate_16, kX8_allocate_19, kX8_allocate_20, kX8_allocate_23, kX8_allocate_24, kX8_allocate_25, kX8_allocate_28, kX8_allocate_29, kX8_allocate_32, kX8_allocate_35, kX8_allocate_36, xGet, xGetF, xLdA, xLdI, xRet, xSt, fX8_10, fX8_22, fX8_29, cI_0, lA_0, fTop, lD0, lCs0, lSs0, lPu0, lJ0, lJp0, fDesk, fChi, fSch, fHis, fJou, fAll, fTxt, lA_121, lA_603, lA_604, lA_605, lA_606, lA_607, lA_608, lA_609, lA_610]
  refine cQ X  tX8_allocate_ok kX8_allocate_8 (c_push h hA) vX4_push lX8_65 lA_121 rfl rfl rfl (Nat.le_of_ble_eq_true rfl) (Nat.le_of_ble_eq_true rfl) ?_
  intro s2 h2
  have hS2 := h2.shp
  refine run X (rt := some .int) flX8_ok rfl tX8_allocate_ok 20 [] ?_
  simp only [go_go, gos_some, ctn_ctn, step, fv0, fv1, fv2, fv3, List.getElem?_cons_zero, List.getElem?_cons_succ, List.set_cons_zero, List.set_cons_succ, List.mem_cons, List.not_mem_nil, or_false, or_self, if_false, if_true, List.length_cons, List.length_nil, lval, upS_sr, sr_same, sr_sr, Nat.reduceEqDiff, not_false_eq_true, Classical.not_not, true_or, or_true, false_or, Nat.zero_add, Nat.add_zero, nI_add, pk_mul, Option.toList_some, Option.toList_none, List.cons_append, List.nil_append, n00, n11, n10, bv0, bv1, bft, bnf, bnt, Nat.reduceAdd, Nat.reduceEqDiff, Nat.reduceMul, Nat.reduceLT, Nat.reduceSub, true_implies, false_implies, not_true_eq_false, not_false_eq_true, true_and, and_true, sr_ne (show ¬ 21 = 20 by decide), sr_ne (show ¬ 20 = 21 by decide), sr_ne (show ¬ 22 = 20 by decide), sr_ne (show ¬ 22 = 21 by decide), sr_ne (show ¬ 20 = 22 by decide), sr_ne (show ¬ 21 = 22 by decide), kX8_allocate_0, kX8_allocate_1, kX8_allocate_4, kX8_allocate_5, kX8_allocate_8, kX8_allocate_11, kX8_allocate_12, kX8_allocate_15, kX8_allocate_16, kX8_allocate_19, kX8_allocate_20, kX8_allocate_23, kX8_allocate_24, kX8_allocate_25, kX8_allocate_28, kX8_allocate_29, kX8_allocate_32, kX8_allocate_35, kX8_allocate_36, xGet, xGetF, xLdA, xLdI, xRet, xSt, fX8_10, fX8_22, fX8_29, cI_0, lA_0, fTop, lD0, lCs0, lSs0, lPu0, lJ0, lJp0, fDesk, fChi, fSch, fHis, fJou, fAll, fTxt, lA_121, lA_603, lA_604, lA_605, lA_606, lA_607, lA_608, lA_609, lA_610]
  refine cQ X  tX8_allocate_ok kX8_allocate_20 (c_runRounds hS2 hI (b := false)) vX0_runRounds lX8_256 lA_603 rfl rfl rfl (Nat.le_of_ble_eq_true rfl) (Nat.le_of_ble_eq_true rfl) ?_
  rintro s3 ⟨f3, hr3⟩
  rw [Bool.not_false] at hr3 ⊢
  have h3 : PC s (puA a) s3 := h2.far ⟨f3.1, fun r hr => f3.2 r (by omega)⟩ (fun r hr => f3.2 r (by omega)) (fun j hj => by rw [f3.2 10 (by omega)])
  obtain ⟨g1, g2, g3⟩ := alo_F (dir := true) hI
  refine run X (rt := some .int) flX8_ok rfl tX8_allocate_ok 20 [] ?_
  simp only [go_go, gos_some, ctn_ctn, step, fv0, fv1, fv2, fv3, List.getElem?_cons_zero, List.getElem?_cons_succ, List.set_cons_zero, List.set_cons_succ, List.mem_cons, List.not_mem_nil, or_false, or_self, if_false, if_true, List.length_cons, List.length_nil, lval, upS_sr, sr_same, sr_sr, Nat.reduceEqDiff, not_false_eq_true, Classical.not_not, true_or, or_true, false_or, Nat.zero_add, Nat.add_zero, nI_add, pk_mul, Option.toList_some, Option.toList_none, List.cons_append, List.nil_append, n00, n11, n10, bv0, bv1, bft, bnf, bnt, Nat.reduceAdd, Nat.reduceEqDiff, Nat.reduceMul, Nat.reduceLT, Nat.reduceSub, true_implies, false_implies, not_true_eq_false, not_false_eq_true, true_and, and_true, sr_ne (show ¬ 21 = 20 by decide), sr_ne (show ¬ 20 = 21 by decide), sr_ne (show ¬ 22 = 20 by decide), sr_ne (show ¬ 22 = 21 by decide), sr_ne (show ¬ 20 = 22 by decide), sr_ne (show ¬ 21 = 22 by decide), kX8_allocate_0, kX8_allocate_1, kX8_allocate_4, kX8_allocate_5, kX8_allocate_8, kX8_allocate_11, kX8_allocate_12, kX8_allocate_15, kX8_allocate_16, kX8_allocate_19, kX8_allocate_20, kX8_allocate_23, kX8_allocate_24, kX8_allocate_25, kX8_allocate_28, kX8_allocate_29, kX8_allocate_32, kX8_allocate_35, kX8_allocate_36, xGet, xGetF, xLdA, xLdI, xRet, xSt, fX8_10, fX8_22, fX8_29, cI_0, lA_0, fTop, lD0, lCs0, lSs0, lPu0, lJ0, lJp0, fDesk, fChi, fSch, fHis, fJou, fAll, fTxt, lA_121, lA_603, lA_604, lA_605, lA_606, lA_607, lA_608, lA_609, lA_610]
  refine cQ X  tX8_allocate_ok kX8_allocate_32 (c_take h3.shp hI (alo_ok hI).1 g1 g2 g3 (by have := hA.1.2; omega) hr3) vX3_take lX8_260 (lA_D (d := 0) (by decide)) rfl rfl rfl (Nat.le_of_ble_eq_true rfl) (Nat.le_of_ble_eq_true rfl) ?_
  intro s4 h4
  refine run X (rt := some .int) flX8_ok rfl tX8_allocate_ok 20 [] ?_
  simp only [go_go, gos_some, ctn_ctn, step, fv0, fv1, fv2, fv3, List.getElem?_cons_zero, List.getElem?_cons_succ, List.set_cons_zero, List.set_cons_succ, List.mem_cons, List.not_mem_nil, or_false, or_self, if_false, if_true, List.length_cons, List.length_nil, lval, upS_sr, sr_same, sr_sr, Nat.reduceEqDiff, not_false_eq_true, Classical.not_not, true_or, or_true, false_or, Nat.zero_add, Nat.add_zero, nI_add, pk_mul, Option.toList_some, Option.toList_none, List.cons_append, List.nil_append, n00, n11, n10, bv0, bv1, bft, bnf, bnt, Nat.reduceAdd, Nat.reduceEqDiff, Nat.reduceMul, Nat.reduceLT, Nat.reduceSub, true_implies, false_implies, not_true_eq_false, not_false_eq_true, true_and, and_true, sr_ne (show ¬ 21 = 20 by decide), sr_ne (show ¬ 20 = 21 by decide), sr_ne (show ¬ 22 = 20 by decide), sr_ne (show ¬ 22 = 21 by decide), sr_ne (show ¬ 20 = 22 by decide), sr_ne (show ¬ 21 = 22 by decide), kX8_allocate_0, kX8_allocate_1, kX8_allocate_4, kX8_allocate_5, kX8_allocate_8, kX8_allocate_11, kX8_allocate_12, kX8_allocate_15, kX8_allocate_16, kX8_allocate_19, kX8_allocate_20, kX8_allocate_23, kX8_allocate_24, kX8_allocate_25, kX8_allocate_28, kX8_allocate_29, kX8_allocate_32, kX8_allocate_35, kX8_allocate_36, xGet, xGetF, xLdA, xLdI, xRet, xSt, fX8_10, fX8_22, fX8_29, cI_0, lA_0, fTop]
  exact hP _ _ outT_0.symm (h3.q0 h4)
theorem c_again {E : WE} {s : ST} {a : AS} {B : Nat} (h : AbsC s a) (hA : AInv B a) {i : Int32} : SpT E mX8_again 8 [.ref (aF E 0), .int i] s [wIOB] (oAgain i a) := by
  refine SpT.of vX8_again.1 [some (.ref (aF E 0)), some (.int i)] rfl (Nat.le_of_ble_eq_true rfl) rfl (fun C P X hP => ?_)
  have hS := h.1
  have hI := hA.inv
  have hs := hI.s
  have hc := hI.c
  have h0 : s.1 0 0 = nI (nn (aR a) 0) := hS.1.1.trans hI.s0
  have h1 : s.1 0 1 = nI (nn (aR a) 1) := hS.1.2.1.trans hI.c0
  refine run X (rt := some .int) flX8_ok rfl tX8_again_ok 5 [] ?_
  simp only [go_go, gos_some, ctn_ctn, step, fv0, fv1, fv2, fv3, List.getElem?_cons_zero, List.getElem?_cons_succ, List.set_cons_zero, List.set_cons_succ, List.mem_cons, List.not_mem_nil, or_false, or_self, if_false, if_true, List.length_cons, List.length_nil, lval, upS_sr, sr_same, sr_sr, Nat.reduceEqDiff, not_false_eq_true, Classical.not_not, true_or, or_true, false_or, Nat.zero_add, Nat.add_zero, nI_add, pk_mul, Option.toList_some, Option.toList_none, List.cons_append, List.nil_append, n00, n11, n10, bv0, bv1, bft, bnf, bnt, Nat.reduceAdd, Nat.reduceEqDiff, Nat.reduceMul, Nat.reduceLT, Nat.reduceSub, true_implies, false_implies, not_true_eq_false, not_false_eq_true, true_and, and_true, sr_ne (show ¬ 21 = 20 by decide), sr_ne (show ¬ 20 = 21 by decide), sr_ne (show ¬ 22 = 20 by decide), sr_ne (show ¬ 22 = 21 by decide), sr_ne (show ¬ 20 = 22 by decide), sr_ne (show ¬ 21 = 22 by decide), kX8_again_0, kX8_again_1, kX8_again_2, kX8_again_5, kX8_again_6, kX8_again_9, kX8_again_10, kX8_again_13, kX8_again_14, kX8_again_17, kX8_again_18, kX8_again_19, kX8_again_22, kX8_again_25, kX8_again_26, kX8_again_27, xAld, xArrF, xGet, xGetF, xLdA, xLdI, xPop, xRet, fX8_10, fX8_264, fX8_29, cI_1, lA_0, fTop]
  cases c1 : ixB (nn (aR a) 1) i with
  | false =>
    rw [show oAgain i a = (a, nI 0, nI 1) by simp [oAgain, c1]] at hP
    refine cVX X  tX8_again_ok kX8_again_2 (c_childN hS hI c1) vX8_checkChild lX8_205 lA_0 rfl rfl rfl (Nat.le_of_ble_eq_true rfl) (Nat.le_of_ble_eq_true rfl) ?_
    exact hP _ _ outT_1.symm (PC.rf h)
  | true =>
  refine cV X  tX8_again_ok kX8_again_2 (c_childY hS hI c1) vX8_checkChild lX8_205 lA_0 rfl rfl rfl (Nat.le_of_ble_eq_true rfl) (Nat.le_of_ble_eq_true rfl) ?_
  obtain ⟨k, hk, rfl⟩ := ixB_of (by omega) c1
  rw [show oAgain (nI k) a = (a, (alo false (aR a)).1 (57 + 13 * k + 10), nI 0) by unfold oAgain; rw [if_pos c1, nx_nI (by omega)]] at hP
  refine run X (rt := some .int) flX8_ok rfl tX8_again_ok 20 [] ?_
  simp only [go_go, gos_some, ctn_ctn, step, fv0, fv1, fv2, fv3, List.getElem?_cons_zero, List.getElem?_cons_succ, List.set_cons_zero, List.set_cons_succ, List.mem_cons, List.not_mem_nil, or_false, or_self, if_false, if_true, List.length_cons, List.length_nil, lval, upS_sr, sr_same, sr_sr, Nat.reduceEqDiff, not_false_eq_true, Classical.not_not, true_or, or_true, false_or, Nat.zero_add, Nat.add_zero, nI_add, pk_mul, Option.toList_some, Option.toList_none, List.cons_append, List.nil_append, n00, n11, n10, bv0, bv1, bft, bnf, bnt, Nat.reduceAdd, Nat.reduceEqDiff, Nat.reduceMul, Nat.reduceLT, Nat.reduceSub, true_implies, false_implies, not_true_eq_false, not_false_eq_true, true_and, and_true, sr_ne (show ¬ 21 = 20 by decide), sr_ne (show ¬ 20 = 21 by decide), sr_ne (show ¬ 22 = 20 by decide), sr_ne (show ¬ 22 = 21 by decide), sr_ne (show ¬ 20 = 22 by decide), sr_ne (show ¬ 21 = 22 by decide), kX8_again_0, kX8_again_1, kX8_again_2, kX8_again_5, kX8_again_6, kX8_again_9, kX8_again_10, kX8_again_13, kX8_again_14, kX8_again_17, kX8_again_18, kX8_again_19, kX8_again_22, kX8_again_25, kX8_again_26, kX8_again_27, xAld, xArrF, xGet, xGetF, xLdA, xLdI, xPop, xRet, fX8_10, fX8_264, fX8_29, cI_1, lA_0, fTop, lD0, lCs0, lSs0, lPu0, lJ0, lJp0, fDesk, fChi, fSch, fHis, fJou, fAll, fTxt, lA_121, lA_603, lA_604, lA_605, lA_606, lA_607, lA_608, lA_609, lA_610]
  refine cQ X  tX8_again_ok kX8_again_14 (c_runRounds hS hI (b := true)) vX0_runRounds lX8_256 lA_603 rfl rfl rfl (Nat.le_of_ble_eq_true rfl) (Nat.le_of_ble_eq_true rfl) ?_
  rintro s3 ⟨f3, hr3⟩
  rw [Bool.not_true] at hr3 ⊢
  have h3 : PC s a s3 := (PC.rf h).far ⟨f3.1, fun r hr => f3.2 r (by omega)⟩ (fun r hr => f3.2 r (by omega)) (fun j hj => by rw [f3.2 10 (by omega)])
  refine run X (rt := some .int) flX8_ok rfl tX8_again_ok 20 [] ?_
  simp only [go_go, gos_some, ctn_ctn, step, fv0, fv1, fv2, fv3, List.getElem?_cons_zero, List.getElem?_cons_succ, List.set_cons_zero, List.set_cons_succ, List.mem_cons, List.not_mem_nil, or_false, or_self, if_false, if_true, List.length_cons, List.length_nil, lval, upS_sr, sr_same, sr_sr, Nat.reduceEqDiff, not_false_eq_true, Classical.not_not, true_or, or_true, false_or, Nat.zero_add, Nat.add_zero, nI_add, pk_mul, Option.toList_some, Option.toList_none, List.cons_append, List.nil_append, n00, n11, n10, bv0, bv1, bft, bnf, bnt, Nat.reduceAdd, Nat.reduceEqDiff, Nat.reduceMul, Nat.reduceLT, Nat.reduceSub, true_implies, false_implies, not_true_eq_false, not_false_eq_true, true_and, and_true, sr_ne (show ¬ 21 = 20 by decide), sr_ne (show ¬ 20 = 21 by decide), sr_ne (show ¬ 22 = 20 by decide), sr_ne (show ¬ 22 = 21 by decide), sr_ne (show ¬ 20 = 22 by decide), sr_ne (show ¬ 21 = 22 by decide), kX8_again_0, kX8_again_1, kX8_again_2, kX8_again_5, kX8_again_6, kX8_again_9, kX8_again_10, kX8_again_13, kX8_again_14, kX8_again_17, kX8_again_18, kX8_again_19, kX8_again_22, kX8_again_25, kX8_again_26, kX8_again_27, xAld, xArrF, xGet, xGetF, xLdA, xLdI, xPop, xRet, fX8_10, fX8_264, fX8_29, cI_1, lA_0, fTop, lD0, lCs0, lSs0, lPu0, lJ0, lJp0, fDesk, fChi, fSch, fHis, fJou, fAll, fTxt, lA_121, lA_603, lA_604, lA_605, lA_606, lA_607, lA_608, lA_609, lA_610, vp_in_nI (show k < 24 by omega) (show 24 < 2 ^ 31 by decide), nI31 (show k < 2 ^ 31 by omega), (hr3 k hk).1]
  exact hP _ _ outT_0.symm h3
