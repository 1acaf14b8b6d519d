/-! ===== the class allocates: asking, a round ===== -/
def wS (R : RW) (j : Nat) : Nat → Option Nat
  | 0 => none
  | n + 1 => if decide (R (57 + 13 * n + 10) = nI j) then (match wS R j n with
    | none => some n
    | some b => if ky R b j < ky R n j then some n else some b) else wS R j n
theorem wS_spec (R : RW) (j : Nat) : ∀ n, (wS R j n = none → ∀ k, k < n → ¬ R (57 + 13 * k + 10) = nI j) ∧ ∀ b, wS R j n = some b → b < n ∧ R (57 + 13 * b + 10) = nI j ∧ ∀ o, o < n → R (57 + 13 * o + 10) = nI j → ky R o j ≤ ky R b j
  | 0 => ⟨fun _ k hk => absurd hk (Nat.not_lt_zero k), fun b h => by cases h⟩
  | n + 1 => by
    obtain ⟨h1, h2⟩ := wS_spec R j n
    by_cases hp : R (57 + 13 * n + 10) = nI j
    · cases hb : wS R j n with
      | none =>
        have e : wS R j (n + 1) = some n := by rw [wS, decide_eq_true hp, hb]; rfl
        rw [e]
        refine ⟨fun h => (by cases h), fun b h => ?_⟩
        cases h
        refine ⟨by omega, hp, fun o ho hpo => ?_⟩
        by_cases e2 : o = n
        · subst e2; exact Nat.le_refl _
        · exact absurd hpo (h1 hb o (by omega))
      | some b0 =>
        obtain ⟨a1, a2, a3⟩ := h2 b0 hb
        have e : wS R j (n + 1) = if ky R b0 j < ky R n j then some n else some b0 := by rw [wS, decide_eq_true hp, hb]; rfl
        rw [e]
        by_cases hk : ky R b0 j < ky R n j
        · rw [if_pos hk]
          refine ⟨fun h => (by cases h), fun b h => ?_⟩
          cases h
          refine ⟨by omega, hp, fun o ho hpo => ?_⟩
          by_cases e2 : o = n
          · subst e2; exact Nat.le_refl _
          · have := a3 o (by omega) hpo; omega
        · rw [if_neg hk]
          refine ⟨fun h => (by cases h), fun b h => ?_⟩
          cases h
          refine ⟨by omega, a2, fun o ho hpo => ?_⟩
          by_cases e2 : o = n
          · subst e2; omega
          · exact a3 o (by omega) hpo
    · have e : wS R j (n + 1) = wS R j n := by rw [wS, decide_eq_false hp]; rfl
      rw [e]
      refine ⟨fun h k hk => ?_, fun b h => ?_⟩
      · by_cases e2 : k = n
        · subst e2; exact hp
        · exact h1 h k (by omega)
      · obtain ⟨a1, a2, a3⟩ := h2 b h
        refine ⟨by omega, a2, fun o ho hpo => ?_⟩
        by_cases e2 : o = n
        · subst e2; exact absurd hpo hp
        · exact a3 o (by omega) hpo
theorem AL.seat {s : ST} {R Q : RW} {as : Nat → Nat} (h : AL s R Q as) {i : Nat} {x : Int32} (hi : i < nn R 1) (hx : ix9 (nn R 0) x) : AL (sr s 11 (ur (s.1 11) i x)) R (ur Q (57 + 13 * i + 10) x) as := by
  obtain ⟨⟨hS, hI, hQ, hq⟩, h11, h12, h13, h14⟩ := h
  have hc := hI.c
  have hi2 : i < nn Q 1 := by rw [hq.n1]; exact hi
  have hsam : samS Q (ur Q (57 + 13 * i + 10) x) := samS.u (by omega)
  refine ⟨⟨by rw [sr_ne (by decide)]; exact hS, hI, hQ.seat hi2 (by rw [hq.n0]; exact hx), hq.tr hsam.q⟩, fun o ho => ?_, fun o ho => ?_, fun o ho => by rw [sr_ne (by decide)]; exact h13 o ho, fun o j ho hj => ?_⟩
  · rw [sr_same]
    by_cases e : o = i
    · subst e; rw [ur_eq, ur_eq]
    · rw [ur_ne e, ur_ne (by omega)]; exact h11 o ho
  · rw [sr_ne (by decide), h12 o ho, ur_ne (by omega)]
  · rw [sr_ne (by decide), h14 o j ho hj, samS_ky hsam hQ (by rw [hq.n1]; exact ho) (by rw [hq.n0]; exact hj)]
theorem AL.ask {s : ST} {R Q : RW} {as : Nat → Nat} (h : AL s R Q as) {i : Nat} (h4 : as i < 4) : AL (sr s 13 (ur (s.1 13) i (nI (as i + 1)))) R Q (up1 as i) := by
  obtain ⟨⟨hS, hI, hQ, hq⟩, h11, h12, h13, h14⟩ := h
  refine ⟨⟨by rw [sr_ne (by decide)]; exact hS, hI, hQ, hq⟩, fun o ho => by rw [sr_ne (by decide)]; exact h11 o ho, fun o ho => by rw [sr_ne (by decide)]; exact h12 o ho, fun o ho => ?_, fun o j ho hj => by rw [sr_ne (by decide)]; exact h14 o j ho hj⟩
  rw [sr_same]
  unfold up1
  by_cases e : o = i
  · subst e; rw [ur_eq, if_pos rfl]; exact ⟨rfl, h4⟩
  · rw [ur_ne e, if_neg e]; exact h13 o ho
set_option maxRecDepth 10000 in
theorem c_askAt {E : WE} {s : ST} {R Q : RW} {as : Nat → Nat} (hL : AL s R Q as) {i j : Nat} (hi : i < nn R 1) (hj : j < nn R 0) : SpQ E mX0_askAt 1 [.ref (aF E 603), .ref (aD E 0), .int (nI i), .int (nI j)] s none (fun s' => aT_ s s' ∧ AL s' R (stA Q i j) as) := by
  refine SpQ.of vX0_askAt.1 [some (.ref (aF E 603)), some (.ref (aD E 0)), some (.int (nI i)), some (.int (nI j)), none, none, none] rfl (Nat.le_of_ble_eq_true rfl) rfl (fun C P X hP => ?_)
  have hL0 := hL
  obtain ⟨⟨hS, hI, hQ, hq⟩, hs11, hs12, hs13, hs14⟩ := hL
  have hc := hI.c
  have hs := hI.s
  have h0 : s.1 0 0 = nI (nn R 0) := hS.1.1.trans hI.s0
  have h1 : s.1 0 1 = nI (nn R 1) := hS.1.2.1.trans hI.c0
  have hNc : nn R 1 < 2 ^ 31 := by omega
  have gC := nI_le (Nat.le_refl (nn R 1)) hNc
  have hn1 := hq.n1
  have hn0 := hq.n0
  have hjQ : j < nn Q 0 := by omega
  have kyl : ∀ o, o < nn R 1 → ky Q o j < 23880000 := fun o ho => ky_le hQ (by omega) hjQ
  obtain ⟨-, -, ⟨e2, l2⟩, -⟩ := hI.2.1 j hj
  have x2 : s.1 0 (3 + 7 * j + 2) = nI (nn R (3 + 7 * j + 2)) := (hS.s hj 2 (by decide)).trans e2
  have q2 : nn Q (3 + 7 * j + 2) = nn R (3 + 7 * j + 2) := hq.n (hq.s (by omega) (by decide))
  have key : ∀ o, o < nn R 1 → ∀ (d mc ms : Nat), True := fun _ _ _ _ _ => trivial
  generalize hp : (fun o => decide (Q (57 + 13 * o + 10) = nI j)) = pp
  have hlp : hl Q j = ct pp (nn R 1) := by rw [← hp, ← hn1]; rfl
  refine run X (rt := none) flX0_ok rfl tX0_askAt_ok 20 [9] ?_
  simp only [go_go, gos_some, ctn_ctn, step, fv0, fv1, fv2, fv3, List.getElem?_cons_zero, List.getElem?_cons_succ, List.set_cons_zero, List.set_cons_succ, List.mem_cons, List.not_mem_nil, or_false, or_self, if_false, if_true, List.length_cons, List.length_nil, lval, upS_sr, sr_same, sr_sr, Nat.reduceEqDiff, not_false_eq_true, Classical.not_not, true_or, or_true, false_or, Nat.zero_add, Nat.add_zero, nI_add, pk_mul, Option.toList_some, Option.toList_none, List.cons_append, List.nil_append, n00, n11, n10, bv0, bv1, bft, bnf, bnt, Nat.reduceAdd, Nat.reduceEqDiff, Nat.reduceMul, Nat.reduceLT, Nat.reduceSub, true_implies, false_implies, not_true_eq_false, not_false_eq_true, true_and, and_true, sr_ne (show ¬ 21 = 20 by decide), sr_ne (show ¬ 20 = 21 by decide), sr_ne (show ¬ 22 = 20 by decide), sr_ne (show ¬ 22 = 21 by decide), sr_ne (show ¬ 20 = 22 by decide), sr_ne (show ¬ 21 = 22 by decide), kX0_askAt_0, kX0_askAt_1, kX0_askAt_3, kX0_askAt_4, kX0_askAt_6, kX0_askAt_7, kX0_askAt_9, kX0_askAt_11, kX0_askAt_12, kX0_askAt_15, kX0_askAt_18, kX0_askAt_19, kX0_askAt_22, kX0_askAt_24, kX0_askAt_25, kX0_askAt_26, kX0_askAt_29, kX0_askAt_32, kX0_askAt_34, kX0_askAt_35, kX0_askAt_38, kX0_askAt_39, kX0_askAt_41, kX0_askAt_42, kX0_askAt_45, kX0_askAt_46, kX0_askAt_48, kX0_askAt_49, kX0_askAt_52, kX0_askAt_55, kX0_askAt_57, kX0_askAt_59, kX0_askAt_62, kX0_askAt_65, kX0_askAt_67, kX0_askAt_68, kX0_askAt_71, kX0_askAt_72, kX0_askAt_73, kX0_askAt_76, kX0_askAt_79, kX0_askAt_80, kX0_askAt_83, kX0_askAt_84, kX0_askAt_85, kX0_askAt_86, kX0_askAt_89, kX0_askAt_91, kX0_askAt_92, kX0_askAt_95, kX0_askAt_96, kX0_askAt_98, kX0_askAt_99, kX0_askAt_102, kX0_askAt_103, kX0_askAt_104, kX0_askAt_105, kX0_askAt_108, kX0_askAt_111, kX0_askAt_112, kX0_askAt_115, kX0_askAt_117, kX0_askAt_118, kX0_askAt_119, kX0_askAt_120, kX0_askAt_123, kX0_askAt_124, kX0_askAt_125, kX0_askAt_126, Nat.zero_ne_one, xAld, xArrF, xAst, xCmp, xGet, xGetF, xInc, xLdA, xLdI, xQld, xQldF, xSt, xVret, fX0_56, fX0_74, fX0_78, fX0_9, cI_0, cI_1, cI_m1, lA_603, fAll, lA_604, lA_605, lA_606, lA_607]
  refine loopU (N := nn R 1) (I := fun o => JM E mX0_askAt C 1 0 0 P 9 [some (.ref (aF E 603)), some (.ref (aD E 0)), some (.int (nI i)), some (.int (nI j)), some (.int (nI (ct pp o))), some (.int (fwV (wS Q j o))), some (.int (nI o))] [] s) ?_ (fun o ho ih => ?_)
  · have hlle : ct pp (nn R 1) ≤ nn R 1 := ct_le _ _
    refine run X (rt := none) flX0_ok rfl tX0_askAt_ok 40 [9] ?_
    simp only [go_go, gos_some, ctn_ctn, step, fv0, fv1, fv2, fv3, List.getElem?_cons_zero, List.getElem?_cons_succ, List.set_cons_zero, List.set_cons_succ, List.mem_cons, List.not_mem_nil, or_false, or_self, if_false, if_true, List.length_cons, List.length_nil, lval, upS_sr, sr_same, sr_sr, Nat.reduceEqDiff, not_false_eq_true, Classical.not_not, true_or, or_true, false_or, Nat.zero_add, Nat.add_zero, nI_add, pk_mul, Option.toList_some, Option.toList_none, List.cons_append, List.nil_append, n00, n11, n10, bv0, bv1, bft, bnf, bnt, Nat.reduceAdd, Nat.reduceEqDiff, Nat.reduceMul, Nat.reduceLT, Nat.reduceSub, true_implies, false_implies, not_true_eq_false, not_false_eq_true, true_and, and_true, sr_ne (show ¬ 21 = 20 by decide), sr_ne (show ¬ 20 = 21 by decide), sr_ne (show ¬ 22 = 20 by decide), sr_ne (show ¬ 22 = 21 by decide), sr_ne (show ¬ 20 = 22 by decide), sr_ne (show ¬ 21 = 22 by decide), kX0_askAt_0, kX0_askAt_1, kX0_askAt_3, kX0_askAt_4, kX0_askAt_6, kX0_askAt_7, kX0_askAt_9, kX0_askAt_11, kX0_askAt_12, kX0_askAt_15, kX0_askAt_18, kX0_askAt_19, kX0_askAt_22, kX0_askAt_24, kX0_askAt_25, kX0_askAt_26, kX0_askAt_29, kX0_askAt_32, kX0_askAt_34, kX0_askAt_35, kX0_askAt_38, kX0_askAt_39, kX0_askAt_41, kX0_askAt_42, kX0_askAt_45, kX0_askAt_46, kX0_askAt_48, kX0_askAt_49, kX0_askAt_52, kX0_askAt_55, kX0_askAt_57, kX0_askAt_59, kX0_askAt_62, kX0_askAt_65, kX0_askAt_67, kX0_askAt_68, kX0_askAt_71, kX0_askAt_72, kX0_askAt_73, kX0_askAt_76, kX0_askAt_79, kX0_askAt_80, kX0_askAt_83, kX0_askAt_84, kX0_askAt_85, kX0_askAt_86, kX0_askAt_89, kX0_askAt_91, kX0_askAt_92, kX0_askAt_95, kX0_askAt_96, kX0_askAt_98, kX0_askAt_99, kX0_askAt_102, kX0_askAt_103, kX0_askAt_104, kX0_askAt_105, kX0_askAt_108, kX0_askAt_111, kX0_askAt_112, kX0_askAt_115, kX0_askAt_117, kX0_askAt_118, kX0_askAt_119, kX0_askAt_120, kX0_askAt_123, kX0_askAt_124, kX0_askAt_125, kX0_askAt_126, Nat.zero_ne_one, xAld, xArrF, xAst, xCmp, xGet, xGetF, xInc, xLdA, xLdI, xQld, xQldF, xSt, xVret, fX0_56, fX0_74, fX0_78, fX0_9, cI_0, cI_1, cI_m1, lA_603, fAll, lA_604, lA_605, lA_606, lA_607, lD0, lCs0, lSs0, fDesk, fChi, fSch, h0, h1, vp_in_nI (show j < 6 by omega) (show 6 < 2 ^ 31 by decide), nI31 (show j < 2 ^ 31 by omega), lA_S6 (E := E) (d := 0) (i := j) (by decide) (by omega), gC, x2, nI_leI (show nn R (3 + 7 * j + 2) < 2 ^ 31 by omega) (show ct pp (nn R 1) < 2 ^ 31 by omega), vp_in_nI (show i < 24 by omega) (show 24 < 2 ^ 31 by decide), nI31 (show i < 2 ^ 31 by omega), Nat.zero_ne_one]
    refine ⟨fun c1 => ?_, fun c1 => ?_⟩
    rotate_left
    · refine hP _ ⟨aT_.sr (by omega), ?_⟩
      unfold stA
      rw [if_pos (by rw [hlp, q2]; omega)]
      exact hL0.seat hi (Or.inr ⟨j, hj, rfl⟩)
    obtain ⟨w1, w2⟩ := wS_spec Q j (nn R 1)
    have hst : stA Q i j = if hw Q i j then ur (ur Q (57 + 13 * wst Q j + 10) (-1)) (57 + 13 * i + 10) (nI j) else Q := by unfold stA; rw [if_neg (by rw [hlp, q2]; omega)]
    cases hb : wS Q j (nn R 1) with
    | none =>
      refine ⟨fun _ => ?_, fun c => absurd rfl c⟩
      refine hP _ ⟨aT_.rf, ?_⟩
      have hwf : hw Q i j = false := an_fl (fun o ho => by rw [decide_eq_false (w1 hb o (by omega))]; rfl)
      rw [hst, hwf, if_neg (by decide)]
      exact hL0
    | some b =>
      obtain ⟨b1, b2, b3⟩ := w2 b hb
      have kb := kyl b b1
      have ki := kyl i hi
      refine ⟨fun c => absurd c (nI_m1' (show b < 2 ^ 31 by omega)), fun _ => ?_⟩
      simp only [fwV]
      refine cV X  tX0_askAt_ok kX0_askAt_99 (c_keyAt (show b < 24 by omega) (show j < 6 by omega)) vX0_keyAt lX0_70 lA_603 rfl rfl rfl (Nat.le_of_ble_eq_true rfl) (Nat.le_of_ble_eq_true rfl) ?_
      refine run X (rt := none) flX0_ok rfl tX0_askAt_ok 40 [9] ?_
      simp only [go_go, gos_some, ctn_ctn, step, fv0, fv1, fv2, fv3, List.getElem?_cons_zero, List.getElem?_cons_succ, List.set_cons_zero, List.set_cons_succ, List.mem_cons, List.not_mem_nil, or_false, or_self, if_false, if_true, List.length_cons, List.length_nil, lval, upS_sr, sr_same, sr_sr, Nat.reduceEqDiff, not_false_eq_true, Classical.not_not, true_or, or_true, false_or, Nat.zero_add, Nat.add_zero, nI_add, pk_mul, Option.toList_some, Option.toList_none, List.cons_append, List.nil_append, n00, n11, n10, bv0, bv1, bft, bnf, bnt, Nat.reduceAdd, Nat.reduceEqDiff, Nat.reduceMul, Nat.reduceLT, Nat.reduceSub, true_implies, false_implies, not_true_eq_false, not_false_eq_true, true_and, and_true, sr_ne (show ¬ 21 = 20 by decide), sr_ne (show ¬ 20 = 21 by decide), sr_ne (show ¬ 22 = 20 by decide), sr_ne (show ¬ 22 = 21 by decide), sr_ne (show ¬ 20 = 22 by decide), sr_ne (show ¬ 21 = 22 by decide), kX0_askAt_0, kX0_askAt_1, kX0_askAt_3, kX0_askAt_4, kX0_askAt_6, kX0_askAt_7, kX0_askAt_9, kX0_askAt_11, kX0_askAt_12, kX0_askAt_15, kX0_askAt_18, kX0_askAt_19, kX0_askAt_22, kX0_askAt_24, kX0_askAt_25, kX0_askAt_26, kX0_askAt_29, kX0_askAt_32, kX0_askAt_34, kX0_askAt_35, kX0_askAt_38, kX0_askAt_39, kX0_askAt_41, kX0_askAt_42, kX0_askAt_45, kX0_askAt_46, kX0_askAt_48, kX0_askAt_49, kX0_askAt_52, kX0_askAt_55, kX0_askAt_57, kX0_askAt_59, kX0_askAt_62, kX0_askAt_65, kX0_askAt_67, kX0_askAt_68, kX0_askAt_71, kX0_askAt_72, kX0_askAt_73, kX0_askAt_76, kX0_askAt_79, kX0_askAt_80, kX0_askAt_83, kX0_askAt_84, kX0_askAt_85, kX0_askAt_86, kX0_askAt_89, kX0_askAt_91, kX0_askAt_92, kX0_askAt_95, kX0_askAt_96, kX0_askAt_98, kX0_askAt_99, kX0_askAt_102, kX0_askAt_103, kX0_askAt_104, kX0_askAt_105, kX0_askAt_108, kX0_askAt_111, kX0_askAt_112, kX0_askAt_115, kX0_askAt_117, kX0_askAt_118, kX0_askAt_119, kX0_askAt_120, kX0_askAt_123, kX0_askAt_124, kX0_askAt_125, kX0_askAt_126, Nat.zero_ne_one, xAld, xArrF, xAst, xCmp, xGet, xGetF, xInc, xLdA, xLdI, xQld, xQldF, xSt, xVret, fX0_56, fX0_74, fX0_78, fX0_9, cI_0, cI_1, cI_m1, lA_603, fAll, lA_604, lA_605, lA_606, lA_607, fwV]
      refine cV X  tX0_askAt_ok kX0_askAt_105 (c_keyAt (show i < 24 by omega) (show j < 6 by omega)) vX0_keyAt lX0_70 lA_603 rfl rfl rfl (Nat.le_of_ble_eq_true rfl) (Nat.le_of_ble_eq_true rfl) ?_
      refine run X (rt := none) flX0_ok rfl tX0_askAt_ok 40 [9] ?_
      simp only [go_go, gos_some, ctn_ctn, step, fv0, fv1, fv2, fv3, List.getElem?_cons_zero, List.getElem?_cons_succ, List.set_cons_zero, List.set_cons_succ, List.mem_cons, List.not_mem_nil, or_false, or_self, if_false, if_true, List.length_cons, List.length_nil, lval, upS_sr, sr_same, sr_sr, Nat.reduceEqDiff, not_false_eq_true, Classical.not_not, true_or, or_true, false_or, Nat.zero_add, Nat.add_zero, nI_add, pk_mul, Option.toList_some, Option.toList_none, List.cons_append, List.nil_append, n00, n11, n10, bv0, bv1, bft, bnf, bnt, Nat.reduceAdd, Nat.reduceEqDiff, Nat.reduceMul, Nat.reduceLT, Nat.reduceSub, true_implies, false_implies, not_true_eq_false, not_false_eq_true, true_and, and_true, sr_ne (show ¬ 21 = 20 by decide), sr_ne (show ¬ 20 = 21 by decide), sr_ne (show ¬ 22 = 20 by decide), sr_ne (show ¬ 22 = 21 by decide), sr_ne (show ¬ 20 = 22 by decide), sr_ne (show ¬ 21 = 22 by decide), kX0_askAt_0, kX0_askAt_1, kX0_askAt_3, kX0_askAt_4, kX0_askAt_6, kX0_askAt_7, kX0_askAt_9, kX0_askAt_11, kX0_askAt_12, kX0_askAt_15, kX0_askAt_18, kX0_askAt_19, kX0_askAt_22, kX0_askAt_24, kX0_askAt_25, kX0_askAt_26, kX0_askAt_29, kX0_askAt_32, kX0_askAt_34, kX0_askAt_35, kX0_askAt_38, kX0_askAt_39, kX0_askAt_41, kX0_askAt_42, kX0_askAt_45, kX0_askAt_46, kX0_askAt_48, kX0_askAt_49, kX0_askAt_52, kX0_askAt_55, kX0_askAt_57, kX0_askAt_59, kX0_askAt_62, kX0_askAt_65, kX0_askAt_67, kX0_askAt_68, kX0_askAt_71, kX0_askAt_72, kX0_askAt_73, kX0_askAt_76, kX0_askAt_79, kX0_askAt_80, kX0_askAt_83, kX0_askAt_84, kX0_askAt_85, kX0_askAt_86, kX0_askAt_89, kX0_askAt_91, kX0_askAt_92, kX0_askAt_95, kX0_askAt_96, kX0_askAt_98, kX0_askAt_99, kX0_askAt_102, kX0_askAt_103, kX0_askAt_104, kX0_askAt_105, kX0_askAt_108, kX0_askAt_111, kX0_askAt_112, kX0_askAt_115, kX0_askAt_117, kX0_askAt_118, kX0_askAt_119, kX0_askAt_120, kX0_askAt_123, kX0_askAt_124, kX0_askAt_125, kX0_askAt_126, Nat.zero_ne_one, xAld, xArrF, xAst, xCmp, xGet, xGetF, xInc, xLdA, xLdI, xQld, xQldF, xSt, xVret, fX0_56, fX0_74, fX0_78, fX0_9, cI_0, cI_1, cI_m1, lA_603, fAll, lA_604, lA_605, lA_606, lA_607, fwV, hs14 b j b1 hj, hs14 i j hi hj, nI_leI (show ky Q b j < 2 ^ 31 by omega) (show ky Q i j < 2 ^ 31 by omega), vp_in_nI (show i < 24 by omega) (show 24 < 2 ^ 31 by decide), nI31 (show i < 2 ^ 31 by omega), vp_in_nI (show b < 24 by omega) (show 24 < 2 ^ 31 by decide), nI31 (show b < 2 ^ 31 by omega), Nat.zero_ne_one]
      refine ⟨fun c2 => ?_, fun c2 => ?_⟩
      · refine hP _ ⟨aT_.rf, ?_⟩
        have hwf : hw Q i j = false := an_fl (fun o ho => by
          by_cases e : Q (57 + 13 * o + 10) = nI j
          · have := b3 o (by omega) e
            rw [decide_eq_false (show ¬ ky Q i j < ky Q o j by omega), Bool.and_false]
          · rw [decide_eq_false e]; rfl)
        rw [hst, hwf, if_neg (by decide)]
        exact hL0
      · refine hP _ ⟨aT_.sr (by omega), ?_⟩
        have hwt : hw Q i j = true := an_of (show b < nn Q 1 by omega) (by rw [decide_eq_true b2, decide_eq_true (show ky Q i j < ky Q b j by omega)]; rfl)
        obtain ⟨k, k1, -, k2, k3, k4⟩ := wst_at hQ (hw_pos hwt)
        have ek : k = b := ky_inj hQ k1 (by omega) (Nat.le_antisymm (b3 k (by omega) k3) (k4 b (by omega) b2))
        rw [hst, hwt, if_pos rfl, k2, ek]
        have := (hL0.seat (i := b) (x := -1) b1 (Or.inl rfl)).seat (i := i) (x := nI j) hi (Or.inr ⟨j, hj, rfl⟩)
        rw [sr_same, sr_sr] at this
        exact this
  · have x11 := hs11 o ho
    have hko := kyl o ho
    refine run X (rt := none) flX0_ok rfl tX0_askAt_ok 40 [9, 55] ?_
    simp only [go_go, gos_some, ctn_ctn, step, fv0, fv1, fv2, fv3, List.getElem?_cons_zero, List.getElem?_cons_succ, List.set_cons_zero, List.set_cons_succ, List.mem_cons, List.not_mem_nil, or_false, or_self, if_false, if_true, List.length_cons, List.length_nil, lval, upS_sr, sr_same, sr_sr, Nat.reduceEqDiff, not_false_eq_true, Classical.not_not, true_or, or_true, false_or, Nat.zero_add, Nat.add_zero, nI_add, pk_mul, Option.toList_some, Option.toList_none, List.cons_append, List.nil_append, n00, n11, n10, bv0, bv1, bft, bnf, bnt, Nat.reduceAdd, Nat.reduceEqDiff, Nat.reduceMul, Nat.reduceLT, Nat.reduceSub, true_implies, false_implies, not_true_eq_false, not_false_eq_true, true_and, and_true, sr_ne (show ¬ 21 = 20 by decide), sr_ne (show ¬ 20 = 21 by decide), sr_ne (show ¬ 22 = 20 by decide), sr_ne (show ¬ 22 = 21 by decide), sr_ne (show ¬ 20 = 22 by decide), sr_ne (show ¬ 21 = 22 by decide), kX0_askAt_0, kX0_askAt_1, kX0_askAt_3, kX0_askAt_4, kX0_askAt_6, kX0_askAt_7, kX0_askAt_9, kX0_askAt_11, kX0_askAt_12, kX0_askAt_15, kX0_askAt_18, kX0_askAt_19, kX0_askAt_22, kX0_askAt_24, kX0_askAt_25, kX0_askAt_26, kX0_askAt_29, kX0_askAt_32, kX0_askAt_34, kX0_askAt_35, kX0_askAt_38, kX0_askAt_39, kX0_askAt_41, kX0_askAt_42, kX0_askAt_45, kX0_askAt_46, kX0_askAt_48, kX0_askAt_49, kX0_askAt_52, kX0_askAt_55, kX0_askAt_57, kX0_askAt_59, kX0_askAt_62, kX0_askAt_65, kX0_askAt_67, kX0_askAt_68, kX0_askAt_71, kX0_askAt_72, kX0_askAt_73, kX0_askAt_76, kX0_askAt_79, kX0_askAt_80, kX0_askAt_83, kX0_askAt_84, kX0_askAt_85, kX0_askAt_86, kX0_askAt_89, kX0_askAt_91, kX0_askAt_92, kX0_askAt_95, kX0_askAt_96, kX0_askAt_98, kX0_askAt_99, kX0_askAt_102, kX0_askAt_103, kX0_askAt_104, kX0_askAt_105, kX0_askAt_108, kX0_askAt_111, kX0_askAt_112, kX0_askAt_115, kX0_askAt_117, kX0_askAt_118, kX0_askAt_119, kX0_askAt_120, kX0_askAt_123, kX0_askAt_124, kX0_askAt_125, kX0_askAt_126, Nat.zero_ne_one, xAld, xArrF, xAst, xCmp, xGet, xGetF, xInc, xLdA, xLdI, xQld, xQldF, xSt, xVret, fX0_56, fX0_74, fX0_78, fX0_9, cI_0, cI_1, cI_m1, lA_603, fAll, lA_604, lA_605, lA_606, lA_607, lD0, lCs0, lSs0, fDesk, fChi, fSch, h0, h1, nI_ge ho hNc, vp_in_nI (show o < 24 by omega) (show 24 < 2 ^ 31 by decide), nI31 (show o < 2 ^ 31 by omega), x11]
    refine ⟨fun c => ?_, fun c => ?_⟩
    · rw [ct_f (by rw [← hp]; exact decide_eq_false c), show wS Q j (o + 1) = wS Q j o by rw [wS, decide_eq_false c]; rfl] at ih
      exact ih
    rw [ct_t (by rw [← hp]; exact decide_eq_true c), wS, decide_eq_true c, if_pos rfl] at ih
    cases hb : wS Q j o with
    | none =>
      rw [hb] at ih
      refine ⟨fun _ => ?_, fun c => absurd rfl c⟩
      refine run X (rt := none) flX0_ok rfl tX0_askAt_ok 40 [9] ?_
      simp only [go_go, gos_some, ctn_ctn, step, fv0, fv1, fv2, fv3, List.getElem?_cons_zero, List.getElem?_cons_succ, List.set_cons_zero, List.set_cons_succ, List.mem_cons, List.not_mem_nil, or_false, or_self, if_false, if_true, List.length_cons, List.length_nil, lval, upS_sr, sr_same, sr_sr, Nat.reduceEqDiff, not_false_eq_true, Classical.not_not, true_or, or_true, false_or, Nat.zero_add, Nat.add_zero, nI_add, pk_mul, Option.toList_some, Option.toList_none, List.cons_append, List.nil_append, n00, n11, n10, bv0, bv1, bft, bnf, bnt, Nat.reduceAdd, Nat.reduceEqDiff, Nat.reduceMul, Nat.reduceLT, Nat.reduceSub, true_implies, false_implies, not_true_eq_false, not_false_eq_true, true_and, and_true, sr_ne (show ¬ 21 = 20 by decide), sr_ne (show ¬ 20 = 21 by decide), sr_ne (show ¬ 22 = 20 by decide), sr_ne (show ¬ 22 = 21 by decide), sr_ne (show ¬ 20 = 22 by decide), sr_ne (show ¬ 21 = 22 by decide), kX0_askAt_0, kX0_askAt_1, kX0_askAt_3, kX0_askAt_4, kX0_askAt_6, kX0_askAt_7, kX0_askAt_9, kX0_askAt_11, kX0_askAt_12, kX0_askAt_15, kX0_askAt_18, kX0_askAt_19, kX0_askAt_22, kX0_askAt_24, kX0_askAt_25, kX0_askAt_26, kX0_askAt_29, kX0_askAt_32, kX0_askAt_34, kX0_askAt_35, kX0_askAt_38, kX0_askAt_39, kX0_askAt_41, kX0_askAt_42, kX0_askAt_45, kX0_askAt_46, kX0_askAt_48, kX0_askAt_49, kX0_askAt_52, kX0_askAt_55, kX0_askAt_57, kX0_askAt_59, kX0_askAt_62, kX0_askAt_65, kX0_askAt_67, kX0_askAt_68, kX0_askAt_71, kX0_askAt_72, kX0_askAt_73, kX0_askAt_76, kX0_askAt_79, kX0_askAt_80, kX0_askAt_83, kX0_askAt_84, kX0_askAt_85, kX0_askAt_86, kX0_askAt_89, kX0_askAt_91, kX0_askAt_92, kX0_askAt_95, kX0_askAt_96, kX0_askAt_98, kX0_askAt_99, kX0_askAt_102, kX0_askAt_103, kX0_askAt_104, kX0_askAt_105, kX0_askAt_108, kX0_askAt_111, kX0_askAt_112, kX0_askAt_115, kX0_askAt_117, kX0_askAt_118, kX0_askAt_119, kX0_askAt_120, kX0_askAt_123, kX0_askAt_124, kX0_askAt_125, kX0_askAt_126, Nat.zero_ne_one, xAld, xArrF, xAst, xCmp, xGet, xGetF, xInc, xLdA, xLdI, xQld, xQldF, xSt, xVret, fX0_56, fX0_74, fX0_78, fX0_9, cI_0, cI_1, cI_m1, lA_603, fAll, lA_604, lA_605, lA_606, lA_607]
      exact ih
    | some b =>
      obtain ⟨b1, b2, b3⟩ := (wS_spec Q j o).2 b hb
      have kb := kyl b (by omega)
      rw [hb] at ih
      dsimp only at ih
      refine ⟨fun c => absurd c (nI_m1' (show b < 2 ^ 31 by omega)), fun _ => ?_⟩
      simp only [fwV]
      refine cV X  tX0_askAt_ok kX0_askAt_42 (c_keyAt (show o < 24 by omega) (show j < 6 by omega)) vX0_keyAt lX0_70 lA_603 rfl rfl rfl (Nat.le_of_ble_eq_true rfl) (Nat.le_of_ble_eq_true rfl) ?_
      refine run X (rt := none) flX0_ok rfl tX0_askAt_ok 40 [9, 55] ?_
      simp only [go_go, gos_some, ctn_ctn, step, fv0, fv1, fv2, fv3, List.getElem?_cons_zero, List.getElem?_cons_succ, List.set_cons_zero, List.set_cons_succ, List.mem_cons, List.not_mem_nil, or_false, or_self, if_false, if_true, List.length_cons, List.length_nil, lval, upS_sr, sr_same, sr_sr, Nat.reduceEqDiff, not_false_eq_true, Classical.not_not, true_or, or_true, false_or, Nat.zero_add, Nat.add_zero, nI_add, pk_mul, Option.toList_some, Option.toList_none, List.cons_append, List.nil_append, n00, n11, n10, bv0, bv1, bft, bnf, bnt, Nat.reduceAdd, Nat.reduceEqDiff, Nat.reduceMul, Nat.reduceLT, Nat.reduceSub, true_implies, false_implies, not_true_eq_false, not_false_eq_true, true_and, and_true, sr_ne (show ¬ 21 = 20 by decide), sr_ne (show ¬ 20 = 21 by decide), sr_ne (show ¬ 22 = 20 by decide), sr_ne (show ¬ 22 = 21 by decide), sr_ne (show ¬ 20 = 22 by decide), sr_ne (show ¬ 21 = 22 by decide), kX0_askAt_0, kX0_askAt_1, kX0_askAt_3, kX0_askAt_4, kX0_askAt_6, kX0_askAt_7, kX0_askAt_9, kX0_askAt_11, kX0_askAt_12, kX0_askAt_15, kX0_askAt_18, kX0_askAt_19, kX0_askAt_22, kX0_askAt_24, kX0_askAt_25, kX0_askAt_26, kX0_askAt_29, kX0_askAt_32, kX0_askAt_34, kX0_askAt_35, kX0_askAt_38, kX0_askAt_39, kX0_askAt_41, kX0_askAt_42, kX0_askAt_45, kX0_askAt_46, kX0_askAt_48, kX0_askAt_49, kX0_askAt_52, kX0_askAt_55, kX0_askAt_57, kX0_askAt_59, kX0_askAt_62, kX0_askAt_65, kX0_askAt_67, kX0_askAt_68, kX0_askAt_71, kX0_askAt_72, kX0_askAt_73, kX0_askAt_76, kX0_askAt_79, kX0_askAt_80, kX0_askAt_83, kX0_askAt_84, kX0_askAt_85, kX0_askAt_86, kX0_askAt_89, kX0_askAt_91, kX0_askAt_92, kX0_askAt_95, kX0_askAt_96, kX0_askAt_98, kX0_askAt_99, kX0_askAt_102, kX0_askAt_103, kX0_askAt_104, kX0_askAt_105, kX0_askAt_108, kX0_askAt_111, kX0_askAt_112, kX0_askAt_115, kX0_askAt_117, kX0_askAt_118, kX0_askAt_119, kX0_askAt_120, kX0_askAt_123, kX0_askAt_124, kX0_askAt_125, kX0_askAt_126, Nat.zero_ne_one, xAld, xArrF, xAst, xCmp, xGet, xGetF, xInc, xLdA, xLdI, xQld, xQldF, xSt, xVret, fX0_56, fX0_74, fX0_78, fX0_9, cI_0, cI_1, cI_m1, lA_603, fAll, lA_604, lA_605, lA_606, lA_607, fwV]
      refine cV X  tX0_askAt_ok kX0_askAt_49 (c_keyAt (show b < 24 by omega) (show j < 6 by omega)) vX0_keyAt lX0_70 lA_603 rfl rfl rfl (Nat.le_of_ble_eq_true rfl) (Nat.le_of_ble_eq_true rfl) ?_
      refine run X (rt := none) flX0_ok rfl tX0_askAt_ok 40 [9] ?_
      simp only [go_go, gos_some, ctn_ctn, step, fv0, fv1, fv2, fv3, List.getElem?_cons_zero, List.getElem?_cons_succ, List.set_cons_zero, List.set_cons_succ, List.mem_cons, List.not_mem_nil, or_false, or_self, if_false, if_true, List.length_cons, List.length_nil, lval, upS_sr, sr_same, sr_sr, Nat.reduceEqDiff, not_false_eq_true, Classical.not_not, true_or, or_true, false_or, Nat.zero_add, Nat.add_zero, nI_add, pk_mul, Option.toList_some, Option.toList_none, List.cons_append, List.nil_append, n00, n11, n10, bv0, bv1, bft, bnf, bnt, Nat.reduceAdd, Nat.reduceEqDiff, Nat.reduceMul, Nat.reduceLT, Nat.reduceSub, true_implies, false_implies, not_true_eq_false, not_false_eq_true, true_and, and_true, sr_ne (show ¬ 21 = 20 by decide), sr_ne (show ¬ 20 = 21 by decide), sr_ne (show ¬ 22 = 20 by decide), sr_ne (show ¬ 22 = 21 by decide), sr_ne (show ¬ 20 = 22 by decide), sr_ne (show ¬ 21 = 22 by decide), kX0_askAt_0, kX0_askAt_1, kX0_askAt_3, kX0_askAt_4, kX0_askAt_6, kX0_askAt_7, kX0_askAt_9, kX0_askAt_11, kX0_askAt_12, kX0_askAt_15, kX0_askAt_18, kX0_askAt_19, kX0_askAt_22, kX0_askAt_24, kX0_askAt_25, kX0_askAt_26, kX0_askAt_29, kX0_askAt_32, kX0_askAt_34, kX0_askAt_35, kX0_askAt_38, kX0_askAt_39, kX0_askAt_41, kX0_askAt_42, kX0_askAt_45, kX0_askAt_46, kX0_askAt_48, kX0_askAt_49, kX0_askAt_52, kX0_askAt_55, kX0_askAt_57, kX0_askAt_59, kX0_askAt_62, kX0_askAt_65, kX0_askAt_67, kX0_askAt_68, kX0_askAt_71, kX0_askAt_72, kX0_askAt_73, kX0_askAt_76, kX0_askAt_79, kX0_askAt_80, kX0_askAt_83, kX0_askAt_84, kX0_askAt_85, kX0_askAt_86, kX0_askAt_89, kX0_askAt_91, kX0_askAt_92, kX0_askAt_95, kX0_askAt_96, kX0_askAt_98, kX0_askAt_99, kX0_askAt_102, kX0_askAt_103, kX0_askAt_104, kX0_askAt_105, kX0_askAt_108, kX0_askAt_111, kX0_askAt_112, kX0_askAt_115, kX0_askAt_117, kX0_askAt_118, kX0_askAt_119, kX0_askAt_120, kX0_askAt_123, kX0_askAt_124, kX0_askAt_125, kX0_askAt_126, Nat.zero_ne_one, xAld, xArrF, xAst, xCmp, xGet, xGetF, xInc, xLdA, xLdI, xQld, xQldF, xSt, xVret, fX0_56, fX0_74, fX0_78, fX0_9, cI_0, cI_1, cI_m1, lA_603, fAll, lA_604, lA_605, lA_606, lA_607, fwV, hs14 b j (by omega) hj, hs14 o j ho hj, nI_leI (show ky Q o j < 2 ^ 31 by omega) (show ky Q b j < 2 ^ 31 by omega)]
      refine ⟨fun c2 => ?_, fun c2 => ?_⟩
      · rw [if_neg (by omega)] at ih; exact ih
      · rw [if_pos (by omega)] at ih; exact ih
theorem cons0 : Cond.constant RX0 24 (nI 1000000) ∈ wT := wAt_in (i := 383) (by decide +kernel)
set_option maxRecDepth 10000 in
theorem c_runRound {E : WE} {s : ST} {R Q : RW} (hL : AL s R (zs Q (nn Q 1)) (fun _ => 0)) {b : Bool} : SpQ E mX0_runRound 2 [.ref (aF E 603), .ref (aD E 0), .int (bv b)] s none (fun s' => aT_ s s' ∧ ∃ as, AL s' R (rnd (!b) Q) as) := by
  refine SpQ.of vX0_runRound.1 [some (.ref (aF E 603)), some (.ref (aD E 0)), some (.int (bv b)), none, none, none] rfl (Nat.le_of_ble_eq_true rfl) rfl (fun C P X hP => ?_)
  have hrem : rem (zs Q (nn Q 1)) (fun _ => 0) ≤ 96 := by
    have hI := hL.1.2.2.1
    have h1 := sm_le (f := fun i => nn (zs Q (nn Q 1)) (57 + 13 * i + 5) - 0) (b := 4) (nn (zs Q (nn Q 1)) 1) (fun k hk => by have := (hI.m hk).2; omega)
    have h2 := hI.c
    exact Nat.le_trans h1 (by omega)
  suffices key : ∀ (m st : Nat) (Q' : RW) (as : Nat → Nat) (s1 : ST) (l4 l5 : Option Value), AL s1 R Q' as → aT_ s s1 → rem Q' as ≤ m → st + m ≤ 96 → rdN (!b) m Q' as = rnd (!b) Q → JM E mX0_runRound C 2 0 0 P 2 [some (.ref (aF E 603)), some (.ref (aD E 0)), some (.int (bv b)), some (.int (nI st)), l4, l5] [] s1 by
    refine run X (rt := none) flX0_ok rfl tX0_runRound_ok 20 [2] ?_
    simp only [go_go, gos_some, ctn_ctn, step, fv0, fv1, fv2, fv3, List.getElem?_cons_zero, List.getElem?_cons_succ, List.set_cons_zero, List.set_cons_succ, List.mem_cons, List.not_mem_nil, or_false, or_self, if_false, if_true, List.length_cons, List.length_nil, lval, upS_sr, sr_same, sr_sr, Nat.reduceEqDiff, not_false_eq_true, Classical.not_not, true_or, or_true, false_or, Nat.zero_add, Nat.add_zero, nI_add, pk_mul, Option.toList_some, Option.toList_none, List.cons_append, List.nil_append, n00, n11, n10, bv0, bv1, bft, bnf, bnt, Nat.reduceAdd, Nat.reduceEqDiff, Nat.reduceMul, Nat.reduceLT, Nat.reduceSub, true_implies, false_implies, not_true_eq_false, not_false_eq_true, true_and, and_true, sr_ne (show ¬ 21 = 20 by decide), sr_ne (show ¬ 20 = 21 by decide), sr_ne (show ¬ 22 = 20 by decide), sr_ne (show ¬ 22 = 21 by decide), sr_ne (show ¬ 20 = 22 by decide), sr_ne (show ¬ 21 = 22 by decide), kX0_runRound_0, kX0_runRound_1, kX0_runRound_2, kX0_runRound_3, kX0_runRound_5, kX0_runRound_8, kX0_runRound_9, kX0_runRound_10, kX0_runRound_11, kX0_runRound_14, kX0_runRound_16, kX0_runRound_18, kX0_runRound_19, kX0_runRound_22, kX0_runRound_23, kX0_runRound_24, kX0_runRound_27, kX0_runRound_29, kX0_runRound_30, kX0_runRound_33, kX0_runRound_34, kX0_runRound_37, kX0_runRound_39, kX0_runRound_40, kX0_runRound_41, kX0_runRound_43, kX0_runRound_44, kX0_runRound_47, kX0_runRound_49, kX0_runRound_50, kX0_runRound_51, kX0_runRound_52, kX0_runRound_53, kX0_runRound_54, kX0_runRound_55, kX0_runRound_56, kX0_runRound_58, kX0_runRound_60, kX0_runRound_63, kX0_runRound_66, kX0_runRound_69, Nat.zero_ne_one, xAld, xArrF, xAst, xBin, xCmp, xDup2, xGet, xGetF, xInc, xLdA, xLdI, xQld, xQldF, xSt, xVret, fX0_18, fX0_41, fX0_47, cI_0, cI_1, cI_m1, lA_603, fAll, lA_604, lA_605, lA_606, lA_607]
    exact key 96 0 _ _ s none none hL aT_.rf hrem (by decide) rfl
  intro m
  induction m with
  | zero =>
    intro st Q' as s1 l4 l5 hL1 hf hr hst hE
    refine run X (rt := none) flX0_ok rfl tX0_runRound_ok 1 [] ?_
    simp only [go_go, gos_some, ctn_ctn, step, fv0, fv1, fv2, fv3, List.getElem?_cons_zero, List.getElem?_cons_succ, List.set_cons_zero, List.set_cons_succ, List.mem_cons, List.not_mem_nil, or_false, or_self, if_false, if_true, List.length_cons, List.length_nil, lval, upS_sr, sr_same, sr_sr, Nat.reduceEqDiff, not_false_eq_true, Classical.not_not, true_or, or_true, false_or, Nat.zero_add, Nat.add_zero, nI_add, pk_mul, Option.toList_some, Option.toList_none, List.cons_append, List.nil_append, n00, n11, n10, bv0, bv1, bft, bnf, bnt, Nat.reduceAdd, Nat.reduceEqDiff, Nat.reduceMul, Nat.reduceLT, Nat.reduceSub, true_implies, false_implies, not_true_eq_false, not_false_eq_true, true_and, and_true, sr_ne (show ¬ 21 = 20 by decide), sr_ne (show ¬ 20 = 21 by decide), sr_ne (show ¬ 22 = 20 by decide), sr_ne (show ¬ 22 = 21 by decide), sr_ne (show ¬ 20 = 22 by decide), sr_ne (show ¬ 21 = 22 by decide), kX0_runRound_0, kX0_runRound_1, kX0_runRound_2, kX0_runRound_3, kX0_runRound_5, kX0_runRound_8, kX0_runRound_9, kX0_runRound_10, kX0_runRound_11, kX0_runRound_14, kX0_runRound_16, kX0_runRound_18, kX0_runRound_19, kX0_runRound_22, kX0_runRound_23, kX0_runRound_24, kX0_runRound_27, kX0_runRound_29, kX0_runRound_30, kX0_runRound_33, kX0_runRound_34, kX0_runRound_37, kX0_runRound_39, kX0_runRound_40, kX0_runRound_41, kX0_runRound_43, kX0_runRound_44, kX0_runRound_47, kX0_runRound_49, kX0_runRound_50, kX0_runRound_51, kX0_runRound_52, kX0_runRound_53, kX0_runRound_54, kX0_runRound_55, kX0_runRound_56, kX0_runRound_58, kX0_runRound_60, kX0_runRound_63, kX0_runRound_66, kX0_runRound_69, Nat.zero_ne_one, xAld, xArrF, xAst, xBin, xCmp, xDup2, xGet, xGetF, xInc, xLdA, xLdI, xQld, xQldF, xSt, xVret, fX0_18, fX0_41, fX0_47, cI_0, cI_1, cI_m1, lA_603, fAll, lA_604, lA_605, lA_606, lA_607]
    refine JM_ldc X tX0_runRound_ok kX0_runRound_3 cons0 ?_
    refine run X (rt := none) flX0_ok rfl tX0_runRound_ok 20 [2] ?_
    simp only [go_go, gos_some, ctn_ctn, step, fv0, fv1, fv2, fv3, List.getElem?_cons_zero, List.getElem?_cons_succ, List.set_cons_zero, List.set_cons_succ, List.mem_cons, List.not_mem_nil, or_false, or_self, if_false, if_true, List.length_cons, List.length_nil, lval, upS_sr, sr_same, sr_sr, Nat.reduceEqDiff, not_false_eq_true, Classical.not_not, true_or, or_true, false_or, Nat.zero_add, Nat.add_zero, nI_add, pk_mul, Option.toList_some, Option.toList_none, List.cons_append, List.nil_append, n00, n11, n10, bv0, bv1, bft, bnf, bnt, Nat.reduceAdd, Nat.reduceEqDiff, Nat.reduceMul, Nat.reduceLT, Nat.reduceSub, true_implies, false_implies, not_true_eq_false, not_false_eq_true, true_and, and_true, sr_ne (show ¬ 21 = 20 by decide), sr_ne (show ¬ 20 = 21 by decide), sr_ne (show ¬ 22 = 20 by decide), sr_ne (show ¬ 22 = 21 by decide), sr_ne (show ¬ 20 = 22 by decide), sr_ne (show ¬ 21 = 22 by decide), kX0_runRound_0, kX0_runRound_1, kX0_runRound_2, kX0_runRound_3, kX0_runRound_5, kX0_runRound_8, kX0_runRound_9, kX0_runRound_10, kX0_runRound_11, kX0_runRound_14, kX0_runRound_16, kX0_runRound_18, kX0_runRound_19, kX0_runRound_22, kX0_runRound_23, kX0_runRound_24, kX0_runRound_27, kX0_runRound_29, kX0_runRound_30, kX0_runRound_33, kX0_runRound_34, kX0_runRound_37, kX0_runRound_39, kX0_runRound_40, kX0_runRound_41, kX0_runRound_43, kX0_runRound_44, kX0_runRound_47, kX0_runRound_49, kX0_runRound_50, kX0_runRound_51, kX0_runRound_52, kX0_runRound_53, kX0_runRound_54, kX0_runRound_55, kX0_runRound_56, kX0_runRound_58, kX0_runRound_60, kX0_runRound_63, kX0_runRound_66, kX0_runRound_69, Nat.zero_ne_one, xAld, xArrF, xAst, xBin, xCmp, xDup2, xGet, xGetF, xInc, xLdA, xLdI, xQld, xQldF, xSt, xVret, fX0_18, fX0_41, fX0_47, cI_0, cI_1, cI_m1, lA_603, fAll, lA_604, lA_605, lA_606, lA_607, nI_ge (show st < 1000000 by omega) (show 1000000 < 2 ^ 31 by decide)]
    refine cV X  tX0_runRound_ok kX0_runRound_11 (c_nextAsker hL1) vX0_nextAsker lX0_37 lA_603 rfl rfl rfl (Nat.le_of_ble_eq_true rfl) (Nat.le_of_ble_eq_true rfl) ?_
    rcases nxA_or (p := akB Q' as) (dir := !b) (nn R 1) with ⟨h1, -⟩ | ⟨i, h1, h2, h3⟩
    · rw [h1]
      refine run X (rt := none) flX0_ok rfl tX0_runRound_ok 20 [2] ?_
      simp only [go_go, gos_some, ctn_ctn, step, fv0, fv1, fv2, fv3, List.getElem?_cons_zero, List.getElem?_cons_succ, List.set_cons_zero, List.set_cons_succ, List.mem_cons, List.not_mem_nil, or_false, or_self, if_false, if_true, List.length_cons, List.length_nil, lval, upS_sr, sr_same, sr_sr, Nat.reduceEqDiff, not_false_eq_true, Classical.not_not, true_or, or_true, false_or, Nat.zero_add, Nat.add_zero, nI_add, pk_mul, Option.toList_some, Option.toList_none, List.cons_append, List.nil_append, n00, n11, n10, bv0, bv1, bft, bnf, bnt, Nat.reduceAdd, Nat.reduceEqDiff, Nat.reduceMul, Nat.reduceLT, Nat.reduceSub, true_implies, false_implies, not_true_eq_false, not_false_eq_true, true_and, and_true, sr_ne (show ¬ 21 = 20 by decide), sr_ne (show ¬ 20 = 21 by decide), sr_ne (show ¬ 22 = 20 by decide), sr_ne (show ¬ 22 = 21 by decide), sr_ne (show ¬ 20 = 22 by decide), sr_ne (show ¬ 21 = 22 by decide), kX0_runRound_0, kX0_runRound_1, kX0_runRound_2, kX0_runRound_3, kX0_runRound_5, kX0_runRound_8, kX0_runRound_9, kX0_runRound_10, kX0_runRound_11, kX0_runRound_14, kX0_runRound_16, kX0_runRound_18, kX0_runRound_19, kX0_runRound_22, kX0_runRound_23, kX0_runRound_24, kX0_runRound_27, kX0_runRound_29, kX0_runRound_30, kX0_runRound_33, kX0_runRound_34, kX0_runRound_37, kX0_runRound_39, kX0_runRound_40, kX0_runRound_41, kX0_runRound_43, kX0_runRound_44, kX0_runRound_47, kX0_runRound_49, kX0_runRound_50, kX0_runRound_51, kX0_runRound_52, kX0_runRound_53, kX0_runRound_54, kX0_runRound_55, kX0_runRound_56, kX0_runRound_58, kX0_runRound_60, kX0_runRound_63, kX0_runRound_66, kX0_runRound_69, Nat.zero_ne_one, xAld, xArrF, xAst, xBin, xCmp, xDup2, xGet, xGetF, xInc, xLdA, xLdI, xQld, xQldF, xSt, xVret, fX0_18, fX0_41, fX0_47, cI_0, cI_1, cI_m1, lA_603, fAll, lA_604, lA_605, lA_606, lA_607]
      exact hP _ ⟨hf, as, by rw [← hE]; exact hL1⟩
    · exfalso
      unfold akB at h3
      simp only [Bool.and_eq_true, decide_eq_true_eq] at h3
      have := rem_dec (R := Q') (R' := Q') samS.rf (as := as) (i := i) (by rw [hL1.1.2.2.2.n1]; exact h1) h3.2
      omega
  | succ m ih =>
    intro st Q' as s1 l4 l5 hL1 hf hr hst hE
    obtain ⟨⟨hS, hI, hQ, hq⟩, hs11, hs12, hs13, hs14⟩ := id hL1
    have hc := hI.c
    have hs := hI.s
    refine run X (rt := none) flX0_ok rfl tX0_runRound_ok 1 [] ?_
    simp only [go_go, gos_some, ctn_ctn, step, fv0, fv1, fv2, fv3, List.getElem?_cons_zero, List.getElem?_cons_succ, List.set_cons_zero, List.set_cons_succ, List.mem_cons, List.not_mem_nil, or_false, or_self, if_false, if_true, List.length_cons, List.length_nil, lval, upS_sr, sr_same, sr_sr, Nat.reduceEqDiff, not_false_eq_true, Classical.not_not, true_or, or_true, false_or, Nat.zero_add, Nat.add_zero, nI_add, pk_mul, Option.toList_some, Option.toList_none, List.cons_append, List.nil_append, n00, n11, n10, bv0, bv1, bft, bnf, bnt, Nat.reduceAdd, Nat.reduceEqDiff, Nat.reduceMul, Nat.reduceLT, Nat.reduceSub, true_implies, false_implies, not_true_eq_false, not_false_eq_true, true_and, and_true, sr_ne (show ¬ 21 = 20 by decide), sr_ne (show ¬ 20 = 21 by decide), sr_ne (show ¬ 22 = 20 by decide), sr_ne (show ¬ 22 = 21 by decide), sr_ne (show ¬ 20 = 22 by decide), sr_ne (show ¬ 21 = 22 by decide), kX0_runRound_0, kX0_runRound_1, kX0_runRound_2, kX0_runRound_3, kX0_runRound_5, kX0_runRound_8, kX0_runRound_9, kX0_runRound_10, kX0_runRound_11, kX0_runRound_14, kX0_runRound_16, kX0_runRound_18, kX0_runRound_19, kX0_runRound_22, kX0_runRound_23, kX0_runRound_24, kX0_runRound_27, kX0_runRound_29, kX0_runRound_30, kX0_runRound_33, kX0_runRound_34, kX0_runRound_37, kX0_runRound_39, kX0_runRound_40, kX0_runRound_41, kX0_runRound_43, kX0_runRound_44, kX0_runRound_47, kX0_runRound_49, kX0_runRound_50, kX0_runRound_51, kX0_runRound_52, kX0_runRound_53, kX0_runRound_54, kX0_runRound_55, kX0_runRound_56, kX0_runRound_58, kX0_runRound_60, kX0_runRound_63, kX0_runRound_66, kX0_runRound_69, Nat.zero_ne_one, xAld, xArrF, xAst, xBin, xCmp, xDup2, xGet, xGetF, xInc, xLdA, xLdI, xQld, xQldF, xSt, xVret, fX0_18, fX0_41, fX0_47, cI_0, cI_1, cI_m1, lA_603, fAll, lA_604, lA_605, lA_606, lA_607]
    refine JM_ldc X tX0_runRound_ok kX0_runRound_3 cons0 ?_
    refine run X (rt := none) flX0_ok rfl tX0_runRound_ok 20 [2] ?_
    simp only [go_go, gos_some, ctn_ctn, step, fv0, fv1, fv2, fv3, List.getElem?_cons_zero, List.getElem?_cons_succ, List.set_cons_zero, List.set_cons_succ, List.mem_cons, List.not_mem_nil, or_false, or_self, if_false, if_true, List.length_cons, List.length_nil, lval, upS_sr, sr_same, sr_sr, Nat.reduceEqDiff, not_false_eq_true, Classical.not_not, true_or, or_true, false_or, Nat.zero_add, Nat.add_zero, nI_add, pk_mul, Option.toList_some, Option.toList_none, List.cons_append, List.nil_append, n00, n11, n10, bv0, bv1, bft, bnf, bnt, Nat.reduceAdd, Nat.reduceEqDiff, Nat.reduceMul, Nat.reduceLT, Nat.reduceSub, true_implies, false_implies, not_true_eq_false, not_false_eq_true, true_and, and_true, sr_ne (show ¬ 21 = 20 by decide), sr_ne (show ¬ 20 = 21 by decide), sr_ne (show ¬ 22 = 20 by decide), sr_ne (show ¬ 22 = 21 by decide), sr_ne (show ¬ 20 = 22 by decide), sr_ne (show ¬ 21 = 22 by decide), kX0_runRound_0, kX0_runRound_1, kX0_runRound_2, kX0_runRound_3, kX0_runRound_5, kX0_runRound_8, kX0_runRound_9, kX0_runRound_10, kX0_runRound_11, kX0_runRound_14, kX0_runRound_16, kX0_runRound_18, kX0_runRound_19, kX0_runRound_22, kX0_runRound_23, kX0_runRound_24, kX0_runRound_27, kX0_runRound_29, kX0_runRound_30, kX0_runRound_33, kX0_runRound_34, kX0_runRound_37, kX0_runRound_39, kX0_runRound_40, kX0_runRound_41, kX0_runRound_43, kX0_runRound_44, kX0_runRound_47, kX0_runRound_49, kX0_runRound_50, kX0_runRound_51, kX0_runRound_52, kX0_runRound_53, kX0_runRound_54, kX0_runRound_55, kX0_runRound_56, kX0_runRound_58, kX0_runRound_60, kX0_runRound_63, kX0_runRound_66, kX0_runRound_69, Nat.zero_ne_one, xAld, xArrF, xAst, xBin, xCmp, xDup2, xGet, xGetF, xInc, xLdA, xLdI, xQld, xQldF, xSt, xVret, fX0_18, fX0_41, fX0_47, cI_0, cI_1, cI_m1, lA_603, fAll, lA_604, lA_605, lA_606, lA_607, nI_ge (show st < 1000000 by omega) (show 1000000 < 2 ^ 31 by decide)]
    refine cV X  tX0_runRound_ok kX0_runRound_11 (c_nextAsker hL1) vX0_nextAsker lX0_37 lA_603 rfl rfl rfl (Nat.le_of_ble_eq_true rfl) (Nat.le_of_ble_eq_true rfl) ?_
    rw [rdN, hq.n1] at hE
    rcases nxA_or (p := akB Q' as) (dir := !b) (nn R 1) with ⟨h1, -⟩ | ⟨i, h1, h2, h3⟩
    · rw [if_pos h1] at hE
      rw [h1]
      refine run X (rt := none) flX0_ok rfl tX0_runRound_ok 20 [2] ?_
      simp only [go_go, gos_some, ctn_ctn, step, fv0, fv1, fv2, fv3, List.getElem?_cons_zero, List.getElem?_cons_succ, List.set_cons_zero, List.set_cons_succ, List.mem_cons, List.not_mem_nil, or_false, or_self, if_false, if_true, List.length_cons, List.length_nil, lval, upS_sr, sr_same, sr_sr, Nat.reduceEqDiff, not_false_eq_true, Classical.not_not, true_or, or_true, false_or, Nat.zero_add, Nat.add_zero, nI_add, pk_mul, Option.toList_some, Option.toList_none, List.cons_append, List.nil_append, n00, n11, n10, bv0, bv1, bft, bnf, bnt, Nat.reduceAdd, Nat.reduceEqDiff, Nat.reduceMul, Nat.reduceLT, Nat.reduceSub, true_implies, false_implies, not_true_eq_false, not_false_eq_true, true_and, and_true, sr_ne (show ¬ 21 = 20 by decide), sr_ne (show ¬ 20 = 21 by decide), sr_ne (show ¬ 22 = 20 by decide), sr_ne (show ¬ 22 = 21 by decide), sr_ne (show ¬ 20 = 22 by decide), sr_ne (show ¬ 21 = 22 by decide), kX0_runRound_0, kX0_runRound_1, kX0_runRound_2, kX0_runRound_3, kX0_runRound_5, kX0_runRound_8, kX0_runRound_9, kX0_runRound_10, kX0_runRound_11, kX0_runRound_14, kX0_runRound_16, kX0_runRound_18, kX0_runRound_19, kX0_runRound_22, kX0_runRound_23, kX0_runRound_24, kX0_runRound_27, kX0_runRound_29, kX0_runRound_30, kX0_runRound_33, kX0_runRound_34, kX0_runRound_37, kX0_runRound_39, kX0_runRound_40, kX0_runRound_41, kX0_runRound_43, kX0_runRound_44, kX0_runRound_47, kX0_runRound_49, kX0_runRound_50, kX0_runRound_51, kX0_runRound_52, kX0_runRound_53, kX0_runRound_54, kX0_runRound_55, kX0_runRound_56, kX0_runRound_58, kX0_runRound_60, kX0_runRound_63, kX0_runRound_66, kX0_runRound_69, Nat.zero_ne_one, xAld, xArrF, xAst, xBin, xCmp, xDup2, xGet, xGetF, xInc, xLdA, xLdI, xQld, xQldF, xSt, xVret, fX0_18, fX0_41, fX0_47, cI_0, cI_1, cI_m1, lA_603, fAll, lA_604, lA_605, lA_606, lA_607]
      exact hP _ ⟨hf, as, by rw [← hE]; exact hL1⟩
    · have hne : ¬ nxA (akB Q' as) (!b) (nn R 1) = -1 := by rw [h2, nI_m1 (by omega)]; exact id
      rw [if_neg hne, h2, nx_nI (show i < 2 ^ 31 by omega)] at hE
      rw [h2]
      unfold akB at h3
      simp only [Bool.and_eq_true, decide_eq_true_eq] at h3
      have hi2 : i < nn Q' 1 := by rw [hq.n1]; exact h1
      have hmQ := (hQ.m hi2).2
      have e5 : nn Q' (57 + 13 * i + 5) = nn R (57 + 13 * i + 5) := hq.n (hq.c (by omega) (by decide))
      obtain ⟨j, hj, ej⟩ := (Inv.alt.mp hQ).2.2.2 i (as i) hi2 h3.2
      have hjR : j < nn R 0 := by rw [← hq.n0]; exact hj
      rw [ej, nx_nI (show j < 2 ^ 31 by omega)] at hE
      have x13 := (hs13 i h1).1
      have xc : s1.1 0 (57 + 13 * i + 6 + as i) = nI j := by
        rw [hS.p h1 (by rw [← e5]; exact h3.2), ← ej]
        exact (hq _ (by omega)).symm
      have x0 : s1.1 0 1 = nI (nn R 1) := hS.1.2.1.trans hI.c0
      refine run X (rt := none) flX0_ok rfl tX0_runRound_ok 60 [2] ?_
      simp only [go_go, gos_some, ctn_ctn, step, fv0, fv1, fv2, fv3, List.getElem?_cons_zero, List.getElem?_cons_succ, List.set_cons_zero, List.set_cons_succ, List.mem_cons, List.not_mem_nil, or_false, or_self, if_false, if_true, List.length_cons, List.length_nil, lval, upS_sr, sr_same, sr_sr, Nat.reduceEqDiff, not_false_eq_true, Classical.not_not, true_or, or_true, false_or, Nat.zero_add, Nat.add_zero, nI_add, pk_mul, Option.toList_some, Option.toList_none, List.cons_append, List.nil_append, n00, n11, n10, bv0, bv1, bft, bnf, bnt, Nat.reduceAdd, Nat.reduceEqDiff, Nat.reduceMul, Nat.reduceLT, Nat.reduceSub, true_implies, false_implies, not_true_eq_false, not_false_eq_true, true_and, and_true, sr_ne (show ¬ 21 = 20 by decide), sr_ne (show ¬ 20 = 21 by decide), sr_ne (show ¬ 22 = 20 by decide), sr_ne (show ¬ 22 = 21 by decide), sr_ne (show ¬ 20 = 22 by decide), sr_ne (show ¬ 21 = 22 by decide), kX0_runRound_0, kX0_runRound_1, kX0_runRound_2, kX0_runRound_3, kX0_runRound_5, kX0_runRound_8, kX0_runRound_9, kX0_runRound_10, kX0_runRound_11, kX0_runRound_14, kX0_runRound_16, kX0_runRound_18, kX0_runRound_19, kX0_runRound_22, kX0_runRound_23, kX0_runRound_24, kX0_runRound_27, kX0_runRound_29, kX0_runRound_30, kX0_runRound_33, kX0_runRound_34, kX0_runRound_37, kX0_runRound_39, kX0_runRound_40, kX0_runRound_41, kX0_runRound_43, kX0_runRound_44, kX0_runRound_47, kX0_runRound_49, kX0_runRound_50, kX0_runRound_51, kX0_runRound_52, kX0_runRound_53, kX0_runRound_54, kX0_runRound_55, kX0_runRound_56, kX0_runRound_58, kX0_runRound_60, kX0_runRound_63, kX0_runRound_66, kX0_runRound_69, Nat.zero_ne_one, xAld, xArrF, xAst, xBin, xCmp, xDup2, xGet, xGetF, xInc, xLdA, xLdI, xQld, xQldF, xSt, xVret, fX0_18, fX0_41, fX0_47, cI_0, cI_1, cI_m1, lA_603, fAll, lA_604, lA_605, lA_606, lA_607, lD0, lCs0, fDesk, fChi, vp_in_nI (show i < 24 by omega) (show 24 < 2 ^ 31 by decide), nI31 (show i < 2 ^ 31 by omega), lA_C (E := E) (d := 0) (i := i) (by decide) (by omega), nI_m1 (show i < 2 ^ 31 by omega), x13, lA_Cc (E := E) (d := 0) (i := i) (by decide) (by omega), vp_in_nI (show as i < 4 by omega) (show 4 < 2 ^ 31 by decide), nI31 (show as i < 2 ^ 31 by omega), xc, Nat.zero_ne_one]
      have hL2 := hL1.ask (i := i) (by omega)
      have hf2 : aT_ s (sr s1 13 (ur (s1.1 13) i (nI (as i + 1)))) := hf.tr (aT_.sr (by omega))
      generalize sr s1 13 (ur (s1.1 13) i (nI (as i + 1))) = s2 at hL2 hf2 ⊢
      refine cQ X  tX0_runRound_ok kX0_runRound_60 (c_askAt hL2 h1 hjR) vX0_askAt lX0_52 lA_603 rfl rfl rfl (Nat.le_of_ble_eq_true rfl) (Nat.le_of_ble_eq_true rfl) ?_
      rintro s3 ⟨f3, hL3⟩
      refine run X (rt := none) flX0_ok rfl tX0_runRound_ok 20 [2] ?_
      simp only [go_go, gos_some, ctn_ctn, step, fv0, fv1, fv2, fv3, List.getElem?_cons_zero, List.getElem?_cons_succ, List.set_cons_zero, List.set_cons_succ, List.mem_cons, List.not_mem_nil, or_false, or_self, if_false, if_true, List.length_cons, List.length_nil, lval, upS_sr, sr_same, sr_sr, Nat.reduceEqDiff, not_false_eq_true, Classical.not_not, true_or, or_true, false_or, Nat.zero_add, Nat.add_zero, nI_add, pk_mul, Option.toList_some, Option.toList_none, List.cons_append, List.nil_append, n00, n11, n10, bv0, bv1, bft, bnf, bnt, Nat.reduceAdd, Nat.reduceEqDiff, Nat.reduceMul, Nat.reduceLT, Nat.reduceSub, true_implies, false_implies, not_true_eq_false, not_false_eq_true, true_and, and_true, sr_ne (show ¬ 21 = 20 by decide), sr_ne (show ¬ 20 = 21 by decide), sr_ne (show ¬ 22 = 20 by decide), sr_ne (show ¬ 22 = 21 by decide), sr_ne (show ¬ 20 = 22 by decide), sr_ne (show ¬ 21 = 22 by decide), kX0_runRound_0, kX0_runRound_1, kX0_runRound_2, kX0_runRound_3, kX0_runRound_5, kX0_runRound_8, kX0_runRound_9, kX0_runRound_10, kX0_runRound_11, kX0_runRound_14, kX0_runRound_16, kX0_runRound_18, kX0_runRound_19, kX0_runRound_22, kX0_runRound_23, kX0_runRound_24, kX0_runRound_27, kX0_runRound_29, kX0_runRound_30, kX0_runRound_33, kX0_runRound_34, kX0_runRound_37, kX0_runRound_39, kX0_runRound_40, kX0_runRound_41, kX0_runRound_43, kX0_runRound_44, kX0_runRound_47, kX0_runRound_49, kX0_runRound_50, kX0_runRound_51, kX0_runRound_52, kX0_runRound_53, kX0_runRound_54, kX0_runRound_55, kX0_runRound_56, kX0_runRound_58, kX0_runRound_60, kX0_runRound_63, kX0_runRound_66, kX0_runRound_69, Nat.zero_ne_one, xAld, xArrF, xAst, xBin, xCmp, xDup2, xGet, xGetF, xInc, xLdA, xLdI, xQld, xQldF, xSt, xVret, fX0_18, fX0_41, fX0_47, cI_0, cI_1, cI_m1, lA_603, fAll, lA_604, lA_605, lA_606, lA_607]
      have hsam := (stA_ok hQ hi2 hj).2
      have hd := rem_dec hsam (as := as) hi2 h3.2
      exact ih (st + 1) _ _ s3 _ _ hL3 (hf2.tr f3) (by omega) (by omega) hE
