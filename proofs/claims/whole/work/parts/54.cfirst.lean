/-! ===== the class: the first on a waiting list; who holds seats ===== -/
def fwS (R : RW) (j : Nat) : Nat → Option Nat
  | 0 => none
  | n + 1 => if pf R n j then (match fwS R j n with
    | none => some n
    | some b => if ky R n j < ky R b j then some n else some b) else fwS R j n
def fwV (o : Option Nat) : Int32 := match o with
  | none => -1
  | some b => nI b
def fwK (R : RW) (j : Nat) (o : Option Nat) : Nat := match o with
  | none => 0
  | some b => ky R b j
theorem fwS_spec (R : RW) (j : Nat) : ∀ n, (fwS R j n = none → ∀ k, k < n → pf R k j = false) ∧ ∀ b, fwS R j n = some b → b < n ∧ pf R b j = true ∧ ∀ o, o < n → pf R o j = true → ky R b j ≤ ky R o j
  | 0 => ⟨fun _ k hk => by omega, fun b h => by cases h⟩
  | n + 1 => by
    obtain ⟨h1, h2⟩ := fwS_spec R j n
    cases hp : pf R n j with
    | false =>
      have e : fwS R j (n + 1) = fwS R j n := by rw [fwS, hp]; rfl
      rw [e]
      refine ⟨fun h k hk => ?_, fun b h => ?_⟩
      · by_cases e2 : k = n
        · subst e2; exact hp
        · exact h1 h k (by omega)
      · obtain ⟨a1, a2, a3⟩ := h2 b h
        refine ⟨by omega, a2, fun o ho hpo => ?_⟩
        by_cases e2 : o = n
        · subst e2; rw [hp] at hpo; cases hpo
        · exact a3 o (by omega) hpo
    | true =>
      cases hb : fwS R j n with
      | none =>
        have e : fwS R j (n + 1) = some n := by rw [fwS, hp, hb]; rfl
        rw [e]
        refine ⟨fun h => (by cases h), fun b h => ?_⟩
        cases h
        refine ⟨by omega, hp, fun o ho hpo => ?_⟩
        by_cases e2 : o = n
        · subst e2; exact Nat.le_refl _
        · rw [h1 hb o (by omega)] at hpo; cases hpo
      | some b0 =>
        obtain ⟨a1, a2, a3⟩ := h2 b0 hb
        have e : fwS R j (n + 1) = if ky R n j < ky R b0 j then some n else some b0 := by rw [fwS, hp, hb]; rfl
        rw [e]
        by_cases hk : ky R n j < ky R b0 j
        · rw [if_pos hk]
          refine ⟨fun h => (by cases h), fun b h => ?_⟩
          cases h
          refine ⟨by omega, hp, fun o ho hpo => ?_⟩
          by_cases e2 : o = n
          · subst e2; exact Nat.le_refl _
          · have := a3 o (by omega) hpo; omega
        · rw [if_neg hk]
          refine ⟨fun h => (by cases h), fun b h => ?_⟩
          cases h
          refine ⟨by omega, a2, fun o ho hpo => ?_⟩
          by_cases e2 : o = n
          · subst e2; omega
          · exact a3 o (by omega) hpo
theorem ct_one {p : Nat → Bool} : ∀ {n k : Nat}, k < n → p k = true → 0 < ct p n
  | 0, k, h, _ => by omega
  | n + 1, k, h, hp => by
    rw [ct]
    by_cases e : k = n
    · subst e; rw [hp]; simp
    · have := ct_one (n := n) (k := k) (by omega) hp; omega
theorem fw_wt {R : RW} (hI : Inv R) (j : Nat) : fwV (fwS R j (nn R 1)) = wt R j (nI 0) := by
  have hc := hI.c
  obtain ⟨h1, h2⟩ := fwS_spec R j (nn R 1)
  unfold wt
  rcases fs_or (fun i => pf R i j && decide (nI (wa R i j) = nI 0)) (nn R 1) 0 with ⟨h5, h6⟩ | ⟨i, -, h6, h7, h8⟩
  · rw [h5]
    cases hb : fwS R j (nn R 1) with
    | none => rfl
    | some b =>
      obtain ⟨a1, a2, a3⟩ := h2 b hb
      have hw : wa R b j = 0 := ct_zero (fun o ho => by
        simp only [Bool.and_eq_false_iff, decide_eq_false_iff_not]
        by_cases hp : pf R o j = true
        · have := a3 o ho hp
          exact Or.inr (by omega)
        · exact Or.inl (by simpa using hp))
      have := h6 b (Nat.zero_le _) (by omega)
      simp only [a2, hw, decide_true, Bool.and_true] at this
      cases this
  · rw [h7]
    simp only [Bool.and_eq_true, decide_eq_true_eq] at h8
    obtain ⟨h8, h9⟩ := h8
    cases hb : fwS R j (nn R 1) with
    | none => rw [h1 hb i (by omega)] at h8; cases h8
    | some b =>
      obtain ⟨a1, a2, a3⟩ := h2 b hb
      have hwl : wa R i j ≤ nn R 1 := ct_le _ _
      rw [nI_inj (by omega) (by decide)] at h9
      have h10 := a3 i (by omega) h8
      by_cases e : b = i
      · subst e; rfl
      · have hne : ky R b j ≠ ky R i j := fun h => e (ky_inj hI a1 (by omega) h)
        have : 0 < wa R i j := ct_one (k := b) a1 (by simp only [Bool.and_eq_true, decide_eq_true_eq]; exact ⟨a2, by omega⟩)
        omega
theorem c_firstWaiting {E : WE} {s : ST} {R : RW} (hS : Sh (s.1 0) R) (hI : Inv R) {j : Nat} (hj : j < nn R 0) : SpR E mX3_firstWaiting 4 [.ref (aD E 0), .int (nI j)] s (some (.int (wt R j (nI 0)))) s := by
  refine SpR.of vX3_firstWaiting.1 [some (.ref (aD E 0)), some (.int (nI j)), none, none, none, none] rfl (Nat.le_of_ble_eq_true rfl) rfl (fun C P X hP => ?_)
  have hc := hI.c
  have hs := hI.s
  have h0 : s.1 0 0 = nI (nn R 0) := hS.1.1.trans hI.s0
  have h1 : s.1 0 1 = nI (nn R 1) := hS.1.2.1.trans hI.c0
  have hNc : nn R 1 < 2 ^ 31 := by omega
  have hNs : nn R 0 < 2 ^ 31 := by omega
  have gC := nI_le (Nat.le_refl (nn R 1)) hNc
  have gS := nI_le (Nat.le_refl (nn R 0)) hNs
  rw [← fw_wt hI] at hP
  refine run X (rt := some .int) flX3_ok rfl tX3_firstWaiting_ok 20 [7] ?_
  simp only [go_go, gos_some, ctn_ctn, step, fv0, fv1, fv2, fv3, List.getElem?_cons_zero, List.getElem?_cons_succ, List.set_cons_zero, List.set_cons_succ, List.mem_cons, List.not_mem_nil, or_false, or_self, if_false, if_true, List.length_cons, List.length_nil, lval, upS_sr, sr_same, sr_sr, Nat.reduceEqDiff, not_false_eq_true, Classical.not_not, true_or, or_true, false_or, Nat.zero_add, Nat.add_zero, nI_add, pk_mul, Option.toList_some, Option.toList_none, List.cons_append, List.nil_append, n00, n11, n10, bv0, bv1, bft, bnf, bnt, Nat.reduceAdd, Nat.reduceEqDiff, Nat.reduceMul, Nat.reduceLT, Nat.reduceSub, true_implies, false_implies, not_true_eq_false, not_false_eq_true, true_and, and_true, sr_ne (show ¬ 21 = 20 by decide), sr_ne (show ¬ 20 = 21 by decide), sr_ne (show ¬ 22 = 20 by decide), sr_ne (show ¬ 22 = 21 by decide), sr_ne (show ¬ 20 = 22 by decide), sr_ne (show ¬ 21 = 22 by decide), kX3_firstWaiting_0, kX3_firstWaiting_1, kX3_firstWaiting_2, kX3_firstWaiting_3, kX3_firstWaiting_4, kX3_firstWaiting_5, kX3_firstWaiting_7, kX3_firstWaiting_9, kX3_firstWaiting_10, kX3_firstWaiting_13, kX3_firstWaiting_16, kX3_firstWaiting_17, kX3_firstWaiting_20, kX3_firstWaiting_22, kX3_firstWaiting_23, kX3_firstWaiting_24, kX3_firstWaiting_27, kX3_firstWaiting_30, kX3_firstWaiting_31, kX3_firstWaiting_33, kX3_firstWaiting_34, kX3_firstWaiting_35, kX3_firstWaiting_38, kX3_firstWaiting_40, kX3_firstWaiting_41, kX3_firstWaiting_44, kX3_firstWaiting_47, kX3_firstWaiting_49, kX3_firstWaiting_50, kX3_firstWaiting_51, kX3_firstWaiting_54, kX3_firstWaiting_56, kX3_firstWaiting_57, kX3_firstWaiting_60, kX3_firstWaiting_62, kX3_firstWaiting_63, kX3_firstWaiting_65, kX3_firstWaiting_66, kX3_firstWaiting_69, kX3_firstWaiting_72, kX3_firstWaiting_73, xCmp, xGet, xGetF, xIf, xInc, xLdA, xLdI, xQld, xQldF, xRet, xSt, fX3_103, fX3_20, fX3_40, cI_0, cI_1, cI_m1, fDesk]
  refine loopU (N := nn R 1) (I := fun i => ∀ l5 : Option Value, JM E mX3_firstWaiting C 4 0 0 P 7 [some (.ref (aD E 0)), some (.int (nI j)), some (.int (fwV (fwS R j i))), some (.int (nI (fwK R j (fwS R j i)))), some (.int (nI i)), l5] [] s) ?_ (fun i hi ih => ?_) none
  · intro l5
    refine run X (rt := some .int) flX3_ok rfl tX3_firstWaiting_ok 20 [7] ?_
    simp only [go_go, gos_some, ctn_ctn, step, fv0, fv1, fv2, fv3, List.getElem?_cons_zero, List.getElem?_cons_succ, List.set_cons_zero, List.set_cons_succ, List.mem_cons, List.not_mem_nil, or_false, or_self, if_false, if_true, List.length_cons, List.length_nil, lval, upS_sr, sr_same, sr_sr, Nat.reduceEqDiff, not_false_eq_true, Classical.not_not, true_or, or_true, false_or, Nat.zero_add, Nat.add_zero, nI_add, pk_mul, Option.toList_some, Option.toList_none, List.cons_append, List.nil_append, n00, n11, n10, bv0, bv1, bft, bnf, bnt, Nat.reduceAdd, Nat.reduceEqDiff, Nat.reduceMul, Nat.reduceLT, Nat.reduceSub, true_implies, false_implies, not_true_eq_false, not_false_eq_true, true_and, and_true, sr_ne (show ¬ 21 = 20 by decide), sr_ne (show ¬ 20 = 21 by decide), sr_ne (show ¬ 22 = 20 by decide), sr_ne (show ¬ 22 = 21 by decide), sr_ne (show ¬ 20 = 22 by decide), sr_ne (show ¬ 21 = 22 by decide), kX3_firstWaiting_0, kX3_firstWaiting_1, kX3_firstWaiting_2, kX3_firstWaiting_3, kX3_firstWaiting_4, kX3_firstWaiting_5, kX3_firstWaiting_7, kX3_firstWaiting_9, kX3_firstWaiting_10, kX3_firstWaiting_13, kX3_firstWaiting_16, kX3_firstWaiting_17, kX3_firstWaiting_20, kX3_firstWaiting_22, kX3_firstWaiting_23, kX3_firstWaiting_24, kX3_firstWaiting_27, kX3_firstWaiting_30, kX3_firstWaiting_31, kX3_firstWaiting_33, kX3_firstWaiting_34, kX3_firstWaiting_35, kX3_firstWaiting_38, kX3_firstWaiting_40, kX3_firstWaiting_41, kX3_firstWaiting_44, kX3_firstWaiting_47, kX3_firstWaiting_49, kX3_firstWaiting_50, kX3_firstWaiting_51, kX3_firstWaiting_54, kX3_firstWaiting_56, kX3_firstWaiting_57, kX3_firstWaiting_60, kX3_firstWaiting_62, kX3_firstWaiting_63, kX3_firstWaiting_65, kX3_firstWaiting_66, kX3_firstWaiting_69, kX3_firstWaiting_72, kX3_firstWaiting_73, xCmp, xGet, xGetF, xIf, xInc, xLdA, xLdI, xQld, xQldF, xRet, xSt, fX3_103, fX3_20, fX3_40, cI_0, cI_1, cI_m1, fDesk, lD0, lCs0, lSs0, lPu0, lJ0, h0, h1, fChi, fSch, Nat.succ_ne_zero, gC]
    exact hP
  · intro l5
    have y2 := ky_le hI hi hj
    have x11 : s.1 0 (57 + 13 * i + 11) = R (57 + 13 * i + 11) := hS.c hi 11 (by decide) (by decide)
    refine run X (rt := some .int) flX3_ok rfl tX3_firstWaiting_ok 20 [7] ?_
    simp only [go_go, gos_some, ctn_ctn, step, fv0, fv1, fv2, fv3, List.getElem?_cons_zero, List.getElem?_cons_succ, List.set_cons_zero, List.set_cons_succ, List.mem_cons, List.not_mem_nil, or_false, or_self, if_false, if_true, List.length_cons, List.length_nil, lval, upS_sr, sr_same, sr_sr, Nat.reduceEqDiff, not_false_eq_true, Classical.not_not, true_or, or_true, false_or, Nat.zero_add, Nat.add_zero, nI_add, pk_mul, Option.toList_some, Option.toList_none, List.cons_append, List.nil_append, n00, n11, n10, bv0, bv1, bft, bnf, bnt, Nat.reduceAdd, Nat.reduceEqDiff, Nat.reduceMul, Nat.reduceLT, Nat.reduceSub, true_implies, false_implies, not_true_eq_false, not_false_eq_true, true_and, and_true, sr_ne (show ¬ 21 = 20 by decide), sr_ne (show ¬ 20 = 21 by decide), sr_ne (show ¬ 22 = 20 by decide), sr_ne (show ¬ 22 = 21 by decide), sr_ne (show ¬ 20 = 22 by decide), sr_ne (show ¬ 21 = 22 by decide), kX3_firstWaiting_0, kX3_firstWaiting_1, kX3_firstWaiting_2, kX3_firstWaiting_3, kX3_firstWaiting_4, kX3_firstWaiting_5, kX3_firstWaiting_7, kX3_firstWaiting_9, kX3_firstWaiting_10, kX3_firstWaiting_13, kX3_firstWaiting_16, kX3_firstWaiting_17, kX3_firstWaiting_20, kX3_firstWaiting_22, kX3_firstWaiting_23, kX3_firstWaiting_24, kX3_firstWaiting_27, kX3_firstWaiting_30, kX3_firstWaiting_31, kX3_firstWaiting_33, kX3_firstWaiting_34, kX3_firstWaiting_35, kX3_firstWaiting_38, kX3_firstWaiting_40, kX3_firstWaiting_41, kX3_firstWaiting_44, kX3_firstWaiting_47, kX3_firstWaiting_49, kX3_firstWaiting_50, kX3_firstWaiting_51, kX3_firstWaiting_54, kX3_firstWaiting_56, kX3_firstWaiting_57, kX3_firstWaiting_60, kX3_firstWaiting_62, kX3_firstWaiting_63, kX3_firstWaiting_65, kX3_firstWaiting_66, kX3_firstWaiting_69, kX3_firstWaiting_72, kX3_firstWaiting_73, xCmp, xGet, xGetF, xIf, xInc, xLdA, xLdI, xQld, xQldF, xRet, xSt, fX3_103, fX3_20, fX3_40, cI_0, cI_1, cI_m1, fDesk, lD0, lCs0, lSs0, lPu0, lJ0, h0, h1, fChi, fSch, Nat.succ_ne_zero, nI_ge hi hNc, vp_in_nI (show i < 24 by omega) (show 24 < 2 ^ 31 by decide), nI31 (show i < 2 ^ 31 by omega), lA_C (E := E) (d := 0) (i := i) (by decide) (by omega)]
    refine cV X  tX3_firstWaiting_ok kX3_firstWaiting_24 (c_prefers (by decide) hS hI hi) vX1_prefers lX3_99 (lA_C (by decide) (by omega)) rfl rfl rfl (Nat.le_of_ble_eq_true rfl) (Nat.le_of_ble_eq_true rfl) ?_
    refine run X (rt := some .int) flX3_ok rfl tX3_firstWaiting_ok 20 [7] ?_
    simp only [go_go, gos_some, ctn_ctn, step, fv0, fv1, fv2, fv3, List.getElem?_cons_zero, List.getElem?_cons_succ, List.set_cons_zero, List.set_cons_succ, List.mem_cons, List.not_mem_nil, or_false, or_self, if_false, if_true, List.length_cons, List.length_nil, lval, upS_sr, sr_same, sr_sr, Nat.reduceEqDiff, not_false_eq_true, Classical.not_not, true_or, or_true, false_or, Nat.zero_add, Nat.add_zero, nI_add, pk_mul, Option.toList_some, Option.toList_none, List.cons_append, List.nil_append, n00, n11, n10, bv0, bv1, bft, bnf, bnt, Nat.reduceAdd, Nat.reduceEqDiff, Nat.reduceMul, Nat.reduceLT, Nat.reduceSub, true_implies, false_implies, not_true_eq_false, not_false_eq_true, true_and, and_true, sr_ne (show ¬ 21 = 20 by decide), sr_ne (show ¬ 20 = 21 by decide), sr_ne (show ¬ 22 = 20 by decide), sr_ne (show ¬ 22 = 21 by decide), sr_ne (show ¬ 20 = 22 by decide), sr_ne (show ¬ 21 = 22 by decide), kX3_firstWaiting_0, kX3_firstWaiting_1, kX3_firstWaiting_2, kX3_firstWaiting_3, kX3_firstWaiting_4, kX3_firstWaiting_5, kX3_firstWaiting_7, kX3_firstWaiting_9, kX3_firstWaiting_10, kX3_firstWaiting_13, kX3_firstWaiting_16, kX3_firstWaiting_17, kX3_firstWaiting_20, kX3_firstWaiting_22, kX3_firstWaiting_23, kX3_firstWaiting_24, kX3_firstWaiting_27, kX3_firstWaiting_30, kX3_firstWaiting_31, kX3_firstWaiting_33, kX3_firstWaiting_34, kX3_firstWaiting_35, kX3_firstWaiting_38, kX3_firstWaiting_40, kX3_firstWaiting_41, kX3_firstWaiting_44, kX3_firstWaiting_47, kX3_firstWaiting_49, kX3_firstWaiting_50, kX3_firstWaiting_51, kX3_firstWaiting_54, kX3_firstWaiting_56, kX3_firstWaiting_57, kX3_firstWaiting_60, kX3_firstWaiting_62, kX3_firstWaiting_63, kX3_firstWaiting_65, kX3_firstWaiting_66, kX3_firstWaiting_69, kX3_firstWaiting_72, kX3_firstWaiting_73, xCmp, xGet, xGetF, xIf, xInc, xLdA, xLdI, xQld, xQldF, xRet, xSt, fX3_103, fX3_20, fX3_40, cI_0, cI_1, cI_m1, fDesk, lD0, lCs0, lSs0, lPu0, lJ0, h0, h1, fChi, fSch, Nat.succ_ne_zero, vp_in_nI (show i < 24 by omega) (show 24 < 2 ^ 31 by decide), nI31 (show i < 2 ^ 31 by omega), lA_C (E := E) (d := 0) (i := i) (by decide) (by omega), x11]
    refine ⟨fun c => ?_, fun c => ?_⟩
    · have := ih l5
      rw [show fwS R j (i + 1) = fwS R j i by rw [fwS, c]; rfl] at this
      exact this
    · refine cV X  tX3_firstWaiting_ok kX3_firstWaiting_44 (c_rankK hS hI hi hj) vX3_rankKey lX3_106 (lA_D (d := 0) (by decide)) rfl rfl rfl (Nat.le_of_ble_eq_true rfl) (Nat.le_of_ble_eq_true rfl) ?_
      have ih2 := ih (some (.int (nI (ky R i j))))
      rw [fwS, if_pos c] at ih2
      cases hb : fwS R j i with
      | none =>
        rw [hb] at ih2
        refine run X (rt := some .int) flX3_ok rfl tX3_firstWaiting_ok 20 [7] ?_
        simp only [go_go, gos_some, ctn_ctn, step, fv0, fv1, fv2, fv3, List.getElem?_cons_zero, List.getElem?_cons_succ, List.set_cons_zero, List.set_cons_succ, List.mem_cons, List.not_mem_nil, or_false, or_self, if_false, if_true, List.length_cons, List.length_nil, lval, upS_sr, sr_same, sr_sr, Nat.reduceEqDiff, not_false_eq_true, Classical.not_not, true_or, or_true, false_or, Nat.zero_add, Nat.add_zero, nI_add, pk_mul, Option.toList_some, Option.toList_none, List.cons_append, List.nil_append, n00, n11, n10, bv0, bv1, bft, bnf, bnt, Nat.reduceAdd, Nat.reduceEqDiff, Nat.reduceMul, Nat.reduceLT, Nat.reduceSub, true_implies, false_implies, not_true_eq_false, not_false_eq_true, true_and, and_true, sr_ne (show ¬ 21 = 20 by decide), sr_ne (show ¬ 20 = 21 by decide), sr_ne (show ¬ 22 = 20 by decide), sr_ne (show ¬ 22 = 21 by decide), sr_ne (show ¬ 20 = 22 by decide), sr_ne (show ¬ 21 = 22 by decide), kX3_firstWaiting_0, kX3_firstWaiting_1, kX3_firstWaiting_2, kX3_firstWaiting_3, kX3_firstWaiting_4, kX3_firstWaiting_5, kX3_firstWaiting_7, kX3_firstWaiting_9, kX3_firstWaiting_10, kX3_firstWaiting_13, kX3_firstWaiting_16, kX3_firstWaiting_17, kX3_firstWaiting_20, kX3_firstWaiting_22, kX3_firstWaiting_23, kX3_firstWaiting_24, kX3_firstWaiting_27, kX3_firstWaiting_30, kX3_firstWaiting_31, kX3_firstWaiting_33, kX3_firstWaiting_34, kX3_firstWaiting_35, kX3_firstWaiting_38, kX3_firstWaiting_40, kX3_firstWaiting_41, kX3_firstWaiting_44, kX3_firstWaiting_47, kX3_firstWaiting_49, kX3_firstWaiting_50, kX3_firstWaiting_51, kX3_firstWaiting_54, kX3_firstWaiting_56, kX3_firstWaiting_57, kX3_firstWaiting_60, kX3_firstWaiting_62, kX3_firstWaiting_63, kX3_firstWaiting_65, kX3_firstWaiting_66, kX3_firstWaiting_69, kX3_firstWaiting_72, kX3_firstWaiting_73, xCmp, xGet, xGetF, xIf, xInc, xLdA, xLdI, xQld, xQldF, xRet, xSt, fX3_103, fX3_20, fX3_40, cI_0, cI_1, cI_m1, fDesk, fwV, fwK]
        exact ih2
      | some b =>
        obtain ⟨b1, b2, b3⟩ := (fwS_spec R j i).2 b hb
        have y3 := ky_le hI (show b < nn R 1 by omega) hj
        rw [hb] at ih2
        dsimp only at ih2
        refine run X (rt := some .int) flX3_ok rfl tX3_firstWaiting_ok 20 [7] ?_
        simp only [go_go, gos_some, ctn_ctn, step, fv0, fv1, fv2, fv3, List.getElem?_cons_zero, List.getElem?_cons_succ, List.set_cons_zero, List.set_cons_succ, List.mem_cons, List.not_mem_nil, or_false, or_self, if_false, if_true, List.length_cons, List.length_nil, lval, upS_sr, sr_same, sr_sr, Nat.reduceEqDiff, not_false_eq_true, Classical.not_not, true_or, or_true, false_or, Nat.zero_add, Nat.add_zero, nI_add, pk_mul, Option.toList_some, Option.toList_none, List.cons_append, List.nil_append, n00, n11, n10, bv0, bv1, bft, bnf, bnt, Nat.reduceAdd, Nat.reduceEqDiff, Nat.reduceMul, Nat.reduceLT, Nat.reduceSub, true_implies, false_implies, not_true_eq_false, not_false_eq_true, true_and, and_true, sr_ne (show ¬ 21 = 20 by decide), sr_ne (show ¬ 20 = 21 by decide), sr_ne (show ¬ 22 = 20 by decide), sr_ne (show ¬ 22 = 21 by decide), sr_ne (show ¬ 20 = 22 by decide), sr_ne (show ¬ 21 = 22 by decide), kX3_firstWaiting_0, kX3_firstWaiting_1, kX3_firstWaiting_2, kX3_firstWaiting_3, kX3_firstWaiting_4, kX3_firstWaiting_5, kX3_firstWaiting_7, kX3_firstWaiting_9, kX3_firstWaiting_10, kX3_firstWaiting_13, kX3_firstWaiting_16, kX3_firstWaiting_17, kX3_firstWaiting_20, kX3_firstWaiting_22, kX3_firstWaiting_23, kX3_firstWaiting_24, kX3_firstWaiting_27, kX3_firstWaiting_30, kX3_firstWaiting_31, kX3_firstWaiting_33, kX3_firstWaiting_34, kX3_firstWaiting_35, kX3_firstWaiting_38, kX3_firstWaiting_40, kX3_firstWaiting_41, kX3_firstWaiting_44, kX3_firstWaiting_47, kX3_firstWaiting_49, kX3_firstWaiting_50, kX3_firstWaiting_51, kX3_firstWaiting_54, kX3_firstWaiting_56, kX3_firstWaiting_57, kX3_firstWaiting_60, kX3_firstWaiting_62, kX3_firstWaiting_63, kX3_firstWaiting_65, kX3_firstWaiting_66, kX3_firstWaiting_69, kX3_firstWaiting_72, kX3_firstWaiting_73, xCmp, xGet, xGetF, xIf, xInc, xLdA, xLdI, xQld, xQldF, xRet, xSt, fX3_103, fX3_20, fX3_40, cI_0, cI_1, cI_m1, fDesk, fwV, fwK, nI_m1 (show b < 2 ^ 31 by omega), nI_leI (show ky R b j < 2 ^ 31 by omega) (show ky R i j < 2 ^ 31 by omega)]
        refine ⟨fun c2 => ?_, fun c2 => ?_⟩
        · rw [if_neg (by omega)] at ih2; exact ih2
        · rw [if_pos (by omega)] at ih2; exact ih2
theorem an_fl {p : Nat → Bool} : ∀ {n : Nat}, (∀ k, k < n → p k = false) → an p n = false
  | 0, _ => rfl
  | n + 1, h => by rw [an, an_fl (fun k hk => h k (by omega)), h n (by omega)]; rfl
theorem c_holdsWorse {E : WE} {s : ST} {R : RW} (hS : Sh (s.1 0) R) (hI : Inv R) {k j : Nat} (hk : k < nn R 1) (hj : j < nn R 0) : SpR E mX3_holdsWorse 4 [.ref (aD E 0), .int (nI k), .int (nI j)] s (some (.int (bv (hw R k j)))) s := by
  refine SpR.of vX3_holdsWorse.1 [some (.ref (aD E 0)), some (.int (nI k)), some (.int (nI j)), none, none] rfl (Nat.le_of_ble_eq_true rfl) rfl (fun C P X hP => ?_)
  have hc := hI.c
  have hs := hI.s
  have h0 : s.1 0 0 = nI (nn R 0) := hS.1.1.trans hI.s0
  have h1 : s.1 0 1 = nI (nn R 1) := hS.1.2.1.trans hI.c0
  have hNc : nn R 1 < 2 ^ 31 := by omega
  have hNs : nn R 0 < 2 ^ 31 := by omega
  have gC := nI_le (Nat.le_refl (nn R 1)) hNc
  have gS := nI_le (Nat.le_refl (nn R 0)) hNs
  have y1 := ky_le hI hk hj
  have y11 : s.1 0 (57 + 13 * k + 11) = R (57 + 13 * k + 11) := hS.c hk 11 (by decide) (by decide)
  unfold hw at hP
  generalize hp : (fun o => decide (R (57 + 13 * o + 10) = nI j) && decide (ky R k j < ky R o j)) = pp at hP
  refine run X (rt := some .boolean) flX3_ok rfl tX3_holdsWorse_ok 20 [] ?_
  simp only [go_go, gos_some, ctn_ctn, step, fv0, fv1, fv2, fv3, List.getElem?_cons_zero, List.getElem?_cons_succ, List.set_cons_zero, List.set_cons_succ, List.mem_cons, List.not_mem_nil, or_false, or_self, if_false, if_true, List.length_cons, List.length_nil, lval, upS_sr, sr_same, sr_sr, Nat.reduceEqDiff, not_false_eq_true, Classical.not_not, true_or, or_true, false_or, Nat.zero_add, Nat.add_zero, nI_add, pk_mul, Option.toList_some, Option.toList_none, List.cons_append, List.nil_append, n00, n11, n10, bv0, bv1, bft, bnf, bnt, Nat.reduceAdd, Nat.reduceEqDiff, Nat.reduceMul, Nat.reduceLT, Nat.reduceSub, true_implies, false_implies, not_true_eq_false, not_false_eq_true, true_and, and_true, sr_ne (show ¬ 21 = 20 by decide), sr_ne (show ¬ 20 = 21 by decide), sr_ne (show ¬ 22 = 20 by decide), sr_ne (show ¬ 22 = 21 by decide), sr_ne (show ¬ 20 = 22 by decide), sr_ne (show ¬ 21 = 22 by decide), kX3_holdsWorse_0, kX3_holdsWorse_1, kX3_holdsWorse_2, kX3_holdsWorse_3, kX3_holdsWorse_4, kX3_holdsWorse_7, kX3_holdsWorse_8, kX3_holdsWorse_9, kX3_holdsWorse_12, kX3_holdsWorse_15, kX3_holdsWorse_16, kX3_holdsWorse_17, kX3_holdsWorse_19, kX3_holdsWorse_21, kX3_holdsWorse_22, kX3_holdsWorse_25, kX3_holdsWorse_28, kX3_holdsWorse_29, kX3_holdsWorse_32, kX3_holdsWorse_34, kX3_holdsWorse_35, kX3_holdsWorse_38, kX3_holdsWorse_39, kX3_holdsWorse_42, kX3_holdsWorse_43, kX3_holdsWorse_45, kX3_holdsWorse_46, kX3_holdsWorse_47, kX3_holdsWorse_50, kX3_holdsWorse_52, kX3_holdsWorse_53, kX3_holdsWorse_56, kX3_holdsWorse_59, kX3_holdsWorse_60, kX3_holdsWorse_63, kX3_holdsWorse_64, kX3_holdsWorse_65, kX3_holdsWorse_68, kX3_holdsWorse_71, kX3_holdsWorse_72, xCmp, xGet, xGetF, xInc, xLdA, xLdI, xQld, xQldF, xRet, xSt, fX3_103, fX3_20, fX3_40, fX3_96, cI_0, cI_1, fDesk, lD0, lCs0, lSs0, lPu0, lJ0, h0, h1, fChi, fSch, Nat.succ_ne_zero, vp_in_nI (show k < 24 by omega) (show 24 < 2 ^ 31 by decide), nI31 (show k < 2 ^ 31 by omega), lA_C (E := E) (d := 0) (i := k) (by decide) (by omega), y11]
  refine cV X  tX3_holdsWorse_ok kX3_holdsWorse_12 (c_rankK hS hI hk hj) vX3_rankKey lX3_106 (lA_D (d := 0) (by decide)) rfl rfl rfl (Nat.le_of_ble_eq_true rfl) (Nat.le_of_ble_eq_true rfl) ?_
  refine run X (rt := some .boolean) flX3_ok rfl tX3_holdsWorse_ok 20 [19] ?_
  simp only [go_go, gos_some, ctn_ctn, step, fv0, fv1, fv2, fv3, List.getElem?_cons_zero, List.getElem?_cons_succ, List.set_cons_zero, List.set_cons_succ, List.mem_cons, List.not_mem_nil, or_false, or_self, if_false, if_true, List.length_cons, List.length_nil, lval, upS_sr, sr_same, sr_sr, Nat.reduceEqDiff, not_false_eq_true, Classical.not_not, true_or, or_true, false_or, Nat.zero_add, Nat.add_zero, nI_add, pk_mul, Option.toList_some, Option.toList_none, List.cons_append, List.nil_append, n00, n11, n10, bv0, bv1, bft, bnf, bnt, Nat.reduceAdd, Nat.reduceEqDiff, Nat.reduceMul, Nat.reduceLT, Nat.reduceSub, true_implies, false_implies, not_true_eq_false, not_false_eq_true, true_and, and_true, sr_ne (show ¬ 21 = 20 by decide), sr_ne (show ¬ 20 = 21 by decide), sr_ne (show ¬ 22 = 20 by decide), sr_ne (show ¬ 22 = 21 by decide), sr_ne (show ¬ 20 = 22 by decide), sr_ne (show ¬ 21 = 22 by decide), kX3_holdsWorse_0, kX3_holdsWorse_1, kX3_holdsWorse_2, kX3_holdsWorse_3, kX3_holdsWorse_4, kX3_holdsWorse_7, kX3_holdsWorse_8, kX3_holdsWorse_9, kX3_holdsWorse_12, kX3_holdsWorse_15, kX3_holdsWorse_16, kX3_holdsWorse_17, kX3_holdsWorse_19, kX3_holdsWorse_21, kX3_holdsWorse_22, kX3_holdsWorse_25, kX3_holdsWorse_28, kX3_holdsWorse_29, kX3_holdsWorse_32, kX3_holdsWorse_34, kX3_holdsWorse_35, kX3_holdsWorse_38, kX3_holdsWorse_39, kX3_holdsWorse_42, kX3_holdsWorse_43, kX3_holdsWorse_45, kX3_holdsWorse_46, kX3_holdsWorse_47, kX3_holdsWorse_50, kX3_holdsWorse_52, kX3_holdsWorse_53, kX3_holdsWorse_56, kX3_holdsWorse_59, kX3_holdsWorse_60, kX3_holdsWorse_63, kX3_holdsWorse_64, kX3_holdsWorse_65, kX3_holdsWorse_68, kX3_holdsWorse_71, kX3_holdsWorse_72, xCmp, xGet, xGetF, xInc, xLdA, xLdI, xQld, xQldF, xRet, xSt, fX3_103, fX3_20, fX3_40, fX3_96, cI_0, cI_1, fDesk]
  refine loopU (N := nn R 1) (I := fun i => (∀ o, o < i → pp o = false) → JM E mX3_holdsWorse C 4 0 0 P 19 [some (.ref (aD E 0)), some (.int (nI k)), some (.int (nI j)), some (.int (nI (ky R k j))), some (.int (nI i))] [] s) ?_ (fun i hi ih => ?_) (fun o ho => by omega)
  · intro hn
    refine run X (rt := some .boolean) flX3_ok rfl tX3_holdsWorse_ok 20 [19] ?_
    simp only [go_go, gos_some, ctn_ctn, step, fv0, fv1, fv2, fv3, List.getElem?_cons_zero, List.getElem?_cons_succ, List.set_cons_zero, List.set_cons_succ, List.mem_cons, List.not_mem_nil, or_false, or_self, if_false, if_true, List.length_cons, List.length_nil, lval, upS_sr, sr_same, sr_sr, Nat.reduceEqDiff, not_false_eq_true, Classical.not_not, true_or, or_true, false_or, Nat.zero_add, Nat.add_zero, nI_add, pk_mul, Option.toList_some, Option.toList_none, List.cons_append, List.nil_append, n00, n11, n10, bv0, bv1, bft, bnf, bnt, Nat.reduceAdd, Nat.reduceEqDiff, Nat.reduceMul, Nat.reduceLT, Nat.reduceSub, true_implies, false_implies, not_true_eq_false, not_false_eq_true, true_and, and_true, sr_ne (show ¬ 21 = 20 by decide), sr_ne (show ¬ 20 = 21 by decide), sr_ne (show ¬ 22 = 20 by decide), sr_ne (show ¬ 22 = 21 by decide), sr_ne (show ¬ 20 = 22 by decide), sr_ne (show ¬ 21 = 22 by decide), kX3_holdsWorse_0, kX3_holdsWorse_1, kX3_holdsWorse_2, kX3_holdsWorse_3, kX3_holdsWorse_4, kX3_holdsWorse_7, kX3_holdsWorse_8, kX3_holdsWorse_9, kX3_holdsWorse_12, kX3_holdsWorse_15, kX3_holdsWorse_16, kX3_holdsWorse_17, kX3_holdsWorse_19, kX3_holdsWorse_21, kX3_holdsWorse_22, kX3_holdsWorse_25, kX3_holdsWorse_28, kX3_holdsWorse_29, kX3_holdsWorse_32, kX3_holdsWorse_34, kX3_holdsWorse_35, kX3_holdsWorse_38, kX3_holdsWorse_39, kX3_holdsWorse_42, kX3_holdsWorse_43, kX3_holdsWorse_45, kX3_holdsWorse_46, kX3_holdsWorse_47, kX3_holdsWorse_50, kX3_holdsWorse_52, kX3_holdsWorse_53, kX3_holdsWorse_56, kX3_holdsWorse_59, kX3_holdsWorse_60, kX3_holdsWorse_63, kX3_holdsWorse_64, kX3_holdsWorse_65, kX3_holdsWorse_68, kX3_holdsWorse_71, kX3_holdsWorse_72, xCmp, xGet, xGetF, xInc, xLdA, xLdI, xQld, xQldF, xRet, xSt, fX3_103, fX3_20, fX3_40, fX3_96, cI_0, cI_1, fDesk, lD0, lCs0, lSs0, lPu0, lJ0, h0, h1, fChi, fSch, Nat.succ_ne_zero, gC]
    rw [an_fl hn] at hP
    exact hP
  · intro hn
    have y2 := ky_le hI hi hj
    have x10 : s.1 0 (57 + 13 * i + 10) = R (57 + 13 * i + 10) := hS.c hi 10 (by decide) (by decide)
    have x11 : s.1 0 (57 + 13 * i + 11) = R (57 + 13 * i + 11) := hS.c hi 11 (by decide) (by decide)
    have hf : pp i = false → JM E mX3_holdsWorse C 4 0 0 P 19 [some (.ref (aD E 0)), some (.int (nI k)), some (.int (nI j)), some (.int (nI (ky R k j))), some (.int (nI (i + 1)))] [] s := fun e => ih (fun o ho => by
      by_cases e2 : o = i
      · subst e2; exact e
      · exact hn o (by omega))
    refine run X (rt := some .boolean) flX3_ok rfl tX3_holdsWorse_ok 30 [19] ?_
    simp only [go_go, gos_some, ctn_ctn, step, fv0, fv1, fv2, fv3, List.getElem?_cons_zero, List.getElem?_cons_succ, List.set_cons_zero, List.set_cons_succ, List.mem_cons, List.not_mem_nil, or_false, or_self, if_false, if_true, List.length_cons, List.length_nil, lval, upS_sr, sr_same, sr_sr, Nat.reduceEqDiff, not_false_eq_true, Classical.not_not, true_or, or_true, false_or, Nat.zero_add, Nat.add_zero, nI_add, pk_mul, Option.toList_some, Option.toList_none, List.cons_append, List.nil_append, n00, n11, n10, bv0, bv1, bft, bnf, bnt, Nat.reduceAdd, Nat.reduceEqDiff, Nat.reduceMul, Nat.reduceLT, Nat.reduceSub, true_implies, false_implies, not_true_eq_false, not_false_eq_true, true_and, and_true, sr_ne (show ¬ 21 = 20 by decide), sr_ne (show ¬ 20 = 21 by decide), sr_ne (show ¬ 22 = 20 by decide), sr_ne (show ¬ 22 = 21 by decide), sr_ne (show ¬ 20 = 22 by decide), sr_ne (show ¬ 21 = 22 by decide), kX3_holdsWorse_0, kX3_holdsWorse_1, kX3_holdsWorse_2, kX3_holdsWorse_3, kX3_holdsWorse_4, kX3_holdsWorse_7, kX3_holdsWorse_8, kX3_holdsWorse_9, kX3_holdsWorse_12, kX3_holdsWorse_15, kX3_holdsWorse_16, kX3_holdsWorse_17, kX3_holdsWorse_19, kX3_holdsWorse_21, kX3_holdsWorse_22, kX3_holdsWorse_25, kX3_holdsWorse_28, kX3_holdsWorse_29, kX3_holdsWorse_32, kX3_holdsWorse_34, kX3_holdsWorse_35, kX3_holdsWorse_38, kX3_holdsWorse_39, kX3_holdsWorse_42, kX3_holdsWorse_43, kX3_holdsWorse_45, kX3_holdsWorse_46, kX3_holdsWorse_47, kX3_holdsWorse_50, kX3_holdsWorse_52, kX3_holdsWorse_53, kX3_holdsWorse_56, kX3_holdsWorse_59, kX3_holdsWorse_60, kX3_holdsWorse_63, kX3_holdsWorse_64, kX3_holdsWorse_65, kX3_holdsWorse_68, kX3_holdsWorse_71, kX3_holdsWorse_72, xCmp, xGet, xGetF, xInc, xLdA, xLdI, xQld, xQldF, xRet, xSt, fX3_103, fX3_20, fX3_40, fX3_96, cI_0, cI_1, fDesk, lD0, lCs0, lSs0, lPu0, lJ0, h0, h1, fChi, fSch, Nat.succ_ne_zero, nI_ge hi hNc, vp_in_nI (show i < 24 by omega) (show 24 < 2 ^ 31 by decide), nI31 (show i < 2 ^ 31 by omega), lA_C (E := E) (d := 0) (i := i) (by decide) (by omega), x10, x11]
    refine ⟨fun c => hf (by rw [← hp]; simp [c]), fun c => ?_⟩
    refine cV X  tX3_holdsWorse_ok kX3_holdsWorse_56 (c_rankK hS hI hi hj) vX3_rankKey lX3_106 (lA_D (d := 0) (by decide)) rfl rfl rfl (Nat.le_of_ble_eq_true rfl) (Nat.le_of_ble_eq_true rfl) ?_
    refine run X (rt := some .boolean) flX3_ok rfl tX3_holdsWorse_ok 20 [19] ?_
    simp only [go_go, gos_some, ctn_ctn, step, fv0, fv1, fv2, fv3, List.getElem?_cons_zero, List.getElem?_cons_succ, List.set_cons_zero, List.set_cons_succ, List.mem_cons, List.not_mem_nil, or_false, or_self, if_false, if_true, List.length_cons, List.length_nil, lval, upS_sr, sr_same, sr_sr, Nat.reduceEqDiff, not_false_eq_true, Classical.not_not, true_or, or_true, false_or, Nat.zero_add, Nat.add_zero, nI_add, pk_mul, Option.toList_some, Option.toList_none, List.cons_append, List.nil_append, n00, n11, n10, bv0, bv1, bft, bnf, bnt, Nat.reduceAdd, Nat.reduceEqDiff, Nat.reduceMul, Nat.reduceLT, Nat.reduceSub, true_implies, false_implies, not_true_eq_false, not_false_eq_true, true_and, and_true, sr_ne (show ¬ 21 = 20 by decide), sr_ne (show ¬ 20 = 21 by decide), sr_ne (show ¬ 22 = 20 by decide), sr_ne (show ¬ 22 = 21 by decide), sr_ne (show ¬ 20 = 22 by decide), sr_ne (show ¬ 21 = 22 by decide), kX3_holdsWorse_0, kX3_holdsWorse_1, kX3_holdsWorse_2, kX3_holdsWorse_3, kX3_holdsWorse_4, kX3_holdsWorse_7, kX3_holdsWorse_8, kX3_holdsWorse_9, kX3_holdsWorse_12, kX3_holdsWorse_15, kX3_holdsWorse_16, kX3_holdsWorse_17, kX3_holdsWorse_19, kX3_holdsWorse_21, kX3_holdsWorse_22, kX3_holdsWorse_25, kX3_holdsWorse_28, kX3_holdsWorse_29, kX3_holdsWorse_32, kX3_holdsWorse_34, kX3_holdsWorse_35, kX3_holdsWorse_38, kX3_holdsWorse_39, kX3_holdsWorse_42, kX3_holdsWorse_43, kX3_holdsWorse_45, kX3_holdsWorse_46, kX3_holdsWorse_47, kX3_holdsWorse_50, kX3_holdsWorse_52, kX3_holdsWorse_53, kX3_holdsWorse_56, kX3_holdsWorse_59, kX3_holdsWorse_60, kX3_holdsWorse_63, kX3_holdsWorse_64, kX3_holdsWorse_65, kX3_holdsWorse_68, kX3_holdsWorse_71, kX3_holdsWorse_72, xCmp, xGet, xGetF, xInc, xLdA, xLdI, xQld, xQldF, xRet, xSt, fX3_103, fX3_20, fX3_40, fX3_96, cI_0, cI_1, fDesk, nI_leI (show ky R i j < 2 ^ 31 by omega) (show ky R k j < 2 ^ 31 by omega)]
    refine ⟨fun c3 => hf (by rw [← hp]; simp only [Bool.and_eq_false_iff, decide_eq_false_iff_not]; exact Or.inr (by omega)), fun c3 => ?_⟩
    rw [an_of hi (by rw [← hp]; simp only [Bool.and_eq_true, decide_eq_true_eq]; exact ⟨c, by omega⟩)] at hP
    exact hP
theorem c_holdsClass {E : WE} {s : ST} {R : RW} (hS : Sh (s.1 0) R) (hI : Inv R) {c9 j : Nat} (hc9 : c9 ≤ 4) (hj : j < nn R 0) : SpR E mX3_holdsClass 3 [.ref (aD E 0), .int (nI j), .int (nI c9)] s (some (.int (bv (an (fun o => decide (R (57 + 13 * o + 10) = nI j) && decide (cl R o j = c9)) (nn R 1))))) s := by
  refine SpR.of vX3_holdsClass.1 [some (.ref (aD E 0)), some (.int (nI j)), some (.int (nI c9)), none, none] rfl (Nat.le_of_ble_eq_true rfl) rfl (fun C P X hP => ?_)
  have hc := hI.c
  have hs := hI.s
  have h0 : s.1 0 0 = nI (nn R 0) := hS.1.1.trans hI.s0
  have h1 : s.1 0 1 = nI (nn R 1) := hS.1.2.1.trans hI.c0
  have hNc : nn R 1 < 2 ^ 31 := by omega
  have hNs : nn R 0 < 2 ^ 31 := by omega
  have gC := nI_le (Nat.le_refl (nn R 1)) hNc
  have gS := nI_le (Nat.le_refl (nn R 0)) hNs
  generalize hp : (fun o => decide (R (57 + 13 * o + 10) = nI j) && decide (cl R o j = c9)) = pp at hP
  refine run X (rt := some .boolean) flX3_ok rfl tX3_holdsClass_ok 20 [2] ?_
  simp only [go_go, gos_some, ctn_ctn, step, fv0, fv1, fv2, fv3, List.getElem?_cons_zero, List.getElem?_cons_succ, List.set_cons_zero, List.set_cons_succ, List.mem_cons, List.not_mem_nil, or_false, or_self, if_false, if_true, List.length_cons, List.length_nil, lval, upS_sr, sr_same, sr_sr, Nat.reduceEqDiff, not_false_eq_true, Classical.not_not, true_or, or_true, false_or, Nat.zero_add, Nat.add_zero, nI_add, pk_mul, Option.toList_some, Option.toList_none, List.cons_append, List.nil_append, n00, n11, n10, bv0, bv1, bft, bnf, bnt, Nat.reduceAdd, Nat.reduceEqDiff, Nat.reduceMul, Nat.reduceLT, Nat.reduceSub, true_implies, false_implies, not_true_eq_false, not_false_eq_true, true_and, and_true, sr_ne (show ¬ 21 = 20 by decide), sr_ne (show ¬ 20 = 21 by decide), sr_ne (show ¬ 22 = 20 by decide), sr_ne (show ¬ 22 = 21 by decide), sr_ne (show ¬ 20 = 22 by decide), sr_ne (show ¬ 21 = 22 by decide), kX3_holdsClass_0, kX3_holdsClass_1, kX3_holdsClass_2, kX3_holdsClass_3, kX3_holdsClass_4, kX3_holdsClass_7, kX3_holdsClass_10, kX3_holdsClass_11, kX3_holdsClass_14, kX3_holdsClass_15, kX3_holdsClass_16, kX3_holdsClass_18, kX3_holdsClass_20, kX3_holdsClass_23, kX3_holdsClass_24, kX3_holdsClass_27, kX3_holdsClass_28, kX3_holdsClass_30, kX3_holdsClass_31, kX3_holdsClass_33, kX3_holdsClass_36, kX3_holdsClass_39, kX3_holdsClass_40, kX3_holdsClass_43, kX3_holdsClass_44, kX3_holdsClass_45, kX3_holdsClass_48, kX3_holdsClass_51, kX3_holdsClass_52, xCmp, xGet, xGetF, xInc, xLdA, xLdI, xQld, xQldF, xRet, xSt, xStA, fX3_103, fX3_20, fX3_40, fX3_96, cI_0, cI_1, fDesk]
  refine loopU (N := nn R 1) (I := fun i => ∀ l4 : Option Value, (∀ o, o < i → pp o = false) → JM E mX3_holdsClass C 3 0 0 P 2 [some (.ref (aD E 0)), some (.int (nI j)), some (.int (nI c9)), some (.int (nI i)), l4] [] s) ?_ (fun i hi ih => ?_) none (fun o ho => by omega)
  · intro l4 hn
    refine run X (rt := some .boolean) flX3_ok rfl tX3_holdsClass_ok 20 [2] ?_
    simp only [go_go, gos_some, ctn_ctn, step, fv0, fv1, fv2, fv3, List.getElem?_cons_zero, List.getElem?_cons_succ, List.set_cons_zero, List.set_cons_succ, List.mem_cons, List.not_mem_nil, or_false, or_self, if_false, if_true, List.length_cons, List.length_nil, lval, upS_sr, sr_same, sr_sr, Nat.reduceEqDiff, not_false_eq_true, Classical.not_not, true_or, or_true, false_or, Nat.zero_add, Nat.add_zero, nI_add, pk_mul, Option.toList_some, Option.toList_none, List.cons_append, List.nil_append, n00, n11, n10, bv0, bv1, bft, bnf, bnt, Nat.reduceAdd, Nat.reduceEqDiff, Nat.reduceMul, Nat.reduceLT, Nat.reduceSub, true_implies, false_implies, not_true_eq_false, not_false_eq_true, true_and, and_true, sr_ne (show ¬ 21 = 20 by decide), sr_ne (show ¬ 20 = 21 by decide), sr_ne (show ¬ 22 = 20 by decide), sr_ne (show ¬ 22 = 21 by decide), sr_ne (show ¬ 20 = 22 by decide), sr_ne (show ¬ 21 = 22 by decide), kX3_holdsClass_0, kX3_holdsClass_1, kX3_holdsClass_2, kX3_holdsClass_3, kX3_holdsClass_4, kX3_holdsClass_7, kX3_holdsClass_10, kX3_holdsClass_11, kX3_holdsClass_14, kX3_holdsClass_15, kX3_holdsClass_16, kX3_holdsClass_18, kX3_holdsClass_20, kX3_holdsClass_23, kX3_holdsClass_24, kX3_holdsClass_27, kX3_holdsClass_28, kX3_holdsClass_30, kX3_holdsClass_31, kX3_holdsClass_33, kX3_holdsClass_36, kX3_holdsClass_39, kX3_holdsClass_40, kX3_holdsClass_43, kX3_holdsClass_44, kX3_holdsClass_45, kX3_holdsClass_48, kX3_holdsClass_51, kX3_holdsClass_52, xCmp, xGet, xGetF, xInc, xLdA, xLdI, xQld, xQldF, xRet, xSt, xStA, fX3_103, fX3_20, fX3_40, fX3_96, cI_0, cI_1, fDesk, lD0, lCs0, lSs0, lPu0, lJ0, h0, h1, fChi, fSch, Nat.succ_ne_zero, gC]
    rw [an_fl hn] at hP
    exact hP
  · intro l4 hn
    have y2 := cl_le R i j
    have x10 : s.1 0 (57 + 13 * i + 10) = R (57 + 13 * i + 10) := hS.c hi 10 (by decide) (by decide)
    have x11 : s.1 0 (57 + 13 * i + 11) = R (57 + 13 * i + 11) := hS.c hi 11 (by decide) (by decide)
    have hf : pp i = false → JM E mX3_holdsClass C 3 0 0 P 2 [some (.ref (aD E 0)), some (.int (nI j)), some (.int (nI c9)), some (.int (nI (i + 1))), some (.ref (aC E 0 i))] [] s := fun e => ih _ (fun o ho => by
      by_cases e2 : o = i
      · subst e2; exact e
      · exact hn o (by omega))
    refine run X (rt := some .boolean) flX3_ok rfl tX3_holdsClass_ok 30 [2] ?_
    simp only [go_go, gos_some, ctn_ctn, step, fv0, fv1, fv2, fv3, List.getElem?_cons_zero, List.getElem?_cons_succ, List.set_cons_zero, List.set_cons_succ, List.mem_cons, List.not_mem_nil, or_false, or_self, if_false, if_true, List.length_cons, List.length_nil, lval, upS_sr, sr_same, sr_sr, Nat.reduceEqDiff, not_false_eq_true, Classical.not_not, true_or, or_true, false_or, Nat.zero_add, Nat.add_zero, nI_add, pk_mul, Option.toList_some, Option.toList_none, List.cons_append, List.nil_append, n00, n11, n10, bv0, bv1, bft, bnf, bnt, Nat.reduceAdd, Nat.reduceEqDiff, Nat.reduceMul, Nat.reduceLT, Nat.reduceSub, true_implies, false_implies, not_true_eq_false, not_false_eq_true, true_and, and_true, sr_ne (show ¬ 21 = 20 by decide), sr_ne (show ¬ 20 = 21 by decide), sr_ne (show ¬ 22 = 20 by decide), sr_ne (show ¬ 22 = 21 by decide), sr_ne (show ¬ 20 = 22 by decide), sr_ne (show ¬ 21 = 22 by decide), kX3_holdsClass_0, kX3_holdsClass_1, kX3_holdsClass_2, kX3_holdsClass_3, kX3_holdsClass_4, kX3_holdsClass_7, kX3_holdsClass_10, kX3_holdsClass_11, kX3_holdsClass_14, kX3_holdsClass_15, kX3_holdsClass_16, kX3_holdsClass_18, kX3_holdsClass_20, kX3_holdsClass_23, kX3_holdsClass_24, kX3_holdsClass_27, kX3_holdsClass_28, kX3_holdsClass_30, kX3_holdsClass_31, kX3_holdsClass_33, kX3_holdsClass_36, kX3_holdsClass_39, kX3_holdsClass_40, kX3_holdsClass_43, kX3_holdsClass_44, kX3_holdsClass_45, kX3_holdsClass_48, kX3_holdsClass_51, kX3_holdsClass_52, xCmp, xGet, xGetF, xInc, xLdA, xLdI, xQld, xQldF, xRet, xSt, xStA, fX3_103, fX3_20, fX3_40, fX3_96, cI_0, cI_1, fDesk, lD0, lCs0, lSs0, lPu0, lJ0, h0, h1, fChi, fSch, Nat.succ_ne_zero, nI_ge hi hNc, vp_in_nI (show i < 24 by omega) (show 24 < 2 ^ 31 by decide), nI31 (show i < 2 ^ 31 by omega), lA_C (E := E) (d := 0) (i := i) (by decide) (by omega), x10, x11]
    refine ⟨fun c => hf (by rw [← hp]; simp [c]), fun c => ?_⟩
    refine cV X  tX3_holdsClass_ok kX3_holdsClass_36 (c_classOf hS hI hi hj) vX3_classOf lX3_83 (lA_D (d := 0) (by decide)) rfl rfl rfl (Nat.le_of_ble_eq_true rfl) (Nat.le_of_ble_eq_true rfl) ?_
    refine run X (rt := some .boolean) flX3_ok rfl tX3_holdsClass_ok 20 [2] ?_
    simp only [go_go, gos_some, ctn_ctn, step, fv0, fv1, fv2, fv3, List.getElem?_cons_zero, List.getElem?_cons_succ, List.set_cons_zero, List.set_cons_succ, List.mem_cons, List.not_mem_nil, or_false, or_self, if_false, if_true, List.length_cons, List.length_nil, lval, upS_sr, sr_same, sr_sr, Nat.reduceEqDiff, not_false_eq_true, Classical.not_not, true_or, or_true, false_or, Nat.zero_add, Nat.add_zero, nI_add, pk_mul, Option.toList_some, Option.toList_none, List.cons_append, List.nil_append, n00, n11, n10, bv0, bv1, bft, bnf, bnt, Nat.reduceAdd, Nat.reduceEqDiff, Nat.reduceMul, Nat.reduceLT, Nat.reduceSub, true_implies, false_implies, not_true_eq_false, not_false_eq_true, true_and, and_true, sr_ne (show ¬ 21 = 20 by decide), sr_ne (show ¬ 20 = 21 by decide), sr_ne (show ¬ 22 = 20 by decide), sr_ne (show ¬ 22 = 21 by decide), sr_ne (show ¬ 20 = 22 by decide), sr_ne (show ¬ 21 = 22 by decide), kX3_holdsClass_0, kX3_holdsClass_1, kX3_holdsClass_2, kX3_holdsClass_3, kX3_holdsClass_4, kX3_holdsClass_7, kX3_holdsClass_10, kX3_holdsClass_11, kX3_holdsClass_14, kX3_holdsClass_15, kX3_holdsClass_16, kX3_holdsClass_18, kX3_holdsClass_20, kX3_holdsClass_23, kX3_holdsClass_24, kX3_holdsClass_27, kX3_holdsClass_28, kX3_holdsClass_30, kX3_holdsClass_31, kX3_holdsClass_33, kX3_holdsClass_36, kX3_holdsClass_39, kX3_holdsClass_40, kX3_holdsClass_43, kX3_holdsClass_44, kX3_holdsClass_45, kX3_holdsClass_48, kX3_holdsClass_51, kX3_holdsClass_52, xCmp, xGet, xGetF, xInc, xLdA, xLdI, xQld, xQldF, xRet, xSt, xStA, fX3_103, fX3_20, fX3_40, fX3_96, cI_0, cI_1, fDesk, clM_eq, nI_inj (show cl R i j < 2 ^ 31 by omega) (show c9 < 2 ^ 31 by omega)]
    refine ⟨fun c3 => hf (by rw [← hp]; simp [c3]), fun c3 => ?_⟩
    rw [an_of hi (by rw [← hp]; simp [c, c3])] at hP
    exact hP
theorem c_countInCatchment {E : WE} {s : ST} {R : RW} (hS : Sh (s.1 0) R) (hI : Inv R) {j : Nat} (hj : j < nn R 0) : SpR E mX3_countInCatchment 2 [.ref (aD E 0), .ref (aS E 0 j)] s (some (.int (nI (ct (fun i => nr R i j) (nn R 1))))) s := by
  refine SpR.of vX3_countInCatchment.1 [some (.ref (aD E 0)), some (.ref (aS E 0 j)), none, none] rfl (Nat.le_of_ble_eq_true rfl) rfl (fun C P X hP => ?_)
  have hc := hI.c
  have hs := hI.s
  have h0 : s.1 0 0 = nI (nn R 0) := hS.1.1.trans hI.s0
  have h1 : s.1 0 1 = nI (nn R 1) := hS.1.2.1.trans hI.c0
  have hNc : nn R 1 < 2 ^ 31 := by omega
  have hNs : nn R 0 < 2 ^ 31 := by omega
  have gC := nI_le (Nat.le_refl (nn R 1)) hNc
  have gS := nI_le (Nat.le_refl (nn R 0)) hNs
  obtain ⟨-, -, -, ⟨e3, l3⟩, -⟩ := hI.2.1 j hj
  have x3 : s.1 0 (3 + 7 * j + 3) = nI (nn R (3 + 7 * j + 3)) := (hS.s hj 3 (by decide)).trans e3
  generalize hp : (fun i => nr R i j) = pp at hP
  refine run X (rt := some .int) flX3_ok rfl tX3_countInCatchment_ok 20 [4] ?_
  simp only [go_go, gos_some, ctn_ctn, step, fv0, fv1, fv2, fv3, List.getElem?_cons_zero, List.getElem?_cons_succ, List.set_cons_zero, List.set_cons_succ, List.mem_cons, List.not_mem_nil, or_false, or_self, if_false, if_true, List.length_cons, List.length_nil, lval, upS_sr, sr_same, sr_sr, Nat.reduceEqDiff, not_false_eq_true, Classical.not_not, true_or, or_true, false_or, Nat.zero_add, Nat.add_zero, nI_add, pk_mul, Option.toList_some, Option.toList_none, List.cons_append, List.nil_append, n00, n11, n10, bv0, bv1, bft, bnf, bnt, Nat.reduceAdd, Nat.reduceEqDiff, Nat.reduceMul, Nat.reduceLT, Nat.reduceSub, true_implies, false_implies, not_true_eq_false, not_false_eq_true, true_and, and_true, sr_ne (show ¬ 21 = 20 by decide), sr_ne (show ¬ 20 = 21 by decide), sr_ne (show ¬ 22 = 20 by decide), sr_ne (show ¬ 22 = 21 by decide), sr_ne (show ¬ 20 = 22 by decide), sr_ne (show ¬ 21 = 22 by decide), kX3_countInCatchment_0, kX3_countInCatchment_1, kX3_countInCatchment_2, kX3_countInCatchment_3, kX3_countInCatchment_4, kX3_countInCatchment_5, kX3_countInCatchment_6, kX3_countInCatchment_9, kX3_countInCatchment_12, kX3_countInCatchment_13, kX3_countInCatchment_14, kX3_countInCatchment_17, kX3_countInCatchment_18, kX3_countInCatchment_19, kX3_countInCatchment_22, kX3_countInCatchment_23, kX3_countInCatchment_26, kX3_countInCatchment_29, kX3_countInCatchment_32, kX3_countInCatchment_35, kX3_countInCatchment_38, kX3_countInCatchment_39, xCmp, xGet, xGetF, xInc, xLdA, xLdI, xQld, xQldF, xRet, xSt, fX3_20, fX3_40, fX3_77, cI_0, cI_1, fDesk]
  refine loopU (N := nn R 1) (I := fun i => JM E mX3_countInCatchment C 2 0 0 P 4 [some (.ref (aD E 0)), some (.ref (aS E 0 j)), some (.int (nI (ct pp i))), some (.int (nI i))] [] s) ?_ (fun i hi ih => ?_)
  · refine run X (rt := some .int) flX3_ok rfl tX3_countInCatchment_ok 20 [4] ?_
    simp only [go_go, gos_some, ctn_ctn, step, fv0, fv1, fv2, fv3, List.getElem?_cons_zero, List.getElem?_cons_succ, List.set_cons_zero, List.set_cons_succ, List.mem_cons, List.not_mem_nil, or_false, or_self, if_false, if_true, List.length_cons, List.length_nil, lval, upS_sr, sr_same, sr_sr, Nat.reduceEqDiff, not_false_eq_true, Classical.not_not, true_or, or_true, false_or, Nat.zero_add, Nat.add_zero, nI_add, pk_mul, Option.toList_some, Option.toList_none, List.cons_append, List.nil_append, n00, n11, n10, bv0, bv1, bft, bnf, bnt, Nat.reduceAdd, Nat.reduceEqDiff, Nat.reduceMul, Nat.reduceLT, Nat.reduceSub, true_implies, false_implies, not_true_eq_false, not_false_eq_true, true_and, and_true, sr_ne (show ¬ 21 = 20 by decide), sr_ne (show ¬ 20 = 21 by decide), sr_ne (show ¬ 22 = 20 by decide), sr_ne (show ¬ 22 = 21 by decide), sr_ne (show ¬ 20 = 22 by decide), sr_ne (show ¬ 21 = 22 by decide), kX3_countInCatchment_0, kX3_countInCatchment_1, kX3_countInCatchment_2, kX3_countInCatchment_3, kX3_countInCatchment_4, kX3_countInCatchment_5, kX3_countInCatchment_6, kX3_countInCatchment_9, kX3_countInCatchment_12, kX3_countInCatchment_13, kX3_countInCatchment_14, kX3_countInCatchment_17, kX3_countInCatchment_18, kX3_countInCatchment_19, kX3_countInCatchment_22, kX3_countInCatchment_23, kX3_countInCatchment_26, kX3_countInCatchment_29, kX3_countInCatchment_32, kX3_countInCatchment_35, kX3_countInCatchment_38, kX3_countInCatchment_39, xCmp, xGet, xGetF, xInc, xLdA, xLdI, xQld, xQldF, xRet, xSt, fX3_20, fX3_40, fX3_77, cI_0, cI_1, fDesk, lD0, lCs0, lSs0, lPu0, lJ0, h0, h1, fChi, fSch, Nat.succ_ne_zero, gC]
    exact hP
  · have hd := ds_le hI hi hj
    refine run X (rt := some .int) flX3_ok rfl tX3_countInCatchment_ok 20 [4] ?_
    simp only [go_go, gos_some, ctn_ctn, step, fv0, fv1, fv2, fv3, List.getElem?_cons_zero, List.getElem?_cons_succ, List.set_cons_zero, List.set_cons_succ, List.mem_cons, List.not_mem_nil, or_false, or_self, if_false, if_true, List.length_cons, List.length_nil, lval, upS_sr, sr_same, sr_sr, Nat.reduceEqDiff, not_false_eq_true, Classical.not_not, true_or, or_true, false_or, Nat.zero_add, Nat.add_zero, nI_add, pk_mul, Option.toList_some, Option.toList_none, List.cons_append, List.nil_append, n00, n11, n10, bv0, bv1, bft, bnf, bnt, Nat.reduceAdd, Nat.reduceEqDiff, Nat.reduceMul, Nat.reduceLT, Nat.reduceSub, true_implies, false_implies, not_true_eq_false, not_false_eq_true, true_and, and_true, sr_ne (show ¬ 21 = 20 by decide), sr_ne (show ¬ 20 = 21 by decide), sr_ne (show ¬ 22 = 20 by decide), sr_ne (show ¬ 22 = 21 by decide), sr_ne (show ¬ 20 = 22 by decide), sr_ne (show ¬ 21 = 22 by decide), kX3_countInCatchment_0, kX3_countInCatchment_1, kX3_countInCatchment_2, kX3_countInCatchment_3, kX3_countInCatchment_4, kX3_countInCatchment_5, kX3_countInCatchment_6, kX3_countInCatchment_9, kX3_countInCatchment_12, kX3_countInCatchment_13, kX3_countInCatchment_14, kX3_countInCatchment_17, kX3_countInCatchment_18, kX3_countInCatchment_19, kX3_countInCatchment_22, kX3_countInCatchment_23, kX3_countInCatchment_26, kX3_countInCatchment_29, kX3_countInCatchment_32, kX3_countInCatchment_35, kX3_countInCatchment_38, kX3_countInCatchment_39, xCmp, xGet, xGetF, xInc, xLdA, xLdI, xQld, xQldF, xRet, xSt, fX3_20, fX3_40, fX3_77, cI_0, cI_1, fDesk, lD0, lCs0, lSs0, lPu0, lJ0, h0, h1, fChi, fSch, Nat.succ_ne_zero, nI_ge hi hNc, vp_in_nI (show i < 24 by omega) (show 24 < 2 ^ 31 by decide), nI31 (show i < 2 ^ 31 by omega), lA_C (E := E) (d := 0) (i := i) (by decide) (by omega)]
    refine cV X  tX3_countInCatchment_ok kX3_countInCatchment_19 (c_distanceTo (by decide) hS hI hi hj) vX7_distanceTo lX3_73 (lA_S6 (by decide) (by omega)) rfl rfl rfl (Nat.le_of_ble_eq_true rfl) (Nat.le_of_ble_eq_true rfl) ?_
    refine run X (rt := some .int) flX3_ok rfl tX3_countInCatchment_ok 20 [4] ?_
    simp only [go_go, gos_some, ctn_ctn, step, fv0, fv1, fv2, fv3, List.getElem?_cons_zero, List.getElem?_cons_succ, List.set_cons_zero, List.set_cons_succ, List.mem_cons, List.not_mem_nil, or_false, or_self, if_false, if_true, List.length_cons, List.length_nil, lval, upS_sr, sr_same, sr_sr, Nat.reduceEqDiff, not_false_eq_true, Classical.not_not, true_or, or_true, false_or, Nat.zero_add, Nat.add_zero, nI_add, pk_mul, Option.toList_some, Option.toList_none, List.cons_append, List.nil_append, n00, n11, n10, bv0, bv1, bft, bnf, bnt, Nat.reduceAdd, Nat.reduceEqDiff, Nat.reduceMul, Nat.reduceLT, Nat.reduceSub, true_implies, false_implies, not_true_eq_false, not_false_eq_true, true_and, and_true, sr_ne (show ¬ 21 = 20 by decide), sr_ne (show ¬ 20 = 21 by decide), sr_ne (show ¬ 22 = 20 by decide), sr_ne (show ¬ 22 = 21 by decide), sr_ne (show ¬ 20 = 22 by decide), sr_ne (show ¬ 21 = 22 by decide), kX3_countInCatchment_0, kX3_countInCatchment_1, kX3_countInCatchment_2, kX3_countInCatchment_3, kX3_countInCatchment_4, kX3_countInCatchment_5, kX3_countInCatchment_6, kX3_countInCatchment_9, kX3_countInCatchment_12, kX3_countInCatchment_13, kX3_countInCatchment_14, kX3_countInCatchment_17, kX3_countInCatchment_18, kX3_countInCatchment_19, kX3_countInCatchment_22, kX3_countInCatchment_23, kX3_countInCatchment_26, kX3_countInCatchment_29, kX3_countInCatchment_32, kX3_countInCatchment_35, kX3_countInCatchment_38, kX3_countInCatchment_39, xCmp, xGet, xGetF, xInc, xLdA, xLdI, xQld, xQldF, xRet, xSt, fX3_20, fX3_40, fX3_77, cI_0, cI_1, fDesk, lD0, lCs0, lSs0, lPu0, lJ0, h0, h1, fChi, fSch, Nat.succ_ne_zero, vp_in_nI (show j < 6 by omega) (show 6 < 2 ^ 31 by decide), nI31 (show j < 2 ^ 31 by omega), lA_S6 (E := E) (d := 0) (i := j) (by decide) (by omega), x3, nI_ltI (show nn R (3 + 7 * j + 3) < 2 ^ 31 by omega) (show ds R i j < 2 ^ 31 by omega)]
    refine ⟨fun c => ?_, fun c => ?_⟩
    · rw [ct_f (by rw [← hp]; exact decide_eq_false (by omega))] at ih; exact ih
    · rw [ct_t (by rw [← hp]; exact decide_eq_true (by omega))] at ih; exact ih
