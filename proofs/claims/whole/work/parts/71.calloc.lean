/-! ===== the class allocates: who asks, keys, asking ===== -/
/-- all but the seats, marks, appeals and added seats is as it was -/
def samQ (R Q : RW) : Prop := ∀ x, (x < 3 ∨ (3 ≤ x ∧ x < 45 ∧ (x - 3) % 7 ≠ 6) ∨ (45 ≤ x ∧ x < 57) ∨ (57 ≤ x ∧ x < 369 ∧ (x - 57) % 13 ≠ 10 ∧ (x - 57) % 13 ≠ 11 ∧ (x - 57) % 13 ≠ 12) ∨ 369 ≤ x) → Q x = R x
theorem samQ.tr {R R1 R2 : RW} (h : samQ R R1) (h2 : samQ R1 R2) : samQ R R2 := fun x hx => (h2 x hx).trans (h x hx)
theorem samS.q {R R' : RW} (h : samS R R') : samQ R R' := fun x hx => h x (fun i hi => by omega)
theorem mkR_q {R : RW} {q : Nat → Nat → Bool} {k : Nat} (hk : k ≤ 24) : samQ R (mkR R q k) := fun x hx => mkR_far (fun i hi => by omega)
theorem azR_q {R : RW} (hI : Inv R) : samQ R (azR R) := fun x hx => by
  have hc := hI.c
  have hs := hI.s
  unfold azR
  rw [az2_far (fun i hi => by omega), az1_far (fun j hj => by omega)]
theorem samQ.s {R Q : RW} (h : samQ R Q) {j w : Nat} (hj : j < 6) (hw : w < 6) : Q (3 + 7 * j + w) = R (3 + 7 * j + w) := h _ (by omega)
theorem samQ.c {R Q : RW} (h : samQ R Q) {i w : Nat} (hi : i < 24) (hw : w < 10) : Q (57 + 13 * i + w) = R (57 + 13 * i + w) := h _ (by omega)
theorem samQ.n {R Q : RW} (h : samQ R Q) {x : Nat} (hx : Q x = R x) : nn Q x = nn R x := by unfold nn; rw [hx]
theorem samQ.n0 {R Q : RW} (h : samQ R Q) : nn Q 0 = nn R 0 := h.n (h 0 (by omega))
theorem samQ.n1 {R Q : RW} (h : samQ R Q) : nn Q 1 = nn R 1 := h.n (h 1 (by omega))
theorem samQ_ds {R Q : RW} (h : samQ R Q) {i j : Nat} (hi : i < 24) (hj : j < 6) : ds Q i j = ds R i j := by
  unfold ds
  rw [h.n (show Q (57 + 13 * i) = R (57 + 13 * i) from h.c hi (w := 0) (by decide)), h.n (h.c hi (w := 1) (by decide)), h.n (show Q (3 + 7 * j) = R (3 + 7 * j) from h.s hj (w := 0) (by decide)), h.n (h.s hj (w := 1) (by decide))]
theorem kyM_Q {R Q : RW} (h : samQ R Q) (hI : Inv R) {i j : Nat} (hi : i < nn R 1) (hj : j < nn R 0) : kyM R i j (Q (57 + 13 * i + 11)) = ky Q i j := by
  have hc := hI.c
  have hs := hI.s
  have hi24 : i < 24 := by omega
  have hj6 : j < 6 := by omega
  obtain ⟨⟨-, -, ⟨-, l2⟩, -⟩, -⟩ := hI.2.2 i hi
  have e2 : nn Q (57 + 13 * i + 2) = nn R (57 + 13 * i + 2) := h.n (h.c hi24 (by decide))
  have eN : nr Q i j = nr R i j := by unfold nr; rw [samQ_ds h hi24 hj6, h.n (h.s hj6 (w := 3) (by decide))]
  have eS : sb Q i j = sbM R i j (Q (57 + 13 * i + 11)) := by unfold sb sbM; rw [e2, h (45 + nn R (57 + 13 * i + 2)) (by omega)]
  have eC : cl Q i j = clM R i j (Q (57 + 13 * i + 11)) := by unfold cl clM; rw [eS, eN, h.c hi24 (w := 4) (by decide), h.n (h.s hj6 (w := 4) (by decide))]
  unfold kyM ky
  rw [eC, samQ_ds h hi24 hj6, h.n (h.c hi24 (w := 3) (by decide))]
theorem samS_ky {R R' : RW} (h : samS R R') (hI : Inv R) {i j : Nat} (hi : i < nn R 1) (hj : j < nn R 0) : ky R' i j = ky R i j := by
  have e : R' (57 + 13 * i + 11) = R (57 + 13 * i + 11) := h _ (fun i' hi' => by omega)
  rw [← kyM_Q h.q hI hi hj, e]
  rfl
/-- only the allocation's rows have changed -/
def aT_ (s s' : ST) : Prop := s'.2 = s.2 ∧ ∀ r, (r < 11 ∨ 14 < r) → s'.1 r = s.1 r
theorem aT_.rf {s : ST} : aT_ s s := ⟨rfl, fun _ _ => rfl⟩
theorem aT_.tr {s s1 s2 : ST} (h : aT_ s s1) (h2 : aT_ s1 s2) : aT_ s s2 := ⟨h2.1.trans h.1, fun r hr => (h2.2 r hr).trans (h.2 r hr)⟩
theorem aT_.sr {s : ST} {r : Nat} {x : RW} (h : 11 ≤ r ∧ r ≤ 14) : aT_ s (sr s r x) := ⟨rfl, fun r' hr => sr_ne (by omega)⟩
/-- the allocation's rows show the row Q, and what was asked -/
def AL (s : ST) (R Q : RW) (as : Nat → Nat) : Prop := (Sh (s.1 0) R ∧ Inv R ∧ Inv Q ∧ samQ R Q) ∧ (∀ i, i < nn R 1 → s.1 11 i = Q (57 + 13 * i + 10)) ∧ (∀ i, i < nn R 1 → s.1 12 i = Q (57 + 13 * i + 11)) ∧ (∀ i, i < nn R 1 → s.1 13 i = nI (as i) ∧ as i ≤ 4) ∧
  (∀ i j, i < nn R 1 → j < nn R 0 → s.1 14 (i * 6 + j) = nI (ky Q i j))
theorem nxA_lo {p : Nat → Bool} : ∀ {n i : Nat}, n < 2 ^ 31 → i < n → p i = true → (∀ k, k < i → p k = false) → nxA p true n = nI i
  | 0, i, _, h, _, _ => absurd h (Nat.not_lt_zero i)
  | n + 1, i, hB, h, hp, hn => by
    rw [nxA]
    by_cases e : i = n
    · subst e
      rcases nxA_or (p := p) (dir := true) i with ⟨h1, -⟩ | ⟨k, h1, h2, h3⟩
      · rw [h1, hp]; rfl
      · rw [hn k h1] at h3; cases h3
    · have ih := nxA_lo (n := n) (by omega) (by omega) hp hn
      rcases nxA_or (p := p) (dir := true) n with ⟨h1, h2⟩ | ⟨k, h1, h2, h3⟩
      · rw [h2 i (by omega)] at hp; cases hp
      · by_cases e9 : nxA p true n = -1
        · exfalso
          rcases nxA_or (p := p) (dir := true) n with ⟨g1, g2⟩ | ⟨k', g1, g2, g3⟩
          · rw [g2 i (by omega)] at hp; cases hp
          · by_cases hk : k' < 2 ^ 31
            · rw [g2, nI_m1 hk] at e9; exact e9
            · omega
        · rw [decide_eq_false e9]
          simp only [Bool.not_true, Bool.or_self, Bool.and_false, Bool.false_eq_true, if_false]
          exact ih
theorem nxA_hi {p : Nat → Bool} : ∀ {n i : Nat}, i < n → p i = true → (∀ k, i < k → k < n → p k = false) → nxA p false n = nI i
  | 0, i, h, _, _ => absurd h (Nat.not_lt_zero i)
  | n + 1, i, h, hp, hn => by
    rw [nxA]
    by_cases e : i = n
    · subst e; rw [hp]; rfl
    · rw [hn n (by omega) (by omega), Bool.false_and, if_neg (by decide)]
      exact nxA_hi (by omega) hp (fun k h1 h2 => hn k h1 (by omega))
theorem nxA_no {p : Nat → Bool} {dir : Bool} {n : Nat} (h : ∀ k, k < n → p k = false) : nxA p dir n = -1 := by
  rcases nxA_or (p := p) (dir := dir) n with ⟨h1, -⟩ | ⟨k, h1, -, h3⟩
  · exact h1
  · rw [h k h1] at h3; cases h3
set_option maxRecDepth 10000 in
theorem c_nextAsker {E : WE} {s : ST} {R Q : RW} {as : Nat → Nat} (hL : AL s R Q as) {b : Bool} : SpR E mX0_nextAsker 0 [.ref (aF E 603), .ref (aD E 0), .int (bv b)] s (some (.int (nxA (akB Q as) (!b) (nn R 1)))) s := by
  refine SpR.of vX0_nextAsker.1 [some (.ref (aF E 603)), some (.ref (aD E 0)), some (.int (bv b)), none, none, none] rfl (Nat.le_of_ble_eq_true rfl) rfl (fun C P X hP => ?_)
  obtain ⟨⟨hS, hI, hQ, hq⟩, hs11, hs12, hs13, -⟩ := hL
  have hc := hI.c
  have hs := hI.s
  have h0 : s.1 0 0 = nI (nn R 0) := hS.1.1.trans hI.s0
  have h1 : s.1 0 1 = nI (nn R 1) := hS.1.2.1.trans hI.c0
  have hNc : nn R 1 < 2 ^ 31 := by omega
  have gC := nI_le (Nat.le_refl (nn R 1)) hNc
  generalize hp : akB Q as = pp at hP
  have body : ∀ (k i : Nat) (l5 : Option Value), k < nn R 1 → (pp k = true → P (.inl (some (.int (nI k)))) s) → (pp k = false → JM E mX0_nextAsker C 0 0 0 P 65 [some (.ref (aF E 603)), some (.ref (aD E 0)), some (.int (bv b)), some (.int (nI (nn R 1))), some (.int (nI i)), some (.int (nI k))] [] s) →
      JM E mX0_nextAsker C 0 0 0 P 29 [some (.ref (aF E 603)), some (.ref (aD E 0)), some (.int (bv b)), some (.int (nI (nn R 1))), some (.int (nI i)), l5] [.int (nI k)] s := by
    intro k i l5 hk ht hf
    have x11 := hs11 k hk
    obtain ⟨x13, a4⟩ := hs13 k hk
    have hm := hI.m hk
    have x5 : s.1 0 (57 + 13 * k + 5) = nI (nn R (57 + 13 * k + 5)) := (hS.c hk 5 (by decide) (by decide)).trans hm.1
    have e5 : nn Q (57 + 13 * k + 5) = nn R (57 + 13 * k + 5) := hq.n (hq.c (by omega) (by decide))
    have pe : pp k = (decide (Q (57 + 13 * k + 10) = -1) && decide (as k < nn R (57 + 13 * k + 5))) := by rw [← hp]; unfold akB; rw [e5]
    refine run X (rt := some .int) flX0_ok rfl tX0_nextAsker_ok 40 [65] ?_
    simp only [go_go, gos_some, ctn_ctn, step, fv0, fv1, fv2, fv3, List.getElem?_cons_zero, List.getElem?_cons_succ, List.set_cons_zero, List.set_cons_succ, List.mem_cons, List.not_mem_nil, or_false, or_self, if_false, if_true, List.length_cons, List.length_nil, lval, upS_sr, sr_same, sr_sr, Nat.reduceEqDiff, not_false_eq_true, Classical.not_not, true_or, or_true, false_or, Nat.zero_add, Nat.add_zero, nI_add, pk_mul, Option.toList_some, Option.toList_none, List.cons_append, List.nil_append, n00, n11, n10, bv0, bv1, bft, bnf, bnt, Nat.reduceAdd, Nat.reduceEqDiff, Nat.reduceMul, Nat.reduceLT, Nat.reduceSub, true_implies, false_implies, not_true_eq_false, not_false_eq_true, true_and, and_true, sr_ne (show ¬ 21 = 20 by decide), sr_ne (show ¬ 20 = 21 by decide), sr_ne (show ¬ 22 = 20 by decide), sr_ne (show ¬ 22 = 21 by decide), sr_ne (show ¬ 20 = 22 by decide), sr_ne (show ¬ 21 = 22 by decide), kX0_nextAsker_0, kX0_nextAsker_1, kX0_nextAsker_4, kX0_nextAsker_5, kX0_nextAsker_6, kX0_nextAsker_8, kX0_nextAsker_10, kX0_nextAsker_11, kX0_nextAsker_14, kX0_nextAsker_15, kX0_nextAsker_18, kX0_nextAsker_19, kX0_nextAsker_20, kX0_nextAsker_21, kX0_nextAsker_23, kX0_nextAsker_24, kX0_nextAsker_27, kX0_nextAsker_29, kX0_nextAsker_31, kX0_nextAsker_32, kX0_nextAsker_35, kX0_nextAsker_37, kX0_nextAsker_38, kX0_nextAsker_39, kX0_nextAsker_42, kX0_nextAsker_43, kX0_nextAsker_46, kX0_nextAsker_48, kX0_nextAsker_49, kX0_nextAsker_50, kX0_nextAsker_53, kX0_nextAsker_55, kX0_nextAsker_56, kX0_nextAsker_59, kX0_nextAsker_62, kX0_nextAsker_64, kX0_nextAsker_65, kX0_nextAsker_68, kX0_nextAsker_71, kX0_nextAsker_72, xAld, xArrF, xBin, xCmp, xGet, xGetF, xIf, xInc, xLdA, xLdI, xQld, xQldF, xRet, xSt, fX0_18, fX0_41, fX0_56, fX0_67, fX0_9, cI_0, cI_1, cI_m1, lA_603, fAll, lA_604, lA_605, lA_606, lA_607, lD0, lCs0, lSs0, fDesk, fChi, fSch, h0, h1, vp_in_nI (show k < 24 by omega) (show 24 < 2 ^ 31 by decide), nI31 (show k < 2 ^ 31 by omega), lA_C (E := E) (d := 0) (i := k) (by decide) (by omega), x11, x13, x5, nI_leI (show nn R (57 + 13 * k + 5) < 2 ^ 31 by omega) (show as k < 2 ^ 31 by omega)]
    refine ⟨fun c => hf (by rw [pe, decide_eq_false c]; rfl), fun c => ⟨fun c2 => hf (by rw [pe, decide_eq_false (show ¬ as k < nn R (57 + 13 * k + 5) by omega), Bool.and_false]), fun c2 => ht (by rw [pe, decide_eq_true c, decide_eq_true (show as k < nn R (57 + 13 * k + 5) by omega)]; rfl)⟩⟩
  refine run X (rt := some .int) flX0_ok rfl tX0_nextAsker_ok 20 [8] ?_
  simp only [go_go, gos_some, ctn_ctn, step, fv0, fv1, fv2, fv3, List.getElem?_cons_zero, List.getElem?_cons_succ, List.set_cons_zero, List.set_cons_succ, List.mem_cons, List.not_mem_nil, or_false, or_self, if_false, if_true, List.length_cons, List.length_nil, lval, upS_sr, sr_same, sr_sr, Nat.reduceEqDiff, not_false_eq_true, Classical.not_not, true_or, or_true, false_or, Nat.zero_add, Nat.add_zero, nI_add, pk_mul, Option.toList_some, Option.toList_none, List.cons_append, List.nil_append, n00, n11, n10, bv0, bv1, bft, bnf, bnt, Nat.reduceAdd, Nat.reduceEqDiff, Nat.reduceMul, Nat.reduceLT, Nat.reduceSub, true_implies, false_implies, not_true_eq_false, not_false_eq_true, true_and, and_true, sr_ne (show ¬ 21 = 20 by decide), sr_ne (show ¬ 20 = 21 by decide), sr_ne (show ¬ 22 = 20 by decide), sr_ne (show ¬ 22 = 21 by decide), sr_ne (show ¬ 20 = 22 by decide), sr_ne (show ¬ 21 = 22 by decide), kX0_nextAsker_0, kX0_nextAsker_1, kX0_nextAsker_4, kX0_nextAsker_5, kX0_nextAsker_6, kX0_nextAsker_8, kX0_nextAsker_10, kX0_nextAsker_11, kX0_nextAsker_14, kX0_nextAsker_15, kX0_nextAsker_18, kX0_nextAsker_19, kX0_nextAsker_20, kX0_nextAsker_21, kX0_nextAsker_23, kX0_nextAsker_24, kX0_nextAsker_27, kX0_nextAsker_29, kX0_nextAsker_31, kX0_nextAsker_32, kX0_nextAsker_35, kX0_nextAsker_37, kX0_nextAsker_38, kX0_nextAsker_39, kX0_nextAsker_42, kX0_nextAsker_43, kX0_nextAsker_46, kX0_nextAsker_48, kX0_nextAsker_49, kX0_nextAsker_50, kX0_nextAsker_53, kX0_nextAsker_55, kX0_nextAsker_56, kX0_nextAsker_59, kX0_nextAsker_62, kX0_nextAsker_64, kX0_nextAsker_65, kX0_nextAsker_68, kX0_nextAsker_71, kX0_nextAsker_72, xAld, xArrF, xBin, xCmp, xGet, xGetF, xIf, xInc, xLdA, xLdI, xQld, xQldF, xRet, xSt, fX0_18, fX0_41, fX0_56, fX0_67, fX0_9, cI_0, cI_1, cI_m1, lA_603, fAll, lA_604, lA_605, lA_606, lA_607, lD0, lCs0, lSs0, fDesk, fChi, fSch, h0, h1]
  cases b with
  | false =>
    suffices key : ∀ l5 : Option Value, (∀ o, o < 0 → pp o = false) → JM E mX0_nextAsker C 0 0 0 P 8 [some (.ref (aF E 603)), some (.ref (aD E 0)), some (.int (bv false)), some (.int (nI (nn R 1))), some (.int (nI 0)), l5] [] s from key none (fun o ho => absurd ho (Nat.not_lt_zero o))
    refine loopU (N := nn R 1) (I := fun i => ∀ l5 : Option Value, (∀ o, o < i → pp o = false) → JM E mX0_nextAsker C 0 0 0 P 8 [some (.ref (aF E 603)), some (.ref (aD E 0)), some (.int (bv false)), some (.int (nI (nn R 1))), some (.int (nI i)), l5] [] s) ?_ (fun i hi ih => ?_)
    · intro l5 hn
      rw [nxA_no hn] at hP
      refine run X (rt := some .int) flX0_ok rfl tX0_nextAsker_ok 20 [8] ?_
      simp only [go_go, gos_some, ctn_ctn, step, fv0, fv1, fv2, fv3, List.getElem?_cons_zero, List.getElem?_cons_succ, List.set_cons_zero, List.set_cons_succ, List.mem_cons, List.not_mem_nil, or_false, or_self, if_false, if_true, List.length_cons, List.length_nil, lval, upS_sr, sr_same, sr_sr, Nat.reduceEqDiff, not_false_eq_true, Classical.not_not, true_or, or_true, false_or, Nat.zero_add, Nat.add_zero, nI_add, pk_mul, Option.toList_some, Option.toList_none, List.cons_append, List.nil_append, n00, n11, n10, bv0, bv1, bft, bnf, bnt, Nat.reduceAdd, Nat.reduceEqDiff, Nat.reduceMul, Nat.reduceLT, Nat.reduceSub, true_implies, false_implies, not_true_eq_false, not_false_eq_true, true_and, and_true, sr_ne (show ¬ 21 = 20 by decide), sr_ne (show ¬ 20 = 21 by decide), sr_ne (show ¬ 22 = 20 by decide), sr_ne (show ¬ 22 = 21 by decide), sr_ne (show ¬ 20 = 22 by decide), sr_ne (show ¬ 21 = 22 by decide), kX0_nextAsker_0, kX0_nextAsker_1, kX0_nextAsker_4, kX0_nextAsker_5, kX0_nextAsker_6, kX0_nextAsker_8, kX0_nextAsker_10, kX0_nextAsker_11, kX0_nextAsker_14, kX0_nextAsker_15, kX0_nextAsker_18, kX0_nextAsker_19, kX0_nextAsker_20, kX0_nextAsker_21, kX0_nextAsker_23, kX0_nextAsker_24, kX0_nextAsker_27, kX0_nextAsker_29, kX0_nextAsker_31, kX0_nextAsker_32, kX0_nextAsker_35, kX0_nextAsker_37, kX0_nextAsker_38, kX0_nextAsker_39, kX0_nextAsker_42, kX0_nextAsker_43, kX0_nextAsker_46, kX0_nextAsker_48, kX0_nextAsker_49, kX0_nextAsker_50, kX0_nextAsker_53, kX0_nextAsker_55, kX0_nextAsker_56, kX0_nextAsker_59, kX0_nextAsker_62, kX0_nextAsker_64, kX0_nextAsker_65, kX0_nextAsker_68, kX0_nextAsker_71, kX0_nextAsker_72, xAld, xArrF, xBin, xCmp, xGet, xGetF, xIf, xInc, xLdA, xLdI, xQld, xQldF, xRet, xSt, fX0_18, fX0_41, fX0_56, fX0_67, fX0_9, cI_0, cI_1, cI_m1, lA_603, fAll, lA_604, lA_605, lA_606, lA_607, gC]
      exact hP
    · intro l5 hn
      refine run X (rt := some .int) flX0_ok rfl tX0_nextAsker_ok 20 [8, 29] ?_
      simp only [go_go, gos_some, ctn_ctn, step, fv0, fv1, fv2, fv3, List.getElem?_cons_zero, List.getElem?_cons_succ, List.set_cons_zero, List.set_cons_succ, List.mem_cons, List.not_mem_nil, or_false, or_self, if_false, if_true, List.length_cons, List.length_nil, lval, upS_sr, sr_same, sr_sr, Nat.reduceEqDiff, not_false_eq_true, Classical.not_not, true_or, or_true, false_or, Nat.zero_add, Nat.add_zero, nI_add, pk_mul, Option.toList_some, Option.toList_none, List.cons_append, List.nil_append, n00, n11, n10, bv0, bv1, bft, bnf, bnt, Nat.reduceAdd, Nat.reduceEqDiff, Nat.reduceMul, Nat.reduceLT, Nat.reduceSub, true_implies, false_implies, not_true_eq_false, not_false_eq_true, true_and, and_true, sr_ne (show ¬ 21 = 20 by decide), sr_ne (show ¬ 20 = 21 by decide), sr_ne (show ¬ 22 = 20 by decide), sr_ne (show ¬ 22 = 21 by decide), sr_ne (show ¬ 20 = 22 by decide), sr_ne (show ¬ 21 = 22 by decide), kX0_nextAsker_0, kX0_nextAsker_1, kX0_nextAsker_4, kX0_nextAsker_5, kX0_nextAsker_6, kX0_nextAsker_8, kX0_nextAsker_10, kX0_nextAsker_11, kX0_nextAsker_14, kX0_nextAsker_15, kX0_nextAsker_18, kX0_nextAsker_19, kX0_nextAsker_20, kX0_nextAsker_21, kX0_nextAsker_23, kX0_nextAsker_24, kX0_nextAsker_27, kX0_nextAsker_29, kX0_nextAsker_31, kX0_nextAsker_32, kX0_nextAsker_35, kX0_nextAsker_37, kX0_nextAsker_38, kX0_nextAsker_39, kX0_nextAsker_42, kX0_nextAsker_43, kX0_nextAsker_46, kX0_nextAsker_48, kX0_nextAsker_49, kX0_nextAsker_50, kX0_nextAsker_53, kX0_nextAsker_55, kX0_nextAsker_56, kX0_nextAsker_59, kX0_nextAsker_62, kX0_nextAsker_64, kX0_nextAsker_65, kX0_nextAsker_68, kX0_nextAsker_71, kX0_nextAsker_72, xAld, xArrF, xBin, xCmp, xGet, xGetF, xIf, xInc, xLdA, xLdI, xQld, xQldF, xRet, xSt, fX0_18, fX0_41, fX0_56, fX0_67, fX0_9, cI_0, cI_1, cI_m1, lA_603, fAll, lA_604, lA_605, lA_606, lA_607, nI_ge hi hNc, bv_f]
      refine body i i l5 hi (fun e => ?_) (fun e => ?_)
      · rw [Bool.not_false, nxA_lo hNc hi e hn] at hP; exact hP
      · refine run X (rt := some .int) flX0_ok rfl tX0_nextAsker_ok 20 [8] ?_
        simp only [go_go, gos_some, ctn_ctn, step, fv0, fv1, fv2, fv3, List.getElem?_cons_zero, List.getElem?_cons_succ, List.set_cons_zero, List.set_cons_succ, List.mem_cons, List.not_mem_nil, or_false, or_self, if_false, if_true, List.length_cons, List.length_nil, lval, upS_sr, sr_same, sr_sr, Nat.reduceEqDiff, not_false_eq_true, Classical.not_not, true_or, or_true, false_or, Nat.zero_add, Nat.add_zero, nI_add, pk_mul, Option.toList_some, Option.toList_none, List.cons_append, List.nil_append, n00, n11, n10, bv0, bv1, bft, bnf, bnt, Nat.reduceAdd, Nat.reduceEqDiff, Nat.reduceMul, Nat.reduceLT, Nat.reduceSub, true_implies, false_implies, not_true_eq_false, not_false_eq_true, true_and, and_true, sr_ne (show ¬ 21 = 20 by decide), sr_ne (show ¬ 20 = 21 by decide), sr_ne (show ¬ 22 = 20 by decide), sr_ne (show ¬ 22 = 21 by decide), sr_ne (show ¬ 20 = 22 by decide), sr_ne (show ¬ 21 = 22 by decide), kX0_nextAsker_0, kX0_nextAsker_1, kX0_nextAsker_4, kX0_nextAsker_5, kX0_nextAsker_6, kX0_nextAsker_8, kX0_nextAsker_10, kX0_nextAsker_11, kX0_nextAsker_14, kX0_nextAsker_15, kX0_nextAsker_18, kX0_nextAsker_19, kX0_nextAsker_20, kX0_nextAsker_21, kX0_nextAsker_23, kX0_nextAsker_24, kX0_nextAsker_27, kX0_nextAsker_29, kX0_nextAsker_31, kX0_nextAsker_32, kX0_nextAsker_35, kX0_nextAsker_37, kX0_nextAsker_38, kX0_nextAsker_39, kX0_nextAsker_42, kX0_nextAsker_43, kX0_nextAsker_46, kX0_nextAsker_48, kX0_nextAsker_49, kX0_nextAsker_50, kX0_nextAsker_53, kX0_nextAsker_55, kX0_nextAsker_56, kX0_nextAsker_59, kX0_nextAsker_62, kX0_nextAsker_64, kX0_nextAsker_65, kX0_nextAsker_68, kX0_nextAsker_71, kX0_nextAsker_72, xAld, xArrF, xBin, xCmp, xGet, xGetF, xIf, xInc, xLdA, xLdI, xQld, xQldF, xRet, xSt, fX0_18, fX0_41, fX0_56, fX0_67, fX0_9, cI_0, cI_1, cI_m1, lA_603, fAll, lA_604, lA_605, lA_606, lA_607]
        refine ih _ (fun o ho => ?_)
        by_cases e2 : o = i
        · subst e2; exact e
        · exact hn o (by omega)
  | true =>
    suffices key : ∀ l5 : Option Value, (∀ o, o < 0 → pp (nn R 1 - 1 - o) = false) → JM E mX0_nextAsker C 0 0 0 P 8 [some (.ref (aF E 603)), some (.ref (aD E 0)), some (.int (bv true)), some (.int (nI (nn R 1))), some (.int (nI 0)), l5] [] s from key none (fun o ho => absurd ho (Nat.not_lt_zero o))
    refine loopU (N := nn R 1) (I := fun i => ∀ l5 : Option Value, (∀ o, o < i → pp (nn R 1 - 1 - o) = false) → JM E mX0_nextAsker C 0 0 0 P 8 [some (.ref (aF E 603)), some (.ref (aD E 0)), some (.int (bv true)), some (.int (nI (nn R 1))), some (.int (nI i)), l5] [] s) ?_ (fun i hi ih => ?_)
    · intro l5 hn
      rw [nxA_no (fun k hk => by have := hn (nn R 1 - 1 - k) (by omega); rw [show nn R 1 - 1 - (nn R 1 - 1 - k) = k by omega] at this; exact this)] at hP
      refine run X (rt := some .int) flX0_ok rfl tX0_nextAsker_ok 20 [8] ?_
      simp only [go_go, gos_some, ctn_ctn, step, fv0, fv1, fv2, fv3, List.getElem?_cons_zero, List.getElem?_cons_succ, List.set_cons_zero, List.set_cons_succ, List.mem_cons, List.not_mem_nil, or_false, or_self, if_false, if_true, List.length_cons, List.length_nil, lval, upS_sr, sr_same, sr_sr, Nat.reduceEqDiff, not_false_eq_true, Classical.not_not, true_or, or_true, false_or, Nat.zero_add, Nat.add_zero, nI_add, pk_mul, Option.toList_some, Option.toList_none, List.cons_append, List.nil_append, n00, n11, n10, bv0, bv1, bft, bnf, bnt, Nat.reduceAdd, Nat.reduceEqDiff, Nat.reduceMul, Nat.reduceLT, Nat.reduceSub, true_implies, false_implies, not_true_eq_false, not_false_eq_true, true_and, and_true, sr_ne (show ¬ 21 = 20 by decide), sr_ne (show ¬ 20 = 21 by decide), sr_ne (show ¬ 22 = 20 by decide), sr_ne (show ¬ 22 = 21 by decide), sr_ne (show ¬ 20 = 22 by decide), sr_ne (show ¬ 21 = 22 by decide), kX0_nextAsker_0, kX0_nextAsker_1, kX0_nextAsker_4, kX0_nextAsker_5, kX0_nextAsker_6, kX0_nextAsker_8, kX0_nextAsker_10, kX0_nextAsker_11, kX0_nextAsker_14, kX0_nextAsker_15, kX0_nextAsker_18, kX0_nextAsker_19, kX0_nextAsker_20, kX0_nextAsker_21, kX0_nextAsker_23, kX0_nextAsker_24, kX0_nextAsker_27, kX0_nextAsker_29, kX0_nextAsker_31, kX0_nextAsker_32, kX0_nextAsker_35, kX0_nextAsker_37, kX0_nextAsker_38, kX0_nextAsker_39, kX0_nextAsker_42, kX0_nextAsker_43, kX0_nextAsker_46, kX0_nextAsker_48, kX0_nextAsker_49, kX0_nextAsker_50, kX0_nextAsker_53, kX0_nextAsker_55, kX0_nextAsker_56, kX0_nextAsker_59, kX0_nextAsker_62, kX0_nextAsker_64, kX0_nextAsker_65, kX0_nextAsker_68, kX0_nextAsker_71, kX0_nextAsker_72, xAld, xArrF, xBin, xCmp, xGet, xGetF, xIf, xInc, xLdA, xLdI, xQld, xQldF, xRet, xSt, fX0_18, fX0_41, fX0_56, fX0_67, fX0_9, cI_0, cI_1, cI_m1, lA_603, fAll, lA_604, lA_605, lA_606, lA_607, gC]
      exact hP
    · intro l5 hn
      have es : nI (nn R 1) - nI 1 = nI (nn R 1 - 1) := pk_sub (by omega)
      have es2 : nI (nn R 1 - 1) - nI i = nI (nn R 1 - 1 - i) := pk_sub (by omega)
      refine run X (rt := some .int) flX0_ok rfl tX0_nextAsker_ok 20 [8, 29] ?_
      simp only [go_go, gos_some, ctn_ctn, step, fv0, fv1, fv2, fv3, List.getElem?_cons_zero, List.getElem?_cons_succ, List.set_cons_zero, List.set_cons_succ, List.mem_cons, List.not_mem_nil, or_false, or_self, if_false, if_true, List.length_cons, List.length_nil, lval, upS_sr, sr_same, sr_sr, Nat.reduceEqDiff, not_false_eq_true, Classical.not_not, true_or, or_true, false_or, Nat.zero_add, Nat.add_zero, nI_add, pk_mul, Option.toList_some, Option.toList_none, List.cons_append, List.nil_append, n00, n11, n10, bv0, bv1, bft, bnf, bnt, Nat.reduceAdd, Nat.reduceEqDiff, Nat.reduceMul, Nat.reduceLT, Nat.reduceSub, true_implies, false_implies, not_true_eq_false, not_false_eq_true, true_and, and_true, sr_ne (show ¬ 21 = 20 by decide), sr_ne (show ¬ 20 = 21 by decide), sr_ne (show ¬ 22 = 20 by decide), sr_ne (show ¬ 22 = 21 by decide), sr_ne (show ¬ 20 = 22 by decide), sr_ne (show ¬ 21 = 22 by decide), kX0_nextAsker_0, kX0_nextAsker_1, kX0_nextAsker_4, kX0_nextAsker_5, kX0_nextAsker_6, kX0_nextAsker_8, kX0_nextAsker_10, kX0_nextAsker_11, kX0_nextAsker_14, kX0_nextAsker_15, kX0_nextAsker_18, kX0_nextAsker_19, kX0_nextAsker_20, kX0_nextAsker_21, kX0_nextAsker_23, kX0_nextAsker_24, kX0_nextAsker_27, kX0_nextAsker_29, kX0_nextAsker_31, kX0_nextAsker_32, kX0_nextAsker_35, kX0_nextAsker_37, kX0_nextAsker_38, kX0_nextAsker_39, kX0_nextAsker_42, kX0_nextAsker_43, kX0_nextAsker_46, kX0_nextAsker_48, kX0_nextAsker_49, kX0_nextAsker_50, kX0_nextAsker_53, kX0_nextAsker_55, kX0_nextAsker_56, kX0_nextAsker_59, kX0_nextAsker_62, kX0_nextAsker_64, kX0_nextAsker_65, kX0_nextAsker_68, kX0_nextAsker_71, kX0_nextAsker_72, xAld, xArrF, xBin, xCmp, xGet, xGetF, xIf, xInc, xLdA, xLdI, xQld, xQldF, xRet, xSt, fX0_18, fX0_41, fX0_56, fX0_67, fX0_9, cI_0, cI_1, cI_m1, lA_603, fAll, lA_604, lA_605, lA_606, lA_607, nI_ge hi hNc, bv_t, es, es2]
      refine body (nn R 1 - 1 - i) i l5 (by omega) (fun e => ?_) (fun e => ?_)
      · rw [Bool.not_true, nxA_hi (i := nn R 1 - 1 - i) (by omega) e (fun k h1 h2 => by have := hn (nn R 1 - 1 - k) (by omega); rw [show nn R 1 - 1 - (nn R 1 - 1 - k) = k by omega] at this; exact this)] at hP
        exact hP
      · refine run X (rt := some .int) flX0_ok rfl tX0_nextAsker_ok 20 [8] ?_
        simp only [go_go, gos_some, ctn_ctn, step, fv0, fv1, fv2, fv3, List.getElem?_cons_zero, List.getElem?_cons_succ, List.set_cons_zero, List.set_cons_succ, List.mem_cons, List.not_mem_nil, or_false, or_self, if_false, if_true, List.length_cons, List.length_nil, lval, upS_sr, sr_same, sr_sr, Nat.reduceEqDiff, not_false_eq_true, Classical.not_not, true_or, or_true, false_or, Nat.zero_add, Nat.add_zero, nI_add, pk_mul, Option.toList_some, Option.toList_none, List.cons_append, List.nil_append, n00, n11, n10, bv0, bv1, bft, bnf, bnt, Nat.reduceAdd, Nat.reduceEqDiff, Nat.reduceMul, Nat.reduceLT, Nat.reduceSub, true_implies, false_implies, not_true_eq_false, not_false_eq_true, true_and, and_true, sr_ne (show ¬ 21 = 20 by decide), sr_ne (show ¬ 20 = 21 by decide), sr_ne (show ¬ 22 = 20 by decide), sr_ne (show ¬ 22 = 21 by decide), sr_ne (show ¬ 20 = 22 by decide), sr_ne (show ¬ 21 = 22 by decide), kX0_nextAsker_0, kX0_nextAsker_1, kX0_nextAsker_4, kX0_nextAsker_5, kX0_nextAsker_6, kX0_nextAsker_8, kX0_nextAsker_10, kX0_nextAsker_11, kX0_nextAsker_14, kX0_nextAsker_15, kX0_nextAsker_18, kX0_nextAsker_19, kX0_nextAsker_20, kX0_nextAsker_21, kX0_nextAsker_23, kX0_nextAsker_24, kX0_nextAsker_27, kX0_nextAsker_29, kX0_nextAsker_31, kX0_nextAsker_32, kX0_nextAsker_35, kX0_nextAsker_37, kX0_nextAsker_38, kX0_nextAsker_39, kX0_nextAsker_42, kX0_nextAsker_43, kX0_nextAsker_46, kX0_nextAsker_48, kX0_nextAsker_49, kX0_nextAsker_50, kX0_nextAsker_53, kX0_nextAsker_55, kX0_nextAsker_56, kX0_nextAsker_59, kX0_nextAsker_62, kX0_nextAsker_64, kX0_nextAsker_65, kX0_nextAsker_68, kX0_nextAsker_71, kX0_nextAsker_72, xAld, xArrF, xBin, xCmp, xGet, xGetF, xIf, xInc, xLdA, xLdI, xQld, xQldF, xRet, xSt, fX0_18, fX0_41, fX0_56, fX0_67, fX0_9, cI_0, cI_1, cI_m1, lA_603, fAll, lA_604, lA_605, lA_606, lA_607]
        refine ih _ (fun o ho => ?_)
        by_cases e2 : o = i
        · subst e2; exact e
        · exact hn o (by omega)
theorem c_keyAt {E : WE} {s : ST} {i j : Nat} (hi : i < 24) (hj : j < 6) : SpR E mX0_keyAt 0 [.ref (aF E 603), .int (nI i), .int (nI j)] s (some (.int (s.1 14 (i * 6 + j)))) s := by
  refine SpR.of vX0_keyAt.1 [some (.ref (aF E 603)), some (.int (nI i)), some (.int (nI j))] rfl (Nat.le_of_ble_eq_true rfl) rfl (fun C P X hP => ?_)
  refine run X (rt := some .int) flX0_ok rfl tX0_keyAt_ok 20 [] ?_
  simp only [go_go, gos_some, ctn_ctn, step, fv0, fv1, fv2, fv3, List.getElem?_cons_zero, List.getElem?_cons_succ, List.set_cons_zero, List.set_cons_succ, List.mem_cons, List.not_mem_nil, or_false, or_self, if_false, if_true, List.length_cons, List.length_nil, lval, upS_sr, sr_same, sr_sr, Nat.reduceEqDiff, not_false_eq_true, Classical.not_not, true_or, or_true, false_or, Nat.zero_add, Nat.add_zero, nI_add, pk_mul, Option.toList_some, Option.toList_none, List.cons_append, List.nil_append, n00, n11, n10, bv0, bv1, bft, bnf, bnt, Nat.reduceAdd, Nat.reduceEqDiff, Nat.reduceMul, Nat.reduceLT, Nat.reduceSub, true_implies, false_implies, not_true_eq_false, not_false_eq_true, true_and, and_true, sr_ne (show ¬ 21 = 20 by decide), sr_ne (show ¬ 20 = 21 by decide), sr_ne (show ¬ 22 = 20 by decide), sr_ne (show ¬ 22 = 21 by decide), sr_ne (show ¬ 20 = 22 by decide), sr_ne (show ¬ 21 = 22 by decide), kX0_keyAt_0, kX0_keyAt_1, kX0_keyAt_4, kX0_keyAt_5, kX0_keyAt_7, kX0_keyAt_8, kX0_keyAt_9, kX0_keyAt_10, kX0_keyAt_11, xAld, xArrF, xBin, xGet, xGetF, xLdA, xLdI, xRet, fX0_21, bI_6, lA_603, fAll, lA_604, lA_605, lA_606, lA_607, vp_in_nI (show i * 6 + j < 144 by omega) (show 144 < 2 ^ 31 by decide), nI31 (show i * 6 + j < 2 ^ 31 by omega)]
  exact hP
theorem zs_seat {R : RW} : ∀ {k i : Nat}, i < k → zs R k (57 + 13 * i + 10) = -1
  | 0, i, h => absurd h (Nat.not_lt_zero i)
  | k + 1, i, h => by
    rw [zs]
    by_cases e : i = k
    · subst e; exact ur_eq
    · rw [ur_ne (by omega)]; exact zs_seat (by omega)
set_option maxRecDepth 10000 in
theorem c_beginRound {E : WE} {s : ST} {R Q : RW} (hS : Sh (s.1 0) R) (hI : Inv R) (hQ : Inv Q) (hq : samQ R Q) (hm : ∀ i, i < nn R 1 → s.1 12 i = Q (57 + 13 * i + 11)) : SpQ E mX0_beginRound 4 [.ref (aF E 603), .ref (aD E 0)] s none (fun s' => aT_ s s' ∧ AL s' R (zs Q (nn Q 1)) (fun _ => 0)) := by
  refine SpQ.of vX0_beginRound.1 [some (.ref (aF E 603)), some (.ref (aD E 0)), none, none] rfl (Nat.le_of_ble_eq_true rfl) rfl (fun C P X hP => ?_)
  have hc := hI.c
  have hs := hI.s
  have h0 : s.1 0 0 = nI (nn R 0) := hS.1.1.trans hI.s0
  have h1 : s.1 0 1 = nI (nn R 1) := hS.1.2.1.trans hI.c0
  have hNc : nn R 1 < 2 ^ 31 := by omega
  have hNs : nn R 0 < 2 ^ 31 := by omega
  have gC := nI_le (Nat.le_refl (nn R 1)) hNc
  have gS := nI_le (Nat.le_refl (nn R 0)) hNs
  have hn1 := hq.n1
  obtain ⟨z1, z2⟩ := zs_ok hQ (nn Q 1) (Nat.le_refl _)
  suffices key : ∀ (s1 : ST) (l3 : Option Value), aT_ s s1 → s1.1 12 = s.1 12 → (∀ o, o < 0 → s1.1 11 o = -1 ∧ s1.1 13 o = nI 0 ∧ ∀ j, j < nn R 0 → s1.1 14 (o * 6 + j) = nI (ky Q o j)) → JM E mX0_beginRound C 4 0 0 P 2 [some (.ref (aF E 603)), some (.ref (aD E 0)), some (.int (nI 0)), l3] [] s1 by
    refine run X (rt := none) flX0_ok rfl tX0_beginRound_ok 20 [2] ?_
    simp only [go_go, gos_some, ctn_ctn, step, fv0, fv1, fv2, fv3, List.getElem?_cons_zero, List.getElem?_cons_succ, List.set_cons_zero, List.set_cons_succ, List.mem_cons, List.not_mem_nil, or_false, or_self, if_false, if_true, List.length_cons, List.length_nil, lval, upS_sr, sr_same, sr_sr, Nat.reduceEqDiff, not_false_eq_true, Classical.not_not, true_or, or_true, false_or, Nat.zero_add, Nat.add_zero, nI_add, pk_mul, Option.toList_some, Option.toList_none, List.cons_append, List.nil_append, n00, n11, n10, bv0, bv1, bft, bnf, bnt, Nat.reduceAdd, Nat.reduceEqDiff, Nat.reduceMul, Nat.reduceLT, Nat.reduceSub, true_implies, false_implies, not_true_eq_false, not_false_eq_true, true_and, and_true, sr_ne (show ¬ 21 = 20 by decide), sr_ne (show ¬ 20 = 21 by decide), sr_ne (show ¬ 22 = 20 by decide), sr_ne (show ¬ 22 = 21 by decide), sr_ne (show ¬ 20 = 22 by decide), sr_ne (show ¬ 21 = 22 by decide), kX0_beginRound_0, kX0_beginRound_1, kX0_beginRound_2, kX0_beginRound_3, kX0_beginRound_4, kX0_beginRound_7, kX0_beginRound_10, kX0_beginRound_11, kX0_beginRound_14, kX0_beginRound_15, kX0_beginRound_16, kX0_beginRound_17, kX0_beginRound_18, kX0_beginRound_21, kX0_beginRound_22, kX0_beginRound_23, kX0_beginRound_24, kX0_beginRound_25, kX0_beginRound_26, kX0_beginRound_27, kX0_beginRound_28, kX0_beginRound_31, kX0_beginRound_34, kX0_beginRound_35, kX0_beginRound_38, kX0_beginRound_39, kX0_beginRound_41, kX0_beginRound_42, kX0_beginRound_43, kX0_beginRound_44, kX0_beginRound_45, kX0_beginRound_46, kX0_beginRound_47, kX0_beginRound_48, kX0_beginRound_51, kX0_beginRound_52, kX0_beginRound_53, kX0_beginRound_56, kX0_beginRound_57, kX0_beginRound_60, kX0_beginRound_63, kX0_beginRound_66, kX0_beginRound_69, Nat.zero_ne_one, xAld, xArrF, xAst, xBin, xCmp, xGet, xGetF, xInc, xLdA, xLdI, xSt, xVret, fX0_15, fX0_18, fX0_21, fX0_56, fX0_60, fX0_9, bI_6, cI_0, cI_1, cI_m1, lA_603, fAll, lA_604, lA_605, lA_606, lA_607]
    exact key s none aT_.rf rfl (fun o ho => absurd ho (Nat.not_lt_zero o))
  refine loopU (N := nn R 1) (I := fun i => ∀ (s1 : ST) (l3 : Option Value), aT_ s s1 → s1.1 12 = s.1 12 → (∀ o, o < i → s1.1 11 o = -1 ∧ s1.1 13 o = nI 0 ∧ ∀ j, j < nn R 0 → s1.1 14 (o * 6 + j) = nI (ky Q o j)) → JM E mX0_beginRound C 4 0 0 P 2 [some (.ref (aF E 603)), some (.ref (aD E 0)), some (.int (nI i)), l3] [] s1) ?_ (fun i hi ih => ?_)
  · intro s1 l3 hf h12 hB
    have e1 : s1.1 0 1 = nI (nn R 1) := by rw [hf.2 0 (by omega)]; exact h1
    refine run X (rt := none) flX0_ok rfl tX0_beginRound_ok 20 [2, 26] ?_
    simp only [go_go, gos_some, ctn_ctn, step, fv0, fv1, fv2, fv3, List.getElem?_cons_zero, List.getElem?_cons_succ, List.set_cons_zero, List.set_cons_succ, List.mem_cons, List.not_mem_nil, or_false, or_self, if_false, if_true, List.length_cons, List.length_nil, lval, upS_sr, sr_same, sr_sr, Nat.reduceEqDiff, not_false_eq_true, Classical.not_not, true_or, or_true, false_or, Nat.zero_add, Nat.add_zero, nI_add, pk_mul, Option.toList_some, Option.toList_none, List.cons_append, List.nil_append, n00, n11, n10, bv0, bv1, bft, bnf, bnt, Nat.reduceAdd, Nat.reduceEqDiff, Nat.reduceMul, Nat.reduceLT, Nat.reduceSub, true_implies, false_implies, not_true_eq_false, not_false_eq_true, true_and, and_true, sr_ne (show ¬ 21 = 20 by decide), sr_ne (show ¬ 20 = 21 by decide), sr_ne (show ¬ 22 = 20 by decide), sr_ne (show ¬ 22 = 21 by decide), sr_ne (show ¬ 20 = 22 by decide), sr_ne (show ¬ 21 = 22 by decide), kX0_beginRound_0, kX0_beginRound_1, kX0_beginRound_2, kX0_beginRound_3, kX0_beginRound_4, kX0_beginRound_7, kX0_beginRound_10, kX0_beginRound_11, kX0_beginRound_14, kX0_beginRound_15, kX0_beginRound_16, kX0_beginRound_17, kX0_beginRound_18, kX0_beginRound_21, kX0_beginRound_22, kX0_beginRound_23, kX0_beginRound_24, kX0_beginRound_25, kX0_beginRound_26, kX0_beginRound_27, kX0_beginRound_28, kX0_beginRound_31, kX0_beginRound_34, kX0_beginRound_35, kX0_beginRound_38, kX0_beginRound_39, kX0_beginRound_41, kX0_beginRound_42, kX0_beginRound_43, kX0_beginRound_44, kX0_beginRound_45, kX0_beginRound_46, kX0_beginRound_47, kX0_beginRound_48, kX0_beginRound_51, kX0_beginRound_52, kX0_beginRound_53, kX0_beginRound_56, kX0_beginRound_57, kX0_beginRound_60, kX0_beginRound_63, kX0_beginRound_66, kX0_beginRound_69, Nat.zero_ne_one, xAld, xArrF, xAst, xBin, xCmp, xGet, xGetF, xInc, xLdA, xLdI, xSt, xVret, fX0_15, fX0_18, fX0_21, fX0_56, fX0_60, fX0_9, bI_6, cI_0, cI_1, cI_m1, lA_603, fAll, lA_604, lA_605, lA_606, lA_607, lD0, fDesk, e1, gC]
    refine hP _ ⟨hf, ⟨by rw [hf.2 0 (by omega)]; exact hS, hI, z1, hq.tr z2.q⟩, fun o ho => ?_, fun o ho => ?_, fun o ho => ⟨(hB o ho).2.1, Nat.zero_le _⟩, fun o j ho hj => ?_⟩
    · rw [(hB o ho).1, zs_seat (by omega)]
    · rw [h12, hm o ho, z2 _ (fun i' hi' => by omega)]
    · rw [(hB o ho).2.2 j hj, samS_ky z2 hQ (by rw [hn1]; exact ho) (by rw [hq.n0]; exact hj)]
  · intro s1 l3 hf h12 hB
    have e1 : s1.1 0 1 = nI (nn R 1) := by rw [hf.2 0 (by omega)]; exact h1
    refine run X (rt := none) flX0_ok rfl tX0_beginRound_ok 40 [2, 26] ?_
    simp only [go_go, gos_some, ctn_ctn, step, fv0, fv1, fv2, fv3, List.getElem?_cons_zero, List.getElem?_cons_succ, List.set_cons_zero, List.set_cons_succ, List.mem_cons, List.not_mem_nil, or_false, or_self, if_false, if_true, List.length_cons, List.length_nil, lval, upS_sr, sr_same, sr_sr, Nat.reduceEqDiff, not_false_eq_true, Classical.not_not, true_or, or_true, false_or, Nat.zero_add, Nat.add_zero, nI_add, pk_mul, Option.toList_some, Option.toList_none, List.cons_append, List.nil_append, n00, n11, n10, bv0, bv1, bft, bnf, bnt, Nat.reduceAdd, Nat.reduceEqDiff, Nat.reduceMul, Nat.reduceLT, Nat.reduceSub, true_implies, false_implies, not_true_eq_false, not_false_eq_true, true_and, and_true, sr_ne (show ¬ 21 = 20 by decide), sr_ne (show ¬ 20 = 21 by decide), sr_ne (show ¬ 22 = 20 by decide), sr_ne (show ¬ 22 = 21 by decide), sr_ne (show ¬ 20 = 22 by decide), sr_ne (show ¬ 21 = 22 by decide), kX0_beginRound_0, kX0_beginRound_1, kX0_beginRound_2, kX0_beginRound_3, kX0_beginRound_4, kX0_beginRound_7, kX0_beginRound_10, kX0_beginRound_11, kX0_beginRound_14, kX0_beginRound_15, kX0_beginRound_16, kX0_beginRound_17, kX0_beginRound_18, kX0_beginRound_21, kX0_beginRound_22, kX0_beginRound_23, kX0_beginRound_24, kX0_beginRound_25, kX0_beginRound_26, kX0_beginRound_27, kX0_beginRound_28, kX0_beginRound_31, kX0_beginRound_34, kX0_beginRound_35, kX0_beginRound_38, kX0_beginRound_39, kX0_beginRound_41, kX0_beginRound_42, kX0_beginRound_43, kX0_beginRound_44, kX0_beginRound_45, kX0_beginRound_46, kX0_beginRound_47, kX0_beginRound_48, kX0_beginRound_51, kX0_beginRound_52, kX0_beginRound_53, kX0_beginRound_56, kX0_beginRound_57, kX0_beginRound_60, kX0_beginRound_63, kX0_beginRound_66, kX0_beginRound_69, Nat.zero_ne_one, xAld, xArrF, xAst, xBin, xCmp, xGet, xGetF, xInc, xLdA, xLdI, xSt, xVret, fX0_15, fX0_18, fX0_21, fX0_56, fX0_60, fX0_9, bI_6, cI_0, cI_1, cI_m1, lA_603, fAll, lA_604, lA_605, lA_606, lA_607, lD0, fDesk, e1, nI_ge hi hNc, vp_in_nI (show i < 24 by omega) (show 24 < 2 ^ 31 by decide), nI31 (show i < 2 ^ 31 by omega), sr_ne (show ¬ 13 = 11 by decide), Nat.zero_ne_one]
    generalize hs2 : sr (sr s1 11 (ur (s1.1 11) i (-1))) 13 (ur (s1.1 13) i (nI 0)) = s2
    have f2 : aT_ s s2 := by rw [← hs2]; exact hf.tr ((aT_.sr (by omega)).tr (aT_.sr (by omega)))
    have g12 : s2.1 12 = s.1 12 := by rw [← hs2, sr_ne (by decide), sr_ne (by decide)]; exact h12
    have g11 : ∀ o, o < i + 1 → s2.1 11 o = -1 := fun o ho => by
      rw [← hs2, sr_ne (by decide), sr_same]
      by_cases e : o = i
      · subst e; exact ur_eq
      · rw [ur_ne e]; exact (hB o (by omega)).1
    have g13 : ∀ o, o < i + 1 → s2.1 13 o = nI 0 := fun o ho => by
      rw [← hs2, sr_same]
      by_cases e : o = i
      · subst e; exact ur_eq
      · rw [ur_ne e]; exact (hB o (by omega)).2.1
    have g14 : ∀ o j, o < i → j < nn R 0 → s2.1 14 (o * 6 + j) = nI (ky Q o j) := fun o j ho hj => by
      rw [← hs2, sr_ne (by decide), sr_ne (by decide)]; exact (hB o ho).2.2 j hj
    suffices key : ∀ s3 : ST, aT_ s s3 → s3.1 12 = s.1 12 → s3.1 11 = s2.1 11 → s3.1 13 = s2.1 13 → (∀ o j, o < i → j < nn R 0 → s3.1 14 (o * 6 + j) = nI (ky Q o j)) → (∀ j, j < 0 → s3.1 14 (i * 6 + j) = nI (ky Q i j)) → JM E mX0_beginRound C 4 0 0 P 26 [some (.ref (aF E 603)), some (.ref (aD E 0)), some (.int (nI i)), some (.int (nI 0))] [] s3 from key s2 f2 g12 rfl rfl g14 (fun j hj => absurd hj (Nat.not_lt_zero j))
    refine loopU (N := nn R 0) (I := fun j => ∀ s3 : ST, aT_ s s3 → s3.1 12 = s.1 12 → s3.1 11 = s2.1 11 → s3.1 13 = s2.1 13 → (∀ o j, o < i → j < nn R 0 → s3.1 14 (o * 6 + j) = nI (ky Q o j)) → (∀ j', j' < j → s3.1 14 (i * 6 + j') = nI (ky Q i j')) → JM E mX0_beginRound C 4 0 0 P 26 [some (.ref (aF E 603)), some (.ref (aD E 0)), some (.int (nI i)), some (.int (nI j))] [] s3) ?_ (fun j hj ih2 => ?_)
    · intro s3 k0 k12 k11 k13 k14 kj
      have e0 : s3.1 0 0 = nI (nn R 0) := by rw [k0.2 0 (by omega)]; exact h0
      refine run X (rt := none) flX0_ok rfl tX0_beginRound_ok 40 [2, 26] ?_
      simp only [go_go, gos_some, ctn_ctn, step, fv0, fv1, fv2, fv3, List.getElem?_cons_zero, List.getElem?_cons_succ, List.set_cons_zero, List.set_cons_succ, List.mem_cons, List.not_mem_nil, or_false, or_self, if_false, if_true, List.length_cons, List.length_nil, lval, upS_sr, sr_same, sr_sr, Nat.reduceEqDiff, not_false_eq_true, Classical.not_not, true_or, or_true, false_or, Nat.zero_add, Nat.add_zero, nI_add, pk_mul, Option.toList_some, Option.toList_none, List.cons_append, List.nil_append, n00, n11, n10, bv0, bv1, bft, bnf, bnt, Nat.reduceAdd, Nat.reduceEqDiff, Nat.reduceMul, Nat.reduceLT, Nat.reduceSub, true_implies, false_implies, not_true_eq_false, not_false_eq_true, true_and, and_true, sr_ne (show ¬ 21 = 20 by decide), sr_ne (show ¬ 20 = 21 by decide), sr_ne (show ¬ 22 = 20 by decide), sr_ne (show ¬ 22 = 21 by decide), sr_ne (show ¬ 20 = 22 by decide), sr_ne (show ¬ 21 = 22 by decide), kX0_beginRound_0, kX0_beginRound_1, kX0_beginRound_2, kX0_beginRound_3, kX0_beginRound_4, kX0_beginRound_7, kX0_beginRound_10, kX0_beginRound_11, kX0_beginRound_14, kX0_beginRound_15, kX0_beginRound_16, kX0_beginRound_17, kX0_beginRound_18, kX0_beginRound_21, kX0_beginRound_22, kX0_beginRound_23, kX0_beginRound_24, kX0_beginRound_25, kX0_beginRound_26, kX0_beginRound_27, kX0_beginRound_28, kX0_beginRound_31, kX0_beginRound_34, kX0_beginRound_35, kX0_beginRound_38, kX0_beginRound_39, kX0_beginRound_41, kX0_beginRound_42, kX0_beginRound_43, kX0_beginRound_44, kX0_beginRound_45, kX0_beginRound_46, kX0_beginRound_47, kX0_beginRound_48, kX0_beginRound_51, kX0_beginRound_52, kX0_beginRound_53, kX0_beginRound_56, kX0_beginRound_57, kX0_beginRound_60, kX0_beginRound_63, kX0_beginRound_66, kX0_beginRound_69, Nat.zero_ne_one, xAld, xArrF, xAst, xBin, xCmp, xGet, xGetF, xInc, xLdA, xLdI, xSt, xVret, fX0_15, fX0_18, fX0_21, fX0_56, fX0_60, fX0_9, bI_6, cI_0, cI_1, cI_m1, lA_603, fAll, lA_604, lA_605, lA_606, lA_607, lD0, fDesk, e0, gS]
      refine ih s3 _ k0 k12 (fun o ho => ⟨by rw [k11]; exact g11 o ho, by rw [k13]; exact g13 o ho, fun j hj => ?_⟩)
      by_cases e : o = i
      · subst e; exact kj j hj
      · exact k14 o j (by omega) hj
    · intro s3 k0 k12 k11 k13 k14 kj
      have e0 : s3.1 0 0 = nI (nn R 0) := by rw [k0.2 0 (by omega)]; exact h0
      have hS3 : Sh (s3.1 0) R := by rw [k0.2 0 (by omega)]; exact hS
      have e12 : s3.1 12 i = Q (57 + 13 * i + 11) := by rw [k12]; exact hm i hi
      have hj6 : j < 6 := by omega
      refine run X (rt := none) flX0_ok rfl tX0_beginRound_ok 40 [2, 26] ?_
      simp only [go_go, gos_some, ctn_ctn, step, fv0, fv1, fv2, fv3, List.getElem?_cons_zero, List.getElem?_cons_succ, List.set_cons_zero, List.set_cons_succ, List.mem_cons, List.not_mem_nil, or_false, or_self, if_false, if_true, List.length_cons, List.length_nil, lval, upS_sr, sr_same, sr_sr, Nat.reduceEqDiff, not_false_eq_true, Classical.not_not, true_or, or_true, false_or, Nat.zero_add, Nat.add_zero, nI_add, pk_mul, Option.toList_some, Option.toList_none, List.cons_append, List.nil_append, n00, n11, n10, bv0, bv1, bft, bnf, bnt, Nat.reduceAdd, Nat.reduceEqDiff, Nat.reduceMul, Nat.reduceLT, Nat.reduceSub, true_implies, false_implies, not_true_eq_false, not_false_eq_true, true_and, and_true, sr_ne (show ¬ 21 = 20 by decide), sr_ne (show ¬ 20 = 21 by decide), sr_ne (show ¬ 22 = 20 by decide), sr_ne (show ¬ 22 = 21 by decide), sr_ne (show ¬ 20 = 22 by decide), sr_ne (show ¬ 21 = 22 by decide), kX0_beginRound_0, kX0_beginRound_1, kX0_beginRound_2, kX0_beginRound_3, kX0_beginRound_4, kX0_beginRound_7, kX0_beginRound_10, kX0_beginRound_11, kX0_beginRound_14, kX0_beginRound_15, kX0_beginRound_16, kX0_beginRound_17, kX0_beginRound_18, kX0_beginRound_21, kX0_beginRound_22, kX0_beginRound_23, kX0_beginRound_24, kX0_beginRound_25, kX0_beginRound_26, kX0_beginRound_27, kX0_beginRound_28, kX0_beginRound_31, kX0_beginRound_34, kX0_beginRound_35, kX0_beginRound_38, kX0_beginRound_39, kX0_beginRound_41, kX0_beginRound_42, kX0_beginRound_43, kX0_beginRound_44, kX0_beginRound_45, kX0_beginRound_46, kX0_beginRound_47, kX0_beginRound_48, kX0_beginRound_51, kX0_beginRound_52, kX0_beginRound_53, kX0_beginRound_56, kX0_beginRound_57, kX0_beginRound_60, kX0_beginRound_63, kX0_beginRound_66, kX0_beginRound_69, Nat.zero_ne_one, xAld, xArrF, xAst, xBin, xCmp, xGet, xGetF, xInc, xLdA, xLdI, xSt, xVret, fX0_15, fX0_18, fX0_21, fX0_56, fX0_60, fX0_9, bI_6, cI_0, cI_1, cI_m1, lA_603, fAll, lA_604, lA_605, lA_606, lA_607, lD0, fDesk, e0, nI_ge hj hNs, vp_in_nI (show i < 24 by omega) (show 24 < 2 ^ 31 by decide), nI31 (show i < 2 ^ 31 by omega), e12]
      refine cV X  tX0_beginRound_ok kX0_beginRound_53 (c_rankKey hS3 hI hi hj) vX3_rankKey lX0_63 (lA_D (d := 0) (by decide)) rfl rfl rfl (Nat.le_of_ble_eq_true rfl) (Nat.le_of_ble_eq_true rfl) ?_
      rw [kyM_Q hq hI hi hj]
      refine run X (rt := none) flX0_ok rfl tX0_beginRound_ok 40 [2, 26] ?_
      simp only [go_go, gos_some, ctn_ctn, step, fv0, fv1, fv2, fv3, List.getElem?_cons_zero, List.getElem?_cons_succ, List.set_cons_zero, List.set_cons_succ, List.mem_cons, List.not_mem_nil, or_false, or_self, if_false, if_true, List.length_cons, List.length_nil, lval, upS_sr, sr_same, sr_sr, Nat.reduceEqDiff, not_false_eq_true, Classical.not_not, true_or, or_true, false_or, Nat.zero_add, Nat.add_zero, nI_add, pk_mul, Option.toList_some, Option.toList_none, List.cons_append, List.nil_append, n00, n11, n10, bv0, bv1, bft, bnf, bnt, Nat.reduceAdd, Nat.reduceEqDiff, Nat.reduceMul, Nat.reduceLT, Nat.reduceSub, true_implies, false_implies, not_true_eq_false, not_false_eq_true, true_and, and_true, sr_ne (show ¬ 21 = 20 by decide), sr_ne (show ¬ 20 = 21 by decide), sr_ne (show ¬ 22 = 20 by decide), sr_ne (show ¬ 22 = 21 by decide), sr_ne (show ¬ 20 = 22 by decide), sr_ne (show ¬ 21 = 22 by decide), kX0_beginRound_0, kX0_beginRound_1, kX0_beginRound_2, kX0_beginRound_3, kX0_beginRound_4, kX0_beginRound_7, kX0_beginRound_10, kX0_beginRound_11, kX0_beginRound_14, kX0_beginRound_15, kX0_beginRound_16, kX0_beginRound_17, kX0_beginRound_18, kX0_beginRound_21, kX0_beginRound_22, kX0_beginRound_23, kX0_beginRound_24, kX0_beginRound_25, kX0_beginRound_26, kX0_beginRound_27, kX0_beginRound_28, kX0_beginRound_31, kX0_beginRound_34, kX0_beginRound_35, kX0_beginRound_38, kX0_beginRound_39, kX0_beginRound_41, kX0_beginRound_42, kX0_beginRound_43, kX0_beginRound_44, kX0_beginRound_45, kX0_beginRound_46, kX0_beginRound_47, kX0_beginRound_48, kX0_beginRound_51, kX0_beginRound_52, kX0_beginRound_53, kX0_beginRound_56, kX0_beginRound_57, kX0_beginRound_60, kX0_beginRound_63, kX0_beginRound_66, kX0_beginRound_69, Nat.zero_ne_one, xAld, xArrF, xAst, xBin, xCmp, xGet, xGetF, xInc, xLdA, xLdI, xSt, xVret, fX0_15, fX0_18, fX0_21, fX0_56, fX0_60, fX0_9, bI_6, cI_0, cI_1, cI_m1, lA_603, fAll, lA_604, lA_605, lA_606, lA_607, vp_in_nI (show i * 6 + j < 144 by omega) (show 144 < 2 ^ 31 by decide), nI31 (show i * 6 + j < 2 ^ 31 by omega), Nat.zero_ne_one]
      refine ih2 _ (k0.tr (aT_.sr (by omega))) (by rw [sr_ne (by decide)]; exact k12) (by rw [sr_ne (by decide)]; exact k11) (by rw [sr_ne (by decide)]; exact k13) (fun o j' ho hj' => ?_) (fun j' hj' => ?_)
      · rw [sr_same, ur_ne (by omega)]; exact k14 o j' ho hj'
      · rw [sr_same]
        by_cases e : j' = j
        · subst e; exact ur_eq
        · rw [ur_ne (by omega)]; exact kj j' (by omega)
