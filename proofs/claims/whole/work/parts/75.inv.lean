/-! ===== what each call leaves is a state again ===== -/
theorem AInv.o {B : Nat} {a : AS} (h : AInv B a) : AInv (B + 200) a := h.mono (by omega)
theorem pwI {B : Nat} {a : AS} (h : AInv B a) {R : RW} (hR : ROk (B + 200) R) : AInv (B + 200) (wR (puA a) R) := (h.mono (Nat.le_add_right B 200)).pu.wR hR
theorem AInv.g {B : Nat} {a : AS} (h : AInv B a) {n : Nat} (hn : n ≤ 4) : AInv B (wG a (nI n)) := ⟨h.1, h.2.1, h.2.2.1, ⟨⟨n, hn, rfl⟩, h.2.2.2.1.2⟩, h.2.2.2.2⟩
theorem AInv.e {B : Nat} {a : AS} (h : AInv B a) {n : Nat} (hn : n ≤ 40) : AInv B (wE a (nI n)) := ⟨h.1, h.2.1, h.2.2.1, ⟨h.2.2.2.1.1, Or.inr ⟨n, hn, rfl⟩⟩, h.2.2.2.2⟩
theorem ROk.f2 {B : Nat} {R : RW} (h : ROk (B + 1) R) (hB : B + 300 ≤ 1073741824) : ROk (B + 200) (flN 96 R).2 := (h.fl (by omega)).mono (by omega)
theorem i_addSchool {B : Nat} {a : AS} (hA : AInv B a) {x y se ra : Int32} : AInv (B + 200) (oAddSchool x y se ra a).1 := by
  have hI := hA.inv
  have hs := hI.s
  unfold oAddSchool
  split
  · rename_i c
    simp only [Bool.and_eq_true] at c
    split
    · exact hA.o
    · refine pwI hA ⟨nSc_inv hI (by omega) (lt9 99 x c.1.1.1 (by decide)) (lt9 99 y c.1.1.2 (by decide)) (lt9 12 se c.1.2 (by decide)) (lt9 198 ra c.2 (by decide)), ?_⟩
      rw [show nn (nSc (aR a) x y se ra) 2 = nn (aR a) 2 from by unfold nn; rw [nSc_lo (by decide) (by omega)]]
      have := hA.1.2
      omega
  · exact hA.o
theorem i_set {B : Nat} {a : AS} (hA : AInv B a) {w m : Nat} {x v : Int32} (hw : w < 7) (hm : m = bS w) (hm2 : m + 1 < 2 ^ 31) : AInv (B + 200) (oSet w m x v a).1 := by
  have hs := hA.inv.s
  unfold oSet
  split
  · rename_i c
    split
    · rename_i c2
      obtain ⟨j, hj, rfl⟩ := ixB_of (by omega) c
      rw [nx_nI (by omega)]
      exact pwI hA ((hA.1.us hj hw (hm ▸ lt9 m v c2 hm2)).mono (by omega))
    · exact hA.o
  · exact hA.o
theorem i_setSeats {B : Nat} {a : AS} (hA : AInv B a) (hB : B + 200 ≤ 1073741824) {x v : Int32} : AInv (B + 200) (oSetSeats x v a).1 := by
  have hs := hA.inv.s
  unfold oSetSeats
  split
  · rename_i c
    split
    · rename_i c2
      obtain ⟨j, hj, rfl⟩ := ixB_of (by omega) c
      rw [nx_nI (by omega)]
      exact pwI hA (((hA.1.us (w := 2) hj (by decide) (lt9 12 v c2 (by decide))).fl hB).mono (by omega))
    · exact hA.o
  · exact hA.o
theorem Inv.pu9 {R : RW} (h : Inv R) {f : Nat} {v : Int32} (hf : f < 12) : Inv (ur R (45 + f) v) := by
  have hs := h.s
  have hc := h.c
  rw [Inv.alt] at h ⊢
  obtain ⟨⟨h0, h1, h2⟩, a3, a4, a5⟩ := h
  have n : ∀ k, ¬ k = 45 + f → nn (ur R (45 + f) v) k = nn R k := fun k hk => nn_ur_ne hk
  refine ⟨⟨⟨by rw [ur_ne (by omega), n 0 (by omega)]; exact h0.1, by rw [n 0 (by omega)]; exact h0.2⟩, ⟨by rw [ur_ne (by omega), n 1 (by omega)]; exact h1.1, by rw [n 1 (by omega)]; exact h1.2⟩, ⟨by rw [ur_ne (by omega), n 2 (by omega)]; exact h2.1, by rw [n 2 (by omega)]; exact h2.2⟩⟩, fun j w hj hw => ?_, fun i w hi hw => ?_, fun i p hi hp => ?_⟩
  · rw [n 0 (by omega)] at hj
    rw [ur_ne (by omega)]; exact a3 j w hj hw
  · rw [n 1 (by omega)] at hi
    rw [n 0 (by omega), ur_ne (by omega)]; exact a4 i w hi hw
  · rw [n 1 (by omega)] at hi
    rw [n _ (by omega)] at hp
    rw [n 0 (by omega), ur_ne (by omega)]; exact a5 i p hi hp
theorem i_setPupils {B : Nat} {a : AS} (hA : AInv B a) {f x : Int32} {b : Bool} : AInv (B + 200) (oSetPupils f x b a).1 := by
  unfold oSetPupils
  split
  · rename_i c
    simp only [Bool.and_eq_true] at c
    obtain ⟨q, hq, rfl⟩ := ixB_of (by decide) c.1
    rw [nx_nI (by omega)]
    refine pwI hA ⟨hA.inv.pu9 hq, ?_⟩
    rw [nn_ur_ne (by omega)]
    have := hA.1.2
    omega
  · exact hA.o
theorem opt2_1 {a : AS} {o : Option Int32} : (opt2 a o).1 = a := by cases o <;> rfl
theorem opt1_1 {a : AS} {o : Option Int32} : (opt1 a o).1 = a := by cases o <;> rfl
theorem i_school {B : Nat} {a : AS} (hA : AInv B a) {x w : Int32} : AInv (B + 200) (oSchool x w a).1 := by
  unfold oSchool; split
  · rw [opt2_1]; exact hA.o
  · exact hA.o
theorem i_held {B : Nat} {a : AS} (hA : AInv B a) {x w : Int32} : AInv (B + 200) (oHeld x w a).1 := by
  unfold oHeld; split
  · rw [opt2_1]; exact hA.o
  · exact hA.o
theorem i_waiting {B : Nat} {a : AS} (hA : AInv B a) {x w : Int32} : AInv (B + 200) (oWaiting x w a).1 := by
  unfold oWaiting; split
  · rw [opt2_1]; exact hA.o
  · exact hA.o
theorem i_child {B : Nat} {a : AS} (hA : AInv B a) {x w : Int32} : AInv (B + 200) (oChild x w a).1 := by
  unfold oChild; split
  · rw [opt2_1]; exact hA.o
  · exact hA.o
theorem i_choice {B : Nat} {a : AS} (hA : AInv B a) {x w : Int32} : AInv (B + 200) (oChoice x w a).1 := by
  unfold oChoice; split
  · rw [opt2_1]; exact hA.o
  · exact hA.o
theorem i_rank {B : Nat} {a : AS} (hA : AInv B a) {x y w : Int32} : AInv (B + 200) (oRank x y w a).1 := by
  unfold oRank; split
  · rw [opt2_1]; exact hA.o
  · exact hA.o
theorem i_why {B : Nat} {a : AS} (hA : AInv B a) {x w : Int32} : AInv (B + 200) (oWhy x w a).1 := by
  unfold oWhy; split <;> exact hA.o
theorem i_entry {B : Nat} {a : AS} (hA : AInv B a) {x w : Int32} : AInv (B + 200) (oEntry x w a).1 := by
  unfold oEntry; split
  · rw [opt2_1]; exact hA.o
  · exact hA.o
theorem i_account {B : Nat} {a : AS} (hA : AInv B a) {w : Int32} : AInv (B + 200) (oAccount w a).1 := by
  unfold oAccount; rw [opt1_1]; exact hA.o
theorem i_error {B : Nat} {a : AS} (hA : AInv B a) : AInv (B + 200) (oError a).1 := by
  unfold oError; split <;> exact hA.o
theorem i_again {B : Nat} {a : AS} (hA : AInv B a) {i : Int32} : AInv (B + 200) (oAgain i a).1 := by
  unfold oAgain; split <;> exact hA.o
theorem i_mean {B : Nat} {a : AS} (hA : AInv B a) : AInv (B + 200) (oMean a).1 := by
  unfold oMean; split <;> exact hA.o
theorem i_addChild {B : Nat} {a : AS} (hA : AInv B a) {x y f l : Int32} : AInv (B + 200) (oAddChild x y f l a).1 := by
  have hI := hA.inv
  have hc := hI.c
  unfold oAddChild okN
  split
  · rename_i c
    simp only [Bool.and_eq_true] at c
    split
    · exact hA.o
    · refine pwI hA ⟨nCh_inv hI (by omega) (lt9 99 x c.1.1.1 (by decide)) (lt9 99 y c.1.1.2 (by decide)) (lt9 11 f c.1.2 (by decide)) (lt9 999 l c.2 (by decide)), ?_⟩
      rw [show nn (nCh (aR a) x y f l) 2 = nn (aR a) 2 from by unfold nn; rw [nCh_lo (by decide) (by omega)]]
      have := hA.1.2
      omega
  · exact hA.o
theorem i_setNeed {B : Nat} {a : AS} (hA : AInv B a) {i x : Int32} : AInv (B + 200) (oSetNeed i x a).1 := by
  have hI := hA.inv
  have hs := hI.s
  have hc := hI.c
  unfold oSetNeed
  split
  · rename_i c
    simp only [Bool.and_eq_true, Bool.or_eq_true] at c
    obtain ⟨k, hk, rfl⟩ := ixB_of (by omega) c.1
    rw [nx_nI (by omega)]
    refine pwI hA ⟨hI.uc hk (w := 4) (by decide) (by decide) ?_, ?_⟩
    · rcases c.2 with e | e
      · exact Or.inl (of_decide_eq_true e)
      · exact Or.inr (ixB_of (by omega) e)
    · rw [nn_ur_ne (by omega)]
      have := hA.1.2
      omega
  · exact hA.o
theorem i_choose {B : Nat} {a : AS} (hA : AInv B a) {i x p : Int32} : AInv (B + 200) (oChoose i x p a).1 := by
  have hI := hA.inv
  have hs := hI.s
  have hc := hI.c
  unfold oChoose
  split
  · rename_i c
    simp only [Bool.and_eq_true] at c
    split
    · rename_i c2
      split
      · exact hA.o
      · rename_i c4
        obtain ⟨k, hk, rfl⟩ := ixB_of (by omega) c.1
        obtain ⟨j, hj, rfl⟩ := ixB_of (by omega) c.2
        rw [nx_nI (show k < 2 ^ 31 by omega)] at c2 c4 ⊢
        have hm := (hI.m hk).2
        have hO : chO (aR a) k (nI j) ≤ 4 := by unfold chO; split <;> omega
        obtain ⟨q, hq, rfl⟩ := ixB_of (by omega) c2
        rw [nx_nI (show q < 2 ^ 31 by omega)]
        exact pwI hA ((hA.1.ch (p := q) hk hj (by omega) c4).mono (by omega))
    · exact hA.o
  · exact hA.o
theorem i_withdraw {B : Nat} {a : AS} (hA : AInv B a) (hB : B + 300 ≤ 1073741824) {i : Int32} : AInv (B + 200) (oWithdraw i a).1 := by
  have hI := hA.inv
  have hc := hI.c
  unfold oWithdraw
  split
  · rename_i c
    split
    · exact hA.o
    · obtain ⟨k, hk, rfl⟩ := ixB_of (by omega) c
      rw [nx_nI (show k < 2 ^ 31 by omega)]
      exact pwI hA ((hA.1.wd hk (by omega)).f2 hB)
  · exact hA.o
theorem i_appeal {B : Nat} {a : AS} (hA : AInv B a) (hB : B + 300 ≤ 1073741824) {i j st : Int32} : AInv (B + 200) (oAppeal i j st a).1 := by
  have hI := hA.inv
  have hs := hI.s
  have hc := hI.c
  unfold oAppeal
  split
  · rename_i c
    simp only [Bool.and_eq_true] at c
    split
    · obtain ⟨k, hk, rfl⟩ := ixB_of (by omega) c.1
      obtain ⟨q, hq, rfl⟩ := ixB_of (by omega) c.2
      rw [nx_nI (show k < 2 ^ 31 by omega), nx_nI (show q < 2 ^ 31 by omega)]
      have lf := rfs_le (aR a) k q (nx st)
      unfold oAp
      by_cases c4 : rfs (aR a) k q (nx st) = 1 ∨ rfs (aR a) k q (nx st) = 2
      · rw [if_pos c4]
        exact hA.o.g lf
      · rw [if_neg c4]
        by_cases c5 : rfs (aR a) k q (nx st) = 0
        · rw [if_pos c5]
          have h3 : nn (aR a) (3 + 7 * q + 6) + 1 ≤ 3 := by
            have hb : le9 3 (aR a (3 + 7 * q + 6)) := (Inv.alt.1 hI).2.1 q 6 hq (by decide)
            obtain ⟨n, hn, e⟩ := hb
            have hne : ¬ aR a (3 + 7 * q + 6) = nI 3 := fun e3 => by
              unfold rfs at c5
              rw [if_pos e3] at c5
              split at c5
              · omega
              · split at c5 <;> omega
            have : nn (aR a) (3 + 7 * q + 6) = n := by unfold nn; rw [e, nI31 (by omega)]
            have hn3 : ¬ n = 3 := fun e3 => hne (by rw [e, e3])
            omega
          have h9 := ROk.f2 (hA.1.ap2 hk hq h3 (by omega)) hB
          exact pwI hA h9
        · rw [if_neg c5]
          have h9 := hA.1.ap (j := q) hk
          exact AInv.g (pwI hA (h9.mono (by omega))) lf
    · exact hA.o
  · exact hA.o
theorem i_feed {B : Nat} {a : AS} (hA : AInv B a) {n : Nat} (hn : n < 65536) : AInv (B + 200) (oFeed (nI n) a).1 := by
  obtain ⟨h1, h2, h3, h4, h5, h6⟩ := hA.o
  unfold oFeed
  split
  · exact ⟨h1, h2, h3, h4, h5, h6⟩
  · refine ⟨h1, h2, h3, h4, show aT a + 1 ≤ 40 by omega, fun k hk => ?_⟩
    have hk9 : k < aT a + 1 := hk
    show ∃ c, c < 65536 ∧ (if k = aT a then nI n else aI a k) = nI c
    by_cases e : k = aT a
    · rw [if_pos e]; exact ⟨n, hn, rfl⟩
    · rw [if_neg e]; exact h6 k (by omega)
theorem i_undo {B : Nat} {a : AS} (hA : AInv B a) : AInv (B + 200) (oUndo a).1 := by
  obtain ⟨h1, h2, h3⟩ := hA.o
  unfold oUndo
  split
  · exact ⟨h1, h2, h3⟩
  · exact ⟨h2.2 (aN a - 1) (by omega), ⟨show aN a - 1 ≤ 8 by omega, fun k hk => h2.2 k (by have hk9 : k < aN a - 1 := hk; omega)⟩, h3⟩
theorem i_save {B : Nat} {a : AS} (hA : AInv B a) : AInv (B + 200) (oSave a).1 := by
  obtain ⟨h1, h2, h3, h4⟩ := hA.o
  exact ⟨h1, h2, fun _ => h1, h4⟩
theorem i_restore {B : Nat} {a : AS} (hA : AInv B a) : AInv (B + 200) (oRestore a).1 := by
  obtain ⟨h1, h2, h3, h4⟩ := hA.o
  unfold oRestore
  split
  · rename_i c
    exact ⟨h3 c, ⟨Nat.zero_le _, fun k hk => absurd hk (Nat.not_lt_zero k)⟩, h3, h4⟩
  · exact ⟨h1, h2, h3, h4⟩
theorem i_allocate {B : Nat} {a : AS} (hA : AInv B a) (hB : B + 300 ≤ 1073741824) : AInv (B + 200) (oAllocate a).1 := by
  have hI := hA.inv
  have hc := hI.c
  have h2 := hA.1.2
  obtain ⟨a1, a2, -⟩ := alo_ok (dir := true) hI
  have e2 : nn (alo true (aR a)).1 2 = nn (aR a) 2 := a2.n (by decide)
  obtain ⟨b1, -, -, b4, -⟩ := nts_ok (R0 := aR a) a1 (nn (aR a) 1) hc (by omega)
  unfold oAllocate
  exact pwI hA ⟨b1, by omega⟩
/-! ===== a child that is read ===== -/
theorem icl_lt {f : Nat → Int32} {lo hi n p : Nat} (h : ic f lo hi n p = true) : p < n := by
  unfold ic at h
  simp only [Bool.and_eq_true, decide_eq_true_eq] at h
  exact h.1
theorem nums_le {f : Nat → Int32} {n : Nat} : ∀ {k p v : Nat}, p ≤ n → (nums f n k p v).2 ≤ n
  | 0, _, _, h => h
  | k + 1, p, v, h => by
    rw [nums]
    split
    · rename_i c; exact nums_le (icl_lt c)
    · exact h
theorem nuS_le {f : Nat → Int32} {n p : Nat} {w : Bool} (h : p ≤ n) : (nuS f n w p).2.2 ≤ n := by
  unfold nuS
  split
  · rename_i c
    simp only [Bool.and_eq_true] at c
    exact nums_le (icl_lt c.2)
  · exact h
theorem exS_le {f : Nat → Int32} {n p c : Nat} {w : Bool} (h : p ≤ n) : (exS f n c w p).2 ≤ n := by
  unfold exS
  split
  · rename_i c
    simp only [Bool.and_eq_true] at c
    exact icl_lt c.2
  · exact h
theorem nwc_lt {f : Nat → Int32} {n p c : Nat} {w : Bool} {g : Nat → Int32} (h : nwc f n w p c g = true) : p < n ∧ c < 4 := by
  unfold nwc at h
  simp only [Bool.and_eq_true, decide_eq_true_eq] at h
  exact ⟨icl_lt h.1.1.2, h.1.2⟩
theorem rdC_le {f : Nat → Int32} {n : Nat} : ∀ {m p c : Nat} {g : Nat → Int32}, p ≤ n → c ≤ 4 → (rdC f n m p c g).1 ≤ n ∧ (rdC f n m p c g).2.1 ≤ 4
  | 0, _, _, _, h, h2 => ⟨h, h2⟩
  | m + 1, p, c, g, h, h2 => by
    rw [rdC]
    split
    · rename_i e
      have := nwc_lt e
      exact rdC_le (by omega) (by omega)
    · exact ⟨h, h2⟩
theorem chS_le {f : Nat → Int32} {n p : Nat} {w : Bool} (h : p ≤ n) : (chS f n w p).2.1 ≤ n ∧ (chS f n w p).2.2.1 ≤ 4 := by
  unfold chS
  split
  · rename_i c
    simp only [Bool.and_eq_true] at c
    have hp := icl_lt c.2
    split
    · exact rdC_le (show p + 1 ≤ n from hp) (by decide)
    · exact ⟨hp, Nat.zero_le 4⟩
  · exact ⟨h, Nat.zero_le 4⟩
theorem qc_le {f : Nat → Int32} {n : Nat} : (qc f n).2.1 ≤ n ∧ (qc f n).2.2.1 ≤ 4 := chS_le (nuS_le (exS_le (nuS_le (exS_le (nuS_le (exS_le (nuS_le (Nat.zero_le n))))))))
theorem rcR_2 {R : RW} {x y f l : Int32} {c : Nat} {g : Nat → Int32} : nn (rcR R x y f l c g) 2 = nn R 2 := by
  unfold rcR nn
  rw [pC_far (by omega), ur_ne (by omega), nCh_lo (by decide) (by omega)]
theorem i_readChild {B : Nat} {a : AS} (hA : AInv B a) : AInv (B + 200) (oReadChild a).1 := by
  have hI := hA.inv
  have hs := hI.s
  have hc := hI.c
  have lT : aT a ≤ 40 := hA.2.2.2.2.1
  have hq := @qc_le (aI a) (aT a)
  have hW := hA.wi
  unfold oReadChild
  split
  · exact hW.o.e (by omega)
  · split
    · rename_i cg
      unfold goodC okN at cg
      simp only [Bool.and_eq_true] at cg
      obtain ⟨⟨⟨⟨c1, c2⟩, c3⟩, c4⟩, c5⟩ := cg
      split
      · exact hW.o
      · refine pwI hW ⟨rcR_inv hI (by omega) (lt9 99 _ c1 (by decide)) (lt9 99 _ c2 (by decide)) (lt9 11 _ c3 (by decide)) (lt9 999 _ c4 (by decide)) hq.2 (fun k hk => ixB_of (by omega) (al_at c5 k hk)), ?_⟩
        rw [rcR_2]
        have := hA.1.2
        omega
    · exact hW.o
