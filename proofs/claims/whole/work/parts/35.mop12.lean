/-! ===== the reference's calls: choosing ===== -/
def shL (i : Nat) : Nat → Nat → RW → RW
  | 0, _, R => R
  | n + 1, k, R => shL i n (k + 1) (ur R (57 + 13 * i + 6 + k) (R (57 + 13 * i + 6 + (k + 1))))
def shR (i : Nat) : Nat → Nat → RW → RW
  | 0, _, R => R
  | n + 1, k, R => shR i n (k - 1) (ur R (57 + 13 * i + 6 + k) (R (57 + 13 * i + 6 + (k - 1))))
def chO (R : RW) (i : Nat) (x : Int32) : Nat := if pl R i x = -1 then nn R (57 + 13 * i + 5) else nn R (57 + 13 * i + 5) - 1
def ch1 (R : RW) (i : Nat) (x : Int32) : RW := if pl R i x = -1 then R else shL i (chO R i x - nx (pl R i x)) (nx (pl R i x)) R
def chR (R : RW) (i : Nat) (x : Int32) (p : Nat) : RW := ur (ur (shR i (chO R i x - p) (chO R i x) (ch1 R i x)) (57 + 13 * i + 6 + p) x) (57 + 13 * i + 5) (nI (chO R i x + 1))
def oChoose (i x p : Int32) (a : AS) : OR :=
  if ixB (nn (aR a) 1) i && ixB (nn (aR a) 0) x then (if ixB (chO (aR a) (nx i) x + 1) p then (if chO (aR a) (nx i) x = 4 then (a, nI 0, nI 3) else (wR (puA a) (chR (aR a) (nx i) x (nx p)), nI (chO (aR a) (nx i) x + 1), nI 0)) else (a, nI 0, nI 2)) else (a, nI 0, nI 1)
theorem Inv.cp {R : RW} (h : Inv R) {i q : Nat} {v : Int32} (hi : i < nn R 1) (hq : q < 4) (hv : okP (nn R 0) v) : Inv (ur R (57 + 13 * i + 6 + q) v) := by
  refine h.chs hi (m := nn R (57 + 13 * i + 5)) (fun k hk => ur_ne (by omega)) (by rw [ur_ne (by omega)]; exact (h.m hi).1) (h.m hi).2 (fun p hp => ?_)
  by_cases e : p = q
  · subst e; rw [ur_eq]; exact hv
  · rw [ur_ne (by omega)]; exact (Inv.alt.mp h).2.2.2 i p hi hp
theorem Sh.cp {r R : RW} (h : Sh r R) {i q : Nat} {v : Int32} (hq : q < 4) : Sh (ur r (57 + 13 * i + 6 + q) v) (ur R (57 + 13 * i + 6 + q) v) := h.u (by omega) (by omega) (by omega) (fun i' _ => by omega)
/-- all but the choices of child i, and how many they are, is as it was -/
def sam (i : Nat) (R R' : RW) : Prop := ∀ k, (k < 57 + 13 * i + 6 ∨ 57 + 13 * i + 10 ≤ k) → R' k = R k
theorem sam.nn {i : Nat} {R R' : RW} (h : sam i R R') {k : Nat} (hk : k < 57 + 13 * i + 6 ∨ 57 + 13 * i + 10 ≤ k) : nn R' k = nn R k := by unfold Jvm.Pilot.CSchoolPlacesLaw_law_r8538_2bd8a1.nn; rw [h k hk]
theorem sam.cp {i q : Nat} {R R' : RW} {v : Int32} (h : sam i R R') (hq : q < 4) : sam i R (ur R' (57 + 13 * i + 6 + q) v) := fun k hk => by rw [ur_ne (by omega)]; exact h k hk
theorem shL_sam {i : Nat} {R : RW} : ∀ (n k : Nat) (R' : RW), k + n ≤ 4 → sam i R R' → sam i R (shL i n k R')
  | 0, _, _, _, h => h
  | n + 1, k, R', hk, h => shL_sam n (k + 1) _ (by omega) (h.cp (by omega))
theorem shR_sam {i : Nat} {R : RW} : ∀ (n k : Nat) (R' : RW), k < 4 → sam i R R' → sam i R (shR i n k R')
  | 0, _, _, _, h => h
  | n + 1, k, R', hk, h => shR_sam n (k - 1) _ (by omega) (h.cp (by omega))
theorem shL_ok {i N m : Nat} : ∀ (n k : Nat) (R : RW), k + n + 1 ≤ m → (∀ q, q < m → okP N (R (57 + 13 * i + 6 + q))) → ∀ q, q < m → okP N (shL i n k R (57 + 13 * i + 6 + q))
  | 0, _, _, _, h => h
  | n + 1, k, R, hk, h => shL_ok n (k + 1) _ (by omega) (fun q hq => by
      by_cases e : q = k
      · subst e; rw [ur_eq]; exact h (q + 1) (by omega)
      · rw [ur_ne (by omega)]; exact h q hq)
/-- what holds of all places up to o but the k-th, holds then of all but the (k - n)-th -/
theorem shR_ok {i o : Nat} (T : Int32 → Prop) : ∀ (n k : Nat) (R : RW), n ≤ k → k ≤ o → (∀ q, q ≤ o → ¬ q = k → T (R (57 + 13 * i + 6 + q))) → ∀ q, q ≤ o → ¬ q = k - n → T (shR i n k R (57 + 13 * i + 6 + q))
  | 0, _, _, _, _, h => h
  | n + 1, k, R, hn, hk, h => fun q hq hne => shR_ok T n (k - 1) _ (by omega) (by omega) (fun q hq hne => by
      by_cases e : q = k
      · subst e; rw [ur_eq]; exact h (q - 1) (by omega) (by omega)
      · rw [ur_ne (by omega)]; exact h q hq e) q hq (by omega)
theorem shR_two {i o : Nat} : ∀ (n k : Nat) (r R : RW), n ≤ k → k ≤ o → (∀ q, q ≤ o → ¬ q = k → r (57 + 13 * i + 6 + q) = R (57 + 13 * i + 6 + q)) → ∀ q, q ≤ o → ¬ q = k - n → shR i n k r (57 + 13 * i + 6 + q) = shR i n k R (57 + 13 * i + 6 + q)
  | 0, _, _, _, _, _, h => h
  | n + 1, k, r, R, hn, hk, h => fun q hq hne => shR_two n (k - 1) _ _ (by omega) (by omega) (fun q hq hne => by
      by_cases e : q = k
      · subst e; rw [ur_eq, ur_eq]; exact h (q - 1) (by omega) (by omega)
      · rw [ur_ne (by omega), ur_ne (by omega)]; exact h q hq e) q hq (by omega)
theorem chO_le {R : RW} (hI : Inv R) {i : Nat} (hi : i < nn R 1) {x : Int32} : chO R i x ≤ 4 ∧ chO R i x ≤ nn R (57 + 13 * i + 5) ∧ (¬ pl R i x = -1 → ∃ q, q < nn R (57 + 13 * i + 5) ∧ pl R i x = nI q ∧ nx (pl R i x) = q ∧ chO R i x + 1 = nn R (57 + 13 * i + 5)) := by
  have hm := (hI.m hi).2
  unfold chO
  by_cases h : pl R i x = -1
  · rw [if_pos h]; exact ⟨hm, Nat.le_refl _, fun c => absurd h c⟩
  · rw [if_neg h]
    refine ⟨by omega, by omega, fun _ => ?_⟩
    rcases pl_or R i x with h2 | ⟨q, h2, h3, -⟩
    · exact absurd h2 h
    · exact ⟨q, h2, h3, by rw [h3]; exact nx_nI (by omega), by omega⟩
theorem ch1_sam {R : RW} (hI : Inv R) {i : Nat} (hi : i < nn R 1) {x : Int32} : sam i R (ch1 R i x) ∧ ∀ q, q < nn R (57 + 13 * i + 5) → okP (nn R 0) (ch1 R i x (57 + 13 * i + 6 + q)) := by
  have h0 := (Inv.alt.mp hI).2.2.2 i
  obtain ⟨c1, c2, c3⟩ := chO_le hI hi (x := x)
  have hm := (hI.m hi).2
  unfold ch1
  by_cases h : pl R i x = -1
  · rw [if_pos h]; exact ⟨fun _ _ => rfl, fun q hq => h0 q hi hq⟩
  · rw [if_neg h]
    obtain ⟨q, d1, d2, d3, d4⟩ := c3 h
    rw [d3]
    exact ⟨shL_sam _ _ _ (by omega) (fun _ _ => rfl), shL_ok _ _ _ (by omega) (fun q hq => h0 q hi hq)⟩
theorem chR_inv {R : RW} (hI : Inv R) {i j p : Nat} (hi : i < nn R 1) (hj : j < nn R 0) (hp : p ≤ chO R i (nI j)) (h4 : ¬ chO R i (nI j) = 4) : Inv (chR R i (nI j) p) := by
  obtain ⟨c1, c2, c3⟩ := chO_le hI hi (x := nI j)
  obtain ⟨b1, b2⟩ := ch1_sam hI hi (x := nI j)
  have s2 := shR_sam (R := R) (i := i) (chO R i (nI j) - p) (chO R i (nI j)) _ (by omega) b1
  refine hI.chs hi (m := chO R i (nI j) + 1) (fun k hk => by unfold chR; rw [ur_ne (by omega), ur_ne (by omega)]; exact s2 k (by omega)) ur_eq (by omega) (fun q hq => ?_)
  unfold chR
  rw [ur_ne (by omega)]
  by_cases e : q = p
  · subst e; rw [ur_eq]; exact ⟨j, hj, rfl⟩
  · rw [ur_ne (by omega)]
    exact shR_ok (okP (nn R 0)) (o := chO R i (nI j)) _ _ _ (by omega) (Nat.le_refl _) (fun q hq hne => b2 q (by omega)) q (by omega) (by omega)
theorem ROk.ch {B : Nat} {R : RW} (h : ROk B R) {i j p : Nat} (hi : i < nn R 1) (hj : j < nn R 0) (hp : p ≤ chO R i (nI j)) (h4 : ¬ chO R i (nI j) = 4) : ROk B (chR R i (nI j) p) := by
  refine ⟨chR_inv h.1 hi hj hp h4, ?_⟩
  obtain ⟨c1, c2, c3⟩ := chO_le h.1 hi (x := nI j)
  obtain ⟨b1, b2⟩ := ch1_sam h.1 hi (x := nI j)
  have s2 := shR_sam (R := R) (i := i) (chO R i (nI j) - p) (chO R i (nI j)) _ (by omega) b1
  unfold chR
  rw [nn_ur_ne (by omega), nn_ur_ne (by omega), s2.nn (by omega)]
  exact h.2
theorem chR_sh {R r : RW} (hI : Inv R) {i j p : Nat} (hi : i < nn R 1) (hp : p ≤ chO R i (nI j)) (h4 : ¬ chO R i (nI j) = 4) {r1 : RW} (hS : Sh r1 (ch1 R i (nI j)))
    (hr : sam i r1 r ∧ ∀ q, q ≤ chO R i (nI j) → ¬ q = p → r (57 + 13 * i + 6 + q) = shR i (chO R i (nI j) - p) (chO R i (nI j)) r1 (57 + 13 * i + 6 + q)) : Sh (ur (ur r (57 + 13 * i + 6 + p) (nI j)) (57 + 13 * i + 5) (nI (chO R i (nI j) + 1))) (chR R i (nI j) p) := by
  obtain ⟨c1, c2, c3⟩ := chO_le hI hi (x := nI j)
  obtain ⟨b1, b2⟩ := ch1_sam hI hi (x := nI j)
  have hm := (hI.m hi).2
  have s2 := shR_sam (R := ch1 R i (nI j)) (i := i) (chO R i (nI j) - p) (chO R i (nI j)) _ (by omega) (fun _ _ => rfl)
  have hI1 : Inv (ch1 R i (nI j)) := hI.chs hi (m := nn R (57 + 13 * i + 5)) (fun k hk => b1 k (by omega)) (by rw [b1 _ (by omega)]; exact (hI.m hi).1) hm b2
  refine hS.chs hI1 (i := i) (m := chO R i (nI j) + 1) (by rw [b1.nn (by omega)]; exact hi) (fun k hk => by unfold chR; rw [ur_ne (by omega), ur_ne (by omega)]; exact s2 k (by omega)) (fun k hk => by rw [ur_ne (by omega), ur_ne (by omega)]; exact hr.1 k (by omega)) ur_eq ur_eq (by omega) (fun q hq => ?_)
  unfold chR
  rw [ur_ne (show ¬ 57 + 13 * i + 6 + q = 57 + 13 * i + 5 by omega), ur_ne (show ¬ 57 + 13 * i + 6 + q = 57 + 13 * i + 5 by omega)]
  by_cases e : q = p
  · subst e; rw [ur_eq, ur_eq]
  · have e9 : ¬ 57 + 13 * i + 6 + q = 57 + 13 * i + 6 + p := by omega
    rw [ur_ne e9, ur_ne e9, hr.2 q (by omega) e]
    refine shR_two (o := chO R i (nI j)) _ _ _ _ (by omega) (Nat.le_refl _) (fun q hq hne => hS.p (by rw [b1.nn (by omega)]; exact hi) (by rw [b1.nn (by omega)]; omega)) q (by omega) (by omega)
theorem nI_dec {k : Nat} : nI (k + 1) + -1 = nI k := by
  show Int32.ofNat (k + 1) + -1 = Int32.ofNat k
  rw [show Int32.ofNat (k + 1) = Int32.ofNat k + 1 from (nI_add k 1).symm]
  apply Int32.toBitVec_inj.mp
  simp [BitVec.add_assoc]
