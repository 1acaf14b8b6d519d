/-! ===== rows that change ===== -/
def sr (s : ST) (r : Nat) (x : RW) : ST := (fun r' => if r' = r then x else s.1 r', s.2)
def ur (x : RW) (j : Nat) (v : Int32) : RW := fun k => if k = j then v else x k
theorem upS_sr {s : ST} {r j : Nat} {v : Int32} : upS s r j v = sr s r (ur (s.1 r) j v) := by
  refine Prod.ext ?_ rfl
  funext r' k
  show up s.1 r j v r' k = (if r' = r then ur (s.1 r) j v else s.1 r') k
  unfold up ur
  by_cases h : r' = r
  · subst h; simp
  · simp [h]
theorem sr_same {s : ST} {r : Nat} {x : RW} : (sr s r x).1 r = x := by show (if r = r then x else s.1 r) = x; rw [if_pos rfl]
theorem sr_ne {s : ST} {r r' : Nat} {x : RW} (h : ¬ r' = r) : (sr s r x).1 r' = s.1 r' := by show (if r' = r then x else s.1 r') = s.1 r'; rw [if_neg h]
theorem sr_sr {s : ST} {r : Nat} {x y : RW} : sr (sr s r x) r y = sr s r y := by
  refine Prod.ext ?_ rfl
  funext r'
  show (if r' = r then y else if r' = r then x else s.1 r') = if r' = r then y else s.1 r'
  split <;> rfl
theorem sr_id {s : ST} {r : Nat} : sr s r (s.1 r) = s := by
  refine Prod.ext ?_ rfl
  funext r'
  show (if r' = r then s.1 r else s.1 r') = s.1 r'
  split
  · rename_i h; rw [h]
  · rfl
theorem sr_comm {s : ST} {r r' : Nat} {x y : RW} (h : ¬ r = r') : sr (sr s r x) r' y = sr (sr s r' y) r x := by
  refine Prod.ext ?_ rfl
  funext k
  show (if k = r' then y else if k = r then x else s.1 k) = if k = r then x else if k = r' then y else s.1 k
  by_cases h1 : k = r' <;> by_cases h2 : k = r <;> simp_all
theorem sr_2 {s : ST} {r : Nat} {x : RW} : (sr s r x).2 = s.2 := rfl
theorem ur_eq {x : RW} {j : Nat} {v : Int32} : ur x j v j = v := by simp [ur]
theorem ur_ne {x : RW} {j k : Nat} {v : Int32} (h : ¬ k = j) : ur x j v k = x k := by simp [ur, h]
theorem nn_ur_ne {x : RW} {j k : Nat} {v : Int32} (h : ¬ k = j) : nn (ur x j v) k = nn x k := by unfold nn; rw [ur_ne h]
theorem nn_ur_eq {x : RW} {j n : Nat} (h : n < 2 ^ 31) : nn (ur x j (nI n)) j = n := by unfold nn; rw [ur_eq, nI31 h]
theorem nm_of {R : RW} {k b n : Nat} (h : R k = nI n) (hn : n ≤ b) (hb : b < 2 ^ 31) : nm R k b := by
  have : nn R k = n := by unfold nn; rw [h, nI31 (by omega)]
  exact ⟨by rw [this]; exact h, by rw [this]; exact hn⟩
/-- what a number of a school, or of a child, may be -/
def bS (w : Nat) : Nat := match w with
  | 0 => 99 | 1 => 99 | 2 => 12 | 3 => 198 | 4 => 1 | 5 => 100 | _ => 3
def le9 (b : Nat) (x : Int32) : Prop := ∃ n, n ≤ b ∧ x = nI n
def ix9 (n : Nat) (x : Int32) : Prop := x = -1 ∨ ∃ j, j < n ∧ x = nI j
def okC (n w : Nat) (x : Int32) : Prop := match w with
  | 0 => le9 99 x | 1 => le9 99 x | 2 => le9 11 x | 3 => le9 999 x | 4 => ix9 n x | 5 => le9 4 x | 10 => ix9 n x | _ => True
def okP (n : Nat) (x : Int32) : Prop := ∃ j, j < n ∧ x = nI j
def InvA (R : RW) : Prop := (nm R 0 6 ∧ nm R 1 24 ∧ nm R 2 1073741824) ∧ (∀ j w, j < nn R 0 → w < 7 → le9 (bS w) (R (3 + 7 * j + w))) ∧
  (∀ i w, i < nn R 1 → w < 13 → okC (nn R 0) w (R (57 + 13 * i + w))) ∧ (∀ i p, i < nn R 1 → p < nn R (57 + 13 * i + 5) → okP (nn R 0) (R (57 + 13 * i + 6 + p)))
theorem nm_le9 {R : RW} {k b : Nat} (hb : b < 2 ^ 31) : nm R k b ↔ le9 b (R k) :=
  ⟨fun h => ⟨_, h.2, h.1⟩, fun ⟨n, h1, h2⟩ => nm_of h2 h1 hb⟩
theorem Inv.alt {R : RW} : Inv R ↔ InvA R := by
  constructor
  · rintro ⟨h0, hs, hc⟩
    refine ⟨h0, fun j w hj hw => ?_, fun i w hi hw => ?_, fun i p hi hp => ?_⟩
    · obtain ⟨a0, a1, a2, a3, a4, a5, a6⟩ := hs j hj
      rcases (show w = 0 ∨ w = 1 ∨ w = 2 ∨ w = 3 ∨ w = 4 ∨ w = 5 ∨ w = 6 by omega) with rfl | rfl | rfl | rfl | rfl | rfl | rfl
      · exact (nm_le9 (by decide)).mp a0
      · exact (nm_le9 (by decide)).mp a1
      · exact (nm_le9 (by decide)).mp a2
      · exact (nm_le9 (by decide)).mp a3
      · exact (nm_le9 (by decide)).mp a4
      · exact (nm_le9 (by decide)).mp a5
      · exact (nm_le9 (by decide)).mp a6
    · obtain ⟨⟨a0, a1, a2, a3⟩, a4, a5, a6, a7⟩ := hc i hi
      rcases (show w = 0 ∨ w = 1 ∨ w = 2 ∨ w = 3 ∨ w = 4 ∨ w = 5 ∨ w = 10 ∨ (w = 6 ∨ w = 7 ∨ w = 8 ∨ w = 9 ∨ w = 11 ∨ w = 12) by omega) with rfl | rfl | rfl | rfl | rfl | rfl | rfl | h
      · exact (nm_le9 (by decide)).mp a0
      · exact (nm_le9 (by decide)).mp a1
      · exact (nm_le9 (by decide)).mp a2
      · exact (nm_le9 (by decide)).mp a3
      · exact a4
      · exact (nm_le9 (by decide)).mp a5
      · exact a6
      · rcases h with rfl | rfl | rfl | rfl | rfl | rfl <;> trivial
    · exact (hc i hi).2.2.2.2 p hp
  · rintro ⟨h0, hs, hc, hp⟩
    refine ⟨h0, fun j hj => ?_, fun i hi => ?_⟩
    · exact ⟨(nm_le9 (by decide)).mpr (hs j 0 hj (by decide)), (nm_le9 (by decide)).mpr (hs j 1 hj (by decide)), (nm_le9 (by decide)).mpr (hs j 2 hj (by decide)), (nm_le9 (by decide)).mpr (hs j 3 hj (by decide)), (nm_le9 (by decide)).mpr (hs j 4 hj (by decide)), (nm_le9 (by decide)).mpr (hs j 5 hj (by decide)), (nm_le9 (by decide)).mpr (hs j 6 hj (by decide))⟩
    · exact ⟨⟨(nm_le9 (by decide)).mpr (hc i 0 hi (by decide)), (nm_le9 (by decide)).mpr (hc i 1 hi (by decide)), (nm_le9 (by decide)).mpr (hc i 2 hi (by decide)), (nm_le9 (by decide)).mpr (hc i 3 hi (by decide))⟩, hc i 4 hi (by decide), (nm_le9 (by decide)).mpr (hc i 5 hi (by decide)), hc i 10 hi (by decide), fun p hp9 => hp i p hi hp9⟩
/-- a number of a school is set -/
theorem Inv.us {R : RW} (h : Inv R) {j w : Nat} {v : Int32} (hj : j < nn R 0) (hw : w < 7) (hv : le9 (bS w) v) : Inv (ur R (3 + 7 * j + w) v) := by
  rw [Inv.alt] at h ⊢
  obtain ⟨⟨h0, h1, h2⟩, hs, hc, hp⟩ := h
  have hj6 := h0.2
  have n0 : nn (ur R (3 + 7 * j + w) v) 0 = nn R 0 := nn_ur_ne (by omega)
  have n1 : nn (ur R (3 + 7 * j + w) v) 1 = nn R 1 := nn_ur_ne (by omega)
  have n2 : nn (ur R (3 + 7 * j + w) v) 2 = nn R 2 := nn_ur_ne (by omega)
  have m : ∀ i, nn (ur R (3 + 7 * j + w) v) (57 + 13 * i + 5) = nn R (57 + 13 * i + 5) := fun i => nn_ur_ne (by omega)
  refine ⟨⟨⟨by rw [n0, ur_ne (by omega)]; exact h0.1, by rw [n0]; exact h0.2⟩, ⟨by rw [n1, ur_ne (by omega)]; exact h1.1, by rw [n1]; exact h1.2⟩, ⟨by rw [n2, ur_ne (by omega)]; exact h2.1, by rw [n2]; exact h2.2⟩⟩, fun j' w' hj' hw' => ?_, fun i w' hi hw' => ?_, fun i p hi hp9 => ?_⟩
  · by_cases e : 3 + 7 * j' + w' = 3 + 7 * j + w
    · have e1 : w' = w := by omega
      rw [e, ur_eq, e1]; exact hv
    · rw [ur_ne e]; rw [n0] at hj'; exact hs j' w' hj' hw'
  · rw [n1] at hi; rw [n0, ur_ne (by omega)]; exact hc i w' hi hw'
  · rw [n1] at hi; rw [m] at hp9; rw [n0, ur_ne (by omega)]; exact hp i p hi hp9
/-- a number of a child is set, not that of its choices -/
theorem Inv.uc {R : RW} (h : Inv R) {i w : Nat} {v : Int32} (hi : i < nn R 1) (hw : w < 13) (hw5 : w < 5 ∨ 10 ≤ w) (hv : okC (nn R 0) w v) : Inv (ur R (57 + 13 * i + w) v) := by
  rw [Inv.alt] at h ⊢
  obtain ⟨⟨h0, h1, h2⟩, hs, hc, hp⟩ := h
  have hj6 := h0.2
  have n0 : nn (ur R (57 + 13 * i + w) v) 0 = nn R 0 := nn_ur_ne (by omega)
  have n1 : nn (ur R (57 + 13 * i + w) v) 1 = nn R 1 := nn_ur_ne (by omega)
  have n2 : nn (ur R (57 + 13 * i + w) v) 2 = nn R 2 := nn_ur_ne (by omega)
  have m : ∀ i', nn (ur R (57 + 13 * i + w) v) (57 + 13 * i' + 5) = nn R (57 + 13 * i' + 5) := fun i' => nn_ur_ne (by omega)
  refine ⟨⟨⟨by rw [n0, ur_ne (by omega)]; exact h0.1, by rw [n0]; exact h0.2⟩, ⟨by rw [n1, ur_ne (by omega)]; exact h1.1, by rw [n1]; exact h1.2⟩, ⟨by rw [n2, ur_ne (by omega)]; exact h2.1, by rw [n2]; exact h2.2⟩⟩, fun j' w' hj' hw' => ?_, fun i' w' hi' hw' => ?_, fun i' p hi' hp9 => ?_⟩
  · rw [n0] at hj'; rw [ur_ne (by omega)]; exact hs j' w' hj' hw'
  · rw [n1] at hi'; rw [n0]
    by_cases e : 57 + 13 * i' + w' = 57 + 13 * i + w
    · have e1 : w' = w := by omega
      rw [e, ur_eq, e1]; exact hv
    · rw [ur_ne e]; exact hc i' w' hi' hw'
  · rw [n1] at hi'; rw [m] at hp9
    have hm := hc i' 5 hi' (by decide)
    have hm4 : nn R (57 + 13 * i' + 5) ≤ 4 := by
      obtain ⟨n, hn, e⟩ := hm
      unfold nn; rw [e, nI31 (by omega)]; exact hn
    rw [n0, ur_ne (by omega)]; exact hp i' p hi' hp9
/-- the same place is set in both -/
theorem Sh.u {r R : RW} (h : Sh r R) {k : Nat} {v : Int32} (h0 : ¬ k = 0) (h1 : ¬ k = 1) (h2 : ¬ k = 2) (hm : ∀ i, i < nn R 1 → ¬ k = 57 + 13 * i + 5) : Sh (ur r k v) (ur R k v) := by
  obtain ⟨⟨a0, a1, a2⟩, a3, a4, a5, a6, a7⟩ := h
  have n0 : nn (ur R k v) 0 = nn R 0 := nn_ur_ne (fun e => h0 e.symm)
  have n1 : nn (ur R k v) 1 = nn R 1 := nn_ur_ne (fun e => h1 e.symm)
  have n2 : nn (ur R k v) 2 = nn R 2 := nn_ur_ne (fun e => h2 e.symm)
  have key : ∀ x, r x = R x → ur r k v x = ur R k v x := fun x e => by
    by_cases hx : x = k
    · subst hx; rw [ur_eq, ur_eq]
    · rw [ur_ne hx, ur_ne hx]; exact e
  refine ⟨⟨key 0 a0, key 1 a1, key 2 a2⟩, fun j w hj hw => key _ (a3 j w (by rw [← n0]; exact hj) hw), fun f hf => key _ (a4 f hf), fun i w hi hw hw2 => key _ (a5 i w (by rw [← n1]; exact hi) hw hw2), fun i p hi hp => ?_, fun e w he he8 hw => key _ (a7 e w (by rw [← n2]; exact he) he8 hw)⟩
  rw [n1] at hi
  rw [nn_ur_ne (fun e => hm i hi e.symm)] at hp
  exact key _ (a6 i p hi hp)
theorem Sh.uc {r R : RW} (h : Sh r R) {i w : Nat} {v : Int32} (hw : w < 13) (hw5 : w < 5 ∨ 10 ≤ w) : Sh (ur r (57 + 13 * i + w) v) (ur R (57 + 13 * i + w) v) := h.u (by omega) (by omega) (by omega) (fun i' _ => by omega)
theorem Sh.us {r R : RW} (h : Sh r R) {j w : Nat} {v : Int32} (hj : j < 6) (hw : w < 7) : Sh (ur r (3 + 7 * j + w) v) (ur R (3 + 7 * j + w) v) := h.u (by omega) (by omega) (by omega) (fun i' _ => by omega)
/-! ===== an entry of the journal, a move, filling ===== -/
def ntE (x : RW) (e : Nat) (a b c d : Int32) : RW := fun k => if k = 2 then nI (e + 1) else if e < 80 ∧ k = 369 + 4 * e then a else if e < 80 ∧ k = 369 + 4 * e + 1 then b else if e < 80 ∧ k = 369 + 4 * e + 2 then c else if e < 80 ∧ k = 369 + 4 * e + 3 then d else x k
theorem nt_lo {x : RW} {e k : Nat} {a b c d : Int32} (h : k < 369) (h2 : ¬ k = 2) : ntE x e a b c d k = x k := by
  unfold ntE
  rw [if_neg h2, if_neg (by omega), if_neg (by omega), if_neg (by omega), if_neg (by omega)]
theorem nt_h0 {x : RW} {e : Nat} {a b c d : Int32} (h : e < 80) : ntE x e a b c d (369 + 4 * e + 0) = a := by unfold ntE; rw [if_neg (by omega), if_pos ⟨h, by omega⟩]
theorem nt_h1 {x : RW} {e : Nat} {a b c d : Int32} (h : e < 80) : ntE x e a b c d (369 + 4 * e + 1) = b := by unfold ntE; rw [if_neg (by omega), if_neg (by omega), if_pos ⟨h, by omega⟩]
theorem nt_h2 {x : RW} {e : Nat} {a b c d : Int32} (h : e < 80) : ntE x e a b c d (369 + 4 * e + 2) = c := by unfold ntE; rw [if_neg (by omega), if_neg (by omega), if_neg (by omega), if_pos ⟨h, by omega⟩]
theorem nt_h3 {x : RW} {e : Nat} {a b c d : Int32} (h : e < 80) : ntE x e a b c d (369 + 4 * e + 3) = d := by unfold ntE; rw [if_neg (by omega), if_neg (by omega), if_neg (by omega), if_neg (by omega), if_pos ⟨h, by omega⟩]
theorem nn_nt_lo {x : RW} {e k : Nat} {a b c d : Int32} (h : k < 369) (h2 : ¬ k = 2) : nn (ntE x e a b c d) k = nn x k := by unfold nn; rw [nt_lo h h2]
theorem nn_nt_2 {x : RW} {e : Nat} {a b c d : Int32} (h : e + 1 < 2 ^ 31) : nn (ntE x e a b c d) 2 = e + 1 := by unfold nn; rw [show ntE x e a b c d 2 = nI (e + 1) from if_pos rfl, nI31 h]
theorem Inv.nt {R : RW} (h : Inv R) (he : nn R 2 + 1 ≤ 1073741824) {a b c d : Int32} : Inv (ntE R (nn R 2) a b c d) := by
  rw [Inv.alt] at h ⊢
  obtain ⟨⟨h0, h1, h2⟩, hs, hc, hp⟩ := h
  have n0 : nn (ntE R (nn R 2) a b c d) 0 = nn R 0 := nn_nt_lo (by decide) (by decide)
  have n1 : nn (ntE R (nn R 2) a b c d) 1 = nn R 1 := nn_nt_lo (by decide) (by decide)
  have l0 := h0.2
  have l1 := h1.2
  refine ⟨⟨⟨by rw [n0, nt_lo (by decide) (by decide)]; exact h0.1, by rw [n0]; exact h0.2⟩, ⟨by rw [n1, nt_lo (by decide) (by decide)]; exact h1.1, by rw [n1]; exact h1.2⟩, nm_of (n := nn R 2 + 1) (if_pos rfl) he (by decide)⟩, fun j w hj hw => ?_, fun i w hi hw => ?_, fun i p hi hp9 => ?_⟩
  · rw [n0] at hj; rw [nt_lo (by omega) (by omega)]; exact hs j w hj hw
  · rw [n1] at hi; rw [n0, nt_lo (by omega) (by omega)]; exact hc i w hi hw
  · rw [n1] at hi; rw [nn_nt_lo (by omega) (by omega)] at hp9
    have hm4 : nn R (57 + 13 * i + 5) ≤ 4 := by
      obtain ⟨n, hn, e⟩ := hc i 5 hi (by decide)
      unfold nn; rw [e, nI31 (by omega)]; exact hn
    rw [n0, nt_lo (by omega) (by omega)]; exact hp i p hi hp9
theorem Sh.nt {r R : RW} (h : Sh r R) (hI : Inv R) (he : nn R 2 + 1 < 2 ^ 31) {a b c d : Int32} : Sh (ntE r (nn R 2) a b c d) (ntE R (nn R 2) a b c d) := by
  obtain ⟨⟨a0, a1, a2⟩, a3, a4, a5, a6, a7⟩ := h
  have l0 := hI.s
  have l1 := hI.c
  have n0 : nn (ntE R (nn R 2) a b c d) 0 = nn R 0 := nn_nt_lo (by decide) (by decide)
  have n1 : nn (ntE R (nn R 2) a b c d) 1 = nn R 1 := nn_nt_lo (by decide) (by decide)
  have n2 : nn (ntE R (nn R 2) a b c d) 2 = nn R 2 + 1 := nn_nt_2 he
  have key : ∀ x, r x = R x → ntE r (nn R 2) a b c d x = ntE R (nn R 2) a b c d x := fun x e => by
    unfold ntE
    rw [e]
  refine ⟨⟨key 0 a0, key 1 a1, rfl⟩, fun j w hj hw => key _ (a3 j w (by rw [← n0]; exact hj) hw), fun f hf => key _ (a4 f hf), fun i w hi hw hw2 => key _ (a5 i w (by rw [← n1]; exact hi) hw hw2), fun i p hi hp => ?_, fun e w he9 he8 hw => ?_⟩
  · rw [n1] at hi
    have hm4 := (hI.m hi).2
    rw [nn_nt_lo (by omega) (by omega)] at hp
    exact key _ (a6 i p hi hp)
  · rw [n2] at he9
    by_cases e1 : e < nn R 2
    · exact key _ (a7 e w e1 he8 hw)
    · have e2 : e = nn R 2 := by omega
      subst e2
      rcases (show w = 0 ∨ w = 1 ∨ w = 2 ∨ w = 3 by omega) with rfl | rfl | rfl | rfl
      · rw [nt_h0 he8, nt_h0 he8]
      · rw [nt_h1 he8, nt_h1 he8]
      · rw [nt_h2 he8, nt_h2 he8]
      · rw [nt_h3 he8, nt_h3 he8]
/-- a child moves: the entry, then the seat -/
def mv (R : RW) (kind i : Nat) (x : Int32) : RW := ur (ntE R (nn R 2) (nI kind) (nI i) (R (57 + 13 * i + 10)) x) (57 + 13 * i + 10) x
theorem Inv.mv {R : RW} (h : Inv R) {kind i : Nat} {x : Int32} (hi : i < nn R 1) (hx : ix9 (nn R 0) x) (he : nn R 2 + 1 ≤ 1073741824) : Inv (mv R kind i x) := by
  have h1 := h.nt he (a := nI kind) (b := nI i) (c := R (57 + 13 * i + 10)) (d := x)
  have n0 : nn (ntE R (nn R 2) (nI kind) (nI i) (R (57 + 13 * i + 10)) x) 0 = nn R 0 := nn_nt_lo (by decide) (by decide)
  have n1 : nn (ntE R (nn R 2) (nI kind) (nI i) (R (57 + 13 * i + 10)) x) 1 = nn R 1 := nn_nt_lo (by decide) (by decide)
  exact h1.uc (w := 10) (by rw [n1]; exact hi) (by decide) (by decide) (by rw [n0]; exact hx)
theorem mv_lo {R : RW} {kind i k : Nat} {x : Int32} (h : k < 369) (h2 : ¬ k = 2) (h3 : ¬ k = 57 + 13 * i + 10) : mv R kind i x k = R k := by
  unfold mv
  rw [ur_ne h3, nt_lo h h2]
theorem nn_mv {R : RW} {kind i k : Nat} {x : Int32} (h : k < 369) (h2 : ¬ k = 2) (h3 : ¬ k = 57 + 13 * i + 10) : nn (mv R kind i x) k = nn R k := by unfold nn; rw [mv_lo h h2 h3]
theorem mv_seat {R : RW} {kind i : Nat} {x : Int32} : mv R kind i x (57 + 13 * i + 10) = x := ur_eq
theorem mv_2 {R : RW} {kind i : Nat} {x : Int32} (he : nn R 2 + 1 < 2 ^ 31) : nn (mv R kind i x) 2 = nn R 2 + 1 := by
  unfold nn
  rw [show mv R kind i x 2 = ntE R (nn R 2) (nI kind) (nI i) (R (57 + 13 * i + 10)) x 2 from ur_ne (by omega), show ntE R (nn R 2) (nI kind) (nI i) (R (57 + 13 * i + 10)) x 2 = nI (nn R 2 + 1) from if_pos rfl]
  exact nI31 he
/-- the number in x, that is not -1 -/
def nx (x : Int32) : Nat := x.toNatClampNeg
/-- seats are filled, n times at most: how many, and the row -/
def flN : Nat → RW → Nat × RW
  | 0, R => (0, R)
  | n + 1, R => if sf R = -1 then (0, R) else ((flN n (mv R 1 (nx (wt R (nx (sf R)) (nI 0))) (sf R))).1 + 1, (flN n (mv R 1 (nx (wt R (nx (sf R)) (nI 0))) (sf R))).2)
theorem fs_or (p : Nat → Bool) : ∀ (n j : Nat), fs p j n = -1 ∧ (∀ k, j ≤ k → k < j + n → p k = false) ∨ ∃ k, j ≤ k ∧ k < j + n ∧ fs p j n = nI k ∧ p k = true
  | 0, j => Or.inl ⟨rfl, fun k h1 h2 => by omega⟩
  | n + 1, j => by
    rw [fs]
    cases h : p j with
    | true => exact Or.inr ⟨j, by omega, by omega, rfl, h⟩
    | false =>
      rcases fs_or p n (j + 1) with ⟨h1, h2⟩ | ⟨k, h1, h2, h3, h4⟩
      · refine Or.inl ⟨h1, fun k h3 h4 => ?_⟩
        by_cases e : k = j
        · subst e; exact h
        · exact h2 k (by omega) (by omega)
      · exact Or.inr ⟨k, by omega, by omega, h3, h4⟩
theorem sf_or {R : RW} (hI : Inv R) : sf R = -1 ∨ ∃ j, j < nn R 0 ∧ sf R = nI j ∧ 0 < fr R j ∧ 0 < wm R j := by
  rcases fs_or (fun j => decide (0 < fr R j) && decide (0 < wm R j)) (nn R 0) 0 with ⟨h, -⟩ | ⟨k, -, h2, h3, h4⟩
  · exact Or.inl h
  · simp only [Bool.and_eq_true, decide_eq_true_eq] at h4
    exact Or.inr ⟨k, by omega, h3, h4.1, h4.2⟩
theorem ct_pos {p : Nat → Bool} : ∀ {n : Nat}, 0 < ct p n → ∃ k, k < n ∧ p k = true
  | 0, h => absurd h (Nat.lt_irrefl 0)
  | n + 1, h => by
    rw [ct] at h
    cases hp : p n with
    | true => exact ⟨n, by omega, hp⟩
    | false =>
      rw [hp] at h
      obtain ⟨k, hk, h2⟩ := ct_pos (n := n) (by simpa using h)
      exact ⟨k, by omega, h2⟩
theorem ct_zero {p : Nat → Bool} : ∀ {n : Nat}, (∀ k, k < n → p k = false) → ct p n = 0
  | 0, _ => rfl
  | n + 1, h => by rw [ct, ct_zero (fun k hk => h k (by omega)), h n (by omega)]; rfl
/-- a least one of those that p takes, by f -/
theorem least {p : Nat → Bool} (f : Nat → Nat) : ∀ {n : Nat}, (∃ k, k < n ∧ p k = true) → ∃ k, k < n ∧ p k = true ∧ ∀ o, o < n → p o = true → f k ≤ f o
  | 0, h => by obtain ⟨k, hk, -⟩ := h; omega
  | n + 1, h => by
    by_cases h1 : ∃ k, k < n ∧ p k = true
    · obtain ⟨k, h2, h3, h4⟩ := least f h1
      cases hp : p n with
      | false => exact ⟨k, by omega, h3, fun o ho hpo => by
          by_cases e : o = n
          · subst e; rw [hp] at hpo; cases hpo
          · exact h4 o (by omega) hpo⟩
      | true =>
        by_cases e : f k ≤ f n
        · exact ⟨k, by omega, h3, fun o ho hpo => by
            by_cases e2 : o = n
            · subst e2; exact e
            · exact h4 o (by omega) hpo⟩
        · exact ⟨n, by omega, hp, fun o ho hpo => by
            by_cases e2 : o = n
            · subst e2; exact Nat.le_refl _
            · have := h4 o (by omega) hpo
              omega⟩
    · obtain ⟨k, hk, hp⟩ := h
      have e : k = n := by
        by_cases e : k = n
        · exact e
        · exact absurd ⟨k, by omega, hp⟩ h1
      subst e
      exact ⟨k, by omega, hp, fun o ho hpo => by
        by_cases e2 : o = k
        · subst e2; exact Nat.le_refl _
        · exact absurd ⟨o, by omega, hpo⟩ h1⟩
/-- where somebody waits, somebody is the first -/
theorem wt_or {R : RW} (hI : Inv R) {j : Nat} (h : 0 < wm R j) : ∃ i, i < nn R 1 ∧ wt R j (nI 0) = nI i ∧ pf R i j = true := by
  obtain ⟨k, h1, h2, h3⟩ := least (p := fun i => pf R i j) (fun i => ky R i j) (n := nn R 1) (ct_pos h)
  have hw : wa R k j = 0 := ct_zero (fun o ho => by
    simp only [Bool.and_eq_false_iff, decide_eq_false_iff_not]
    by_cases hp : pf R o j = true
    · have := h3 o ho hp
      exact Or.inr (by omega)
    · exact Or.inl (by simpa using hp))
  rcases fs_or (fun i => pf R i j && decide (nI (wa R i j) = nI 0)) (nn R 1) 0 with ⟨-, h5⟩ | ⟨i, -, h6, h7, h8⟩
  · have := h5 k (Nat.zero_le _) (by omega)
    simp only [h2, hw, decide_true, Bool.and_true] at this
    cases this
  · simp only [Bool.and_eq_true] at h8
    exact ⟨i, by omega, h7, h8.1⟩
/-- how far a child's seat stands below its first choice -/
def po (R : RW) (i : Nat) : Nat := if pl R i (R (57 + 13 * i + 10)) = -1 then nn R (57 + 13 * i + 5) else nx (pl R i (R (57 + 13 * i + 10)))
def sm (f : Nat → Nat) : Nat → Nat
  | 0 => 0
  | n + 1 => sm f n + f n
theorem sm_cong {f g : Nat → Nat} : ∀ (n : Nat), (∀ k, k < n → f k = g k) → sm f n = sm g n
  | 0, _ => rfl
  | n + 1, h => by rw [sm, sm, sm_cong n (fun k hk => h k (by omega)), h n (by omega)]
theorem sm_le {f : Nat → Nat} {b : Nat} : ∀ (n : Nat), (∀ k, k < n → f k ≤ b) → sm f n ≤ n * b
  | 0, _ => Nat.zero_le _
  | n + 1, h => by have h1 := sm_le n (fun k hk => h k (by omega)); have h2 := h n (by omega); rw [sm, Nat.succ_mul]; omega
theorem sm_dec {f g : Nat → Nat} : ∀ {n i : Nat}, i < n → (∀ k, k < n → ¬ k = i → f k = g k) → f i < g i → sm f n < sm g n
  | 0, i, h, _, _ => by omega
  | n + 1, i, h, h1, h2 => by
    rw [sm, sm]
    by_cases e : i = n
    · subst e
      rw [sm_cong i (fun k hk => h1 k (by omega) (by omega))]; omega
    · have := sm_dec (n := n) (i := i) (by omega) (fun k hk hn => h1 k (by omega) hn) h2
      rw [h1 n (by omega) (by omega)]; omega
def mu (R : RW) : Nat := sm (po R) (nn R 1)
theorem po_le {R : RW} (hI : Inv R) {i : Nat} (hi : i < nn R 1) : po R i ≤ 4 := by
  have hm := (hI.m hi).2
  unfold po
  rcases pl_or R i (R (57 + 13 * i + 10)) with h | ⟨p, h1, h2, -⟩
  · rw [if_pos h]; exact hm
  · rw [h2]
    split
    · exact hm
    · show (nI p).toNatClampNeg ≤ 4
      rw [nI31 (by omega)]; omega
theorem mu_le {R : RW} (hI : Inv R) : mu R ≤ 96 := by
  have h1 := sm_le (f := po R) (b := 4) (nn R 1) (fun k hk => po_le hI hk)
  have h2 := hI.c
  unfold mu
  omega
theorem pl_mv {R : RW} {kind i : Nat} {x w : Int32} {k : Nat} (hk : k < 24) (hi : i < 24) (hm : nn R (57 + 13 * k + 5) ≤ 4) : pl (mv R kind i x) k w = pl R k w := by
  unfold pl
  rw [nn_mv (by omega) (by omega) (by omega)]
  exact plF_cong _ _ (fun p h1 h2 => mv_lo (by omega) (by omega) (by omega))
theorem mu_mv {R : RW} (hI : Inv R) {kind i j : Nat} (hi : i < nn R 1) (hj : j < nn R 0) (hp : pf R i j = true) : mu (mv R kind i (nI j)) < mu R := by
  have hc := hI.c
  have hs := hI.s
  unfold mu
  rw [nn_mv (by decide) (by decide) (by omega)]
  refine sm_dec hi (fun k hk hn => ?_) ?_
  · unfold po
    rw [mv_lo (by omega) (by omega) (by omega), pl_mv (by omega) (by omega) (hI.m hk).2, nn_mv (by omega) (by omega) (by omega)]
  · unfold pf at hp
    simp only [Bool.and_eq_true, Bool.or_eq_true, Bool.not_eq_true', decide_eq_false_iff_not, decide_eq_true_eq] at hp
    obtain ⟨h1, h2⟩ := hp
    rcases pl_or R i (nI j) with h | ⟨p, h3, h4, -⟩
    · exact absurd h h1
    · have hm := (hI.m hi).2
      have e1 : po (mv R kind i (nI j)) i = p := by
        unfold po
        rw [mv_seat, pl_mv (by omega) (by omega) hm, h4, if_neg (by rw [nI_m1 (by omega)]; exact id)]
        exact nI31 (by omega)
      rw [e1]
      unfold po
      rcases h2 with h2 | h2
      · rw [if_pos h2]; exact h3
      · rcases pl_or R i (R (57 + 13 * i + 10)) with h | ⟨p2, h5, h6, -⟩
        · rw [if_pos h]; exact h3
        · rw [h4, h6, nI_ltI (by omega) (by omega)] at h2
          rw [h6]
          split
          · exact h3
          · show p < (nI p2).toNatClampNeg
            rw [nI31 (by omega)]; exact h2
