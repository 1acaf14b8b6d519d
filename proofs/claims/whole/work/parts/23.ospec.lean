/-! ===== what each call answers, and what it leaves: for the class and the reference alike ===== -/
abbrev OR : Type := AS × Int32 × Int32
def lt9 (b : Nat) (x : Int32) (h : ixB (b + 1) x = true) (hb : b + 1 < 2 ^ 31) : le9 b x := by
  obtain ⟨j, hj, e⟩ := ixB_of hb h
  exact ⟨j, by omega, e⟩
/-- a row with a new school -/
def nSc (R : RW) (x y se ra : Int32) : RW := ur (ur (ur (ur (ur (ur (ur (ur R (3 + 7 * nn R 0 + 0) x) (3 + 7 * nn R 0 + 1) y) (3 + 7 * nn R 0 + 2) se) (3 + 7 * nn R 0 + 3) ra) (3 + 7 * nn R 0 + 4) (nI 0)) (3 + 7 * nn R 0 + 5) (nI 50)) (3 + 7 * nn R 0 + 6) (nI 0)) 0 (nI (nn R 0 + 1))
theorem nSc_0 {R : RW} {x y se ra : Int32} : nSc R x y se ra 0 = nI (nn R 0 + 1) := ur_eq
theorem nSc_lo {R : RW} {x y se ra : Int32} {k : Nat} (h0 : ¬ k = 0) (h : k < 3 + 7 * nn R 0 ∨ 3 + 7 * nn R 0 + 7 ≤ k) : nSc R x y se ra k = R k := by
  unfold nSc
  rw [ur_ne h0, ur_ne (by omega), ur_ne (by omega), ur_ne (by omega), ur_ne (by omega), ur_ne (by omega), ur_ne (by omega), ur_ne (by omega)]
theorem nSc_at {R r : RW} {x y se ra : Int32} {w : Nat} (hw : w < 7) (e : nn r 0 = nn R 0) : nSc R x y se ra (3 + 7 * nn R 0 + w) = nSc r x y se ra (3 + 7 * nn R 0 + w) ∧ (le9 99 x → le9 99 y → le9 12 se → le9 198 ra → le9 (bS w) (nSc R x y se ra (3 + 7 * nn R 0 + w))) := by
  unfold nSc
  rw [e]
  rcases (show w = 0 ∨ w = 1 ∨ w = 2 ∨ w = 3 ∨ w = 4 ∨ w = 5 ∨ w = 6 by omega) with rfl | rfl | rfl | rfl | rfl | rfl | rfl
  · rw [ur_ne (by omega), ur_ne (by omega), ur_ne (by omega), ur_ne (by omega), ur_ne (by omega), ur_ne (by omega), ur_ne (by omega), ur_eq, ur_ne (by omega), ur_ne (by omega), ur_ne (by omega), ur_ne (by omega), ur_ne (by omega), ur_ne (by omega), ur_ne (by omega), ur_eq]
    exact ⟨rfl, fun a _ _ _ => a⟩
  · rw [ur_ne (by omega), ur_ne (by omega), ur_ne (by omega), ur_ne (by omega), ur_ne (by omega), ur_ne (by omega), ur_eq, ur_ne (by omega), ur_ne (by omega), ur_ne (by omega), ur_ne (by omega), ur_ne (by omega), ur_ne (by omega), ur_eq]
    exact ⟨rfl, fun _ a _ _ => a⟩
  · rw [ur_ne (by omega), ur_ne (by omega), ur_ne (by omega), ur_ne (by omega), ur_ne (by omega), ur_eq, ur_ne (by omega), ur_ne (by omega), ur_ne (by omega), ur_ne (by omega), ur_ne (by omega), ur_eq]
    exact ⟨rfl, fun _ _ a _ => a⟩
  · rw [ur_ne (by omega), ur_ne (by omega), ur_ne (by omega), ur_ne (by omega), ur_eq, ur_ne (by omega), ur_ne (by omega), ur_ne (by omega), ur_ne (by omega), ur_eq]
    exact ⟨rfl, fun _ _ _ a => a⟩
  · rw [ur_ne (by omega), ur_ne (by omega), ur_ne (by omega), ur_eq, ur_ne (by omega), ur_ne (by omega), ur_ne (by omega), ur_eq]
    exact ⟨rfl, fun _ _ _ _ => ⟨0, by decide, rfl⟩⟩
  · rw [ur_ne (by omega), ur_ne (by omega), ur_eq, ur_ne (by omega), ur_ne (by omega), ur_eq]
    exact ⟨rfl, fun _ _ _ _ => ⟨50, by decide, rfl⟩⟩
  · rw [ur_ne (by omega), ur_eq, ur_ne (by omega), ur_eq]
    exact ⟨rfl, fun _ _ _ _ => ⟨0, by decide, rfl⟩⟩
theorem okC_mono {n n' w : Nat} {x : Int32} (h : okC n w x) (hn : n ≤ n') : okC n' w x := by
  unfold okC at h ⊢
  split at h
  all_goals first
    | exact h
    | (rcases h with h | ⟨j, hj, e⟩
       · exact Or.inl h
       · exact Or.inr ⟨j, by omega, e⟩)
theorem Inv.ml {R : RW} (h : InvA R) {i : Nat} (hi : i < nn R 1) : nn R (57 + 13 * i + 5) ≤ 4 := by
  obtain ⟨n, hn, e⟩ := h.2.2.1 i 5 hi (by decide)
  unfold nn; rw [e, nI31 (by omega)]; exact hn
theorem nSc_inv {R : RW} (h : Inv R) (hn : nn R 0 < 6) {x y se ra : Int32} (hx : le9 99 x) (hy : le9 99 y) (hse : le9 12 se) (hra : le9 198 ra) : Inv (nSc R x y se ra) := by
  rw [Inv.alt] at h ⊢
  have hml := @Inv.ml R h
  obtain ⟨⟨h0, h1, h2⟩, hs, hc, hp⟩ := h
  have n0 : nn (nSc R x y se ra) 0 = nn R 0 + 1 := by rw [show nn (nSc R x y se ra) 0 = (nSc R x y se ra 0).toNatClampNeg from rfl, nSc_0, nI31 (by omega)]
  have lo : ∀ k, ¬ k = 0 → (k < 3 + 7 * nn R 0 ∨ 3 + 7 * nn R 0 + 7 ≤ k) → nSc R x y se ra k = R k := fun k a b => nSc_lo a b
  have nlo : ∀ k, ¬ k = 0 → (k < 3 + 7 * nn R 0 ∨ 3 + 7 * nn R 0 + 7 ≤ k) → nn (nSc R x y se ra) k = nn R k := fun k a b => by unfold nn; rw [lo k a b]
  have l1 := h1.2
  refine ⟨⟨nm_of (n := nn R 0 + 1) nSc_0 (by omega) (by decide), ⟨by rw [nlo 1 (by omega) (by omega), lo 1 (by omega) (by omega)]; exact h1.1, by rw [nlo 1 (by omega) (by omega)]; exact h1.2⟩, ⟨by rw [nlo 2 (by omega) (by omega), lo 2 (by omega) (by omega)]; exact h2.1, by rw [nlo 2 (by omega) (by omega)]; exact h2.2⟩⟩, fun j w hj hw => ?_, fun i w hi hw => ?_, fun i p hi hp9 => ?_⟩
  · rw [n0] at hj
    by_cases e : j = nn R 0
    · subst e; exact (nSc_at hw rfl).2 hx hy hse hra
    · rw [lo _ (by omega) (by omega)]; exact hs j w (by omega) hw
  · rw [nlo 1 (by omega) (by omega)] at hi
    rw [n0, lo _ (by omega) (by omega)]; exact okC_mono (hc i w hi hw) (by omega)
  · rw [nlo 1 (by omega) (by omega)] at hi
    rw [nlo _ (by omega) (by omega)] at hp9
    have := hml hi
    rw [n0, lo _ (by omega) (by omega)]
    obtain ⟨j, hj, e⟩ := hp i p hi hp9
    exact ⟨j, by omega, e⟩
theorem nSc_sh {r R : RW} (hS : Sh r R) (h : Inv R) (hn : nn R 0 < 6) {x y se ra : Int32} : Sh (nSc r x y se ra) (nSc R x y se ra) := by
  have e0 : nn r 0 = nn R 0 := by unfold nn; rw [hS.1.1]
  have lo : ∀ k, ¬ k = 0 → (k < 3 + 7 * nn R 0 ∨ 3 + 7 * nn R 0 + 7 ≤ k) → nSc R x y se ra k = R k := fun k a b => nSc_lo a b
  have lo2 : ∀ k, ¬ k = 0 → (k < 3 + 7 * nn R 0 ∨ 3 + 7 * nn R 0 + 7 ≤ k) → nSc r x y se ra k = r k := fun k a b => nSc_lo a (by rw [e0]; exact b)
  have nlo : ∀ k, ¬ k = 0 → (k < 3 + 7 * nn R 0 ∨ 3 + 7 * nn R 0 + 7 ≤ k) → nn (nSc R x y se ra) k = nn R k := fun k a b => by unfold nn; rw [lo k a b]
  have n0 : nn (nSc R x y se ra) 0 = nn R 0 + 1 := by rw [show nn (nSc R x y se ra) 0 = (nSc R x y se ra 0).toNatClampNeg from rfl, nSc_0, nI31 (by omega)]
  have l1 := h.c
  obtain ⟨⟨a0, a1, a2⟩, a3, a4, a5, a6, a7⟩ := hS
  refine ⟨⟨by rw [nSc_0, nSc_0, e0], by rw [lo 1 (by omega) (by omega), lo2 1 (by omega) (by omega)]; exact a1, by rw [lo 2 (by omega) (by omega), lo2 2 (by omega) (by omega)]; exact a2⟩, fun j w hj hw => ?_, fun f hf => ?_, fun i w hi hw hw2 => ?_, fun i p hi hp => ?_, fun e w he he8 hw => ?_⟩
  · rw [n0] at hj
    by_cases e : j = nn R 0
    · subst e; exact (nSc_at hw e0).1.symm
    · rw [lo _ (by omega) (by omega), lo2 _ (by omega) (by omega)]; exact a3 j w (by omega) hw
  · rw [lo _ (by omega) (by omega), lo2 _ (by omega) (by omega)]; exact a4 f hf
  · rw [nlo 1 (by omega) (by omega)] at hi
    rw [lo _ (by omega) (by omega), lo2 _ (by omega) (by omega)]; exact a5 i w hi hw hw2
  · rw [nlo 1 (by omega) (by omega)] at hi
    rw [nlo _ (by omega) (by omega)] at hp
    have := (h.m hi).2
    rw [lo _ (by omega) (by omega), lo2 _ (by omega) (by omega)]; exact a6 i p hi hp
  · rw [nlo 2 (by omega) (by omega)] at he
    rw [lo _ (by omega) (by omega), lo2 _ (by omega) (by omega)]; exact a7 e w he he8 hw
def oAddSchool (x y se ra : Int32) (a : AS) : OR :=
  if ixB 100 x && ixB 100 y && ixB 13 se && ixB 199 ra then (if nn (aR a) 0 = 6 then (a, nI 0, nI 2) else (wR (puA a) (nSc (aR a) x y se ra), nI (nn (aR a) 0), nI 0)) else (a, nI 0, nI 1)
def oSet (w m : Nat) (x v : Int32) (a : AS) : OR :=
  if ixB (nn (aR a) 0) x then (if ixB (m + 1) v then (wR (puA a) (ur (aR a) (3 + 7 * nx x + w) v), aR a (3 + 7 * nx x + w), nI 0) else (a, nI 0, nI 2)) else (a, nI 0, nI 1)
def oSetSeats (x v : Int32) (a : AS) : OR :=
  if ixB (nn (aR a) 0) x then (if ixB 13 v then (wR (puA a) (flN 96 (ur (aR a) (3 + 7 * nx x + 2) v)).2, nI (flN 96 (ur (aR a) (3 + 7 * nx x + 2) v)).1, nI 0) else (a, nI 0, nI 2)) else (a, nI 0, nI 1)
def puB (b : Bool) (o x : Int32) : Int32 := if b then o ||| nI 1 <<< (x &&& 31) else o &&& (nI 1 <<< (x &&& 31) ^^^ -1)
def oSetPupils (f x : Int32) (b : Bool) (a : AS) : OR :=
  if ixB 12 f && ixB (nn (aR a) 0) x then (wR (puA a) (ur (aR a) (45 + nx f) (puB b (aR a (45 + nx f)) x)), bv (hasB (aR a (45 + nx f)) x), nI 0) else (a, nI 0, nI 1)
def sch (R : RW) (j : Nat) (w : Int32) : Option Int32 :=
  if ixB 5 w then some (R (3 + 7 * j + (nx w + 2))) else if w = nI 5 then some (nI (hl R j)) else if w = nI 6 then some (nI (fr R j)) else if w = nI 7 then some (nI (wm R j)) else if w = nI 8 then some (nI (ct (fun i => nr R i j) (nn R 1))) else none
/-- an answer that there is, or the second exception -/
def opt2 (a : AS) (o : Option Int32) : OR := match o with
  | some v => (a, v, nI 0)
  | none => (a, nI 0, nI 2)
def oSchool (x w : Int32) (a : AS) : OR := if ixB (nn (aR a) 0) x then opt2 a (sch (aR a) (nx x) w) else (a, nI 0, nI 1)
def nno (x : Int32) : Option Int32 := if x = -1 then none else some x
def oHeld (x k : Int32) (a : AS) : OR := if ixB (nn (aR a) 0) x then opt2 a (nno (ht (aR a) (nx x) k)) else (a, nI 0, nI 1)
def oWaiting (x k : Int32) (a : AS) : OR := if ixB (nn (aR a) 0) x then opt2 a (nno (wt (aR a) (nx x) k)) else (a, nI 0, nI 1)
theorem nx_nI {j : Nat} (h : j < 2 ^ 31) : nx (nI j) = j := nI31 h
theorem fl_inv {N : Nat} : ∀ {R : RW}, Inv R → nn R 2 + N ≤ 1073741824 → Inv (flN N R).2 ∧ nn (flN N R).2 2 ≤ nn R 2 + N ∧ (flN N R).1 ≤ N := by
  induction N with
  | zero => intro R h _; exact ⟨h, Nat.le_refl _, Nat.le_refl _⟩
  | succ n ih =>
    intro R h he
    have hs := h.s
    have hc := h.c
    rw [flN]
    by_cases hne : sf R = -1
    · rw [if_pos hne]
      exact ⟨h, Nat.le_add_right _ _, Nat.zero_le _⟩
    · rw [if_neg hne]
      rcases sf_or h with h1 | ⟨j, hj, h1, -, hw⟩
      · exact absurd h1 hne
      · obtain ⟨i, hi, hwt, hp⟩ := wt_or h hw
        have ej : nx (sf R) = j := by rw [h1]; exact nI31 (by omega)
        rw [ej, hwt, show nx (nI i) = i from nI31 (by omega), h1]
        show Inv (flN n (mv R 1 i (nI j))).2 ∧ nn (flN n (mv R 1 i (nI j))).2 2 ≤ nn R 2 + (n + 1) ∧ (flN n (mv R 1 i (nI j))).1 + 1 ≤ n + 1
        have hI2 : Inv (mv R 1 i (nI j)) := h.mv hi (Or.inr ⟨j, hj, rfl⟩) (by omega)
        have h22 : nn (mv R 1 i (nI j)) 2 = nn R 2 + 1 := mv_2 (by omega)
        obtain ⟨a1, a2, a3⟩ := ih hI2 (by omega)
        exact ⟨a1, by omega, by omega⟩
theorem ROk.fl {B : Nat} {R : RW} (h : ROk B R) (hB : B + 200 ≤ 1073741824) : ROk (B + 96) (flN 96 R).2 := by
  have h2 := h.2
  obtain ⟨a1, a2, -⟩ := fl_inv (N := 96) h.1 (by omega)
  exact ⟨a1, by omega⟩
