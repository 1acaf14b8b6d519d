/-! ===== where everything lies: the class's objects, then the reference's; all numbers in one table s r j ===== -/
abbrev ST : Type := (Nat → Nat → Int32) × (Nat → Int64) × (Nat → UInt64)
abbrev LV : Type := Nat ⊕ (Nat × Nat)
abbrev LE : Type := (Nat × (Nat → LV)) ⊕ ((Nat × Nat × Nat × Nat) ⊕ (Nat × Nat × (Nat → Nat)))
def nfOf (ci : Nat) : Nat := match ci with
  | 0 => 4 | 1 => 10 | 2 => 9 | 3 => 6 | 4 => 3 | 5 => 2 | 6 => 7 | 7 => 8 | _ => 18
def dO (d : Nat) : Nat := if d < 2 then 1 + 60 * d else 3 + 60 * d
def aF (E : WE) (o : Nat) : Nat := eB E + o
def aD (E : WE) (d : Nat) : Nat := eB E + dO d
def aSs (E : WE) (d : Nat) : Nat := eB E + (dO d + 1)
def aS (E : WE) (d i : Nat) : Nat := eB E + (dO d + 2 + i)
def aCs (E : WE) (d : Nat) : Nat := eB E + (dO d + 8)
def aC (E : WE) (d i : Nat) : Nat := eB E + (dO d + 9 + 2 * i)
def aCc (E : WE) (d i : Nat) : Nat := eB E + (dO d + 10 + 2 * i)
def aPu (E : WE) (d : Nat) : Nat := eB E + (dO d + 57)
def aJ (E : WE) (d : Nat) : Nat := eB E + (dO d + 58)
def aJp (E : WE) (d : Nat) : Nat := eB E + (dO d + 59)
def fDesk (E : WE) (d k : Nat) : LV := match k with
  | 0 => .inl (aSs E d) | 1 => .inl (aCs E d) | 2 => .inl (aPu E d) | 3 => .inl (aJ E d) | 4 => .inr (d, 0) | _ => .inr (d, 1)
def fSch (d i k : Nat) : LV := .inr (d, 3 + 7 * i + k)
def fChi (E : WE) (d i k : Nat) : LV := match k with
  | 0 => .inl (aCc E d i) | 1 => .inr (d, 57 + 13 * i + 5) | 2 => .inr (d, 57 + 13 * i) | 3 => .inr (d, 57 + 13 * i + 1) | 4 => .inr (d, 57 + 13 * i + 2) | 5 => .inr (d, 57 + 13 * i + 3)
  | 6 => .inr (d, 57 + 13 * i + 4) | 7 => .inr (d, 57 + 13 * i + 10) | 8 => .inr (d, 57 + 13 * i + 11) | _ => .inr (d, 57 + 13 * i + 12)
def fJou (E : WE) (d k : Nat) : LV := match k with
  | 0 => .inl (aJp E d) | _ => .inr (d, 2)
def fTop (E : WE) (k : Nat) : LV := match k with
  | 0 => .inl (aD E 0) | 1 => .inl (aD E 1) | 2 => .inl (aF E 121) | 3 => .inl (aF E 603) | 4 => .inl (aF E 608) | 5 => .inr (10, 0) | 6 => .inr (10, 1) | _ => .inr (10, 2)
def fHis (E : WE) (k : Nat) : LV := match k with
  | 0 => .inl (aF E 122) | 1 => .inr (10, 3) | _ => .inr (10, 4)
def fAll (E : WE) (k : Nat) : LV := match k with
  | 0 => .inl (aF E 604) | 1 => .inl (aF E 605) | 2 => .inl (aF E 606) | _ => .inl (aF E 607)
def fTxt (E : WE) (k : Nat) : LV := match k with
  | 0 => .inl (aF E 609) | 1 => .inl (aF E 610) | 2 => .inr (10, 5) | 3 => .inr (10, 6) | 4 => .inr (10, 7) | 5 => .inr (10, 8) | 6 => .inr (10, 9) | 7 => .inr (10, 10) | _ => .inr (10, 11)
def fMod (E : WE) (k : Nat) : LV := match k with
  | 0 => .inl (aF E 612) | 1 => .inl (aF E 613) | 2 => .inr (20, 0) | 3 => .inl (aF E 614) | 4 => .inr (20, 1) | 5 => .inl (aF E 615) | 6 => .inr (20, 2) | 7 => .inr (20, 3) | 8 => .inr (20, 4)
  | 9 => .inl (aF E 616) | 10 => .inr (20, 5) | 11 => .inr (20, 6) | 12 => .inr (20, 7) | 13 => .inr (20, 8) | 14 => .inr (20, 9) | 15 => .inl (aF E 617) | 16 => .inl (aF E 618) | _ => .inl (aF E 619)
def leDesk (E : WE) (d q : Nat) : LE :=
  if q = 0 then .inl (3, fDesk E d) else if q = 1 then .inr (.inr (4, 6, aS E d)) else if q < 8 then .inl (6, fSch d (q - 2)) else if q = 8 then .inr (.inr (5, 24, aC E d))
  else if q < 57 then (if (q - 9) % 2 = 0 then .inl (1, fChi E d ((q - 9) / 2)) else .inr (.inl (0, 4, d, 57 + 13 * ((q - 9) / 2) + 6)))
  else if q = 57 then .inr (.inl (0, 12, d, 45)) else if q = 58 then .inl (5, fJou E d) else .inr (.inl (0, 320, d, 369))
def leRest (E : WE) (o : Nat) : LE := match o with
  | 603 => .inl (0, fAll E) | 604 => .inr (.inl (0, 24, 11, 0)) | 605 => .inr (.inl (0, 24, 12, 0)) | 606 => .inr (.inl (0, 24, 13, 0)) | 607 => .inr (.inl (0, 144, 14, 0))
  | 608 => .inl (2, fTxt E) | 609 => .inr (.inl (0, 40, 15, 0)) | 610 => .inr (.inl (0, 4, 16, 0)) | 611 => .inl (8, fMod E)
  | 612 => .inr (.inl (0, 689, 21, 0)) | 613 => .inr (.inl (0, 5512, 22, 0)) | 614 => .inr (.inl (0, 689, 23, 0)) | 615 => .inr (.inl (0, 689, 24, 0)) | 616 => .inr (.inl (1, 40, 25, 0))
  | 617 => .inr (.inl (0, 4, 26, 0)) | 618 => .inr (.inl (0, 24, 27, 0)) | _ => .inr (.inl (0, 24, 28, 0))
def lay (E : WE) (o : Nat) : LE :=
  if o = 0 then .inl (7, fTop E) else if o < 121 then leDesk E ((o - 1) / 60) ((o - 1) % 60) else if o = 121 then .inl (4, fHis E) else if o = 122 then .inr (.inr (6, 8, fun j => aD E (2 + j)))
  else if o < 603 then leDesk E ((o - 3) / 60) ((o - 3) % 60) else leRest E o
def lval (s : Nat → Nat → Int32) (x : LV) : Value := match x with
  | .inl a => .ref a
  | .inr q => .int (s q.1 q.2)
def toE (E : WE) (s : Nat → Nat → Int32) (x : LE) : va_E := match x with
  | .inl o => .inr (o.1, (List.range (nfOf o.1)).map (fun k => lval s (o.2 k)))
  | .inr (.inl a) => .inl (eC E a.1, a.2.1, .inl (fun j => if j < a.2.1 then s a.2.2.1 (a.2.2.2 + j) else 0))
  | .inr (.inr a) => .inl (eC E a.1, a.2.1, .inr (.inr (.inr (.inr (fun j => some (a.2.2 j))))))
def cel (E : WE) (s : ST) (o : Nat) : va_E :=
  if o = 620 then .inl (eC E 2, 1, .inr (.inl s.2.1)) else if o = 621 then .inl (eC E 3, 1, .inr (.inr (.inr (.inl s.2.2)))) else toE E s.1 (lay E o)
/-- whose a number is: the cell, and the place in it -/
def ow (r j : Nat) : Nat × Nat :=
  if r ≤ 9 then (if j = 0 then (dO r, 4) else if j = 1 then (dO r, 5) else if j = 2 then (dO r + 58, 1) else if j < 45 then (dO r + 2 + (j - 3) / 7, (j - 3) % 7) else if j < 57 then (dO r + 57, j - 45)
    else if j < 369 then (if (j - 57) % 13 < 5 then (dO r + 9 + 2 * ((j - 57) / 13), (j - 57) % 13 + 2) else if (j - 57) % 13 = 5 then (dO r + 9 + 2 * ((j - 57) / 13), 1)
      else if (j - 57) % 13 < 10 then (dO r + 10 + 2 * ((j - 57) / 13), (j - 57) % 13 - 6) else (dO r + 9 + 2 * ((j - 57) / 13), (j - 57) % 13 - 3)) else (dO r + 59, j - 369))
  else if r = 10 then (if j < 3 then (0, 5 + j) else if j < 5 then (121, j - 2) else (608, j - 3))
  else if r < 15 then (593 + r, j) else if r = 15 then (609, j) else if r = 16 then (610, j)
  else if r = 20 then (611, if j = 0 then 2 else if j = 1 then 4 else if j < 5 then j + 4 else j + 5) else (591 + r, j)
def owOk (o : Nat) (x : LE) : Prop := match x with
  | .inl c => ∀ k, k < nfOf c.1 → ∀ r j, c.2 k = .inr (r, j) → ow r j = (o, k)
  | .inr (.inl a) => ∀ i, i < a.2.1 → ow a.2.2.1 (a.2.2.2 + i) = (o, i)
  | .inr (.inr _) => True
theorem owDesk {E : WE} {d q : Nat} (hd : d < 10) (hq : q < 60) : owOk (dO d + q) (leDesk E d q) := by
  have hd9 : d ≤ 9 := by omega
  unfold leDesk
  by_cases h0 : q = 0
  · rw [if_pos h0]
    intro k hk r j h
    rcases (show k = 0 ∨ k = 1 ∨ k = 2 ∨ k = 3 ∨ k = 4 ∨ k = 5 by simp only [nfOf] at hk; omega) with rfl | rfl | rfl | rfl | rfl | rfl <;> simp only [fDesk, reduceCtorEq, Sum.inr.injEq, Prod.mk.injEq] at h
    · obtain ⟨rfl, rfl⟩ := h; simp [ow, hd9, h0]
    · obtain ⟨rfl, rfl⟩ := h; simp [ow, hd9, h0]
  rw [if_neg h0]
  by_cases h1 : q = 1
  · rw [if_pos h1]; trivial
  rw [if_neg h1]
  by_cases h2 : q < 8
  · rw [if_pos h2]
    intro k hk r j h
    simp only [nfOf] at hk
    simp only [fSch, Sum.inr.injEq, Prod.mk.injEq] at h
    obtain ⟨rfl, rfl⟩ := h
    have e1 : (3 + 7 * (q - 2) + k - 3) / 7 = q - 2 := by omega
    have e2 : (3 + 7 * (q - 2) + k - 3) % 7 = k := by omega
    unfold ow
    rw [if_pos hd9, if_neg (by omega), if_neg (by omega), if_neg (by omega), if_pos (by omega), e1, e2]
    exact Prod.ext (by show _ = _; omega) rfl
  rw [if_neg h2]
  by_cases h3 : q = 8
  · rw [if_pos h3]; trivial
  rw [if_neg h3]
  by_cases h4 : q < 57
  · rw [if_pos h4]
    by_cases h5 : (q - 9) % 2 = 0
    · rw [if_pos h5]
      intro k hk r j h
      obtain ⟨i, hi⟩ : ∃ i, i = (q - 9) / 2 := ⟨_, rfl⟩
      have hi2 : i < 24 := by omega
      have hq2 : q = 9 + 2 * i := by omega
      rw [← hi] at h
      subst hq2
      simp only [nfOf] at hk
      rcases (show k = 0 ∨ k = 1 ∨ k = 2 ∨ k = 3 ∨ k = 4 ∨ k = 5 ∨ k = 6 ∨ k = 7 ∨ k = 8 ∨ k = 9 by omega) with rfl | rfl | rfl | rfl | rfl | rfl | rfl | rfl | rfl | rfl <;> simp only [fChi, reduceCtorEq, Sum.inr.injEq, Prod.mk.injEq] at h <;> obtain ⟨rfl, rfl⟩ := h
      all_goals
        unfold ow
        rw [if_pos hd9, if_neg (by omega), if_neg (by omega), if_neg (by omega), if_neg (by omega), if_neg (by omega), if_pos (by omega)]
        first
          | (rw [if_pos (by omega)]; refine Prod.ext ?_ ?_ <;> first | (dsimp only; omega) | rfl)
          | (rw [if_neg (by omega), if_pos (by omega)]; refine Prod.ext ?_ ?_ <;> first | (dsimp only; omega) | rfl)
          | (rw [if_neg (by omega), if_neg (by omega), if_neg (by omega)]; refine Prod.ext ?_ ?_ <;> first | (dsimp only; omega) | rfl)
    · rw [if_neg h5]
      intro i9 hi9
      simp only at hi9 ⊢
      obtain ⟨i, hi⟩ : ∃ i, i = (q - 9) / 2 := ⟨_, rfl⟩
      have hi2 : i < 24 := by omega
      have hq2 : q = 10 + 2 * i := by omega
      rw [← hi]
      subst hq2
      unfold ow
      rw [if_pos hd9, if_neg (by omega), if_neg (by omega), if_neg (by omega), if_neg (by omega), if_neg (by omega), if_pos (by omega), if_neg (by omega), if_neg (by omega), if_pos (by omega)]
      refine Prod.ext ?_ ?_ <;> first | (dsimp only; omega) | rfl
  rw [if_neg h4]
  by_cases h6 : q = 57
  · rw [if_pos h6]
    intro i hi
    simp only at hi ⊢
    subst h6
    unfold ow
    rw [if_pos hd9, if_neg (by omega), if_neg (by omega), if_neg (by omega), if_neg (by omega), if_pos (by omega)]
    refine Prod.ext ?_ ?_ <;> first | (dsimp only; omega) | rfl
  rw [if_neg h6]
  by_cases h7 : q = 58
  · rw [if_pos h7]
    intro k hk r j h
    rcases (show k = 0 ∨ k = 1 by simp only [nfOf] at hk; omega) with rfl | rfl <;> simp only [fJou, reduceCtorEq, Sum.inr.injEq, Prod.mk.injEq] at h
    obtain ⟨rfl, rfl⟩ := h
    simp [ow, hd9, h7]
  rw [if_neg h7]
  intro i hi
  simp only at hi ⊢
  have hq3 : q = 59 := by omega
  subst hq3
  unfold ow
  rw [if_pos hd9, if_neg (by omega), if_neg (by omega), if_neg (by omega), if_neg (by omega), if_neg (by omega), if_neg (by omega)]
  refine Prod.ext ?_ ?_ <;> first | (dsimp only; omega) | rfl
theorem owRest {E : WE} {o : Nat} (h1 : 603 ≤ o) (h2 : o < 620) : owOk o (leRest E o) := by
  rcases (show o = 603 ∨ o = 604 ∨ o = 605 ∨ o = 606 ∨ o = 607 ∨ o = 608 ∨ o = 609 ∨ o = 610 ∨ o = 611 ∨ o = 612 ∨ o = 613 ∨ o = 614 ∨ o = 615 ∨ o = 616 ∨ o = 617 ∨ o = 618 ∨ o = 619 by omega) with
    rfl | rfl | rfl | rfl | rfl | rfl | rfl | rfl | rfl | rfl | rfl | rfl | rfl | rfl | rfl | rfl | rfl
  all_goals simp only [leRest]
  case inr.inr.inr.inr.inr.inl =>
    intro k hk r j h
    simp only [nfOf] at hk
    rcases (show k = 0 ∨ k = 1 ∨ k = 2 ∨ k = 3 ∨ k = 4 ∨ k = 5 ∨ k = 6 ∨ k = 7 ∨ k = 8 by omega) with rfl | rfl | rfl | rfl | rfl | rfl | rfl | rfl | rfl <;> simp only [fTxt, reduceCtorEq, Sum.inr.injEq, Prod.mk.injEq] at h <;> obtain ⟨rfl, rfl⟩ := h <;> rfl
  case inr.inr.inr.inr.inr.inr.inr.inr.inl =>
    intro k hk r j h
    simp only [nfOf] at hk
    rcases (show k = 0 ∨ k = 1 ∨ k = 2 ∨ k = 3 ∨ k = 4 ∨ k = 5 ∨ k = 6 ∨ k = 7 ∨ k = 8 ∨ k = 9 ∨ k = 10 ∨ k = 11 ∨ k = 12 ∨ k = 13 ∨ k = 14 ∨ k = 15 ∨ k = 16 ∨ k = 17 by omega) with rfl | rfl | rfl | rfl | rfl | rfl | rfl | rfl | rfl | rfl | rfl | rfl | rfl | rfl | rfl | rfl | rfl | rfl <;> simp only [fMod, reduceCtorEq, Sum.inr.injEq, Prod.mk.injEq] at h <;> obtain ⟨rfl, rfl⟩ := h <;> rfl
  case inl =>
    intro k hk r j h
    simp only [nfOf] at hk
    rcases (show k = 0 ∨ k = 1 ∨ k = 2 ∨ k = 3 by omega) with rfl | rfl | rfl | rfl <;> simp only [fAll, reduceCtorEq] at h
  all_goals
    intro i hi
    simp only at hi ⊢
    simp [ow]
theorem owLay {E : WE} {o : Nat} (h : o < 620) : owOk o (lay E o) := by
  unfold lay
  by_cases h0 : o = 0
  · rw [if_pos h0]
    intro k hk r j h
    simp only [nfOf] at hk
    subst h0
    rcases (show k = 0 ∨ k = 1 ∨ k = 2 ∨ k = 3 ∨ k = 4 ∨ k = 5 ∨ k = 6 ∨ k = 7 by omega) with rfl | rfl | rfl | rfl | rfl | rfl | rfl | rfl <;> simp only [fTop, reduceCtorEq, Sum.inr.injEq, Prod.mk.injEq] at h <;> obtain ⟨rfl, rfl⟩ := h <;> rfl
  rw [if_neg h0]
  by_cases h1 : o < 121
  · rw [if_pos h1]
    have := owDesk (E := E) (d := (o - 1) / 60) (q := (o - 1) % 60) (by omega) (by omega)
    have e : dO ((o - 1) / 60) + (o - 1) % 60 = o := by unfold dO; rw [if_pos (by omega)]; omega
    rw [e] at this
    exact this
  rw [if_neg h1]
  by_cases h2 : o = 121
  · rw [if_pos h2]
    intro k hk r j h
    simp only [nfOf] at hk
    subst h2
    rcases (show k = 0 ∨ k = 1 ∨ k = 2 by omega) with rfl | rfl | rfl <;> simp only [fHis, reduceCtorEq, Sum.inr.injEq, Prod.mk.injEq] at h <;> obtain ⟨rfl, rfl⟩ := h <;> rfl
  rw [if_neg h2]
  by_cases h3 : o = 122
  · rw [if_pos h3]; trivial
  rw [if_neg h3]
  by_cases h4 : o < 603
  · rw [if_pos h4]
    have := owDesk (E := E) (d := (o - 3) / 60) (q := (o - 3) % 60) (by omega) (by omega)
    have e : dO ((o - 3) / 60) + (o - 3) % 60 = o := by unfold dO; rw [if_neg (by omega)]; omega
    rw [e] at this
    exact this
  rw [if_neg h4]
  exact owRest (by omega) h
/-- a number is changed -/
def up (s : Nat → Nat → Int32) (r j : Nat) (v : Int32) : Nat → Nat → Int32 := fun r' j' => if r' = r ∧ j' = j then v else s r' j'
def upS (s : ST) (r j : Nat) (v : Int32) : ST := (up s.1 r j v, s.2)
theorem up_eq {s : Nat → Nat → Int32} {r j : Nat} {v : Int32} : up s r j v r j = v := by simp [up]
theorem up_ne {s : Nat → Nat → Int32} {r j r' j' : Nat} {v : Int32} (h : ¬ (r' = r ∧ j' = j)) : up s r j v r' j' = s r' j' := by simp [up, h]
theorem toE_far {E : WE} {s : Nat → Nat → Int32} {r j : Nat} {v : Int32} {o : Nat} {x : LE} (h : owOk o x) (ho : (ow r j).1 ≠ o) : toE E (up s r j v) x = toE E s x := by
  rcases x with c | a | a
  · have e : ∀ k, k < nfOf c.1 → lval (up s r j v) (c.2 k) = lval s (c.2 k) := by
      intro k hk
      cases hx : c.2 k with
      | inl a => rfl
      | inr q =>
        obtain ⟨r', j'⟩ := q
        have h1 := h k hk r' j' hx
        show Value.int _ = Value.int _
        rw [up_ne (by rintro ⟨rfl, rfl⟩; rw [h1] at ho; exact ho rfl)]
    show Sum.inr _ = Sum.inr _
    congr 2
    exact List.map_congr_left fun k hk => e k (List.mem_range.mp hk)
  · show Sum.inl _ = Sum.inl _
    congr 4
    funext i
    by_cases hi : i < a.2.1
    · rw [if_pos hi, if_pos hi]
      have h1 := h i hi
      rw [up_ne (by rintro ⟨e1, e2⟩; rw [e1, e2] at h1; rw [h1] at ho; exact ho rfl)]
    · rw [if_neg hi, if_neg hi]
  · rfl
theorem cel_far {E : WE} {s : ST} {r j : Nat} {v : Int32} {o : Nat} (h : o < 622) (ho : (ow r j).1 ≠ o) : cel E (upS s r j v) o = cel E s o := by
  unfold cel
  by_cases h1 : o = 620
  · rw [if_pos h1, if_pos h1]; rfl
  · rw [if_neg h1, if_neg h1]
    by_cases h2 : o = 621
    · rw [if_pos h2, if_pos h2]; rfl
    · rw [if_neg h2, if_neg h2]
      exact toE_far (owLay (by omega)) ho
