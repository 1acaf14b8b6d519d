/-! ===== writing a number; where an address leads ===== -/
theorem ww_congr {B n : Nat} {A A' : AH} (h : ∀ o, o < n → A o = A' o) : ww B n A = ww B n A' :=
  List.map_congr_left fun o ho => by rw [h o (List.mem_range.mp ho)]
theorem cel_lo {E : WE} {s : ST} {o : Nat} (h : o < 620) : cel E s o = toE E s.1 (lay E o) := by
  unfold cel
  rw [if_neg (by omega), if_neg (by omega)]
theorem cel_put {E : WE} {B : Nat} {s : ST} {o ci k r j : Nat} {F : Nat → LV} {v : Int32} (ho : o < 620) (hl : lay E o = .inl (ci, F)) (hk : k < nfOf ci) (hF : F k = .inr (r, j)) :
    ww B 622 (va_up (cel E s) o (.inr (ci, ((List.range (nfOf ci)).map (fun k => lval s.1 (F k))).set k (.int v)))) = ww B 622 (cel E (upS s r j v)) := by
  have hw : owOk o (lay E o) := owLay ho
  rw [hl] at hw
  have h1 : ow r j = (o, k) := hw k hk r j hF
  refine ww_congr fun o' ho' => ?_
  by_cases e : o' = o
  · subst e
    rw [cel_lo ho, hl]
    simp only [va_up, if_true]
    show Sum.inr _ = Sum.inr _
    congr 2
    refine List.ext_getElem? fun k' => ?_
    by_cases hk' : k' < nfOf ci
    · have e2 : ((List.range (nfOf ci)).map (fun k => lval (upS s r j v).1 (F k)))[k']? = some (lval (up s.1 r j v) (F k')) := by
        rw [List.getElem?_map, List.getElem?_range hk']; rfl
      show _ = ((List.range (nfOf ci)).map (fun k => lval (upS s r j v).1 (F k)))[k']?
      rw [e2]
      by_cases e3 : k = k'
      · subst e3
        rw [List.getElem?_set_self (by simpa using hk), hF]
        show _ = some (Value.int (up s.1 r j v r j))
        rw [up_eq]
      · rw [List.getElem?_set_ne e3, List.getElem?_map, List.getElem?_range hk']
        cases hx : F k' with
        | inl a => simp [lval, hx]
        | inr q =>
          obtain ⟨r', j'⟩ := q
          have h2 := hw k' hk' r' j' hx
          simp only [Option.map_some, hx, lval]
          rw [up_ne (by rintro ⟨rfl, rfl⟩; rw [h1] at h2; exact e3 (Prod.mk.inj h2).2)]
    · rw [List.getElem?_eq_none (by simp; omega)]
      show _ = ((List.range (nfOf ci)).map (fun k => lval (upS s r j v).1 (F k)))[k']?
      rw [List.getElem?_eq_none (by simp; omega)]
  · rw [cel_far ho' (by rw [h1]; exact fun h => e h.symm)]
    simp [va_up, e]
theorem cel_ast {E : WE} {B : Nat} {s : ST} {o t n r off i : Nat} {v : Int32} (ho : o < 620) (hl : lay E o = .inr (.inl (t, n, r, off))) (hi : i < n) :
    ww B 622 (va_up (cel E s) o (.inl (eC E t, n, .inl (upd (fun j => if j < n then s.1 r (off + j) else 0) i v)))) = ww B 622 (cel E (upS s r (off + i) v)) := by
  have hw : owOk o (lay E o) := owLay ho
  rw [hl] at hw
  have h1 : ow r (off + i) = (o, i) := hw i hi
  refine ww_congr fun o' ho' => ?_
  by_cases e : o' = o
  · subst e
    rw [cel_lo ho, hl]
    simp only [va_up, if_true]
    show Sum.inl _ = Sum.inl _
    congr 4
    funext j
    show upd _ i v j = if j < n then up s.1 r (off + i) v r (off + j) else 0
    by_cases hj : j = i
    · subst hj
      rw [if_pos hi, up_eq]
      simp [upd]
    · by_cases hjn : j < n
      · rw [if_pos hjn, up_ne (by omega)]
        simp [upd, hj, hjn]
      · rw [if_neg hjn]
        simp [upd, hj, hjn]
  · rw [cel_far ho' (by rw [h1]; exact fun h => e h.symm)]
    simp [va_up, e]
def layA (E : WE) (a : Nat) : Option LE := if eB E ≤ a ∧ a < eB E + 620 then some (lay E (a - eB E)) else none
theorem layA_spec {E : WE} {a : Nat} {x : LE} (h : layA E a = some x) : ∃ o, a = eB E + o ∧ o < 620 ∧ lay E o = x := by
  unfold layA at h
  by_cases h1 : eB E ≤ a ∧ a < eB E + 620
  · rw [if_pos h1] at h
    exact ⟨a - eB E, by omega, by omega, Option.some.inj h⟩
  · rw [if_neg h1] at h; cases h
theorem layA_of {E : WE} {o : Nat} {x : LE} (h : o < 620) (hl : lay E o = x) : layA E (eB E + o) = some x := by
  unfold layA
  rw [if_pos ⟨by omega, by omega⟩, Nat.add_sub_cancel_left, hl]
theorem lay_desk {E : WE} {d q : Nat} (hd : d < 10) (hq : q < 60) : lay E (dO d + q) = leDesk E d q := by
  unfold lay dO
  by_cases h : d < 2
  · rw [if_pos h, if_neg (by omega), if_pos (by omega), show (1 + 60 * d + q - 1) / 60 = d by omega, show (1 + 60 * d + q - 1) % 60 = q by omega]
  · rw [if_neg h, if_neg (by omega), if_neg (by omega), if_neg (by omega), if_neg (by omega), if_pos (by omega), show (3 + 60 * d + q - 3) / 60 = d by omega, show (3 + 60 * d + q - 3) % 60 = q by omega]
theorem dO_lt {d q : Nat} (hd : d < 10) (hq : q < 60) : dO d + q < 603 := by
  unfold dO
  by_cases h : d < 2
  · rw [if_pos h]; omega
  · rw [if_neg h]; omega
theorem layA_desk {E : WE} {d q : Nat} (hd : d < 10) (hq : q < 60) {x : LE} (h : leDesk E d q = x) : layA E (eB E + (dO d + q)) = some x :=
  layA_of (by have := dO_lt hd hq; omega) ((lay_desk hd hq).trans h)
theorem lA_D {E : WE} {d : Nat} (hd : d < 10) : layA E (aD E d) = some (.inl (3, fDesk E d)) := layA_desk (q := 0) hd (by omega) rfl
theorem lA_Ss {E : WE} {d : Nat} (hd : d < 10) : layA E (aSs E d) = some (.inr (.inr (4, 6, aS E d))) := layA_desk (q := 1) hd (by omega) rfl
theorem lA_S {E : WE} {d i : Nat} (hd : d < 10) (hi : i < 6) : layA E (aS E d i) = some (.inl (6, fSch d i)) := by
  have h := layA_desk (E := E) (d := d) (q := 2 + i) (x := .inl (6, fSch d i)) hd (by omega) (by
    unfold leDesk; rw [if_neg (by omega), if_neg (by omega), if_pos (by omega), show 2 + i - 2 = i by omega])
  rw [show eB E + (dO d + (2 + i)) = aS E d i by unfold aS; omega] at h
  exact h
theorem lA_Cs {E : WE} {d : Nat} (hd : d < 10) : layA E (aCs E d) = some (.inr (.inr (5, 24, aC E d))) := layA_desk (q := 8) hd (by omega) rfl
theorem lA_C {E : WE} {d i : Nat} (hd : d < 10) (hi : i < 24) : layA E (aC E d i) = some (.inl (1, fChi E d i)) := by
  have h := layA_desk (E := E) (d := d) (q := 9 + 2 * i) (x := .inl (1, fChi E d i)) hd (by omega) (by
    unfold leDesk; rw [if_neg (by omega), if_neg (by omega), if_neg (by omega), if_neg (by omega), if_pos (by omega), if_pos (by omega), show (9 + 2 * i - 9) / 2 = i by omega])
  rw [show eB E + (dO d + (9 + 2 * i)) = aC E d i by unfold aC; omega] at h
  exact h
theorem lA_Cc {E : WE} {d i : Nat} (hd : d < 10) (hi : i < 24) : layA E (aCc E d i) = some (.inr (.inl (0, 4, d, 57 + 13 * i + 6))) := by
  have h := layA_desk (E := E) (d := d) (q := 10 + 2 * i) (x := .inr (.inl (0, 4, d, 57 + 13 * i + 6))) hd (by omega) (by
    unfold leDesk; rw [if_neg (by omega), if_neg (by omega), if_neg (by omega), if_neg (by omega), if_pos (by omega), if_neg (by omega), show (10 + 2 * i - 9) / 2 = i by omega])
  rw [show eB E + (dO d + (10 + 2 * i)) = aCc E d i by unfold aCc; omega] at h
  exact h
theorem lA_Pu {E : WE} {d : Nat} (hd : d < 10) : layA E (aPu E d) = some (.inr (.inl (0, 12, d, 45))) := layA_desk (q := 57) hd (by omega) rfl
theorem lA_J {E : WE} {d : Nat} (hd : d < 10) : layA E (aJ E d) = some (.inl (5, fJou E d)) := layA_desk (q := 58) hd (by omega) rfl
theorem lA_Jp {E : WE} {d : Nat} (hd : d < 10) : layA E (aJp E d) = some (.inr (.inl (0, 320, d, 369))) := layA_desk (q := 59) hd (by omega) rfl
theorem lA_0 {E : WE} : layA E (aF E 0) = some (.inl (7, fTop E)) := layA_of (by decide) rfl
theorem lA_121 {E : WE} : layA E (aF E 121) = some (.inl (4, fHis E)) := layA_of (by decide) rfl
theorem lA_122 {E : WE} : layA E (aF E 122) = some (.inr (.inr (6, 8, fun j => aD E (2 + j)))) := layA_of (by decide) rfl
theorem lA_603 {E : WE} : layA E (aF E 603) = some (.inl (0, fAll E)) := layA_of (by decide) rfl
theorem lA_604 {E : WE} : layA E (aF E 604) = some (.inr (.inl (0, 24, 11, 0))) := layA_of (by decide) rfl
theorem lA_605 {E : WE} : layA E (aF E 605) = some (.inr (.inl (0, 24, 12, 0))) := layA_of (by decide) rfl
theorem lA_606 {E : WE} : layA E (aF E 606) = some (.inr (.inl (0, 24, 13, 0))) := layA_of (by decide) rfl
theorem lA_607 {E : WE} : layA E (aF E 607) = some (.inr (.inl (0, 144, 14, 0))) := layA_of (by decide) rfl
theorem lA_608 {E : WE} : layA E (aF E 608) = some (.inl (2, fTxt E)) := layA_of (by decide) rfl
theorem lA_609 {E : WE} : layA E (aF E 609) = some (.inr (.inl (0, 40, 15, 0))) := layA_of (by decide) rfl
theorem lA_610 {E : WE} : layA E (aF E 610) = some (.inr (.inl (0, 4, 16, 0))) := layA_of (by decide) rfl
theorem lA_611 {E : WE} : layA E (aF E 611) = some (.inl (8, fMod E)) := layA_of (by decide) rfl
theorem lA_612 {E : WE} : layA E (aF E 612) = some (.inr (.inl (0, 689, 21, 0))) := layA_of (by decide) rfl
theorem lA_613 {E : WE} : layA E (aF E 613) = some (.inr (.inl (0, 5512, 22, 0))) := layA_of (by decide) rfl
theorem lA_614 {E : WE} : layA E (aF E 614) = some (.inr (.inl (0, 689, 23, 0))) := layA_of (by decide) rfl
theorem lA_615 {E : WE} : layA E (aF E 615) = some (.inr (.inl (0, 689, 24, 0))) := layA_of (by decide) rfl
theorem lA_616 {E : WE} : layA E (aF E 616) = some (.inr (.inl (1, 40, 25, 0))) := layA_of (by decide) rfl
theorem lA_617 {E : WE} : layA E (aF E 617) = some (.inr (.inl (0, 4, 26, 0))) := layA_of (by decide) rfl
theorem lA_618 {E : WE} : layA E (aF E 618) = some (.inr (.inl (0, 24, 27, 0))) := layA_of (by decide) rfl
theorem lA_619 {E : WE} : layA E (aF E 619) = some (.inr (.inl (0, 24, 28, 0))) := layA_of (by decide) rfl
/-- 1: an int field that may be set, 2: a boolean one, 0: none -/
def putT (ci k : Nat) : Nat := match ci with
  | 1 => if k = 0 then 0 else 1
  | 2 => if k < 2 then 0 else 1
  | 3 => if k < 4 then 0 else 1
  | 4 => if k = 0 then 0 else 1
  | 5 => if k = 0 then 0 else 1
  | 6 => 1
  | 7 => if k < 5 then 0 else if k = 5 then 2 else 1
  | 8 => if k = 4 ∨ k = 13 then 2 else if k = 2 ∨ k = 6 ∨ k = 7 ∨ k = 8 ∨ k = 10 ∨ k = 11 ∨ k = 12 ∨ k = 14 then 1 else 0
  | _ => 0
def putC (ci k : Nat) : Bool := match wCl[ci]? with
  | some r => decide (r.2.2 = nfOf ci) && (decide (putT ci k = 0) || (decide (k < r.2.2) && decide ((r.2.1 k).2.2.2 = false) && decide (parseFieldDescriptor (r.2.1 k).2.2.1 = some (if putT ci k = 2 then .boolean else .int))))
  | none => false
theorem putC_all : (List.range 9).all (fun ci => (List.range 18).all (fun k => decide (nfOf ci ≤ k) || putC ci k)) = true := by decide +kernel
theorem putC_of {ci k : Nat} (hc : ci < 9) (hk : k < nfOf ci) : putC ci k = true := by
  have h1 := List.all_eq_true.mp putC_all ci (List.mem_range.mpr hc)
  have hk18 : k < 18 := by
    rcases (show ci = 0 ∨ ci = 1 ∨ ci = 2 ∨ ci = 3 ∨ ci = 4 ∨ ci = 5 ∨ ci = 6 ∨ ci = 7 ∨ ci = 8 by omega) with rfl | rfl | rfl | rfl | rfl | rfl | rfl | rfl | rfl <;> simp only [nfOf] at hk <;> omega
  have h2 := List.all_eq_true.mp h1 k (List.mem_range.mpr hk18)
  simp only [Bool.or_eq_true, decide_eq_true_eq] at h2
  rcases h2 with h2 | h2
  · omega
  · exact h2
theorem inCn {ci : Nat} {r : vw_C} (h : wCl[ci]? = some r) : ∀ w ∈ u_ws r.1 r.2.1 r.2.2, w ∈ wT := by
  have hl : ci < 9 := (List.getElem?_eq_some_iff.mp h).1
  rcases (show ci = 0 ∨ ci = 1 ∨ ci = 2 ∨ ci = 3 ∨ ci = 4 ∨ ci = 5 ∨ ci = 6 ∨ ci = 7 ∨ ci = 8 by omega) with rfl | rfl | rfl | rfl | rfl | rfl | rfl | rfl | rfl <;> cases h
  · exact inC0
  · exact inC1
  · exact inC2
  · exact inC3
  · exact inC4
  · exact inC5
  · exact inC6
  · exact inC7
  · exact inC8
def tyOf (ci : Nat) : Nat → FieldType := match ci with
  | 0 => tyX0 | 1 => tyX1 | 2 => tyX2 | 3 => tyX3 | 4 => tyX4 | 5 => tyX5 | 6 => tyX7 | 7 => tyX8 | _ => tyX9
theorem tyOf_ok {ci : Nat} {r : vw_C} (h : wCl[ci]? = some r) : ∀ k, k < r.2.2 → parseFieldDescriptor (r.2.1 k).2.2.1 = some (tyOf ci k) := by
  have hl : ci < 9 := (List.getElem?_eq_some_iff.mp h).1
  rcases (show ci = 0 ∨ ci = 1 ∨ ci = 2 ∨ ci = 3 ∨ ci = 4 ∨ ci = 5 ∨ ci = 6 ∨ ci = 7 ∨ ci = 8 by omega) with rfl | rfl | rfl | rfl | rfl | rfl | rfl | rfl | rfl <;> cases h
  · exact tyX0_ok
  · exact tyX1_ok
  · exact tyX2_ok
  · exact tyX3_ok
  · exact tyX4_ok
  · exact tyX5_ok
  · exact tyX7_ok
  · exact tyX8_ok
  · exact tyX9_ok
theorem nmOf_ok {ci : Nat} {r : vw_C} (h : wCl[ci]? = some r) : ∀ a, a < r.2.2 → ∀ b, b < r.2.2 → a ≠ b → (r.2.1 a).2.1 ≠ (r.2.1 b).2.1 := by
  have hl : ci < 9 := (List.getElem?_eq_some_iff.mp h).1
  rcases (show ci = 0 ∨ ci = 1 ∨ ci = 2 ∨ ci = 3 ∨ ci = 4 ∨ ci = 5 ∨ ci = 6 ∨ ci = 7 ∨ ci = 8 by omega) with rfl | rfl | rfl | rfl | rfl | rfl | rfl | rfl | rfl <;> cases h
  · exact nmX0
  · exact nmX1
  · exact nmX2
  · exact nmX3
  · exact nmX4
  · exact nmX5
  · exact nmX7
  · exact nmX8
  · exact nmX9
