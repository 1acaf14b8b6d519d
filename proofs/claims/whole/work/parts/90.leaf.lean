/-! ===== what the constructors make: the leaves ===== -/
def numI (r j : Nat) : Int32 := if (r ≤ 9 ∧ 57 ≤ j ∧ j < 369 ∧ ((j - 57) % 13 = 4 ∨ (j - 57) % 13 = 10)) ∨ (r = 10 ∧ j = 2) ∨ (r = 20 ∧ j = 4) then nI 0 - nI 1 else nI 0
theorem numI_0 {r j : Nat} (h : ¬((r ≤ 9 ∧ 57 ≤ j ∧ j < 369 ∧ ((j - 57) % 13 = 4 ∨ (j - 57) % 13 = 10)) ∨ (r = 10 ∧ j = 2) ∨ (r = 20 ∧ j = 4))) : numI r j = nI 0 := if_neg h
theorem numI_1 {r j : Nat} (h : (r ≤ 9 ∧ 57 ≤ j ∧ j < 369 ∧ ((j - 57) % 13 = 4 ∨ (j - 57) % 13 = 10)) ∨ (r = 10 ∧ j = 2) ∨ (r = 20 ∧ j = 4)) : numI r j = nI 0 - nI 1 := if_pos h
def s00 : ST := (numI, fun _ => 0, fun _ => 0)
/-- the world that is to come -/
def TT (E : WE) : AH := cel E s00
theorem TT_of {E : WE} {o : Nat} {x : LE} (ho : o < 620) (h : layA E (eB E + o) = some x) : TT E o = toE E numI x := by
  obtain ⟨o', e, -, hl⟩ := layA_spec h
  have : o' = o := by omega
  subst this
  unfold TT
  rw [cel_lo ho, hl]
  rfl
def CtP (E : WE) (A : AH) (o n n' : Nat) : PO := fun oc A' m z => oc = .inl none ∧ m = n' ∧ z = true ∧ (∀ x, x < n → ¬ x = o → A' x = A x) ∧ A' o = TT E o ∧ ∀ x, n ≤ x → x < n' → A' x = TT E x
theorem vu_eq {A : AH} {o : Nat} {x : va_E} : va_up A o x o = x := if_pos rfl
theorem vu_ne {A : AH} {o o' : Nat} {x : va_E} (h : ¬ o' = o) : va_up A o x o' = A o' := if_neg h
def finOk (y : MethodName) (ci kf : Nat) : Bool := match wCl[ci]? with
  | some r => decide ((r.2.1 kf).2.2.2 = false) || (decide ((r.2.1 kf).2.2.2 = true) && decide (y.name = "<init>") && decide ((r.2.1 kf).1 = y.cls))
  | none => false
section CTT
variable {E : WE} {mi : MI} {C : CT} {d mc ms : Nat} {P : PO} {tb : TB} {pc : Nat} {ls : List (Option Value)} {st : List Value} {A : AH} {n k q : Nat} {z : Bool}
theorem j_pf (X : Cx E mi C) {L : List (Nat × Nat × Nat × Nat)} (hL : L.all (flOk mi.1.cls) = true) (htb : tbOk mi.2.1 tb = true) {idx ci kf : Nat} (hi9 : lkp tb pc = some (.putfield idx, 0)) (hfl : flk L idx = some (ci, kf)) (hf : finOk mi.1 ci kf = true) {o : Nat} (ho : o < n) {fs : List Value} (hA : A o = .inr (ci, fs)) {v : Value} (hn : narrow (tyOf ci kf) v = v ∧ fits (tyOf ci kf) v = true) (hl9 : kf < fs.length)
    (kk : J E mi C d mc ms P (pc + 3) ls st (va_up A o (.inr (ci, fs.set kf v))) n z k q) : J E mi C d mc ms P pc ls (v :: .ref (eB E + o) :: st) A n z k q := by
  obtain ⟨r, hc, hk9, hlink⟩ := flk_spec hL hfl
  simp only at hc hk9 hlink
  unfold finOk at hf
  rw [hc] at hf
  simp only [Bool.or_eq_true, Bool.and_eq_true, decide_eq_true_eq] at hf
  refine j_put X htb hi9 hc hk9 hlink ?_ ho hA hn.1 hn.2 hl9 kk
  rcases hf with h | ⟨⟨h1, h2⟩, h3⟩
  · exact Or.inl h
  · exact Or.inr ⟨h1, h2, h3⟩
theorem j_ret0 (X : Cx E mi C) (htb : tbOk mi.2.1 tb = true) (hi : lkp tb pc = some (.return_, 0)) (hr : mi.2.2.2 = none) (hP : P (.inl none) A n z) (hk : k ≤ mc) (hq : q ≤ ms) : J E mi C d mc ms P pc ls [] A n z k q :=
  J_vret X hr hP hk hq (lkd htb hi (by simp [instrLen]))
theorem arrI {cA : ClassId} {N : Nat} : vp_cell cA (N, .inl (fun _ => 0)) = arrV cA N (fun _ => defaultValue .int) := rfl
theorem arrC {cA : ClassId} {N : Nat} : vp_cell cA (N, .inl (fun _ => 0)) = arrV cA N (fun _ => defaultValue .char) := rfl
theorem aI_w : Cond.arrayClass (newarray.typeOf .int) ∈ wT := wAt_in (i := 187) (by decide +kernel)
theorem aC_w : Cond.arrayClass (newarray.typeOf .char) ∈ wT := wAt_in (i := 1071) (by decide +kernel)
/-- a new array of ints -/
theorem j_ia (X : Cx E mi C) (htb : tbOk mi.2.1 tb = true) (hi : lkp tb pc = some (.newarray .int, 0)) {N : Nat} (hN : N < 10000) (hk : k + 1 ≤ mc) (hq : q + N ≤ ms)
    (kk : J E mi C d mc ms P (pc + 2) ls (.ref (eB E + n) :: st) (va_up A n (.inl (eC E 0, N, .inl (fun _ => 0)))) (n + 1) true (k + 1) (q + N)) : J E mi C d mc ms P pc ls (.int (nI N) :: st) A n true k q :=
  j_newa X htb hi aI_w (ty := .int) rfl (t := 0) rfl (fun _ _ => rfl) (fun _ => arrI) rfl hN (by decide) hk hq kk
theorem j_ca (X : Cx E mi C) (htb : tbOk mi.2.1 tb = true) (hi : lkp tb pc = some (.newarray .char, 0)) {N : Nat} (hN : N < 10000) (hk : k + 1 ≤ mc) (hq : q + N ≤ ms)
    (kk : J E mi C d mc ms P (pc + 2) ls (.ref (eB E + n) :: st) (va_up A n (.inl (eC E 1, N, .inl (fun _ => 0)))) (n + 1) true (k + 1) (q + N)) : J E mi C d mc ms P pc ls (.int (nI N) :: st) A n true k q :=
  j_newa X htb hi aC_w (ty := .char) rfl (t := 1) rfl (fun _ _ => rfl) (fun _ => arrC) rfl hN (by decide) hk hq kk
end CTT
theorem toE_arr {E : WE} {t N r off : Nat} (h : ∀ j, j < N → numI r (off + j) = nI 0) : toE E numI (.inr (.inl (t, N, r, off))) = .inl (eC E t, N, .inl (fun _ => 0)) := by
  show Sum.inl (eC E t, N, Sum.inl (fun j => if j < N then numI r (off + j) else 0)) = _
  congr 4
  funext j
  by_cases c : j < N
  · rw [if_pos c, h j c]; rfl
  · rw [if_neg c]
theorem ct_school {E : WE} {d : Nat} (hd : 1 ≤ d) {A : AH} {n : Nat} {z : Bool} {b : Nat} : Sp E mX7_init d 0 0 [.ref b] A n z (fun oc A' m z' => oc = .inl none ∧ A' = A ∧ m = n ∧ z' = z) := by
  refine Sp.mk (by decide +kernel) (fun v hv => by simp at hv; subst hv; rfl) (Nat.le_of_ble_eq_true rfl) (fun C X => ?_)
  rw [show entL [.ref b] mX7_init.2.2.1 = [some (.ref b)] from rfl]
  refine j_aload X tX7_init_ok kX7_init_0 rfl ?_
  refine j_super X tX7_init_ok kX7_init_1 (wAt_in (i := 95) (by decide +kernel)) hd (by decide) ?_
  exact j_ret0 X tX7_init_ok kX7_init_4 rfl ⟨rfl, rfl, rfl, rfl⟩ (Nat.le_refl 0) (Nat.le_refl 0)
theorem T_C {E : WE} {d i : Nat} (hd : d < 10) (hi : i < 24) : TT E (dO d + 9 + 2 * i) = .inr (1, [.ref (eB E + (dO d + 9 + 2 * i + 1)), .int (nI 0), .int (nI 0), .int (nI 0), .int (nI 0), .int (nI 0), .int (nI 0 - nI 1), .int (nI 0 - nI 1), .int (nI 0), .int (nI 0)]) := by
  have h := lA_C (E := E) hd hi
  unfold aC at h
  have hlt : dO d + 9 + 2 * i < 603 := by have := dO_lt (q := 9 + 2 * i) hd (by omega); omega
  rw [TT_of (by omega) h]
  show Sum.inr (1, [lval numI (fChi E d i 0), lval numI (fChi E d i 1), lval numI (fChi E d i 2), lval numI (fChi E d i 3), lval numI (fChi E d i 4), lval numI (fChi E d i 5), lval numI (fChi E d i 6), lval numI (fChi E d i 7), lval numI (fChi E d i 8), lval numI (fChi E d i 9)]) = _
  simp only [fChi, lval]
  rw [numI_0 (j := 57 + 13 * i + 5) (by omega), numI_0 (j := 57 + 13 * i) (by omega), numI_0 (j := 57 + 13 * i + 1) (by omega), numI_0 (j := 57 + 13 * i + 2) (by omega), numI_0 (j := 57 + 13 * i + 3) (by omega), numI_1 (j := 57 + 13 * i + 4) (by omega), numI_1 (j := 57 + 13 * i + 10) (by omega), numI_0 (j := 57 + 13 * i + 11) (by omega), numI_0 (j := 57 + 13 * i + 12) (by omega)]
  unfold aCc
  rw [show dO d + 10 + 2 * i = dO d + 9 + 2 * i + 1 by omega]
theorem T_Cc {E : WE} {d i : Nat} (hd : d < 10) (hi : i < 24) : TT E (dO d + 9 + 2 * i + 1) = .inl (eC E 0, 4, .inl (fun _ => 0)) := by
  have h := lA_Cc (E := E) hd hi
  unfold aCc at h
  have hlt : dO d + 9 + 2 * i + 1 < 603 := by have := dO_lt (q := 10 + 2 * i) hd (by omega); omega
  rw [show dO d + 10 + 2 * i = dO d + 9 + 2 * i + 1 by omega] at h
  rw [TT_of (by omega) h]
  exact toE_arr (fun j hj => numI_0 (by omega))
theorem cI_n1 : cI (-1) = nI 0 - nI 1 := by decide
set_option maxHeartbeats 1000000 in
theorem ct_child {E : WE} {d0 d i : Nat} (hd0 : 1 ≤ d0) (hd : d < 10) (hi : i < 24) {A : AH} (hA : A (dO d + 9 + 2 * i) = .inr (1, [.null, .int (nI 0), .int (nI 0), .int (nI 0), .int (nI 0), .int (nI 0), .int (nI 0), .int (nI 0), .int (nI 0), .int (nI 0)])) :
    Sp E mX1_init d0 1 4 [.ref (eB E + (dO d + 9 + 2 * i))] A (dO d + 9 + 2 * i + 1) true (CtP E A (dO d + 9 + 2 * i) (dO d + 9 + 2 * i + 1) (dO d + 9 + 2 * i + 2)) := by
  have tC := T_C (E := E) hd hi
  have tCc := T_Cc (E := E) hd hi
  generalize dO d + 9 + 2 * i = o at hA tC tCc ⊢
  refine Sp.mk (by decide +kernel) (fun v hv => by simp at hv; subst hv; rfl) (Nat.le_of_ble_eq_true rfl) (fun C X => ?_)
  rw [show entL [.ref (eB E + o)] mX1_init.2.2.1 = [some (.ref (eB E + o))] from rfl]
  refine j_aload X tX1_init_ok kX1_init_0 rfl ?_
  refine j_super X tX1_init_ok kX1_init_1 (wAt_in (i := 135) (by decide +kernel)) hd0 (by decide) ?_
  refine j_aload X tX1_init_ok kX1_init_4 rfl ?_
  refine j_iconst (v := 4) X tX1_init_ok kX1_init_5 (show cI 4 = nI 4 by decide) ?_
  refine j_ia X tX1_init_ok kX1_init_6 (by decide) (by decide) (by decide) ?_
  refine j_pf X flX1_ok tX1_init_ok kX1_init_8 fX1_9 (by decide +kernel) (Nat.lt_succ_of_lt (Nat.lt_succ_self o)) ((vu_ne (o := o + 1) (o' := o) (by omega)).trans hA) ⟨rfl, rfl⟩ (by show 0 < 10; decide) ?_
  refine j_aload X tX1_init_ok kX1_init_11 rfl ?_
  refine j_iconst (v := -1) X tX1_init_ok kX1_init_12 cI_n1 ?_
  refine j_pf X flX1_ok tX1_init_ok kX1_init_13 fX1_15 (by decide +kernel) (Nat.lt_succ_of_lt (Nat.lt_succ_self o)) vu_eq ⟨rfl, rfl⟩ (by show 6 < 10; decide) ?_
  refine j_aload X tX1_init_ok kX1_init_16 rfl ?_
  refine j_iconst (v := -1) X tX1_init_ok kX1_init_17 cI_n1 ?_
  refine j_pf X flX1_ok tX1_init_ok kX1_init_18 fX1_19 (by decide +kernel) (Nat.lt_succ_of_lt (Nat.lt_succ_self o)) vu_eq ⟨rfl, rfl⟩ (by show 7 < 10; decide) ?_
  refine j_ret0 X tX1_init_ok kX1_init_21 rfl ⟨rfl, rfl, rfl, fun x hx hxo => ?_, ?_, fun x h1 h2 => ?_⟩ (Nat.le_refl 1) (Nat.le_refl 4)
  · rw [vu_ne hxo, vu_ne hxo, vu_ne hxo, vu_ne (by omega)]
  · rw [vu_eq, tC]; rfl
  · have : x = o + 1 := by omega
    subst this
    rw [vu_ne (by omega), vu_ne (by omega), vu_ne (by omega), vu_eq, tCc]
