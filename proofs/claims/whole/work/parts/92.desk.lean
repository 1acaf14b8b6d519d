/-! ===== the desk's constructor ===== -/
theorem arrV_congr {c : ClassId} {n : Nat} {f g : Nat → Value} (h : ∀ j, j < n → f j = g j) : arrV c n f = arrV c n g := by
  unfold arrV
  congr 2
  funext j
  exact h j j.2
abbrev qA (E : WE) (t N : Nat) (f : Nat → Option Nat) : va_E := .inl (eC E t, N, .inr (.inr (.inr (.inr f))))
theorem j_conv {E : WE} {mi : MI} {C : CT} {d mc ms : Nat} {P : PO} {pc : Nat} {ls : List (Option Value)} {st : List Value} {A : AH} {n k q : Nat} {z : Bool} {o t N : Nat} {f f' : Nat → Option Nat} (hA : A o = qA E t N f) (hf : ∀ j, j < N → f j = f' j)
    (kk : J E mi C d mc ms P pc ls st (va_up A o (qA E t N f')) n z k q) : J E mi C d mc ms P pc ls st A n z k q := by
  obtain ⟨p, e, s0, m, args, below, meth, c⟩ := C
  intro H locs arr hS0 hS1 hl hlen
  refine kk H locs arr ⟨fun k9 y hk9 => ?_, hS0.2⟩ hS1 hl hlen
  obtain ⟨hk, e1⟩ := ww_get_iff hk9
  by_cases h : k9 = o
  · subst h
    have h0 := hS0.1 k9 _ (ww_get hk)
    rw [hA] at h0
    rw [e1, vu_eq]
    have h0 : H[eB E + k9]? = some (vp_cell (eC E t) (N, .inr (.inr (.inr (.inr f))))) := h0
    show H[eB E + k9]? = some (vp_cell (eC E t) (N, .inr (.inr (.inr (.inr f')))))
    rw [h0, vp_cell_q, vp_cell_q]
    congr 1
    exact arrV_congr (fun j hj => by rw [hf j hj])
  · rw [e1, vu_ne h]
    exact hS0.1 k9 _ (ww_get hk)
theorem T_D {E : WE} {d : Nat} (hd : d < 10) : TT E (dO d) = .inr (3, [.ref (eB E + (dO d + 1)), .ref (eB E + (dO d + 8)), .ref (eB E + (dO d + 57)), .ref (eB E + (dO d + 58)), .int (nI 0), .int (nI 0)]) := by
  have h := lA_D (E := E) hd
  unfold aD at h
  have hlt := dO_lt (q := 0) hd (by decide)
  rw [TT_of (by omega) h]
  show Sum.inr (3, [lval numI (fDesk E d 0), lval numI (fDesk E d 1), lval numI (fDesk E d 2), lval numI (fDesk E d 3), lval numI (fDesk E d 4), lval numI (fDesk E d 5)]) = _
  simp only [fDesk, lval]
  rw [numI_0 (j := 0) (by omega), numI_0 (j := 1) (by omega)]
  rfl
theorem T_Ss {E : WE} {d : Nat} (hd : d < 10) : TT E (dO d + 1) = qA E 4 6 (fun j => some (aS E d j)) := by
  have h := lA_Ss (E := E) hd
  unfold aSs at h
  have hlt := dO_lt (q := 1) hd (by decide)
  rw [TT_of (by omega) h]
  rfl
theorem T_Cs {E : WE} {d : Nat} (hd : d < 10) : TT E (dO d + 8) = qA E 5 24 (fun j => some (aC E d j)) := by
  have h := lA_Cs (E := E) hd
  unfold aCs at h
  have hlt := dO_lt (q := 8) hd (by decide)
  rw [TT_of (by omega) h]
  rfl
theorem T_Pu {E : WE} {d : Nat} (hd : d < 10) : TT E (dO d + 57) = .inl (eC E 0, 12, .inl (fun _ => 0)) := by
  have h := lA_Pu (E := E) hd
  unfold aPu at h
  have hlt := dO_lt (q := 57) hd (by decide)
  rw [TT_of (by omega) h]
  exact toE_arr (fun j hj => numI_0 (by omega))
theorem T_S {E : WE} {d i : Nat} (hd : d < 10) (hi : i < 6) : TT E (dO d + 2 + i) = .inr (6, [.int (nI 0), .int (nI 0), .int (nI 0), .int (nI 0), .int (nI 0), .int (nI 0), .int (nI 0)]) := by
  have h := lA_S (E := E) hd hi
  unfold aS at h
  have hlt := dO_lt (q := 2 + i) hd (by omega)
  rw [TT_of (by omega) h]
  show Sum.inr (6, [lval numI (fSch d i 0), lval numI (fSch d i 1), lval numI (fSch d i 2), lval numI (fSch d i 3), lval numI (fSch d i 4), lval numI (fSch d i 5), lval numI (fSch d i 6)]) = _
  simp only [fSch, lval]
  rw [numI_0 (j := 3 + 7 * i + 0) (by omega), numI_0 (j := 3 + 7 * i + 1) (by omega), numI_0 (j := 3 + 7 * i + 2) (by omega), numI_0 (j := 3 + 7 * i + 3) (by omega), numI_0 (j := 3 + 7 * i + 4) (by omega), numI_0 (j := 3 + 7 * i + 5) (by omega), numI_0 (j := 3 + 7 * i + 6) (by omega)]
theorem blk7 : ∀ j, j < 7 → defaultValue (tyOf 6 j) = vp_V [.int (nI 0), .int (nI 0), .int (nI 0), .int (nI 0), .int (nI 0), .int (nI 0), .int (nI 0)] j := by decide +kernel
theorem blk1 : ∀ j, j < 10 → defaultValue (tyOf 1 j) = vp_V [.null, .int (nI 0), .int (nI 0), .int (nI 0), .int (nI 0), .int (nI 0), .int (nI 0), .int (nI 0), .int (nI 0), .int (nI 0)] j := by decide +kernel
theorem blk5 : ∀ j, j < 2 → defaultValue (tyOf 5 j) = vp_V [.null, .int (nI 0)] j := by decide +kernel
theorem blk3 : ∀ j, j < 6 → defaultValue (tyOf 3 j) = vp_V [.null, .null, .null, .null, .int (nI 0), .int (nI 0)] j := by decide +kernel
theorem fil {g : Nat → Nat} {i v : Nat} (h : v = g i) : va_up (fun j => if j < i then some (g j) else none) i (some v) = fun j => if j < i + 1 then some (g j) else none := by
  funext j
  show (if j = i then some v else if j < i then some (g j) else none) = if j < i + 1 then some (g j) else none
  by_cases c : j = i
  · subst c
    rw [if_pos rfl, if_pos (by omega), h]
  · rw [if_neg c]
    by_cases c2 : j < i
    · rw [if_pos c2, if_pos (by omega)]
    · rw [if_neg c2, if_neg (by omega)]
section DSK
variable {E : WE} {C : CT} {d0 : Nat} {P : PO} {d : Nat}
def D1 (E : WE) (A0 : AH) (d i : Nat) (A : AH) : Prop := (∀ x, x < dO d → A x = A0 x) ∧ A (dO d) = .inr (3, [.ref (eB E + (dO d + 1)), .null, .null, .null, .int (nI 0), .int (nI 0)]) ∧ A (dO d + 1) = qA E 4 6 (fun j => if j < i then some (aS E d j) else none) ∧ ∀ x, dO d + 2 ≤ x → x < dO d + 2 + i → A x = TT E x
def D2 (E : WE) (A0 : AH) (d i : Nat) (A : AH) : Prop := (∀ x, x < dO d → A x = A0 x) ∧ A (dO d) = .inr (3, [.ref (eB E + (dO d + 1)), .ref (eB E + (dO d + 8)), .null, .null, .int (nI 0), .int (nI 0)]) ∧ A (dO d + 8) = qA E 5 24 (fun j => if j < i then some (aC E d j) else none) ∧ (∀ x, dO d + 1 ≤ x → x < dO d + 8 → A x = TT E x) ∧ ∀ x, dO d + 9 ≤ x → x < dO d + 9 + 2 * i → A x = TT E x
theorem dk_1 (X : Cx E mX3_init C) (hd0 : 3 ≤ d0) (hd : d < 10) {A0 : AH} (hK : ∀ A, D1 E A0 d 6 A → J E mX3_init C d0 59 742 P 40 [some (.ref (eB E + dO d)), some (.int (nI 6))] [] A (dO d + 8) true 7 48) :
    ∀ (r i : Nat), i + r = 6 → ∀ A, D1 E A0 d i A → J E mX3_init C d0 59 742 P 15 [some (.ref (eB E + dO d)), some (.int (nI i))] [] A (dO d + 2 + i) true (1 + i) (6 + 7 * i) := by
  intro r
  induction r with
  | zero =>
    intro i hi A hD
    have : i = 6 := by omega
    subst this
    refine j_iload X tX3_init_ok kX3_init_15 rfl ?_
    refine j_bipush X tX3_init_ok kX3_init_16 (show bI 6 = nI 6 by decide) ?_
    exact j_ge X tX3_init_ok kX3_init_18 (fun _ => hK A hD) (fun c => absurd (by rw [nI_leI (by decide) (by decide)]; decide) c)
  | succ r ih =>
    intro i hi A hD
    have hi6 : i < 6 := by omega
    obtain ⟨h1, h2, h3, h4⟩ := hD
    refine j_iload X tX3_init_ok kX3_init_15 rfl ?_
    refine j_bipush X tX3_init_ok kX3_init_16 (show bI 6 = nI 6 by decide) ?_
    refine j_ge X tX3_init_ok kX3_init_18 (fun c => by rw [nI_leI (by decide) (by omega)] at c; omega) (fun _ => ?_)
    refine j_aload X tX3_init_ok kX3_init_21 rfl ?_
    refine j_get X flX3_ok tX3_init_ok kX3_init_22 fX3_11 (show dO d < dO d + 2 + i by omega) h2 rfl ?_
    refine j_iload X tX3_init_ok kX3_init_25 rfl ?_
    refine j_new X tX3_init_ok (ci := 6) kX3_init_26 rfl (wAt_in (i := 89) (by decide +kernel)) (wAt_in (i := 91) (by decide +kernel)) (wAt_in (i := 53) (by decide +kernel)) blk7 (by omega) (by show 6 + 7 * i + 7 ≤ 742; omega) ?_
    refine j_dup X tX3_init_ok kX3_init_29 ?_
    refine J_callIN X (As := []) (rest := [.ref (eB E + (dO d + 2 + i)), .int (nI i), .ref (eB E + (dO d + 1))]) (ct_school (d := 1) (Nat.le_refl 1)) vX7_init (List.mem_of_getElem? (i := 0) rfl) rfl rfl (by show 1 + (1 + (1 + 0)) ≤ 8; omega) (by omega) (by omega) (by show 6 + 7 * i + 7 + 0 ≤ 742; omega) (lkd tX3_init_ok kX3_init_30 (by simp [instrLen])) (fun v A' n' z' hp => ?_) (fun Z A' n' z' hp => by cases hp.1)
    obtain ⟨e1, rfl, rfl, rfl⟩ := hp
    cases e1
    refine j_astq X tX3_init_ok kX3_init_33 (t := 4) (o := dO d + 1) (ov := dO d + 2 + i) (ci := 6) (N := 6) (j := i) (by omega) ((vu_ne (o := dO d + 2 + i) (o' := dO d + 1) (by omega)).trans h3) rfl (by omega) vu_eq rfl hi6 (by decide) ?_
    refine j_iinc X tX3_init_ok kX3_init_34 rfl (show nI i + cI 1 = nI (i + 1) by rw [show cI 1 = nI 1 by decide, nI_add]) ?_
    refine j_goto X tX3_init_ok kX3_init_37 ?_
    have := ih (i + 1) (by omega) (va_up (va_up A (dO d + 2 + i) (.inr (6, [.int (nI 0), .int (nI 0), .int (nI 0), .int (nI 0), .int (nI 0), .int (nI 0), .int (nI 0)]))) (dO d + 1) (qA E 4 6 (va_up (fun j => if j < i then some (aS E d j) else none) i (some (eB E + (dO d + 2 + i)))))) ⟨fun x hx => by rw [vu_ne (by omega), vu_ne (by omega)]; exact h1 x hx, by rw [vu_ne (by omega), vu_ne (by omega)]; exact h2, ?_, fun x g1 g2 => ?_⟩
    · rw [show 1 + (i + 1) = 1 + i + 1 + 0 by omega, show 6 + 7 * (i + 1) = 6 + 7 * i + 7 + 0 by omega, show dO d + 2 + (i + 1) = dO d + 2 + i + 1 by omega] at this
      exact this
    · rw [vu_eq, fil (show eB E + (dO d + 2 + i) = aS E d i from rfl)]
    · rw [vu_ne (by omega)]
      by_cases c : x = dO d + 2 + i
      · subst c
        rw [vu_eq, T_S hd hi6]
      · rw [vu_ne c]
        exact h4 x g1 (by omega)
theorem dk_2 (X : Cx E mX3_init C) (hd0 : 3 ≤ d0) (hd : d < 10) {A0 : AH} (hK : ∀ A, D2 E A0 d 24 A → J E mX3_init C d0 59 742 P 76 [some (.ref (eB E + dO d)), some (.int (nI 24))] [] A (dO d + 57) true 56 408) :
    ∀ (r i : Nat), i + r = 24 → ∀ A, D2 E A0 d i A → J E mX3_init C d0 59 742 P 51 [some (.ref (eB E + dO d)), some (.int (nI i))] [] A (dO d + 9 + 2 * i) true (8 + 2 * i) (72 + 14 * i) := by
  intro r
  induction r with
  | zero =>
    intro i hi A hD
    have : i = 24 := by omega
    subst this
    refine j_iload X tX3_init_ok kX3_init_51 rfl ?_
    refine j_bipush X tX3_init_ok kX3_init_52 (show bI 24 = nI 24 by decide) ?_
    exact j_ge X tX3_init_ok kX3_init_54 (fun _ => hK A hD) (fun c => absurd (by rw [nI_leI (by decide) (by decide)]; decide) c)
  | succ r ih =>
    intro i hi A hD
    have hi6 : i < 24 := by omega
    obtain ⟨h1, h2, h3, h4, h5⟩ := hD
    refine j_iload X tX3_init_ok kX3_init_51 rfl ?_
    refine j_bipush X tX3_init_ok kX3_init_52 (show bI 24 = nI 24 by decide) ?_
    refine j_ge X tX3_init_ok kX3_init_54 (fun c => by rw [nI_leI (by decide) (by omega)] at c; omega) (fun _ => ?_)
    refine j_aload X tX3_init_ok kX3_init_57 rfl ?_
    refine j_get X flX3_ok tX3_init_ok kX3_init_58 fX3_20 (show dO d < dO d + 9 + 2 * i by omega) h2 rfl ?_
    refine j_iload X tX3_init_ok kX3_init_61 rfl ?_
    refine j_new X tX3_init_ok (ci := 1) kX3_init_62 rfl (wAt_in (i := 129) (by decide +kernel)) (wAt_in (i := 131) (by decide +kernel)) (wAt_in (i := 54) (by decide +kernel)) blk1 (by omega) (by show 72 + 14 * i + 10 ≤ 742; omega) ?_
    refine j_dup X tX3_init_ok kX3_init_65 ?_
    refine J_callI X (As := []) (rest := [.ref (eB E + (dO d + 9 + 2 * i)), .int (nI i), .ref (eB E + (dO d + 8))]) (ct_child (d0 := 1) (Nat.le_refl 1) hd hi6 vu_eq) vX1_init (wAt_in (i := 132) (by decide +kernel)) rfl rfl (by show 1 + (1 + (1 + 0)) ≤ 8; omega) (by omega) (by omega) (by show 72 + 14 * i + 10 + 4 ≤ 742; omega) (lkd tX3_init_ok kX3_init_66 (by simp [instrLen])) (fun v A' n' z' hp => ?_) (fun Z A' n' z' hp => by cases hp.1)
    obtain ⟨e1, rfl, rfl, g1, g2, g3⟩ := hp
    cases e1
    have gA : ∀ x, x < dO d + 9 + 2 * i → A' x = A x := fun x hx => by rw [g1 x (by omega) (by omega), vu_ne (by omega)]
    refine j_astq X tX3_init_ok kX3_init_69 (t := 5) (o := dO d + 8) (ov := dO d + 9 + 2 * i) (ci := 1) (N := 24) (j := i) (by omega) ((gA (dO d + 8) (by omega)).trans h3) rfl (by omega) (g2.trans (T_C hd hi6)) rfl hi6 (by decide) ?_
    refine j_iinc X tX3_init_ok kX3_init_70 rfl (show nI i + cI 1 = nI (i + 1) by rw [show cI 1 = nI 1 by decide, nI_add]) ?_
    refine j_goto X tX3_init_ok kX3_init_73 ?_
    have := ih (i + 1) (by omega) (va_up A' (dO d + 8) (qA E 5 24 (va_up (fun j => if j < i then some (aC E d j) else none) i (some (eB E + (dO d + 9 + 2 * i)))))) ⟨fun x hx => by rw [vu_ne (by omega), gA x (by omega)]; exact h1 x hx, by rw [vu_ne (by omega), gA _ (by omega)]; exact h2, ?_, fun x q1 q2 => by rw [vu_ne (by omega), gA x (by omega)]; exact h4 x q1 q2, fun x q1 q2 => ?_⟩
    · rw [show 8 + 2 * (i + 1) = 8 + 2 * i + 1 + 1 by omega, show 72 + 14 * (i + 1) = 72 + 14 * i + 10 + 4 by omega, show dO d + 9 + 2 * (i + 1) = dO d + 9 + 2 * i + 2 by omega] at this
      exact this
    · rw [vu_eq, fil (show eB E + (dO d + 9 + 2 * i) = aC E d i from rfl)]
    · rw [vu_ne (by omega)]
      by_cases c : x = dO d + 9 + 2 * i
      · rw [c]; exact g2
      · by_cases c2 : x < dO d + 9 + 2 * i
        · rw [gA x c2]; exact h5 x q1 c2
        · exact g3 x (by omega) (by omega)
end DSK
set_option maxHeartbeats 1000000 in
theorem ct_desk {E : WE} {d0 d : Nat} (hd0 : 3 ≤ d0) (hd : d < 10) {A : AH} (hA : A (dO d) = .inr (3, [.null, .null, .null, .null, .int (nI 0), .int (nI 0)])) :
    Sp E mX3_init d0 59 742 [.ref (eB E + dO d)] A (dO d + 1) true (CtP E A (dO d) (dO d + 1) (dO d + 60)) := by
  refine Sp.mk (by decide +kernel) (fun v hv => by simp at hv; subst hv; rfl) (Nat.le_of_ble_eq_true rfl) (fun C X => ?_)
  rw [show entL [.ref (eB E + dO d)] mX3_init.2.2.1 = [some (.ref (eB E + dO d)), none] from rfl]
  refine j_aload X tX3_init_ok kX3_init_0 rfl ?_
  refine j_super X tX3_init_ok kX3_init_1 (wAt_in (i := 88) (by decide +kernel)) (by omega) (by decide) ?_
  refine j_aload X tX3_init_ok kX3_init_4 rfl ?_
  refine j_bipush X tX3_init_ok kX3_init_5 (show bI 6 = nI 6 by decide) ?_
  refine j_newq X tX3_init_ok kX3_init_7 (t := 4) (wAt_in (i := 89) (by decide +kernel)) rfl (fun U H h => h.2.2.2.2.2.1) rfl (by decide) (by decide) (by decide) ?_
  refine j_pf X flX3_ok tX3_init_ok kX3_init_10 fX3_11 (by decide +kernel) (show dO d < dO d + 1 + 1 by omega) ((vu_ne (o := dO d + 1) (o' := dO d) (by omega)).trans hA) ⟨rfl, rfl⟩ (Nat.le_of_ble_eq_true rfl) ?_
  refine j_iconst (v := 0) X tX3_init_ok kX3_init_13 (show cI 0 = nI 0 by decide) ?_
  refine j_istore X tX3_init_ok kX3_init_14 (Nat.le_of_ble_eq_true rfl) ?_
  refine dk_1 X hd0 hd (A0 := A) (fun A1 hD1 => ?_) 6 0 rfl _ ⟨fun x hx => by rw [vu_ne (by omega), vu_ne (by omega)], vu_eq, ?_, fun x h1 h2 => by omega⟩
  rotate_left
  · rw [vu_ne (by omega), vu_eq]
    rfl
  obtain ⟨h1, h2, h3, h4⟩ := hD1
  refine j_conv h3 (f' := fun j => some (aS E d j)) (fun j hj => if_pos hj) ?_
  refine j_aload X tX3_init_ok kX3_init_40 rfl ?_
  refine j_bipush X tX3_init_ok kX3_init_41 (show bI 24 = nI 24 by decide) ?_
  refine j_newq X tX3_init_ok kX3_init_43 (t := 5) (wAt_in (i := 129) (by decide +kernel)) rfl (fun U H h => h.2.2.2.2.2.2.1) rfl (by decide) (by decide) (by decide) ?_
  refine j_pf X flX3_ok tX3_init_ok kX3_init_46 fX3_20 (by decide +kernel) (show dO d < dO d + 8 + 1 by omega) ((vu_ne (o := dO d + 8) (o' := dO d) (by omega)).trans ((vu_ne (o := dO d + 1) (o' := dO d) (by omega)).trans h2)) ⟨rfl, rfl⟩ (Nat.le_of_ble_eq_true rfl) ?_
  refine j_iconst (v := 0) X tX3_init_ok kX3_init_49 (show cI 0 = nI 0 by decide) ?_
  refine j_istore X tX3_init_ok kX3_init_50 (Nat.le_of_ble_eq_true rfl) ?_
  refine dk_2 X hd0 hd (A0 := A) (fun A2 hD2 => ?_) 24 0 rfl _ ⟨fun x hx => by rw [vu_ne (by omega), vu_ne (by omega), vu_ne (by omega)]; exact h1 x hx, vu_eq, ?_, fun x q1 q2 => ?_, fun x q1 q2 => by omega⟩
  rotate_left
  · rw [vu_ne (by omega), vu_eq]
    rfl
  · rw [vu_ne (by omega), vu_ne (by omega)]
    by_cases c : x = dO d + 1
    · rw [c, vu_eq, T_Ss hd]
    · rw [vu_ne c]
      exact h4 x (by omega) (by omega)
  clear h1 h2 h3 h4
  obtain ⟨h1, h2, h3, h4, h5⟩ := hD2
  refine j_conv h3 (f' := fun j => some (aC E d j)) (fun j hj => if_pos hj) ?_
  refine j_aload X tX3_init_ok kX3_init_76 rfl ?_
  refine j_bipush X tX3_init_ok kX3_init_77 (show bI 12 = nI 12 by decide) ?_
  refine j_ia X tX3_init_ok kX3_init_79 (by decide) (by decide) (by decide) ?_
  refine j_pf X flX3_ok tX3_init_ok kX3_init_81 fX3_25 (by decide +kernel) (show dO d < dO d + 57 + 1 by omega) ((vu_ne (o := dO d + 57) (o' := dO d) (by omega)).trans ((vu_ne (o := dO d + 8) (o' := dO d) (by omega)).trans h2)) ⟨rfl, rfl⟩ (Nat.le_of_ble_eq_true rfl) ?_
  refine j_aload X tX3_init_ok kX3_init_84 rfl ?_
  refine j_new X tX3_init_ok (ci := 5) kX3_init_85 rfl (wAt_in (i := 188) (by decide +kernel)) (wAt_in (i := 189) (by decide +kernel)) (wAt_in (i := 55) (by decide +kernel)) blk5 (by decide) (by decide) ?_
  refine j_dup X tX3_init_ok kX3_init_88 ?_
  refine J_callI X (As := []) (rest := [.ref (eB E + (dO d + 58)), .ref (eB E + dO d)]) (ct_journal (d0 := 1) (Nat.le_refl 1) hd vu_eq) vX5_init (wAt_in (i := 190) (by decide +kernel)) rfl rfl (by show 1 + (1 + 0) ≤ 8; omega) (by omega) (by decide) (by decide) (lkd tX3_init_ok kX3_init_89 (by simp [instrLen])) (fun v A' n' z' hp => ?_) (fun Z A' n' z' hp => by cases hp.1)
  obtain ⟨e1, rfl, rfl, g1, g2, g3⟩ := hp
  cases e1
  have gD : A' (dO d) = .inr (3, [.ref (eB E + (dO d + 1)), .ref (eB E + (dO d + 8)), .ref (eB E + (dO d + 57)), .null, .int (nI 0), .int (nI 0)]) := by
    rw [g1 (dO d) (by omega) (by omega), vu_ne (by omega), vu_eq]
    rfl
  refine j_pf X flX3_ok tX3_init_ok kX3_init_92 fX3_32 (by decide +kernel) (show dO d < dO d + 58 + 2 by omega) gD ⟨rfl, rfl⟩ (Nat.le_of_ble_eq_true rfl) ?_
  refine j_ret0 X tX3_init_ok kX3_init_95 rfl ⟨rfl, rfl, rfl, fun x hx hxo => ?_, ?_, fun x q1 q2 => ?_⟩ (Nat.le_refl _) (Nat.le_refl _)
  · rw [vu_ne hxo, g1 x (by omega) (by omega), vu_ne (by omega), vu_ne hxo, vu_ne (by omega), vu_ne (by omega)]
    exact h1 x (by omega)
  · rw [vu_eq, T_D hd]
    rfl
  · rw [vu_ne (by omega)]
    by_cases c : x = dO d + 58
    · rw [c]; exact g2
    by_cases c2 : dO d + 58 < x
    · exact g3 x (by omega) (by omega)
    rw [g1 x (by omega) (by omega), vu_ne (by omega), vu_ne (by omega)]
    by_cases c3 : x = dO d + 57
    · rw [c3, vu_eq, T_Pu hd]
    rw [vu_ne c3]
    by_cases c4 : x = dO d + 8
    · rw [c4, vu_eq, T_Cs hd]
    rw [vu_ne c4]
    by_cases c5 : x < dO d + 8
    · exact h4 x (by omega) c5
    · exact h5 x (by omega) (by omega)
