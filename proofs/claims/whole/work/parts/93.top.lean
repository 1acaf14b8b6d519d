/-! ===== the history's constructor, the class's ===== -/
theorem T_121 {E : WE} : TT E 121 = .inr (4, [.ref (eB E + 122), .int (nI 0), .int (nI 0)]) := (TT_of (by decide) lA_121).trans (by
  show Sum.inr (4, [lval numI (fHis E 0), lval numI (fHis E 1), lval numI (fHis E 2)]) = _
  simp only [fHis, lval, numI]
  rfl)
theorem T_122 {E : WE} : TT E 122 = qA E 6 8 (fun j => some (aD E (2 + j))) := (TT_of (by decide) lA_122).trans rfl
theorem T_0 {E : WE} : TT E 0 = .inr (7, [.ref (eB E + dO 0), .ref (eB E + dO 1), .ref (eB E + 121), .ref (eB E + 603), .ref (eB E + 608), .int (nI 0), .int (nI 0), .int (nI 0 - nI 1)]) := (TT_of (by decide) lA_0).trans (by
  show Sum.inr (7, [lval numI (fTop E 0), lval numI (fTop E 1), lval numI (fTop E 2), lval numI (fTop E 3), lval numI (fTop E 4), lval numI (fTop E 5), lval numI (fTop E 6), lval numI (fTop E 7)]) = _
  simp only [fTop, lval, numI]
  rfl)
theorem blk4 : ∀ j, j < 3 → defaultValue (tyOf 4 j) = vp_V [.null, .int (nI 0), .int (nI 0)] j := by decide +kernel
theorem blk0 : ∀ j, j < 4 → defaultValue (tyOf 0 j) = vp_V [.null, .null, .null, .null] j := by decide +kernel
theorem blk2 : ∀ j, j < 9 → defaultValue (tyOf 2 j) = vp_V [.null, .null, .int (nI 0), .int (nI 0), .int (nI 0), .int (nI 0), .int (nI 0), .int (nI 0), .int (nI 0)] j := by decide +kernel
theorem blk8 : ∀ j, j < 8 → defaultValue (tyOf 7 j) = vp_V [.null, .null, .null, .null, .null, .int (nI 0), .int (nI 0), .int (nI 0)] j := by decide +kernel
theorem blk9 : ∀ j, j < 18 → defaultValue (tyOf 8 j) = vp_V [.null, .null, .int (nI 0), .null, .int (nI 0), .null, .int (nI 0), .int (nI 0), .int (nI 0), .null, .int (nI 0), .int (nI 0), .int (nI 0), .int (nI 0), .int (nI 0), .null, .null, .null] j := by decide +kernel
theorem dO2 (i : Nat) : dO (2 + i) = 123 + 60 * i := by
  unfold dO
  rw [if_neg (by omega)]
  omega
def H1 (E : WE) (A0 : AH) (i : Nat) (A : AH) : Prop := (∀ x, x < 121 → A x = A0 x) ∧ A 121 = .inr (4, [.ref (eB E + 122), .int (nI 0), .int (nI 0)]) ∧ A 122 = qA E 6 8 (fun j => if j < i then some (aD E (2 + j)) else none) ∧ ∀ x, 123 ≤ x → x < 123 + 60 * i → A x = TT E x
section HIS
variable {E : WE} {C : CT} {d0 : Nat} {P : PO}
theorem hi_1 (X : Cx E mX4_init C) (hd0 : 4 ≤ d0) {A0 : AH} (hK : ∀ A, H1 E A0 8 A → J E mX4_init C d0 481 5992 P 40 [some (.ref (eB E + 121)), some (.int (nI 8))] [] A 603 true 481 5992) :
    ∀ (r i : Nat), i + r = 8 → ∀ A, H1 E A0 i A → J E mX4_init C d0 481 5992 P 15 [some (.ref (eB E + 121)), some (.int (nI i))] [] A (123 + 60 * i) true (1 + 60 * i) (8 + 748 * i) := by
  intro r
  induction r with
  | zero =>
    intro i hi A hD
    have : i = 8 := by omega
    subst this
    refine j_iload X tX4_init_ok kX4_init_15 rfl ?_
    refine j_bipush X tX4_init_ok kX4_init_16 (show bI 8 = nI 8 by decide) ?_
    exact j_ge X tX4_init_ok kX4_init_18 (fun _ => hK A hD) (fun c => absurd (by rw [nI_leI (by decide) (by decide)]; decide) c)
  | succ r ih =>
    intro i hi A hD
    have hi6 : i < 8 := by omega
    obtain ⟨h1, h2, h3, h4⟩ := hD
    have hd2 := dO2 i
    refine j_iload X tX4_init_ok kX4_init_15 rfl ?_
    refine j_bipush X tX4_init_ok kX4_init_16 (show bI 8 = nI 8 by decide) ?_
    refine j_ge X tX4_init_ok kX4_init_18 (fun c => by rw [nI_leI (by decide) (by omega)] at c; omega) (fun _ => ?_)
    refine j_aload X tX4_init_ok kX4_init_21 rfl ?_
    refine j_get X flX4_ok tX4_init_ok kX4_init_22 fX4_11 (show 121 < 123 + 60 * i by omega) h2 rfl ?_
    refine j_iload X tX4_init_ok kX4_init_25 rfl ?_
    refine j_new X tX4_init_ok (ci := 3) kX4_init_26 rfl (wAt_in (i := 238) (by decide +kernel)) (wAt_in (i := 84) (by decide +kernel)) (wAt_in (i := 52) (by decide +kernel)) blk3 (by omega) (by show 8 + 748 * i + 6 ≤ 5992; omega) ?_
    refine j_dup X tX4_init_ok kX4_init_29 ?_
    have hct := ct_desk (E := E) (d0 := 3) (d := 2 + i) (Nat.le_refl 3) (by omega) (A := va_up A (123 + 60 * i) (.inr (3, [.null, .null, .null, .null, .int (nI 0), .int (nI 0)]))) (by rw [hd2]; exact vu_eq)
    rw [hd2] at hct
    refine J_callI X (As := []) (rest := [.ref (eB E + (123 + 60 * i)), .int (nI i), .ref (eB E + 122)]) hct vX3_init (wAt_in (i := 240) (by decide +kernel)) rfl rfl (by show 1 + (1 + (1 + 0)) ≤ 8; omega) (by omega) (by omega) (by show 8 + 748 * i + 6 + 742 ≤ 5992; omega) (lkd tX4_init_ok kX4_init_30 (by simp [instrLen])) (fun v A' n' z' hp => ?_) (fun Z A' n' z' hp => by cases hp.1)
    obtain ⟨e1, rfl, rfl, g1, g2, g3⟩ := hp
    cases e1
    have gA : ∀ x, x < 123 + 60 * i → A' x = A x := fun x hx => by rw [g1 x (by omega) (by omega), vu_ne (by omega)]
    have tD := T_D (E := E) (d := 2 + i) (by omega)
    rw [hd2] at tD
    refine j_astq X tX4_init_ok kX4_init_33 (t := 6) (o := 122) (ov := 123 + 60 * i) (ci := 3) (N := 8) (j := i) (by omega) ((gA 122 (by omega)).trans h3) rfl (by omega) (g2.trans tD) rfl hi6 (by decide) ?_
    refine j_iinc X tX4_init_ok kX4_init_34 rfl (show nI i + cI 1 = nI (i + 1) by rw [show cI 1 = nI 1 by decide, nI_add]) ?_
    refine j_goto X tX4_init_ok kX4_init_37 ?_
    have := ih (i + 1) (by omega) (va_up A' 122 (qA E 6 8 (va_up (fun j => if j < i then some (aD E (2 + j)) else none) i (some (eB E + (123 + 60 * i)))))) ⟨fun x hx => by rw [vu_ne (by omega), gA x (by omega)]; exact h1 x hx, by rw [vu_ne (by omega), gA _ (by omega)]; exact h2, ?_, fun x q1 q2 => ?_⟩
    · rw [show 1 + 60 * (i + 1) = 1 + 60 * i + 1 + 59 by omega, show 8 + 748 * (i + 1) = 8 + 748 * i + 6 + 742 by omega, show 123 + 60 * (i + 1) = 123 + 60 * i + 60 by omega] at this
      exact this
    · rw [vu_eq, fil (g := fun j => aD E (2 + j)) (show eB E + (123 + 60 * i) = aD E (2 + i) by unfold aD; rw [hd2])]
    · rw [vu_ne (by omega)]
      by_cases c : x = 123 + 60 * i
      · rw [c]; exact g2
      · by_cases c2 : x < 123 + 60 * i
        · rw [gA x c2]; exact h4 x q1 c2
        · exact g3 x (by omega) (by omega)
end HIS
theorem ct_history {E : WE} {d0 : Nat} (hd0 : 4 ≤ d0) {A : AH} (hA : A 121 = .inr (4, [.null, .int (nI 0), .int (nI 0)])) :
    Sp E mX4_init d0 481 5992 [.ref (eB E + 121)] A 122 true (CtP E A 121 122 603) := by
  refine Sp.mk (by decide +kernel) (fun v hv => by simp at hv; subst hv; rfl) (Nat.le_of_ble_eq_true rfl) (fun C X => ?_)
  rw [show entL [.ref (eB E + 121)] mX4_init.2.2.1 = [some (.ref (eB E + 121)), none] from rfl]
  refine j_aload X tX4_init_ok kX4_init_0 rfl ?_
  refine j_super X tX4_init_ok kX4_init_1 (wAt_in (i := 237) (by decide +kernel)) (by omega) (by decide) ?_
  refine j_aload X tX4_init_ok kX4_init_4 rfl ?_
  refine j_bipush X tX4_init_ok kX4_init_5 (show bI 8 = nI 8 by decide) ?_
  refine j_newq X tX4_init_ok kX4_init_7 (t := 6) (wAt_in (i := 238) (by decide +kernel)) rfl (fun U H h => h.2.2.2.2.2.2.2) rfl (by decide) (by decide) (by decide) ?_
  refine j_pf X flX4_ok tX4_init_ok kX4_init_10 fX4_11 (by decide +kernel) (show 121 < 122 + 1 by omega) ((vu_ne (o := 122) (o' := 121) (by omega)).trans hA) ⟨rfl, rfl⟩ (Nat.le_of_ble_eq_true rfl) ?_
  refine j_iconst (v := 0) X tX4_init_ok kX4_init_13 (show cI 0 = nI 0 by decide) ?_
  refine j_istore X tX4_init_ok kX4_init_14 (Nat.le_of_ble_eq_true rfl) ?_
  refine hi_1 X hd0 (A0 := A) (fun A1 hD1 => ?_) 8 0 rfl _ ⟨fun x hx => by rw [vu_ne (by omega), vu_ne (by omega)], vu_eq, ?_, fun x h1 h2 => by omega⟩
  rotate_left
  · rw [vu_ne (by omega), vu_eq]
    rfl
  obtain ⟨h1, h2, h3, h4⟩ := hD1
  refine j_conv h3 (f' := fun j => some (aD E (2 + j))) (fun j hj => if_pos hj) ?_
  refine j_ret0 X tX4_init_ok kX4_init_40 rfl ⟨rfl, rfl, rfl, fun x hx hxo => ?_, ?_, fun x q1 q2 => ?_⟩ (Nat.le_refl _) (Nat.le_refl _)
  · rw [vu_ne (by omega)]
    exact h1 x (by omega)
  · rw [vu_ne (by omega), h2, T_121]
  · by_cases c : x = 122
    · rw [c, vu_eq, T_122]
    · rw [vu_ne c]
      exact h4 x (by omega) (by omega)
section TOP
variable {E : WE} {C : CT} {d0 : Nat} {P : PO}
theorem tp_stage (X : Cx E mX8_init C) {pc i1 i2 i3 ci kf n n' mc' ms' d' k q : Nat} {r : vw_C} {blk fs : List Value} {mi' : MI} {A : AH} (h0 : lkp tX8_init pc = some (.aload_n 0, 0)) (h1 : lkp tX8_init (pc + 1) = some (.new i1, 0)) (h4 : lkp tX8_init (pc + 1 + 3) = some (.dup, 0)) (h5 : lkp tX8_init (pc + 1 + 3 + 1) = some (.invokespecial i2, 0)) (h8 : lkp tX8_init (pc + 1 + 3 + 1 + 3) = some (.putfield i3, 0))
    (hc : wCl[ci]? = some r) (w1 : Cond.classLink RX8 i1 r.1 ∈ wT) (w2 : Cond.instantiable r.1 r.2.2 ∈ wT) (w3 : Cond.initialized r.1 ∈ wT) (hb : ∀ j, j < r.2.2 → defaultValue (tyOf ci j) = vp_V blk j) (hv : NOk mi' 0) (w4 : Cond.methodLink RX8 i2 mi'.1 ∈ wT)
    (hct : ∀ A : AH, A n = .inr (ci, blk) → Sp E mi' d' mc' ms' [.ref (eB E + n)] A (n + 1) true (CtP E A n (n + 1) n')) (hn : 1 ≤ n ∧ n < n') (hd : d' + 1 ≤ d0) (hfl : flk flX8 i3 = some (7, kf)) (hf : finOk mX8_init.1 7 kf = true) (hty : narrow (tyOf 7 kf) (.ref (eB E + n)) = .ref (eB E + n) ∧ fits (tyOf 7 kf) (.ref (eB E + n)) = true)
    (hA : A 0 = .inr (7, fs)) (hl : kf < fs.length) (hT : ∀ x, 1 ≤ x → x < n → A x = TT E x) (hk : k + 1 + mc' ≤ 610) (hq : q + r.2.2 + ms' ≤ 7764)
    (kk : ∀ A' : AH, A' 0 = .inr (7, fs.set kf (.ref (eB E + n))) → (∀ x, 1 ≤ x → x < n' → A' x = TT E x) → J E mX8_init C d0 610 7764 P (pc + 1 + 3 + 1 + 3 + 3) [some (.ref (eB E + 0))] [] A' n' true (k + 1 + mc') (q + r.2.2 + ms')) : J E mX8_init C d0 610 7764 P pc [some (.ref (eB E + 0))] [] A n true k q := by
  refine j_aload X tX8_init_ok h0 rfl ?_
  refine j_new X tX8_init_ok h1 hc w1 w2 w3 hb (by omega) (by omega) ?_
  refine j_dup X tX8_init_ok h4 ?_
  refine J_callI X (As := []) (rest := [.ref (eB E + n), .ref (eB E + 0)]) (hct _ vu_eq) hv w4 rfl rfl (by show 1 + (1 + 0) ≤ 8; omega) hd hk hq (lkd tX8_init_ok h5 (by simp [instrLen])) (fun v A' m z' hp => ?_) (fun Z A' n' z' hp => by cases hp.1)
  obtain ⟨e1, rfl, rfl, g1, g2, g3⟩ := hp
  cases e1
  refine j_pf X flX8_ok tX8_init_ok h8 hfl hf (show 0 < m by omega) ((g1 0 (by omega) (by omega)).trans ((vu_ne (by omega)).trans hA)) hty hl ?_
  refine kk _ vu_eq (fun x q1 q2 => ?_)
  rw [vu_ne (by omega)]
  by_cases c : x = n
  · rw [c]; exact g2
  by_cases c2 : x < n
  · rw [g1 x (by omega) c, vu_ne c]
    exact hT x q1 c2
  · exact g3 x (by omega) (by omega)
end TOP
theorem ct_top {E : WE} {d0 : Nat} (hd0 : 5 ≤ d0) {A : AH} (hA : A 0 = .inr (7, [.null, .null, .null, .null, .null, .int (nI 0), .int (nI 0), .int (nI 0)])) :
    Sp E mX8_init d0 610 7764 [.ref (eB E + 0)] A 1 true (CtP E A 0 1 611) := by
  refine Sp.mk (by decide +kernel) (fun v hv => by simp at hv; subst hv; rfl) (Nat.le_of_ble_eq_true rfl) (fun C X => ?_)
  rw [show entL [.ref (eB E + 0)] mX8_init.2.2.1 = [some (.ref (eB E + 0))] from rfl]
  refine j_aload X tX8_init_ok kX8_init_0 rfl ?_
  refine j_super X tX8_init_ok kX8_init_1 (wAt_in (i := 80) (by decide +kernel)) (by omega) (by decide) ?_
  refine tp_stage X (pc := 4) (n := 1) (n' := 61) (ci := 3) (d' := 3) (mc' := 59) (ms' := 742) kX8_init_4 kX8_init_5 kX8_init_8 kX8_init_9 kX8_init_12 rfl (wAt_in (i := 83) (by decide +kernel)) (wAt_in (i := 84) (by decide +kernel)) (wAt_in (i := 52) (by decide +kernel)) blk3 vX3_init (wAt_in (i := 85) (by decide +kernel)) (fun A hA => ct_desk (d := 0) (Nat.le_refl 3) (by decide) hA) (by decide) (by omega) fX8_10 (by decide +kernel) ⟨rfl, rfl⟩ hA (Nat.le_of_ble_eq_true rfl) (fun x h1 h2 => by omega) (by decide) (by decide) (fun A1 a1 t1 => ?_)
  refine tp_stage X (pc := 15) (n := 61) (n' := 121) (ci := 3) (d' := 3) (mc' := 59) (ms' := 742) kX8_init_15 kX8_init_16 kX8_init_19 kX8_init_20 kX8_init_23 rfl (wAt_in (i := 83) (by decide +kernel)) (wAt_in (i := 84) (by decide +kernel)) (wAt_in (i := 52) (by decide +kernel)) blk3 vX3_init (wAt_in (i := 85) (by decide +kernel)) (fun A hA => ct_desk (d := 1) (Nat.le_refl 3) (by decide) hA) (by decide) (by omega) fX8_16 (by decide +kernel) ⟨rfl, rfl⟩ a1 (Nat.le_of_ble_eq_true rfl) t1 (by decide) (by decide) (fun A2 a2 t2 => ?_)
  refine tp_stage X (pc := 26) (n := 121) (n' := 603) (ci := 4) (d' := 4) (mc' := 481) (ms' := 5992) kX8_init_26 kX8_init_27 kX8_init_30 kX8_init_31 kX8_init_34 rfl (wAt_in (i := 232) (by decide +kernel)) (wAt_in (i := 233) (by decide +kernel)) (wAt_in (i := 56) (by decide +kernel)) blk4 vX4_init (wAt_in (i := 234) (by decide +kernel)) (fun A hA => ct_history (Nat.le_refl 4) hA) (by decide) (by omega) fX8_22 (by decide +kernel) ⟨rfl, rfl⟩ a2 (Nat.le_of_ble_eq_true rfl) t2 (by decide) (by decide) (fun A3 a3 t3 => ?_)
  refine tp_stage X (pc := 37) (n := 603) (n' := 608) (ci := 0) (d' := 1) (mc' := 4) (ms' := 216) kX8_init_37 kX8_init_38 kX8_init_41 kX8_init_42 kX8_init_45 rfl (wAt_in (i := 252) (by decide +kernel)) (wAt_in (i := 253) (by decide +kernel)) (wAt_in (i := 57) (by decide +kernel)) blk0 vX0_init (wAt_in (i := 254) (by decide +kernel)) (fun A hA => ct_allocation (Nat.le_refl 1) hA) (by decide) (by omega) fX8_29 (by decide +kernel) ⟨rfl, rfl⟩ a3 (Nat.le_of_ble_eq_true rfl) t3 (by decide) (by decide) (fun A4 a4 t4 => ?_)
  refine tp_stage X (pc := 48) (n := 608) (n' := 611) (ci := 2) (d' := 1) (mc' := 2) (ms' := 44) kX8_init_48 kX8_init_49 kX8_init_52 kX8_init_53 kX8_init_56 rfl (wAt_in (i := 274) (by decide +kernel)) (wAt_in (i := 275) (by decide +kernel)) (wAt_in (i := 58) (by decide +kernel)) blk2 vX2_init (wAt_in (i := 276) (by decide +kernel)) (fun A hA => ct_text (Nat.le_refl 1) hA) (by decide) (by omega) fX8_36 (by decide +kernel) ⟨rfl, rfl⟩ a4 (Nat.le_of_ble_eq_true rfl) t4 (by decide) (by decide) (fun A5 a5 t5 => ?_)
  refine j_aload X tX8_init_ok kX8_init_59 rfl ?_
  refine j_iconst (v := 0) X tX8_init_ok kX8_init_60 (show cI 0 = nI 0 by decide) ?_
  refine j_pf X flX8_ok tX8_init_ok kX8_init_61 fX8_40 (by decide +kernel) (show 0 < 611 by decide) a5 ⟨rfl, rfl⟩ (Nat.le_of_ble_eq_true rfl) ?_
  refine j_aload X tX8_init_ok kX8_init_64 rfl ?_
  refine j_iconst (v := 0) X tX8_init_ok kX8_init_65 (show cI 0 = nI 0 by decide) ?_
  refine j_pf X flX8_ok tX8_init_ok kX8_init_66 fX8_44 (by decide +kernel) (show 0 < 611 by decide) vu_eq ⟨rfl, rfl⟩ (Nat.le_of_ble_eq_true rfl) ?_
  refine j_aload X tX8_init_ok kX8_init_69 rfl ?_
  refine j_iconst (v := -1) X tX8_init_ok kX8_init_70 cI_n1 ?_
  refine j_pf X flX8_ok tX8_init_ok kX8_init_71 fX8_48 (by decide +kernel) (show 0 < 611 by decide) vu_eq ⟨rfl, rfl⟩ (Nat.le_of_ble_eq_true rfl) ?_
  refine j_ret0 X tX8_init_ok kX8_init_74 rfl ⟨rfl, rfl, rfl, fun x hx hxo => by omega, ?_, fun x q1 q2 => ?_⟩ (by decide) (by decide)
  · rw [vu_eq, T_0]
    rfl
  · rw [vu_ne (by omega), vu_ne (by omega), vu_ne (by omega)]
    exact t5 x q1 q2
