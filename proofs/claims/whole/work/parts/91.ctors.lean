/-! ===== printed by program: the constructors without loops ===== -/
theorem T_J {E : WE} {d : Nat} (hd : d < 10) : TT E (dO d + 58) = .inr (5, [.ref (eB E + (dO d + 58 + 1)), .int (nI 0)]) := by
  have h := lA_J (E := E) hd
  unfold aJ at h
  have hlt := dO_lt (q := 58) hd (by decide)
  rw [TT_of (by omega) h]
  show Sum.inr (5, [lval numI (fJou E d 0), lval numI (fJou E d 1)]) = _
  simp only [fJou, lval]
  rw [numI_0 (by omega)]
  rfl
theorem T_Jp {E : WE} {d : Nat} (hd : d < 10) : TT E (dO d + 58 + 1) = .inl (eC E 0, 320, .inl (fun _ => 0)) := by
  have h := lA_Jp (E := E) hd
  unfold aJp at h
  have hlt := dO_lt (q := 59) hd (by decide)
  rw [TT_of (by omega) h]
  exact toE_arr (fun j hj => numI_0 (by omega))
set_option maxHeartbeats 1000000 in
theorem ct_journal {E : WE} {d0 d : Nat} (hd0 : 1 ≤ d0) (hd : d < 10) {A : AH} (hA : A (dO d + 58) = .inr (5, [.null, .int (nI 0)])) :
    Sp E mX5_init d0 1 320 [.ref (eB E + (dO d + 58))] A (dO d + 58 + 1) true (CtP E A (dO d + 58) (dO d + 58 + 1) (dO d + 58 + 2)) := by
  have t0 := T_J (E := E) hd
  have t1 := T_Jp (E := E) hd
  generalize dO d + 58 = o at hA t0 t1 ⊢
  refine Sp.mk (by decide +kernel) (fun v hv => by simp at hv; subst hv; rfl) (Nat.le_of_ble_eq_true rfl) (fun C X => ?_)
  rw [show entL [.ref (eB E + o)] mX5_init.2.2.1 = [some (.ref (eB E + o))] from rfl]
  refine j_aload X tX5_init_ok kX5_init_0 rfl ?_
  refine j_super X tX5_init_ok kX5_init_1 (wAt_in (i := 193) (by decide +kernel)) hd0 (by decide) ?_
  refine j_aload X tX5_init_ok kX5_init_4 rfl ?_
  refine j_sipush X tX5_init_ok kX5_init_5 (show sI 320 = nI 320 by decide) ?_
  refine j_ia X tX5_init_ok kX5_init_8 (by decide) (by decide) (by decide) ?_
  refine j_pf X flX5_ok tX5_init_ok kX5_init_10 fX5_9 (by decide +kernel) (show o < o + 2 by omega) ((vu_ne (o := o + 1) (o' := o) (by omega)).trans hA) ⟨rfl, rfl⟩ (Nat.le_of_ble_eq_true rfl) ?_
  refine j_ret0 X tX5_init_ok kX5_init_13 rfl ⟨rfl, rfl, rfl, fun x hx hxo => ?_, ?_, fun x h1 h2 => ?_⟩ (Nat.le_refl _) (Nat.le_refl _)
  · repeat rw [vu_ne (by omega)]
  · rw [vu_eq, t0]; rfl
  · rcases (show x = o + 1 by omega) with rfl
    · repeat (first | rw [vu_eq] | rw [vu_ne (by omega)])
      rw [t1]
theorem T_604 {E : WE} : TT E 604 = .inl (eC E 0, 24, .inl (fun _ => 0)) := (TT_of (by decide) lA_604).trans (toE_arr (fun j hj => numI_0 (by omega)))
theorem T_605 {E : WE} : TT E 605 = .inl (eC E 0, 24, .inl (fun _ => 0)) := (TT_of (by decide) lA_605).trans (toE_arr (fun j hj => numI_0 (by omega)))
theorem T_606 {E : WE} : TT E 606 = .inl (eC E 0, 24, .inl (fun _ => 0)) := (TT_of (by decide) lA_606).trans (toE_arr (fun j hj => numI_0 (by omega)))
theorem T_607 {E : WE} : TT E 607 = .inl (eC E 0, 144, .inl (fun _ => 0)) := (TT_of (by decide) lA_607).trans (toE_arr (fun j hj => numI_0 (by omega)))
theorem T_603 {E : WE} : TT E 603 = .inr (0, [.ref (eB E + 604), .ref (eB E + 605), .ref (eB E + 606), .ref (eB E + 607)]) := (TT_of (by decide) lA_603).trans (by
  show Sum.inr (0, [lval numI (fAll E 0), lval numI (fAll E 1), lval numI (fAll E 2), lval numI (fAll E 3)]) = _
  simp only [fAll, lval, numI]
  rfl)
set_option maxHeartbeats 1000000 in
theorem ct_allocation {E : WE} {d0 : Nat} (hd0 : 1 ≤ d0) {A : AH} (hA : A 603 = .inr (0, [.null, .null, .null, .null])) :
    Sp E mX0_init d0 4 216 [.ref (eB E + 603)] A 604 true (CtP E A 603 604 608) := by
  refine Sp.mk (by decide +kernel) (fun v hv => by simp at hv; subst hv; rfl) (Nat.le_of_ble_eq_true rfl) (fun C X => ?_)
  rw [show entL [.ref (eB E + 603)] mX0_init.2.2.1 = [some (.ref (eB E + 603))] from rfl]
  refine j_aload X tX0_init_ok kX0_init_0 rfl ?_
  refine j_super X tX0_init_ok kX0_init_1 (wAt_in (i := 257) (by decide +kernel)) hd0 (by decide) ?_
  refine j_aload X tX0_init_ok kX0_init_4 rfl ?_
  refine j_bipush X tX0_init_ok kX0_init_5 (show bI 24 = nI 24 by decide) ?_
  refine j_ia X tX0_init_ok kX0_init_7 (by decide) (by decide) (by decide) ?_
  refine j_pf X flX0_ok tX0_init_ok kX0_init_9 fX0_9 (by decide +kernel) (show 603 < 605 by omega) ((vu_ne (o := 604) (o' := 603) (by omega)).trans hA) ⟨rfl, rfl⟩ (Nat.le_of_ble_eq_true rfl) ?_
  refine j_aload X tX0_init_ok kX0_init_12 rfl ?_
  refine j_bipush X tX0_init_ok kX0_init_13 (show bI 24 = nI 24 by decide) ?_
  refine j_ia X tX0_init_ok kX0_init_15 (by decide) (by decide) (by decide) ?_
  refine j_pf X flX0_ok tX0_init_ok kX0_init_17 fX0_15 (by decide +kernel) (show 603 < 606 by omega) ((vu_ne (o := 605) (o' := 603) (by omega)).trans vu_eq) ⟨rfl, rfl⟩ (Nat.le_of_ble_eq_true rfl) ?_
  refine j_aload X tX0_init_ok kX0_init_20 rfl ?_
  refine j_bipush X tX0_init_ok kX0_init_21 (show bI 24 = nI 24 by decide) ?_
  refine j_ia X tX0_init_ok kX0_init_23 (by decide) (by decide) (by decide) ?_
  refine j_pf X flX0_ok tX0_init_ok kX0_init_25 fX0_18 (by decide +kernel) (show 603 < 607 by omega) ((vu_ne (o := 606) (o' := 603) (by omega)).trans vu_eq) ⟨rfl, rfl⟩ (Nat.le_of_ble_eq_true rfl) ?_
  refine j_aload X tX0_init_ok kX0_init_28 rfl ?_
  refine j_sipush X tX0_init_ok kX0_init_29 (show sI 144 = nI 144 by decide) ?_
  refine j_ia X tX0_init_ok kX0_init_32 (by decide) (by decide) (by decide) ?_
  refine j_pf X flX0_ok tX0_init_ok kX0_init_34 fX0_21 (by decide +kernel) (show 603 < 608 by omega) ((vu_ne (o := 607) (o' := 603) (by omega)).trans vu_eq) ⟨rfl, rfl⟩ (Nat.le_of_ble_eq_true rfl) ?_
  refine j_ret0 X tX0_init_ok kX0_init_37 rfl ⟨rfl, rfl, rfl, fun x hx hxo => ?_, ?_, fun x h1 h2 => ?_⟩ (Nat.le_refl _) (Nat.le_refl _)
  · repeat rw [vu_ne (by omega)]
  · rw [vu_eq, T_603]; rfl
  · rcases (show x = 604 ∨ x = 605 ∨ x = 606 ∨ x = 607 by omega) with rfl | rfl | rfl | rfl
    · repeat (first | rw [vu_eq] | rw [vu_ne (by omega)])
      rw [T_604]
    · repeat (first | rw [vu_eq] | rw [vu_ne (by omega)])
      rw [T_605]
    · repeat (first | rw [vu_eq] | rw [vu_ne (by omega)])
      rw [T_606]
    · repeat (first | rw [vu_eq] | rw [vu_ne (by omega)])
      rw [T_607]
theorem T_609 {E : WE} : TT E 609 = .inl (eC E 0, 40, .inl (fun _ => 0)) := (TT_of (by decide) lA_609).trans (toE_arr (fun j hj => numI_0 (by omega)))
theorem T_610 {E : WE} : TT E 610 = .inl (eC E 0, 4, .inl (fun _ => 0)) := (TT_of (by decide) lA_610).trans (toE_arr (fun j hj => numI_0 (by omega)))
theorem T_608 {E : WE} : TT E 608 = .inr (2, [.ref (eB E + 609), .ref (eB E + 610), .int (nI 0), .int (nI 0), .int (nI 0), .int (nI 0), .int (nI 0), .int (nI 0), .int (nI 0)]) := (TT_of (by decide) lA_608).trans (by
  show Sum.inr (2, [lval numI (fTxt E 0), lval numI (fTxt E 1), lval numI (fTxt E 2), lval numI (fTxt E 3), lval numI (fTxt E 4), lval numI (fTxt E 5), lval numI (fTxt E 6), lval numI (fTxt E 7), lval numI (fTxt E 8)]) = _
  simp only [fTxt, lval, numI]
  rfl)
set_option maxHeartbeats 1000000 in
theorem ct_text {E : WE} {d0 : Nat} (hd0 : 1 ≤ d0) {A : AH} (hA : A 608 = .inr (2, [.null, .null, .int (nI 0), .int (nI 0), .int (nI 0), .int (nI 0), .int (nI 0), .int (nI 0), .int (nI 0)])) :
    Sp E mX2_init d0 2 44 [.ref (eB E + 608)] A 609 true (CtP E A 608 609 611) := by
  refine Sp.mk (by decide +kernel) (fun v hv => by simp at hv; subst hv; rfl) (Nat.le_of_ble_eq_true rfl) (fun C X => ?_)
  rw [show entL [.ref (eB E + 608)] mX2_init.2.2.1 = [some (.ref (eB E + 608))] from rfl]
  refine j_aload X tX2_init_ok kX2_init_0 rfl ?_
  refine j_super X tX2_init_ok kX2_init_1 (wAt_in (i := 279) (by decide +kernel)) hd0 (by decide) ?_
  refine j_aload X tX2_init_ok kX2_init_4 rfl ?_
  refine j_bipush X tX2_init_ok kX2_init_5 (show bI 40 = nI 40 by decide) ?_
  refine j_ia X tX2_init_ok kX2_init_7 (by decide) (by decide) (by decide) ?_
  refine j_pf X flX2_ok tX2_init_ok kX2_init_9 fX2_9 (by decide +kernel) (show 608 < 610 by omega) ((vu_ne (o := 609) (o' := 608) (by omega)).trans hA) ⟨rfl, rfl⟩ (Nat.le_of_ble_eq_true rfl) ?_
  refine j_aload X tX2_init_ok kX2_init_12 rfl ?_
  refine j_iconst (v := 4) X tX2_init_ok kX2_init_13 (show cI 4 = nI 4 by decide) ?_
  refine j_ia X tX2_init_ok kX2_init_14 (by decide) (by decide) (by decide) ?_
  refine j_pf X flX2_ok tX2_init_ok kX2_init_16 fX2_15 (by decide +kernel) (show 608 < 611 by omega) ((vu_ne (o := 610) (o' := 608) (by omega)).trans vu_eq) ⟨rfl, rfl⟩ (Nat.le_of_ble_eq_true rfl) ?_
  refine j_ret0 X tX2_init_ok kX2_init_19 rfl ⟨rfl, rfl, rfl, fun x hx hxo => ?_, ?_, fun x h1 h2 => ?_⟩ (Nat.le_refl _) (Nat.le_refl _)
  · repeat rw [vu_ne (by omega)]
  · rw [vu_eq, T_608]; rfl
  · rcases (show x = 609 ∨ x = 610 by omega) with rfl | rfl
    · repeat (first | rw [vu_eq] | rw [vu_ne (by omega)])
      rw [T_609]
    · repeat (first | rw [vu_eq] | rw [vu_ne (by omega)])
      rw [T_610]
theorem T_612 {E : WE} : TT E 612 = .inl (eC E 0, 689, .inl (fun _ => 0)) := (TT_of (by decide) lA_612).trans (toE_arr (fun j hj => numI_0 (by omega)))
theorem T_613 {E : WE} : TT E 613 = .inl (eC E 0, 5512, .inl (fun _ => 0)) := (TT_of (by decide) lA_613).trans (toE_arr (fun j hj => numI_0 (by omega)))
theorem T_614 {E : WE} : TT E 614 = .inl (eC E 0, 689, .inl (fun _ => 0)) := (TT_of (by decide) lA_614).trans (toE_arr (fun j hj => numI_0 (by omega)))
theorem T_615 {E : WE} : TT E 615 = .inl (eC E 0, 689, .inl (fun _ => 0)) := (TT_of (by decide) lA_615).trans (toE_arr (fun j hj => numI_0 (by omega)))
theorem T_616 {E : WE} : TT E 616 = .inl (eC E 1, 40, .inl (fun _ => 0)) := (TT_of (by decide) lA_616).trans (toE_arr (fun j hj => numI_0 (by omega)))
theorem T_617 {E : WE} : TT E 617 = .inl (eC E 0, 4, .inl (fun _ => 0)) := (TT_of (by decide) lA_617).trans (toE_arr (fun j hj => numI_0 (by omega)))
theorem T_618 {E : WE} : TT E 618 = .inl (eC E 0, 24, .inl (fun _ => 0)) := (TT_of (by decide) lA_618).trans (toE_arr (fun j hj => numI_0 (by omega)))
theorem T_619 {E : WE} : TT E 619 = .inl (eC E 0, 24, .inl (fun _ => 0)) := (TT_of (by decide) lA_619).trans (toE_arr (fun j hj => numI_0 (by omega)))
theorem T_611 {E : WE} : TT E 611 = .inr (8, [.ref (eB E + 612), .ref (eB E + 613), .int (nI 0), .ref (eB E + 614), .int (nI 0), .ref (eB E + 615), .int (nI 0), .int (nI 0), .int (nI 0 - nI 1), .ref (eB E + 616), .int (nI 0), .int (nI 0), .int (nI 0), .int (nI 0), .int (nI 0), .ref (eB E + 617), .ref (eB E + 618), .ref (eB E + 619)]) := (TT_of (by decide) lA_611).trans (by
  show Sum.inr (8, [lval numI (fMod E 0), lval numI (fMod E 1), lval numI (fMod E 2), lval numI (fMod E 3), lval numI (fMod E 4), lval numI (fMod E 5), lval numI (fMod E 6), lval numI (fMod E 7), lval numI (fMod E 8), lval numI (fMod E 9), lval numI (fMod E 10), lval numI (fMod E 11), lval numI (fMod E 12), lval numI (fMod E 13), lval numI (fMod E 14), lval numI (fMod E 15), lval numI (fMod E 16), lval numI (fMod E 17)]) = _
  simp only [fMod, lval, numI]
  rfl)
set_option maxHeartbeats 1000000 in
theorem ct_model {E : WE} {d0 : Nat} (hd0 : 1 ≤ d0) {A : AH} (hA : A 611 = .inr (8, [.null, .null, .int (nI 0), .null, .int (nI 0), .null, .int (nI 0), .int (nI 0), .int (nI 0), .null, .int (nI 0), .int (nI 0), .int (nI 0), .int (nI 0), .int (nI 0), .null, .null, .null])) :
    Sp E mX9_init d0 8 7671 [.ref (eB E + 611)] A 612 true (CtP E A 611 612 620) := by
  refine Sp.mk (by decide +kernel) (fun v hv => by simp at hv; subst hv; rfl) (Nat.le_of_ble_eq_true rfl) (fun C X => ?_)
  rw [show entL [.ref (eB E + 611)] mX9_init.2.2.1 = [some (.ref (eB E + 611))] from rfl]
  refine j_aload X tX9_init_ok kX9_init_0 rfl ?_
  refine j_super X tX9_init_ok kX9_init_1 (wAt_in (i := 1015) (by decide +kernel)) hd0 (by decide) ?_
  refine j_aload X tX9_init_ok kX9_init_4 rfl ?_
  refine j_sipush X tX9_init_ok kX9_init_5 (show sI 689 = nI 689 by decide) ?_
  refine j_ia X tX9_init_ok kX9_init_8 (by decide) (by decide) (by decide) ?_
  refine j_pf X flX9_ok tX9_init_ok kX9_init_10 fX9_9 (by decide +kernel) (show 611 < 613 by omega) ((vu_ne (o := 612) (o' := 611) (by omega)).trans hA) ⟨rfl, rfl⟩ (Nat.le_of_ble_eq_true rfl) ?_
  refine j_aload X tX9_init_ok kX9_init_13 rfl ?_
  refine j_sipush X tX9_init_ok kX9_init_14 (show sI 5512 = nI 5512 by decide) ?_
  refine j_ia X tX9_init_ok kX9_init_17 (by decide) (by decide) (by decide) ?_
  refine j_pf X flX9_ok tX9_init_ok kX9_init_19 fX9_13 (by decide +kernel) (show 611 < 614 by omega) ((vu_ne (o := 613) (o' := 611) (by omega)).trans vu_eq) ⟨rfl, rfl⟩ (Nat.le_of_ble_eq_true rfl) ?_
  refine j_aload X tX9_init_ok kX9_init_22 rfl ?_
  refine j_sipush X tX9_init_ok kX9_init_23 (show sI 689 = nI 689 by decide) ?_
  refine j_ia X tX9_init_ok kX9_init_26 (by decide) (by decide) (by decide) ?_
  refine j_pf X flX9_ok tX9_init_ok kX9_init_28 fX9_16 (by decide +kernel) (show 611 < 615 by omega) ((vu_ne (o := 614) (o' := 611) (by omega)).trans vu_eq) ⟨rfl, rfl⟩ (Nat.le_of_ble_eq_true rfl) ?_
  refine j_aload X tX9_init_ok kX9_init_31 rfl ?_
  refine j_sipush X tX9_init_ok kX9_init_32 (show sI 689 = nI 689 by decide) ?_
  refine j_ia X tX9_init_ok kX9_init_35 (by decide) (by decide) (by decide) ?_
  refine j_pf X flX9_ok tX9_init_ok kX9_init_37 fX9_19 (by decide +kernel) (show 611 < 616 by omega) ((vu_ne (o := 615) (o' := 611) (by omega)).trans vu_eq) ⟨rfl, rfl⟩ (Nat.le_of_ble_eq_true rfl) ?_
  refine j_aload X tX9_init_ok kX9_init_40 rfl ?_
  refine j_iconst (v := -1) X tX9_init_ok kX9_init_41 cI_n1 ?_
  refine j_pf X flX9_ok tX9_init_ok kX9_init_42 fX9_22 (by decide +kernel) (show 611 < 616 by omega) vu_eq ⟨rfl, rfl⟩ (Nat.le_of_ble_eq_true rfl) ?_
  refine j_aload X tX9_init_ok kX9_init_45 rfl ?_
  refine j_bipush X tX9_init_ok kX9_init_46 (show bI 40 = nI 40 by decide) ?_
  refine j_ca X tX9_init_ok kX9_init_48 (by decide) (by decide) (by decide) ?_
  refine j_pf X flX9_ok tX9_init_ok kX9_init_50 fX9_26 (by decide +kernel) (show 611 < 617 by omega) ((vu_ne (o := 616) (o' := 611) (by omega)).trans vu_eq) ⟨rfl, rfl⟩ (Nat.le_of_ble_eq_true rfl) ?_
  refine j_aload X tX9_init_ok kX9_init_53 rfl ?_
  refine j_iconst (v := 4) X tX9_init_ok kX9_init_54 (show cI 4 = nI 4 by decide) ?_
  refine j_ia X tX9_init_ok kX9_init_55 (by decide) (by decide) (by decide) ?_
  refine j_pf X flX9_ok tX9_init_ok kX9_init_57 fX9_30 (by decide +kernel) (show 611 < 618 by omega) ((vu_ne (o := 617) (o' := 611) (by omega)).trans vu_eq) ⟨rfl, rfl⟩ (Nat.le_of_ble_eq_true rfl) ?_
  refine j_aload X tX9_init_ok kX9_init_60 rfl ?_
  refine j_bipush X tX9_init_ok kX9_init_61 (show bI 24 = nI 24 by decide) ?_
  refine j_ia X tX9_init_ok kX9_init_63 (by decide) (by decide) (by decide) ?_
  refine j_pf X flX9_ok tX9_init_ok kX9_init_65 fX9_33 (by decide +kernel) (show 611 < 619 by omega) ((vu_ne (o := 618) (o' := 611) (by omega)).trans vu_eq) ⟨rfl, rfl⟩ (Nat.le_of_ble_eq_true rfl) ?_
  refine j_aload X tX9_init_ok kX9_init_68 rfl ?_
  refine j_bipush X tX9_init_ok kX9_init_69 (show bI 24 = nI 24 by decide) ?_
  refine j_ia X tX9_init_ok kX9_init_71 (by decide) (by decide) (by decide) ?_
  refine j_pf X flX9_ok tX9_init_ok kX9_init_73 fX9_36 (by decide +kernel) (show 611 < 620 by omega) ((vu_ne (o := 619) (o' := 611) (by omega)).trans vu_eq) ⟨rfl, rfl⟩ (Nat.le_of_ble_eq_true rfl) ?_
  refine j_ret0 X tX9_init_ok kX9_init_76 rfl ⟨rfl, rfl, rfl, fun x hx hxo => ?_, ?_, fun x h1 h2 => ?_⟩ (Nat.le_refl _) (Nat.le_refl _)
  · repeat rw [vu_ne (by omega)]
  · rw [vu_eq, T_611]; rfl
  · rcases (show x = 612 ∨ x = 613 ∨ x = 614 ∨ x = 615 ∨ x = 616 ∨ x = 617 ∨ x = 618 ∨ x = 619 by omega) with rfl | rfl | rfl | rfl | rfl | rfl | rfl | rfl
    · repeat (first | rw [vu_eq] | rw [vu_ne (by omega)])
      rw [T_612]
    · repeat (first | rw [vu_eq] | rw [vu_ne (by omega)])
      rw [T_613]
    · repeat (first | rw [vu_eq] | rw [vu_ne (by omega)])
      rw [T_614]
    · repeat (first | rw [vu_eq] | rw [vu_ne (by omega)])
      rw [T_615]
    · repeat (first | rw [vu_eq] | rw [vu_ne (by omega)])
      rw [T_616]
    · repeat (first | rw [vu_eq] | rw [vu_ne (by omega)])
      rw [T_617]
    · repeat (first | rw [vu_eq] | rw [vu_ne (by omega)])
      rw [T_618]
    · repeat (first | rw [vu_eq] | rw [vu_ne (by omega)])
      rw [T_619]
