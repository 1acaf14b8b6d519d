theorem nfOf_eq {ci : Nat} {r : vw_C} (h : wCl[ci]? = some r) : r.2.2 = nfOf ci := by
  have hl : ci < 9 := (List.getElem?_eq_some_iff.mp h).1
  rcases (show ci = 0 ∨ ci = 1 ∨ ci = 2 ∨ ci = 3 ∨ ci = 4 ∨ ci = 5 ∨ ci = 6 ∨ ci = 7 ∨ ci = 8 by omega) with rfl | rfl | rfl | rfl | rfl | rfl | rfl | rfl | rfl <;> cases h <;> rfl
theorem putT_facts {ci k : Nat} {r : vw_C} (hr : wCl[ci]? = some r) (hk : k < r.2.2) (hp : putT ci k = 1 ∨ putT ci k = 2) : (r.2.1 k).2.2.2 = false ∧ parseFieldDescriptor (r.2.1 k).2.2.1 = some (if putT ci k = 2 then .boolean else .int) := by
  have hl : ci < 9 := (List.getElem?_eq_some_iff.mp hr).1
  have h := putC_of hl (by rw [← nfOf_eq hr]; exact hk)
  unfold putC at h
  rw [hr] at h
  simp only [Bool.and_eq_true, Bool.or_eq_true, decide_eq_true_eq] at h
  rcases h.2 with h1 | h1
  · omega
  · exact ⟨h1.1.2, h1.2⟩
theorem cel_obj {E : WE} {s : ST} {o ci : Nat} {F : Nat → LV} (ho : o < 620) (hl : lay E o = .inl (ci, F)) : (ww (eB E) 622 (cel E s))[o]? = some (eB E + o, .inr (ci, (List.range (nfOf ci)).map (fun k => lval s.1 (F k)))) := by
  rw [ww_get (by omega), cel_lo ho, hl]
  rfl
theorem cel_arr {E : WE} {s : ST} {o t n r off : Nat} (ho : o < 620) (hl : lay E o = .inr (.inl (t, n, r, off))) : (ww (eB E) 622 (cel E s))[o]? = some (eB E + o, .inl (eC E t, n, .inl (fun j => if j < n then s.1 r (off + j) else 0))) := by
  rw [ww_get (by omega), cel_lo ho, hl]
  rfl
theorem cel_qar {E : WE} {s : ST} {o t n : Nat} {f : Nat → Nat} (ho : o < 620) (hl : lay E o = .inr (.inr (t, n, f))) : (ww (eB E) 622 (cel E s))[o]? = some (eB E + o, .inl (eC E t, n, .inr (.inr (.inr (.inr (fun j => some (f j))))))) := by
  rw [ww_get (by omega), cel_lo ho, hl]
  rfl
section SNE
variable {E : WE} {mi : MI} {C : CT} {d mc ms : Nat} {P : OC → ST → Prop} {k q : Nat} {pc : Nat} {ls : List (Option Value)} {st : List Value} {s : ST}
theorem snd_get (X : Cx E mi C) {L : List (Nat × Nat × Nat × Nat)} (hL : L.all (flOk mi.1.cls) = true) {i : Nat} {Cn : KT} {K0 : Prop} (hdg : decode mi.2.1 pc = .ok (.getfield i, 3))
    (h : xGet E (flk L) i pc ls st s Cn K0) (hC : ∀ pc ls st s, Cn pc ls st s → J2 E mi C d mc ms P k q pc ls st s) (h0 : K0 → J2 E mi C d mc ms P k q pc ls st s) : J2 E mi C d mc ms P k q pc ls st s := by
  unfold xGet at h
  split at h
  · rename_i a r
    split at h
    · rename_i x hx9
      obtain ⟨y, hy, hk9, hlink⟩ := flk_spec hL hx9
      unfold xGetF at h
      split at h
      · rename_i o9 ho9
        obtain ⟨e1, h⟩ := h
        have h1 := hC _ _ _ _ h
        obtain ⟨o, rfl, ho, hlay⟩ := layA_spec ho9
        obtain ⟨ci, F⟩ := o9
        simp only at e1 h1
        subst e1
        obtain ⟨p, e, s0, m, args, below, meth, c⟩ := C
        obtain ⟨⟨hx, hb, hml, hown, hts⟩, -, hWK, -⟩ := X
        intro H locs arr hS0 hS1 hl hlen
        exact va_get (D := eD E) (cl := wCl) (tys := eT E) (C := y.1) (T := y.2.1) (N := y.2.2) (ref := (y.2.1 x.2).1) hx hb hts (inCn hy) hown hWK.1.1 hS0.1 o (cel_obj ho hlay) hy x.2 hk9 (hts _ hlink) (fun _ h9 => h9)
          (by rw [List.getElem?_map, List.getElem?_range (by rw [← nfOf_eq hy]; exact hk9)]; rfl) hdg (h1 H locs arr hS0 hS1 hl hlen)
      · exact h0 h
    · exact h0 h
  · exact h0 h
theorem snd_put (X : Cx E mi C) {L : List (Nat × Nat × Nat × Nat)} (hL : L.all (flOk mi.1.cls) = true) {i : Nat} {Cn : KT} {K0 : Prop} (hdg : decode mi.2.1 pc = .ok (.putfield i, 3))
    (h : xPut E (flk L) i pc ls st s Cn K0) (hC : ∀ pc ls st s, Cn pc ls st s → J2 E mi C d mc ms P k q pc ls st s) (h0 : K0 → J2 E mi C d mc ms P k q pc ls st s) : J2 E mi C d mc ms P k q pc ls st s := by
  unfold xPut at h
  split at h
  · rename_i v a r
    split at h
    · rename_i x hx9
      obtain ⟨y, hy, hk9, hlink⟩ := flk_spec hL hx9
      unfold xPutF at h
      split at h
      · rename_i o9 ho9
        split at h
        · rename_i q9 hq9
          obtain ⟨e1, hp, h⟩ := h
          have h1 := hC _ _ _ _ h
          obtain ⟨o, rfl, ho, hlay⟩ := layA_spec ho9
          obtain ⟨ci, F⟩ := o9
          obtain ⟨r9, j9⟩ := q9
          simp only at e1 h1 hq9
          subst e1
          have hp2 : putT x.1 x.2 = 1 ∨ putT x.1 x.2 = 2 := by
            rcases hp with h | ⟨h, -⟩
            · exact Or.inl h
            · exact Or.inr h
          obtain ⟨hfin, hd⟩ := putT_facts hy hk9 hp2
          have hnf : narrow (if putT x.1 x.2 = 2 then FieldType.boolean else .int) (.int v) = .int v ∧ fits (if putT x.1 x.2 = 2 then FieldType.boolean else .int) (.int v) = true := by
            rcases hp with h | ⟨h, hv⟩
            · rw [h]; exact ⟨rfl, rfl⟩
            · rw [h]; rcases hv with rfl | rfl <;> exact ⟨rfl, rfl⟩
          obtain ⟨p, e, s0, m, args, below, meth, c⟩ := C
          obtain ⟨⟨hx, hb, hml, hown, hts⟩, -, hWK, hB9, -⟩ := X
          intro H locs arr hS0 hS1 hl hlen
          have hkn : x.2 < nfOf x.1 := by rw [← nfOf_eq hy]; exact hk9
          refine va_put (D := eD E) (cl := wCl) (tys := eT E) (C := y.1) (T := y.2.1) (N := y.2.2) (ref := (y.2.1 x.2).1) hx hb hts (inCn hy) (tyOf x.1) (tyOf_ok hy) (nmOf_ok hy) hown hWK.1.1 hS0.1 ww_D hS1 o (cel_obj ho hlay) hy x.2 hk9 (hts _ hlink) (fun _ h9 => h9)
            hfin hd hnf.1 hnf.2 (by simpa using hkn) hdg (fun H1 locs1 hP1 hD1 hS9 => ?_)
          rw [ww_set, cel_put ho hlay hkn hq9] at hP1
          exact h1 H1 locs1 arr ⟨hP1, Nat.le_trans hB9 hS9.1, fun e9 => nomatch e9⟩ hS9 hl hlen
        · exact h0 h
      · exact h0 h
    · exact h0 h
  · exact h0 h
theorem snd_ald (X : Cx E mi C) {tag : Nat} {Cn : KT} {K0 : Prop} (hdg : (tag = 0 ∧ decode mi.2.1 pc = .ok (.iaload, 1)) ∨ (tag = 1 ∧ decode mi.2.1 pc = .ok (.caload, 1)))
    (h : xAld E tag pc ls st s Cn K0) (hC : ∀ pc ls st s, Cn pc ls st s → J2 E mi C d mc ms P k q pc ls st s) (h0 : K0 → J2 E mi C d mc ms P k q pc ls st s) : J2 E mi C d mc ms P k q pc ls st s := by
  unfold xAld at h
  split at h
  · rename_i i a r
    unfold xArrF at h
    split at h
    · rename_i o9 ho9
      obtain ⟨e1, hin, h⟩ := h
      have h1 := hC _ _ _ _ h
      obtain ⟨o, rfl, ho, hlay⟩ := layA_spec ho9
      obtain ⟨t, n, r9, off⟩ := o9
      simp only at e1 h1 hin
      subst e1
      have hlt : i.toNatClampNeg < n := Nat.not_le.mp fun q9 => hin (Or.inr q9)
      obtain ⟨p, e, s0, m, args, below, meth, c⟩ := C
      obtain ⟨⟨hx, hb, hml, hown, hts⟩, -, hWK, -⟩ := X
      intro H locs arr hS0 hS1 hl hlen
      have h2 := h1 H locs arr hS0 hS1 hl hlen
      have hf : (fun j => if j < n then s.1 r9 (off + j) else 0) i.toNatClampNeg = s.1 r9 (off + i.toNatClampNeg) := if_pos hlt
      rw [← hf] at h2
      rcases hdg with ⟨rfl, hdg⟩ | ⟨rfl, hdg⟩
      · exact va_iald (D := eD E) (cl := wCl) (tys := eT E) hx hb hWK.1.1 hS0.1 o 0 (cel_arr ho hlay) rfl hin hdg h2
      · exact va_cald (D := eD E) (cl := wCl) (tys := eT E) hx hb hWK.1.1 hS0.1 o 1 (cel_arr ho hlay) rfl hin hdg h2
    · exact h0 h
  · exact h0 h
theorem snd_ast (X : Cx E mi C) {tag : Nat} {Cn : KT} {K0 : Prop} (hdg : (tag = 0 ∧ decode mi.2.1 pc = .ok (.iastore, 1)) ∨ (tag = 1 ∧ decode mi.2.1 pc = .ok (.castore, 1)))
    (h : xAst E tag pc ls st s Cn K0) (hC : ∀ pc ls st s, Cn pc ls st s → J2 E mi C d mc ms P k q pc ls st s) (h0 : K0 → J2 E mi C d mc ms P k q pc ls st s) : J2 E mi C d mc ms P k q pc ls st s := by
  unfold xAst at h
  split at h
  · rename_i v i a r
    unfold xArrF at h
    split at h
    · rename_i o9 ho9
      obtain ⟨e1, hin, h⟩ := h
      have h1 := hC _ _ _ _ h
      obtain ⟨o, rfl, ho, hlay⟩ := layA_spec ho9
      obtain ⟨t, n, r9, off⟩ := o9
      simp only at e1 h1 hin
      subst e1
      have hlt : i.toNatClampNeg < n := Nat.not_le.mp fun q9 => hin (Or.inr q9)
      obtain ⟨p, e, s0, m, args, below, meth, c⟩ := C
      obtain ⟨⟨hx, hb, hml, hown, hts⟩, -, hWK, hB9, -⟩ := X
      intro H locs arr hS0 hS1 hl hlen
      rcases hdg with ⟨rfl, hdg⟩ | ⟨rfl, hdg⟩
      · refine va_iast (D := eD E) (cl := wCl) (tys := eT E) hx hb hWK.1.1 hS0.1 ww_D hS1 o 0 (cel_arr ho hlay) rfl hin hdg (fun H1 locs1 hP1 hD1 hS9 => ?_)
        rw [ww_set, cel_ast ho hlay hlt] at hP1
        exact h1 H1 locs1 arr ⟨hP1, Nat.le_trans hB9 hS9.1, fun e9 => nomatch e9⟩ hS9 hl hlen
      · refine va_cast (D := eD E) (cl := wCl) (tys := eT E) hx hb hWK.1.1 hS0.1 ww_D hS1 o 1 (cel_arr ho hlay) rfl hin hdg (fun H1 locs1 hP1 hD1 hS9 => ?_)
        rw [ww_set, cel_ast ho hlay hlt] at hP1
        exact h1 H1 locs1 arr ⟨hP1, Nat.le_trans hB9 hS9.1, fun e9 => nomatch e9⟩ hS9 hl hlen
    · exact h0 h
  · exact h0 h
theorem snd_qld (X : Cx E mi C) {Cn : KT} {K0 : Prop} (hdg : decode mi.2.1 pc = .ok (.aaload, 1))
    (h : xQld E pc ls st s Cn K0) (hC : ∀ pc ls st s, Cn pc ls st s → J2 E mi C d mc ms P k q pc ls st s) (h0 : K0 → J2 E mi C d mc ms P k q pc ls st s) : J2 E mi C d mc ms P k q pc ls st s := by
  unfold xQld at h
  split at h
  · rename_i i a r
    unfold xQldF at h
    split at h
    · rename_i o9 ho9
      obtain ⟨e1, hin, h⟩ := h
      have h1 := hC _ _ _ _ h
      obtain ⟨o, rfl, ho, hlay⟩ := layA_spec ho9
      obtain ⟨t, n, f⟩ := o9
      simp only at e1 h1 hin
      obtain ⟨p, e, s0, m, args, below, meth, c⟩ := C
      obtain ⟨⟨hx, hb, hml, hown, hts⟩, -, hWK, hB9, -⟩ := X
      intro H locs arr hS0 hS1 hl hlen
      have h2 := h1 H locs arr hS0 hS1 hl hlen
      rcases e1 with rfl | rfl | rfl
      · exact va_aldq (D := eD E) (cl := wCl) (tys := eT E) (f := fun j => some (f j)) hx hb hWK.1.1 hS0.1 o 4 (cel_qar ho hlay) rfl hin hdg h2
      · exact va_aldq (D := eD E) (cl := wCl) (tys := eT E) (f := fun j => some (f j)) hx hb hWK.1.1 hS0.1 o 5 (cel_qar ho hlay) rfl hin hdg h2
      · exact va_aldq (D := eD E) (cl := wCl) (tys := eT E) (f := fun j => some (f j)) hx hb hWK.1.1 hS0.1 o 6 (cel_qar ho hlay) rfl hin hdg h2
    · exact h0 h
  · exact h0 h
/-- what is owed at a return: the end's own claim, with the room counted -/
theorem snd_ret (X : Cx E mi C) {rt : Option FieldType} (hrt : mi.2.2.2 = rt) {Rt : Option Value → ST → Prop} {K0 : Prop} (hdg : decode mi.2.1 pc = .ok (.ireturn, 1)) (hkq : k ≤ mc ∧ q ≤ ms) (hR : ∀ v s, Rt v s → P (.inl v) s)
    (h : xRet rt st s Rt K0) (h0 : K0 → J2 E mi C d mc ms P k q pc ls st s) : J2 E mi C d mc ms P k q pc ls st s := by
  unfold xRet at h
  split at h
  · split at h
    · exact J_iret X (Or.inl hrt) ⟨rfl, rfl, s, rfl, hR _ _ h⟩ hkq.1 hkq.2 hdg
    · exact J_iret X (Or.inr ⟨hrt, h.1⟩) ⟨rfl, rfl, s, rfl, hR _ _ h.2⟩ hkq.1 hkq.2 hdg
    · exact h0 h
  · exact h0 h
theorem snd_vret (X : Cx E mi C) {rt : Option FieldType} (hrt : mi.2.2.2 = rt) {Rt : Option Value → ST → Prop} {K0 : Prop} (hdg : decode mi.2.1 pc = .ok (.return_, 1)) (hkq : k ≤ mc ∧ q ≤ ms) (hR : ∀ v s, Rt v s → P (.inl v) s)
    (h : xVret rt st s Rt K0) (h0 : K0 → J2 E mi C d mc ms P k q pc ls st s) : J2 E mi C d mc ms P k q pc ls st s := by
  unfold xVret at h
  split at h
  · split at h
    · exact J_vret X hrt ⟨rfl, rfl, s, rfl, hR _ _ h⟩ hkq.1 hkq.2 hdg
    · exact h0 h
  · exact h0 h
end SNE
section SNF
variable {E : WE} {mi : MI} {C : CT} {d mc ms : Nat} {P : OC → ST → Prop} {k q : Nat}
theorem snd_step (X : Cx E mi C) {L : List (Nat × Nat × Nat × Nat)} (hL : L.all (flOk mi.1.cls) = true) {rt : Option FieldType} (hrt : mi.2.2.2 = rt) {Rt : Option Value → ST → Prop} (hkq : k ≤ mc ∧ q ≤ ms) (hR : ∀ v s, Rt v s → P (.inl v) s)
    {i : Instr} {t len pc : Nat} {ls : List (Option Value)} {st : List Value} {s : ST} {Cn : KT} {K0 : Prop} (hdg : decode mi.2.1 pc = .ok (i, len)) (ht : tgtOk i pc t = true)
    (h : step E (flk L) rt Rt i t pc ls st s Cn K0) (hC : ∀ pc ls st s, Cn pc ls st s → J2 E mi C d mc ms P k q pc ls st s) (h0 : K0 → J2 E mi C d mc ms P k q pc ls st s) (hlen : len = instrLen i ∨ instrLen i = 0) : J2 E mi C d mc ms P k q pc ls st s := by
  by_cases hz : instrLen i = 0
  · cases i <;> first | exact h0 h | (exact absurd hz (by simp [instrLen]))
  have hlen2 : len = instrLen i := hlen.resolve_right hz
  subst hlen2
  clear hlen hz
  cases i with
  | iconst n => exact snd_push X ⟨n, hdg, rfl, rfl⟩ (hC _ _ _ _ h)
  | bipush n => exact snd_bpush X hdg (hC _ _ _ _ h)
  | sipush n => exact snd_spush X hdg (hC _ _ _ _ h)
  | iload j => exact snd_ldI X (Or.inl ⟨hdg, rfl⟩) h hC h0
  | iload_n j => exact snd_ldI X (Or.inr ⟨j, hdg, rfl, rfl⟩) h hC h0
  | aload j => exact snd_ldA X (Or.inl ⟨hdg, rfl⟩) h hC h0
  | aload_n j => exact snd_ldA X (Or.inr ⟨j, hdg, rfl, rfl⟩) h hC h0
  | istore j => exact snd_st X (Or.inl ⟨hdg, rfl⟩) h hC h0
  | istore_n j => exact snd_st X (Or.inr ⟨j, hdg, rfl, rfl⟩) h hC h0
  | astore j => exact snd_stA X (Or.inl ⟨hdg, rfl⟩) h hC h0
  | astore_n j => exact snd_stA X (Or.inr ⟨j, hdg, rfl, rfl⟩) h hC h0
  | iinc j n => exact snd_inc X hdg h hC h0
  | iadd => exact snd_bin X (fun p e s0 m args below meth c hx hb H locs arr R Q x y rest hw => lv_iadd hx hb hdg hw) h hC h0
  | isub => exact snd_bin X (fun p e s0 m args below meth c hx hb H locs arr R Q x y rest hw => lv_isub hx hb hdg hw) h hC h0
  | imul => exact snd_bin X (fun p e s0 m args below meth c hx hb H locs arr R Q x y rest hw => lv_imul hx hb hdg hw) h hC h0
  | irem => exact snd_rem X hdg h hC h0
  | ishl => exact snd_bin X (fun p e s0 m args below meth c hx hb H locs arr R Q x y rest hw => lv_ishl hx hb hdg hw) h hC h0
  | ishr => exact snd_bin X (fun p e s0 m args below meth c hx hb H locs arr R Q x y rest hw => lv_ishr hx hb hdg hw) h hC h0
  | iand => exact snd_bin X (fun p e s0 m args below meth c hx hb H locs arr R Q x y rest hw => lv_iand hx hb hdg hw) h hC h0
  | ior => exact snd_bin X (fun p e s0 m args below meth c hx hb H locs arr R Q x y rest hw => lv_ior hx hb hdg hw) h hC h0
  | ixor => exact snd_bin X (fun p e s0 m args below meth c hx hb H locs arr R Q x y rest hw => lv_ixor hx hb hdg hw) h hC h0
  | i2c => exact snd_i2c X hdg h hC h0
  | dup => exact snd_dup X hdg h hC h0
  | dup2 => exact snd_dup2 X hdg h hC h0
  | pop => exact snd_pop X hdg h hC h0
  | goto off => exact snd_goto X hdg (of_decide_eq_true ht) (hC _ _ _ _ h)
  | ifCond op off => exact snd_if X hdg (of_decide_eq_true ht) h hC h0
  | if_icmp op off => exact snd_cmp X hdg (of_decide_eq_true ht) h hC h0
  | getfield j => exact snd_get X hL hdg h hC h0
  | putfield j => exact snd_put X hL hdg h hC h0
  | iaload => exact snd_ald X (Or.inl ⟨rfl, hdg⟩) h hC h0
  | caload => exact snd_ald X (Or.inr ⟨rfl, hdg⟩) h hC h0
  | iastore => exact snd_ast X (Or.inl ⟨rfl, hdg⟩) h hC h0
  | castore => exact snd_ast X (Or.inr ⟨rfl, hdg⟩) h hC h0
  | aaload => exact snd_qld X hdg h hC h0
  | ireturn => exact snd_ret X hrt hdg hkq hR h h0
  | return_ => exact snd_vret X hrt hdg hkq hR h h0
  | _ => exact h0 h
theorem go_sound (X : Cx E mi C) {L : List (Nat × Nat × Nat × Nat)} (hL : L.all (flOk mi.1.cls) = true) {rt : Option FieldType} (hrt : mi.2.2.2 = rt) {Rt : Option Value → ST → Prop} (hkq : k ≤ mc ∧ q ≤ ms) (hR : ∀ v s, Rt v s → P (.inl v) s)
    {tb : TB} (htb : tbOk mi.2.1 tb = true) {stops : List Nat} {K : KT} (hK : ∀ pc ls st s, K pc ls st s → J2 E mi C d mc ms P k q pc ls st s) :
    ∀ (n pc : Nat) (ls : List (Option Value)) (st : List Value) (s : ST), go E tb (flk L) rt Rt stops K n pc ls st s → J2 E mi C d mc ms P k q pc ls st s := by
  intro n
  induction n with
  | zero => intro pc ls st s h; exact hK _ _ _ _ h
  | succ n ih =>
    intro pc ls st s h
    unfold go at h
    split at h
    · rename_i x hx9
      obtain ⟨i, t⟩ := x
      obtain ⟨len, hdg, ht, hlen⟩ := lkp_spec htb hx9
      refine snd_step X hL hrt hkq hR hdg ht h (fun pc' ls' st' s' h' => ?_) (fun h' => hK _ _ _ _ h') hlen
      split at h'
      · exact hK _ _ _ _ h'
      · exact ih _ _ _ _ h'
    · exact hK _ _ _ _ h
end SNF
