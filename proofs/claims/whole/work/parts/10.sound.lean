/-! ===== that a block's doing is the machine's ===== -/
section SND
variable {E : WE} {mi : MI} {C : CT} {d mc ms : Nat} {P : OC → ST → Prop} {k q : Nat} {pc : Nat} {ls : List (Option Value)} {st : List Value} {s : ST}
theorem snd_push (X : Cx E mi C) {v : Int32} (hd : (∃ n, decode mi.2.1 pc = .ok (.iconst n, 1) ∧ v = cI n ∧ k = k) )
    (h : J2 E mi C d mc ms P k q (pc + 1) ls (.int v :: st) s) : J2 E mi C d mc ms P k q pc ls st s := by
  obtain ⟨p, e, s0, m, args, below, meth, c⟩ := C
  obtain ⟨n, hdg, e1, -⟩ := hd
  obtain ⟨⟨hx, hb, -⟩, -⟩ := X
  intro H locs arr hS0 hS1 hl hlen
  exact lv_iconst hx hb hdg e1.symm (h H locs arr hS0 hS1 hl hlen)
theorem snd_bpush (X : Cx E mi C) {n : Int} (hdg : decode mi.2.1 pc = .ok (.bipush n, 2)) (h : J2 E mi C d mc ms P k q (pc + 2) ls (.int (bI n) :: st) s) : J2 E mi C d mc ms P k q pc ls st s := by
  obtain ⟨p, e, s0, m, args, below, meth, c⟩ := C
  obtain ⟨⟨hx, hb, -⟩, -⟩ := X
  intro H locs arr hS0 hS1 hl hlen
  exact lv_bipush hx hb hdg rfl (h H locs arr hS0 hS1 hl hlen)
theorem snd_spush (X : Cx E mi C) {n : Int} (hdg : decode mi.2.1 pc = .ok (.sipush n, 3)) (h : J2 E mi C d mc ms P k q (pc + 3) ls (.int (sI n) :: st) s) : J2 E mi C d mc ms P k q pc ls st s := by
  obtain ⟨p, e, s0, m, args, below, meth, c⟩ := C
  obtain ⟨⟨hx, hb, -⟩, -⟩ := X
  intro H locs arr hS0 hS1 hl hlen
  exact lv_sipush hx hb hdg rfl (h H locs arr hS0 hS1 hl hlen)
theorem snd_ldI (X : Cx E mi C) {i len : Nat} {Cn : KT} {K0 : Prop} (hd : (decode mi.2.1 pc = .ok (.iload i, 2) ∧ len = 2) ∨ (∃ j : Fin 4, decode mi.2.1 pc = .ok (.iload_n j, 1) ∧ j.val = i ∧ len = 1))
    (h : xLdI i len pc ls st s Cn K0) (hC : ∀ pc ls st s, Cn pc ls st s → J2 E mi C d mc ms P k q pc ls st s) (h0 : K0 → J2 E mi C d mc ms P k q pc ls st s) : J2 E mi C d mc ms P k q pc ls st s := by
  unfold xLdI at h
  split at h
  · rename_i x hx9
    have h1 := hC _ _ _ _ h
    obtain ⟨p, e, s0, m, args, below, meth, c⟩ := C
    obtain ⟨⟨hx, hb, -⟩, -⟩ := X
    intro H locs arr hS0 hS1 hl hlen
    rcases hd with ⟨hdg, rfl⟩ | ⟨j, hdg, hj, rfl⟩
    · exact lv_iload hx hb hdg (hl.get hx9) (h1 H locs arr hS0 hS1 hl hlen)
    · exact lv_iload_n hx hb hdg hj (hl.get hx9) (h1 H locs arr hS0 hS1 hl hlen)
  · exact h0 h
theorem snd_ldA (X : Cx E mi C) {i len : Nat} {Cn : KT} {K0 : Prop} (hd : (decode mi.2.1 pc = .ok (.aload i, 2) ∧ len = 2) ∨ (∃ j : Fin 4, decode mi.2.1 pc = .ok (.aload_n j, 1) ∧ j.val = i ∧ len = 1))
    (h : xLdA i len pc ls st s Cn K0) (hC : ∀ pc ls st s, Cn pc ls st s → J2 E mi C d mc ms P k q pc ls st s) (h0 : K0 → J2 E mi C d mc ms P k q pc ls st s) : J2 E mi C d mc ms P k q pc ls st s := by
  unfold xLdA at h
  split at h
  · rename_i x hx9
    have h1 := hC _ _ _ _ h
    obtain ⟨p, e, s0, m, args, below, meth, c⟩ := C
    obtain ⟨⟨hx, hb, -⟩, -⟩ := X
    intro H locs arr hS0 hS1 hl hlen
    rcases hd with ⟨hdg, rfl⟩ | ⟨j, hdg, hj, rfl⟩
    · exact lv_aload hx hb hdg (hl.get hx9) (h1 H locs arr hS0 hS1 hl hlen)
    · exact lv_aload_n hx hb hdg hj (hl.get hx9) (h1 H locs arr hS0 hS1 hl hlen)
  · exact h0 h
theorem snd_st (X : Cx E mi C) {i len : Nat} {Cn : KT} {K0 : Prop} (hd : (decode mi.2.1 pc = .ok (.istore i, 2) ∧ len = 2) ∨ (∃ j : Fin 4, decode mi.2.1 pc = .ok (.istore_n j, 1) ∧ j.val = i ∧ len = 1))
    (h : xSt i len pc ls st s Cn K0) (hC : ∀ pc ls st s, Cn pc ls st s → J2 E mi C d mc ms P k q pc ls st s) (h0 : K0 → J2 E mi C d mc ms P k q pc ls st s) : J2 E mi C d mc ms P k q pc ls st s := by
  unfold xSt at h
  split at h
  · rename_i x r
    obtain ⟨hi, h⟩ := h
    have h1 := hC _ _ _ _ h
    obtain ⟨p, e, s0, m, args, below, meth, c⟩ := C
    obtain ⟨⟨hx, hb, -⟩, -⟩ := X
    intro H locs arr hS0 hS1 hl hlen
    rcases hd with ⟨hdg, rfl⟩ | ⟨j, hdg, hj, rfl⟩
    · exact lv_istore hx hb hdg hl.1 hi rfl (fun arr' h2 => h1 H locs arr' hS0 hS1 (hl.set rfl hi h2) (ls_len_set hlen))
    · exact lv_istore_n hx hb hdg hj hl.1 hi rfl (fun arr' h2 => h1 H locs arr' hS0 hS1 (hl.set rfl hi h2) (ls_len_set hlen))
  · exact h0 h
theorem snd_stA (X : Cx E mi C) {i len : Nat} {Cn : KT} {K0 : Prop} (hd : (decode mi.2.1 pc = .ok (.astore i, 2) ∧ len = 2) ∨ (∃ j : Fin 4, decode mi.2.1 pc = .ok (.astore_n j, 1) ∧ j.val = i ∧ len = 1))
    (h : xStA i len pc ls st s Cn K0) (hC : ∀ pc ls st s, Cn pc ls st s → J2 E mi C d mc ms P k q pc ls st s) (h0 : K0 → J2 E mi C d mc ms P k q pc ls st s) : J2 E mi C d mc ms P k q pc ls st s := by
  unfold xStA at h
  split at h
  · rename_i x r
    obtain ⟨hi, h⟩ := h
    have h1 := hC _ _ _ _ h
    obtain ⟨p, e, s0, m, args, below, meth, c⟩ := C
    obtain ⟨⟨hx, hb, -⟩, -⟩ := X
    intro H locs arr hS0 hS1 hl hlen
    rcases hd with ⟨hdg, rfl⟩ | ⟨j, hdg, hj, rfl⟩
    · exact lv_astore hx hb hdg hl.1 hi rfl (fun arr' h2 => h1 H locs arr' hS0 hS1 (hl.set rfl hi h2) (ls_len_set hlen))
    · exact lv_astore_n hx hb hdg hj hl.1 hi rfl (fun arr' h2 => h1 H locs arr' hS0 hS1 (hl.set rfl hi h2) (ls_len_set hlen))
  · exact h0 h
theorem snd_inc (X : Cx E mi C) {i : Nat} {n : Int} {Cn : KT} {K0 : Prop} (hdg : decode mi.2.1 pc = .ok (.iinc i n, 3))
    (h : xInc i n pc ls st s Cn K0) (hC : ∀ pc ls st s, Cn pc ls st s → J2 E mi C d mc ms P k q pc ls st s) (h0 : K0 → J2 E mi C d mc ms P k q pc ls st s) : J2 E mi C d mc ms P k q pc ls st s := by
  unfold xInc at h
  split at h
  · rename_i x hx9
    have h1 := hC _ _ _ _ h
    have hi : i < ls.length := (List.getElem?_eq_some_iff.mp hx9).1
    obtain ⟨p, e, s0, m, args, below, meth, c⟩ := C
    obtain ⟨⟨hx, hb, -⟩, -⟩ := X
    intro H locs arr hS0 hS1 hl hlen
    obtain ⟨j, hj⟩ := List.getElem?_of_mem ((lsAll_mem ls 0 (i, Value.int x)).mpr ⟨Nat.zero_le _, hx9⟩)
    exact lv_iinc (k := j) hx hb hdg hl.1 hj rfl hi rfl (fun arr' h2 => h1 H locs arr' hS0 hS1 (hl.set rfl hi h2) (ls_len_set hlen))
  · exact h0 h
theorem snd_bin (X : Cx E mi C) {f : Int32 → Int32 → Int32} {Cn : KT} {K0 : Prop}
    (hd : ∀ (p : Program) (e : Env) (s0 : State) (m : MethodId) (args : Array Value) (below : List Frame) (meth : Method) (c : Code), p.tables.exec = Jvm.exec → c.code = mi.2.1 → ∀ (H : Heap) (locs : List Loc) (arr : Array Slot) (R : Room) (Q : State → Prop) (x y : Int32) (rest : List Value), W p (eL E) e R s0 m args below meth c H locs k q Q (F0 m (pc + 1) arr (.int (f x y) :: rest)) → W p (eL E) e R s0 m args below meth c H locs k q Q (F0 m pc arr (.int y :: .int x :: rest)))
    (h : xBin f pc ls st s Cn K0) (hC : ∀ pc ls st s, Cn pc ls st s → J2 E mi C d mc ms P k q pc ls st s) (h0 : K0 → J2 E mi C d mc ms P k q pc ls st s) : J2 E mi C d mc ms P k q pc ls st s := by
  unfold xBin at h
  split at h
  · have h1 := hC _ _ _ _ h
    obtain ⟨p, e, s0, m, args, below, meth, c⟩ := C
    obtain ⟨⟨hx, hb, -⟩, -⟩ := X
    intro H locs arr hS0 hS1 hl hlen
    exact hd p e s0 m args below meth c hx hb H locs arr _ _ _ _ _ (h1 H locs arr hS0 hS1 hl hlen)
  · exact h0 h
theorem snd_rem (X : Cx E mi C) {Cn : KT} {K0 : Prop} (hdg : decode mi.2.1 pc = .ok (.irem, 1))
    (h : xRem pc ls st s Cn K0) (hC : ∀ pc ls st s, Cn pc ls st s → J2 E mi C d mc ms P k q pc ls st s) (h0 : K0 → J2 E mi C d mc ms P k q pc ls st s) : J2 E mi C d mc ms P k q pc ls st s := by
  unfold xRem at h
  split at h
  · obtain ⟨hy, h⟩ := h
    have h1 := hC _ _ _ _ h
    obtain ⟨p, e, s0, m, args, below, meth, c⟩ := C
    obtain ⟨⟨hx, hb, -⟩, -⟩ := X
    intro H locs arr hS0 hS1 hl hlen
    exact lv_irem hx hb hdg hy (h1 H locs arr hS0 hS1 hl hlen)
  · exact h0 h
theorem snd_i2c (X : Cx E mi C) {Cn : KT} {K0 : Prop} (hdg : decode mi.2.1 pc = .ok (.i2c, 1))
    (h : xI2c pc ls st s Cn K0) (hC : ∀ pc ls st s, Cn pc ls st s → J2 E mi C d mc ms P k q pc ls st s) (h0 : K0 → J2 E mi C d mc ms P k q pc ls st s) : J2 E mi C d mc ms P k q pc ls st s := by
  unfold xI2c at h
  split at h
  · have h1 := hC _ _ _ _ h
    obtain ⟨p, e, s0, m, args, below, meth, c⟩ := C
    obtain ⟨⟨hx, hb, -⟩, -⟩ := X
    intro H locs arr hS0 hS1 hl hlen
    exact lv_i2c hx hb hdg rfl (h1 H locs arr hS0 hS1 hl hlen)
  · exact h0 h
theorem snd_dup (X : Cx E mi C) {Cn : KT} {K0 : Prop} (hdg : decode mi.2.1 pc = .ok (.dup, 1))
    (h : xDup pc ls st s Cn K0) (hC : ∀ pc ls st s, Cn pc ls st s → J2 E mi C d mc ms P k q pc ls st s) (h0 : K0 → J2 E mi C d mc ms P k q pc ls st s) : J2 E mi C d mc ms P k q pc ls st s := by
  unfold xDup at h
  split at h
  · have h1 := hC _ _ _ _ h
    obtain ⟨p, e, s0, m, args, below, meth, c⟩ := C
    obtain ⟨⟨hx, hb, -⟩, -⟩ := X
    intro H locs arr hS0 hS1 hl hlen
    exact lv_dup hx hb hdg rfl (h1 H locs arr hS0 hS1 hl hlen)
  · have h1 := hC _ _ _ _ h
    obtain ⟨p, e, s0, m, args, below, meth, c⟩ := C
    obtain ⟨⟨hx, hb, -⟩, -⟩ := X
    intro H locs arr hS0 hS1 hl hlen
    exact lv_dup hx hb hdg rfl (h1 H locs arr hS0 hS1 hl hlen)
  · exact h0 h
theorem snd_dup2 (X : Cx E mi C) {Cn : KT} {K0 : Prop} (hdg : decode mi.2.1 pc = .ok (.dup2, 1))
    (h : xDup2 pc ls st s Cn K0) (hC : ∀ pc ls st s, Cn pc ls st s → J2 E mi C d mc ms P k q pc ls st s) (h0 : K0 → J2 E mi C d mc ms P k q pc ls st s) : J2 E mi C d mc ms P k q pc ls st s := by
  unfold xDup2 at h
  split at h
  · have h1 := hC _ _ _ _ h
    obtain ⟨p, e, s0, m, args, below, meth, c⟩ := C
    obtain ⟨⟨hx, hb, -⟩, -⟩ := X
    intro H locs arr hS0 hS1 hl hlen
    exact lv_dup2_11 hx hb hdg rfl rfl (h1 H locs arr hS0 hS1 hl hlen)
  · exact h0 h
theorem snd_pop (X : Cx E mi C) {Cn : KT} {K0 : Prop} (hdg : decode mi.2.1 pc = .ok (.pop, 1))
    (h : xPop pc ls st s Cn K0) (hC : ∀ pc ls st s, Cn pc ls st s → J2 E mi C d mc ms P k q pc ls st s) (h0 : K0 → J2 E mi C d mc ms P k q pc ls st s) : J2 E mi C d mc ms P k q pc ls st s := by
  unfold xPop at h
  split at h
  · have h1 := hC _ _ _ _ h
    obtain ⟨p, e, s0, m, args, below, meth, c⟩ := C
    obtain ⟨⟨hx, hb, -⟩, -⟩ := X
    intro H locs arr hS0 hS1 hl hlen
    exact lv_pop hx hb hdg rfl (h1 H locs arr hS0 hS1 hl hlen)
  · exact h0 h
theorem snd_goto (X : Cx E mi C) {off : Int} {t : Nat} (hdg : decode mi.2.1 pc = .ok (.goto off, 3)) (ht : (pc : Int) + off = (t : Int))
    (h : J2 E mi C d mc ms P k q t ls st s) : J2 E mi C d mc ms P k q pc ls st s := by
  obtain ⟨p, e, s0, m, args, below, meth, c⟩ := C
  obtain ⟨⟨hx, hb, -⟩, -⟩ := X
  intro H locs arr hS0 hS1 hl hlen
  exact lv_goto hx hb hdg ht (h H locs arr hS0 hS1 hl hlen)
theorem snd_if (X : Cx E mi C) {op : Jvm.ClassFile.Cond} {off : Int} {t : Nat} {Cn : KT} {K0 : Prop} (hdg : decode mi.2.1 pc = .ok (.ifCond op off, 3)) (ht : (pc : Int) + off = (t : Int))
    (h : xIf op t pc ls st s Cn K0) (hC : ∀ pc ls st s, Cn pc ls st s → J2 E mi C d mc ms P k q pc ls st s) (h0 : K0 → J2 E mi C d mc ms P k q pc ls st s) : J2 E mi C d mc ms P k q pc ls st s := by
  unfold xIf at h
  split at h
  · obtain ⟨p, e, s0, m, args, below, meth, c⟩ := C
    obtain ⟨⟨hx, hb, -⟩, -⟩ := X
    intro H locs arr hS0 hS1 hl hlen
    cases op <;> simp only at h <;> obtain ⟨h1, h2⟩ := h
    · exact lv_if_eq hx hb hdg ht (fun c9 => hC _ _ _ _ (h1 c9) H locs arr hS0 hS1 hl hlen) (fun c9 => hC _ _ _ _ (h2 c9) H locs arr hS0 hS1 hl hlen)
    · exact lv_if_ne hx hb hdg ht (fun c9 => hC _ _ _ _ (h1 c9) H locs arr hS0 hS1 hl hlen) (fun c9 => hC _ _ _ _ (h2 c9) H locs arr hS0 hS1 hl hlen)
    · exact lv_if_lt hx hb hdg ht (fun c9 => hC _ _ _ _ (h1 c9) H locs arr hS0 hS1 hl hlen) (fun c9 => hC _ _ _ _ (h2 c9) H locs arr hS0 hS1 hl hlen)
    · exact lv_if_ge hx hb hdg ht (fun c9 => hC _ _ _ _ (h1 c9) H locs arr hS0 hS1 hl hlen) (fun c9 => hC _ _ _ _ (h2 c9) H locs arr hS0 hS1 hl hlen)
    · exact lv_if_gt hx hb hdg ht (fun c9 => hC _ _ _ _ (h1 c9) H locs arr hS0 hS1 hl hlen) (fun c9 => hC _ _ _ _ (h2 c9) H locs arr hS0 hS1 hl hlen)
    · exact lv_if_le hx hb hdg ht (fun c9 => hC _ _ _ _ (h1 c9) H locs arr hS0 hS1 hl hlen) (fun c9 => hC _ _ _ _ (h2 c9) H locs arr hS0 hS1 hl hlen)
  · exact h0 h
theorem snd_cmp (X : Cx E mi C) {op : Jvm.ClassFile.Cond} {off : Int} {t : Nat} {Cn : KT} {K0 : Prop} (hdg : decode mi.2.1 pc = .ok (.if_icmp op off, 3)) (ht : (pc : Int) + off = (t : Int))
    (h : xCmp op t pc ls st s Cn K0) (hC : ∀ pc ls st s, Cn pc ls st s → J2 E mi C d mc ms P k q pc ls st s) (h0 : K0 → J2 E mi C d mc ms P k q pc ls st s) : J2 E mi C d mc ms P k q pc ls st s := by
  unfold xCmp at h
  split at h
  · obtain ⟨p, e, s0, m, args, below, meth, c⟩ := C
    obtain ⟨⟨hx, hb, -⟩, -⟩ := X
    intro H locs arr hS0 hS1 hl hlen
    cases op <;> simp only at h <;> obtain ⟨h1, h2⟩ := h
    · exact lv_icmp_eq hx hb hdg ht (fun c9 => hC _ _ _ _ (h1 c9) H locs arr hS0 hS1 hl hlen) (fun c9 => hC _ _ _ _ (h2 c9) H locs arr hS0 hS1 hl hlen)
    · exact lv_icmp_ne hx hb hdg ht (fun c9 => hC _ _ _ _ (h1 c9) H locs arr hS0 hS1 hl hlen) (fun c9 => hC _ _ _ _ (h2 c9) H locs arr hS0 hS1 hl hlen)
    · exact lv_icmp_lt hx hb hdg ht (fun c9 => hC _ _ _ _ (h1 c9) H locs arr hS0 hS1 hl hlen) (fun c9 => hC _ _ _ _ (h2 c9) H locs arr hS0 hS1 hl hlen)
    · exact lv_icmp_ge hx hb hdg ht (fun c9 => hC _ _ _ _ (h1 c9) H locs arr hS0 hS1 hl hlen) (fun c9 => hC _ _ _ _ (h2 c9) H locs arr hS0 hS1 hl hlen)
    · exact lv_icmp_gt hx hb hdg ht (fun c9 => hC _ _ _ _ (h1 c9) H locs arr hS0 hS1 hl hlen) (fun c9 => hC _ _ _ _ (h2 c9) H locs arr hS0 hS1 hl hlen)
    · exact lv_icmp_le hx hb hdg ht (fun c9 => hC _ _ _ _ (h1 c9) H locs arr hS0 hS1 hl hlen) (fun c9 => hC _ _ _ _ (h2 c9) H locs arr hS0 hS1 hl hlen)
  · exact h0 h
end SND
