/-! ===== the law's own methods: a frame that may have handlers, and the script ===== -/
abbrev SCR : Type := Option (Nat × Nat × (Nat → Int32))
abbrev LT : Type := Program × Env × State × MethodId × Array Value × List Frame × Method × Code × Room × (State → Prop)
/-- what holds of the machine in the body -/
def CL (E : WE) (cc : ByteArray) (nL : Nat) (sc : SCR) (C : LT) : Prop := match C with
  | (p, _, s, m, args, _, meth, c, _, _) =>
  (p.tables.exec = Jvm.exec ∧ c.code = cc ∧ c.maxLocals = nL ∧ s.vm.findClass RL = some m.cls ∧ (∀ w ∈ wT, w.before args s = true)) ∧
  (meth.locks = false ∧ ∀ b L xs, sc = some (b, L, xs) → va_X b L xs s s.heap ∧ b < s.heap.size ∧ b < eB E) ∧
  (WK E s s.heap ∧ eB E ≤ s.heap.size ∧ (eL E).stackTraces = false)
def JL (E : WE) (nL : Nat) (C : LT) (k q : Nat) : KT := fun pc ls st s => match C with
  | (p, e, s0, m, args, below, meth, c, R, Q) => ∀ (H : Heap) (locs : List Loc) (arr : Array Slot), hS E (cel E s) 622 false H → va_S (eA E) s0.heap H locs → lsOk arr ls → ls.length = nL →
    W p (eL E) e R s0 m args below meth c H locs k q Q (F0 m pc arr st)
section SNL
variable {E : WE} {cc : ByteArray} {nL : Nat} {sc : SCR} {C : LT} {k q : Nat} {pc : Nat} {ls : List (Option Value)} {st : List Value} {s : ST}
theorem snl_push (X : CL E cc nL sc C) {v : Int32} (hd : (∃ n, decode cc pc = .ok (.iconst n, 1) ∧ v = cI n ∧ k = k) )
    (h : JL E nL C k q (pc + 1) ls (.int v :: st) s) : JL E nL C k q pc ls st s := by
  obtain ⟨p, e, s0, m, args, below, meth, c, R, Q⟩ := C
  obtain ⟨n, hdg, e1, -⟩ := hd
  obtain ⟨⟨hx, hb, -⟩, -⟩ := X
  intro H locs arr hS0 hS1 hl hlen
  exact lv_iconst hx hb hdg e1.symm (h H locs arr hS0 hS1 hl hlen)
theorem snl_bpush (X : CL E cc nL sc C) {n : Int} (hdg : decode cc pc = .ok (.bipush n, 2)) (h : JL E nL C k q (pc + 2) ls (.int (bI n) :: st) s) : JL E nL C k q pc ls st s := by
  obtain ⟨p, e, s0, m, args, below, meth, c, R, Q⟩ := C
  obtain ⟨⟨hx, hb, -⟩, -⟩ := X
  intro H locs arr hS0 hS1 hl hlen
  exact lv_bipush hx hb hdg rfl (h H locs arr hS0 hS1 hl hlen)
theorem snl_spush (X : CL E cc nL sc C) {n : Int} (hdg : decode cc pc = .ok (.sipush n, 3)) (h : JL E nL C k q (pc + 3) ls (.int (sI n) :: st) s) : JL E nL C k q pc ls st s := by
  obtain ⟨p, e, s0, m, args, below, meth, c, R, Q⟩ := C
  obtain ⟨⟨hx, hb, -⟩, -⟩ := X
  intro H locs arr hS0 hS1 hl hlen
  exact lv_sipush hx hb hdg rfl (h H locs arr hS0 hS1 hl hlen)
theorem snl_ldI (X : CL E cc nL sc C) {i len : Nat} {Cn : KT} {K0 : Prop} (hd : (decode cc pc = .ok (.iload i, 2) ∧ len = 2) ∨ (∃ j : Fin 4, decode cc pc = .ok (.iload_n j, 1) ∧ j.val = i ∧ len = 1))
    (h : xLdI i len pc ls st s Cn K0) (hC : ∀ pc ls st s, Cn pc ls st s → JL E nL C k q pc ls st s) (h0 : K0 → JL E nL C k q pc ls st s) : JL E nL C k q pc ls st s := by
  unfold xLdI at h
  split at h
  · rename_i x hx9
    have h1 := hC _ _ _ _ h
    obtain ⟨p, e, s0, m, args, below, meth, c, R, Q⟩ := C
    obtain ⟨⟨hx, hb, -⟩, -⟩ := X
    intro H locs arr hS0 hS1 hl hlen
    rcases hd with ⟨hdg, rfl⟩ | ⟨j, hdg, hj, rfl⟩
    · exact lv_iload hx hb hdg (hl.get hx9) (h1 H locs arr hS0 hS1 hl hlen)
    · exact lv_iload_n hx hb hdg hj (hl.get hx9) (h1 H locs arr hS0 hS1 hl hlen)
  · exact h0 h
theorem snl_ldA (X : CL E cc nL sc C) {i len : Nat} {Cn : KT} {K0 : Prop} (hd : (decode cc pc = .ok (.aload i, 2) ∧ len = 2) ∨ (∃ j : Fin 4, decode cc pc = .ok (.aload_n j, 1) ∧ j.val = i ∧ len = 1))
    (h : xLdA i len pc ls st s Cn K0) (hC : ∀ pc ls st s, Cn pc ls st s → JL E nL C k q pc ls st s) (h0 : K0 → JL E nL C k q pc ls st s) : JL E nL C k q pc ls st s := by
  unfold xLdA at h
  split at h
  · rename_i x hx9
    have h1 := hC _ _ _ _ h
    obtain ⟨p, e, s0, m, args, below, meth, c, R, Q⟩ := C
    obtain ⟨⟨hx, hb, -⟩, -⟩ := X
    intro H locs arr hS0 hS1 hl hlen
    rcases hd with ⟨hdg, rfl⟩ | ⟨j, hdg, hj, rfl⟩
    · exact lv_aload hx hb hdg (hl.get hx9) (h1 H locs arr hS0 hS1 hl hlen)
    · exact lv_aload_n hx hb hdg hj (hl.get hx9) (h1 H locs arr hS0 hS1 hl hlen)
  · exact h0 h
theorem snl_st (X : CL E cc nL sc C) {i len : Nat} {Cn : KT} {K0 : Prop} (hd : (decode cc pc = .ok (.istore i, 2) ∧ len = 2) ∨ (∃ j : Fin 4, decode cc pc = .ok (.istore_n j, 1) ∧ j.val = i ∧ len = 1))
    (h : xSt i len pc ls st s Cn K0) (hC : ∀ pc ls st s, Cn pc ls st s → JL E nL C k q pc ls st s) (h0 : K0 → JL E nL C k q pc ls st s) : JL E nL C k q pc ls st s := by
  unfold xSt at h
  split at h
  · rename_i x r
    obtain ⟨hi, h⟩ := h
    have h1 := hC _ _ _ _ h
    obtain ⟨p, e, s0, m, args, below, meth, c, R, Q⟩ := C
    obtain ⟨⟨hx, hb, -⟩, -⟩ := X
    intro H locs arr hS0 hS1 hl hlen
    rcases hd with ⟨hdg, rfl⟩ | ⟨j, hdg, hj, rfl⟩
    · exact lv_istore hx hb hdg hl.1 hi rfl (fun arr' h2 => h1 H locs arr' hS0 hS1 (hl.set rfl hi h2) (ls_len_set hlen))
    · exact lv_istore_n hx hb hdg hj hl.1 hi rfl (fun arr' h2 => h1 H locs arr' hS0 hS1 (hl.set rfl hi h2) (ls_len_set hlen))
  · exact h0 h
theorem snl_stA (X : CL E cc nL sc C) {i len : Nat} {Cn : KT} {K0 : Prop} (hd : (decode cc pc = .ok (.astore i, 2) ∧ len = 2) ∨ (∃ j : Fin 4, decode cc pc = .ok (.astore_n j, 1) ∧ j.val = i ∧ len = 1))
    (h : xStA i len pc ls st s Cn K0) (hC : ∀ pc ls st s, Cn pc ls st s → JL E nL C k q pc ls st s) (h0 : K0 → JL E nL C k q pc ls st s) : JL E nL C k q pc ls st s := by
  unfold xStA at h
  split at h
  · rename_i x r
    obtain ⟨hi, h⟩ := h
    have h1 := hC _ _ _ _ h
    obtain ⟨p, e, s0, m, args, below, meth, c, R, Q⟩ := C
    obtain ⟨⟨hx, hb, -⟩, -⟩ := X
    intro H locs arr hS0 hS1 hl hlen
    rcases hd with ⟨hdg, rfl⟩ | ⟨j, hdg, hj, rfl⟩
    · exact lv_astore hx hb hdg hl.1 hi rfl (fun arr' h2 => h1 H locs arr' hS0 hS1 (hl.set rfl hi h2) (ls_len_set hlen))
    · exact lv_astore_n hx hb hdg hj hl.1 hi rfl (fun arr' h2 => h1 H locs arr' hS0 hS1 (hl.set rfl hi h2) (ls_len_set hlen))
  · exact h0 h
theorem snl_inc (X : CL E cc nL sc C) {i : Nat} {n : Int} {Cn : KT} {K0 : Prop} (hdg : decode cc pc = .ok (.iinc i n, 3))
    (h : xInc i n pc ls st s Cn K0) (hC : ∀ pc ls st s, Cn pc ls st s → JL E nL C k q pc ls st s) (h0 : K0 → JL E nL C k q pc ls st s) : JL E nL C k q pc ls st s := by
  unfold xInc at h
  split at h
  · rename_i x hx9
    have h1 := hC _ _ _ _ h
    have hi : i < ls.length := (List.getElem?_eq_some_iff.mp hx9).1
    obtain ⟨p, e, s0, m, args, below, meth, c, R, Q⟩ := C
    obtain ⟨⟨hx, hb, -⟩, -⟩ := X
    intro H locs arr hS0 hS1 hl hlen
    obtain ⟨j, hj⟩ := List.getElem?_of_mem ((lsAll_mem ls 0 (i, Value.int x)).mpr ⟨Nat.zero_le _, hx9⟩)
    exact lv_iinc (k := j) hx hb hdg hl.1 hj rfl hi rfl (fun arr' h2 => h1 H locs arr' hS0 hS1 (hl.set rfl hi h2) (ls_len_set hlen))
  · exact h0 h
theorem snl_bin (X : CL E cc nL sc C) {f : Int32 → Int32 → Int32} {Cn : KT} {K0 : Prop}
    (hd : ∀ (p : Program) (e : Env) (s0 : State) (m : MethodId) (args : Array Value) (below : List Frame) (meth : Method) (c : Code), p.tables.exec = Jvm.exec → c.code = cc → ∀ (H : Heap) (locs : List Loc) (arr : Array Slot) (R : Room) (Q : State → Prop) (x y : Int32) (rest : List Value), W p (eL E) e R s0 m args below meth c H locs k q Q (F0 m (pc + 1) arr (.int (f x y) :: rest)) → W p (eL E) e R s0 m args below meth c H locs k q Q (F0 m pc arr (.int y :: .int x :: rest)))
    (h : xBin f pc ls st s Cn K0) (hC : ∀ pc ls st s, Cn pc ls st s → JL E nL C k q pc ls st s) (h0 : K0 → JL E nL C k q pc ls st s) : JL E nL C k q pc ls st s := by
  unfold xBin at h
  split at h
  · have h1 := hC _ _ _ _ h
    obtain ⟨p, e, s0, m, args, below, meth, c, R, Q⟩ := C
    obtain ⟨⟨hx, hb, -⟩, -⟩ := X
    intro H locs arr hS0 hS1 hl hlen
    exact hd p e s0 m args below meth c hx hb H locs arr _ _ _ _ _ (h1 H locs arr hS0 hS1 hl hlen)
  · exact h0 h
theorem snl_i2c (X : CL E cc nL sc C) {Cn : KT} {K0 : Prop} (hdg : decode cc pc = .ok (.i2c, 1))
    (h : xI2c pc ls st s Cn K0) (hC : ∀ pc ls st s, Cn pc ls st s → JL E nL C k q pc ls st s) (h0 : K0 → JL E nL C k q pc ls st s) : JL E nL C k q pc ls st s := by
  unfold xI2c at h
  split at h
  · have h1 := hC _ _ _ _ h
    obtain ⟨p, e, s0, m, args, below, meth, c, R, Q⟩ := C
    obtain ⟨⟨hx, hb, -⟩, -⟩ := X
    intro H locs arr hS0 hS1 hl hlen
    exact lv_i2c hx hb hdg rfl (h1 H locs arr hS0 hS1 hl hlen)
  · exact h0 h
theorem snl_dup (X : CL E cc nL sc C) {Cn : KT} {K0 : Prop} (hdg : decode cc pc = .ok (.dup, 1))
    (h : xDup pc ls st s Cn K0) (hC : ∀ pc ls st s, Cn pc ls st s → JL E nL C k q pc ls st s) (h0 : K0 → JL E nL C k q pc ls st s) : JL E nL C k q pc ls st s := by
  unfold xDup at h
  split at h
  · have h1 := hC _ _ _ _ h
    obtain ⟨p, e, s0, m, args, below, meth, c, R, Q⟩ := C
    obtain ⟨⟨hx, hb, -⟩, -⟩ := X
    intro H locs arr hS0 hS1 hl hlen
    exact lv_dup hx hb hdg rfl (h1 H locs arr hS0 hS1 hl hlen)
  · have h1 := hC _ _ _ _ h
    obtain ⟨p, e, s0, m, args, below, meth, c, R, Q⟩ := C
    obtain ⟨⟨hx, hb, -⟩, -⟩ := X
    intro H locs arr hS0 hS1 hl hlen
    exact lv_dup hx hb hdg rfl (h1 H locs arr hS0 hS1 hl hlen)
  · exact h0 h
theorem snl_pop (X : CL E cc nL sc C) {Cn : KT} {K0 : Prop} (hdg : decode cc pc = .ok (.pop, 1))
    (h : xPop pc ls st s Cn K0) (hC : ∀ pc ls st s, Cn pc ls st s → JL E nL C k q pc ls st s) (h0 : K0 → JL E nL C k q pc ls st s) : JL E nL C k q pc ls st s := by
  unfold xPop at h
  split at h
  · have h1 := hC _ _ _ _ h
    obtain ⟨p, e, s0, m, args, below, meth, c, R, Q⟩ := C
    obtain ⟨⟨hx, hb, -⟩, -⟩ := X
    intro H locs arr hS0 hS1 hl hlen
    exact lv_pop hx hb hdg rfl (h1 H locs arr hS0 hS1 hl hlen)
  · exact h0 h
theorem snl_goto (X : CL E cc nL sc C) {off : Int} {t : Nat} (hdg : decode cc pc = .ok (.goto off, 3)) (ht : (pc : Int) + off = (t : Int))
    (h : JL E nL C k q t ls st s) : JL E nL C k q pc ls st s := by
  obtain ⟨p, e, s0, m, args, below, meth, c, R, Q⟩ := C
  obtain ⟨⟨hx, hb, -⟩, -⟩ := X
  intro H locs arr hS0 hS1 hl hlen
  exact lv_goto hx hb hdg ht (h H locs arr hS0 hS1 hl hlen)
theorem snl_if (X : CL E cc nL sc C) {op : Jvm.ClassFile.Cond} {off : Int} {t : Nat} {Cn : KT} {K0 : Prop} (hdg : decode cc pc = .ok (.ifCond op off, 3)) (ht : (pc : Int) + off = (t : Int))
    (h : xIf op t pc ls st s Cn K0) (hC : ∀ pc ls st s, Cn pc ls st s → JL E nL C k q pc ls st s) (h0 : K0 → JL E nL C k q pc ls st s) : JL E nL C k q pc ls st s := by
  unfold xIf at h
  split at h
  · obtain ⟨p, e, s0, m, args, below, meth, c, R, Q⟩ := C
    obtain ⟨⟨hx, hb, -⟩, -⟩ := X
    intro H locs arr hS0 hS1 hl hlen
    cases op <;> simp only at h <;> obtain ⟨h1, h2⟩ := h
    · exact lv_if_eq hx hb hdg ht (fun c9 => hC _ _ _ _ (h1 c9) H locs arr hS0 hS1 hl hlen) (fun c9 => hC _ _ _ _ (h2 c9) H locs arr hS0 hS1 hl hlen)
    · exact lv_if_ne hx hb hdg ht (fun c9 => hC _ _ _ _ (h1 c9) H locs arr hS0 hS1 hl hlen) (fun c9 => hC _ _ _ _ (h2 c9) H locs arr hS0 hS1 hl hlen)
    · exact lv_if_lt hx hb hdg ht (fun c9 => hC _ _ _ _ (h1 c9) H locs arr hS0 hS1 hl hlen) (fun c9 => hC _ _ _ _ (h2 c9) H locs arr hS0 hS1 hl hlen)
    · exact lv_if_ge hx hb hdg ht (fun c9 => hC _ _ _ _ (h1 c9) H locs arr hS0 hS1 hl hlen) (fun c9 => hC _ _ _ _ (h2 c9) H locs arr hS0 hS1 hl hlen)
    · exact lv_if_gt hx hb hdg ht (fun c9 => hC _ _ _ _ (h1 c9) H locs arr hS0 hS1 hl hlen) (fun c9 => hC _ _ _ _ (h2 c9) H locs arr hS0 hS1 hl hlen)
    · exact lv_if_le hx hb hdg ht (fun c9 => hC _ _ _ _ (h1 c9) H locs arr hS0 hS1 hl hlen) (fun c9 => hC _ _ _ _ (h2 c9) H locs arr hS0 hS1 hl hlen)
  · exact h0 h
theorem snl_cmp (X : CL E cc nL sc C) {op : Jvm.ClassFile.Cond} {off : Int} {t : Nat} {Cn : KT} {K0 : Prop} (hdg : decode cc pc = .ok (.if_icmp op off, 3)) (ht : (pc : Int) + off = (t : Int))
    (h : xCmp op t pc ls st s Cn K0) (hC : ∀ pc ls st s, Cn pc ls st s → JL E nL C k q pc ls st s) (h0 : K0 → JL E nL C k q pc ls st s) : JL E nL C k q pc ls st s := by
  unfold xCmp at h
  split at h
  · obtain ⟨p, e, s0, m, args, below, meth, c, R, Q⟩ := C
    obtain ⟨⟨hx, hb, -⟩, -⟩ := X
    intro H locs arr hS0 hS1 hl hlen
    cases op <;> simp only at h <;> obtain ⟨h1, h2⟩ := h
    · exact lv_icmp_eq hx hb hdg ht (fun c9 => hC _ _ _ _ (h1 c9) H locs arr hS0 hS1 hl hlen) (fun c9 => hC _ _ _ _ (h2 c9) H locs arr hS0 hS1 hl hlen)
    · exact lv_icmp_ne hx hb hdg ht (fun c9 => hC _ _ _ _ (h1 c9) H locs arr hS0 hS1 hl hlen) (fun c9 => hC _ _ _ _ (h2 c9) H locs arr hS0 hS1 hl hlen)
    · exact lv_icmp_lt hx hb hdg ht (fun c9 => hC _ _ _ _ (h1 c9) H locs arr hS0 hS1 hl hlen) (fun c9 => hC _ _ _ _ (h2 c9) H locs arr hS0 hS1 hl hlen)
    · exact lv_icmp_ge hx hb hdg ht (fun c9 => hC _ _ _ _ (h1 c9) H locs arr hS0 hS1 hl hlen) (fun c9 => hC _ _ _ _ (h2 c9) H locs arr hS0 hS1 hl hlen)
    · exact lv_icmp_gt hx hb hdg ht (fun c9 => hC _ _ _ _ (h1 c9) H locs arr hS0 hS1 hl hlen) (fun c9 => hC _ _ _ _ (h2 c9) H locs arr hS0 hS1 hl hlen)
    · exact lv_icmp_le hx hb hdg ht (fun c9 => hC _ _ _ _ (h1 c9) H locs arr hS0 hS1 hl hlen) (fun c9 => hC _ _ _ _ (h2 c9) H locs arr hS0 hS1 hl hlen)
  · exact h0 h
def lcm (x y : Int64) : Int32 := if x > y then 1 else if x == y then 0 else -1
theorem lv_lcmp0 {p : Program} {l : Launch} {e : Env} {R : Room} {s0 : State} {m : MethodId} {args : Array Value} {below : List Frame} {meth : Method} {c : Code} {H : Heap} {locs : List Loc} {Q : State → Prop} {arr : Array Slot} {rest : List Value} (hexec : p.tables.exec = Jvm.exec) (hb : c.code = cc) {x y : Int64} (hdg : decode cc pc = .ok (.lcmp, 1))
    (kk : W p l e R s0 m args below meth c H locs k q Q (F0 m (pc + 1) arr (.int (lcm x y) :: rest))) : W p l e R s0 m args below meth c H locs k q Q (F0 m pc arr (.long y :: .long x :: rest)) := by
  intro T hT X
  obtain ⟨t, a, b⟩ := kk T hT X
  refine ⟨t, ?_, b⟩
  unfold lcm at a
  jvm_step X.here [X.here.top, hexec, hb, hdg]
  by_cases h1 : y < x
  · rw [if_pos h1]
    rw [if_pos h1] at a
    exact a
  · rw [if_neg h1]
    rw [if_neg h1] at a
    by_cases h2 : x = y
    · rw [if_pos h2]
      rw [if_pos (by simpa using h2)] at a
      exact a
    · rw [if_neg h2]
      rw [if_neg (by simpa using h2)] at a
      exact a
def xI2l (pc : Nat) (ls : List (Option Value)) (st : List Value) (s : ST) (Cn : KT) (K0 : Prop) : Prop := match st with
  | .int x :: r => Cn (pc + 1) ls (.long x.toInt64 :: r) s
  | _ => K0
def xLcmp (pc : Nat) (ls : List (Option Value)) (st : List Value) (s : ST) (Cn : KT) (K0 : Prop) : Prop := match st with
  | .long y :: .long x :: r => Cn (pc + 1) ls (.int (lcm x y) :: r) s
  | _ => K0
def xSld (sc : SCR) (pc : Nat) (ls : List (Option Value)) (st : List Value) (s : ST) (Cn : KT) (K0 : Prop) : Prop := match st with
  | .int i :: .ref a :: r => (match sc with
    | some x => a = x.1 ∧ vp_in i x.2.1 ∧ Cn (pc + 1) ls (.int (x.2.2 i.toNatClampNeg) :: r) s
    | none => K0)
  | _ => K0
def xSln (sc : SCR) (pc : Nat) (ls : List (Option Value)) (st : List Value) (s : ST) (Cn : KT) (K0 : Prop) : Prop := match st with
  | .ref a :: r => (match sc with
    | some x => a = x.1 ∧ Cn (pc + 1) ls (.int (Int32.ofNat x.2.1) :: r) s
    | none => K0)
  | _ => K0
def sLo (s : ST) (v : Int64) : ST := (s.1, vp_updL s.2.1 0 v, s.2.2)
def sDo (s : ST) (v : UInt64) : ST := (s.1, s.2.1, vf_upd s.2.2 0 v)
def xLld (E : WE) (pc : Nat) (ls : List (Option Value)) (st : List Value) (s : ST) (Cn : KT) (K0 : Prop) : Prop := match st with
  | .int i :: .ref a :: r => a = aF E 620 ∧ i = nI 0 ∧ Cn (pc + 1) ls (.long (s.2.1 0) :: r) s
  | _ => K0
def xLst (E : WE) (pc : Nat) (ls : List (Option Value)) (st : List Value) (s : ST) (Cn : KT) (K0 : Prop) : Prop := match st with
  | .long v :: .int i :: .ref a :: r => a = aF E 620 ∧ i = nI 0 ∧ Cn (pc + 1) ls r (sLo s v)
  | _ => K0
theorem snl_i2l (X : CL E cc nL sc C) {Cn : KT} {K0 : Prop} (hdg : decode cc pc = .ok (.i2l, 1)) (h : xI2l pc ls st s Cn K0) (hC : ∀ pc ls st s, Cn pc ls st s → JL E nL C k q pc ls st s) (h0 : K0 → JL E nL C k q pc ls st s) : JL E nL C k q pc ls st s := by
  unfold xI2l at h
  split at h
  · have h1 := hC _ _ _ _ h
    obtain ⟨p, e, s0, m, args, below, meth, c, R, Q⟩ := C
    obtain ⟨⟨hx, hb, -⟩, -⟩ := X
    intro H locs arr hS0 hS1 hl hlen
    exact lv_i2l hx hb hdg rfl (h1 H locs arr hS0 hS1 hl hlen)
  · exact h0 h
theorem snl_lcmp (X : CL E cc nL sc C) {Cn : KT} {K0 : Prop} (hdg : decode cc pc = .ok (.lcmp, 1)) (h : xLcmp pc ls st s Cn K0) (hC : ∀ pc ls st s, Cn pc ls st s → JL E nL C k q pc ls st s) (h0 : K0 → JL E nL C k q pc ls st s) : JL E nL C k q pc ls st s := by
  unfold xLcmp at h
  split at h
  · have h1 := hC _ _ _ _ h
    obtain ⟨p, e, s0, m, args, below, meth, c, R, Q⟩ := C
    obtain ⟨⟨hx, hb, -⟩, -⟩ := X
    intro H locs arr hS0 hS1 hl hlen
    exact lv_lcmp0 hx hb hdg (h1 H locs arr hS0 hS1 hl hlen)
  · exact h0 h
theorem snl_lconst (X : CL E cc nL sc C) {n : Fin 2} (hdg : decode cc pc = .ok (.lconst n, 1)) (h : JL E nL C k q (pc + 1) ls (.long (Int64.ofNat (n : Nat)) :: st) s) : JL E nL C k q pc ls st s := by
  obtain ⟨p, e, s0, m, args, below, meth, c, R, Q⟩ := C
  obtain ⟨⟨hx, hb, -⟩, -⟩ := X
  intro H locs arr hS0 hS1 hl hlen
  exact lv_lconst hx hb hdg rfl (h H locs arr hS0 hS1 hl hlen)
theorem snl_sld (X : CL E cc nL sc C) {Cn : KT} {K0 : Prop} (hdg : decode cc pc = .ok (.iaload, 1)) (h : xSld sc pc ls st s Cn K0) (hC : ∀ pc ls st s, Cn pc ls st s → JL E nL C k q pc ls st s) (h0 : K0 → JL E nL C k q pc ls st s) : JL E nL C k q pc ls st s := by
  unfold xSld at h
  split at h
  · split at h
    · rename_i x
      obtain ⟨rfl, hin, h⟩ := h
      have h1 := hC _ _ _ _ h
      obtain ⟨p, e, s0, m, args, below, meth, c, R, Q⟩ := C
      obtain ⟨⟨hx, hb, -⟩, ⟨-, hX⟩, -⟩ := X
      obtain ⟨g1, g2, g3⟩ := hX x.1 x.2.1 x.2.2 rfl
      intro H locs arr hS0 hS1 hl hlen
      exact va_sld hx hb g1 g2 (Nat.not_le.mpr g3) hS1 hin hdg (h1 H locs arr hS0 hS1 hl hlen)
    · exact h0 h
  · exact h0 h
theorem snl_sln (X : CL E cc nL sc C) {Cn : KT} {K0 : Prop} (hdg : decode cc pc = .ok (.arraylength, 1)) (h : xSln sc pc ls st s Cn K0) (hC : ∀ pc ls st s, Cn pc ls st s → JL E nL C k q pc ls st s) (h0 : K0 → JL E nL C k q pc ls st s) : JL E nL C k q pc ls st s := by
  unfold xSln at h
  split at h
  · split at h
    · rename_i x
      obtain ⟨rfl, h⟩ := h
      have h1 := hC _ _ _ _ h
      obtain ⟨p, e, s0, m, args, below, meth, c, R, Q⟩ := C
      obtain ⟨⟨hx, hb, -⟩, ⟨-, hX⟩, -⟩ := X
      obtain ⟨g1, g2, g3⟩ := hX x.1 x.2.1 x.2.2 rfl
      intro H locs arr hS0 hS1 hl hlen
      exact va_slen hx hb g1 g2 (Nat.not_le.mpr g3) hS1 hdg (h1 H locs arr hS0 hS1 hl hlen)
    · exact h0 h
  · exact h0 h
theorem cel_620 {s : ST} : cel E s 620 = .inl (eC E 2, 1, .inr (.inl s.2.1)) := if_pos rfl
theorem cel_621 {s : ST} : cel E s 621 = .inl (eC E 3, 1, .inr (.inr (.inr (.inl s.2.2)))) := by
  unfold cel
  rw [if_neg (by decide), if_pos rfl]
theorem in01 : vp_in (nI 0) 1 := vp_in_nI (by decide) (by decide)
theorem snl_lld (X : CL E cc nL sc C) {Cn : KT} {K0 : Prop} (hdg : decode cc pc = .ok (.laload, 1)) (h : xLld E pc ls st s Cn K0) (hC : ∀ pc ls st s, Cn pc ls st s → JL E nL C k q pc ls st s) (h0 : K0 → JL E nL C k q pc ls st s) : JL E nL C k q pc ls st s := by
  unfold xLld at h
  split at h
  · obtain ⟨rfl, rfl, h⟩ := h
    have h1 := hC _ _ _ _ h
    obtain ⟨p, e, s0, m, args, below, meth, c, R, Q⟩ := C
    obtain ⟨⟨hx, hb, -⟩, -, hWK, -⟩ := X
    intro H locs arr hS0 hS1 hl hlen
    have hK : va_K (eD E) wCl (eT E) s0 := hWK.1.1
    exact va_lald (f := s.2.1) (n := 1) hx hb hK hS0.1 620 2 (by rw [ww_get (by decide), cel_620]; rfl) rfl in01 hdg (h1 H locs arr hS0 hS1 hl hlen)
  · exact h0 h
theorem cel_lo1 {s : ST} {v : Int64} : ww (eB E) 622 (cel E (sLo s v)) = ww (eB E) 622 (va_up (cel E s) 620 (.inl (eC E 2, 1, .inr (.inl (vp_updL s.2.1 0 v))))) := ww_congr fun o ho => by
  by_cases h : o = 620
  · subst h; rw [cel_620]; simp [va_up, sLo]
  · simp only [va_up]
    rw [if_neg h]
    unfold cel
    rw [if_neg h, if_neg h]
    rfl
theorem cel_do1 {s : ST} {v : UInt64} : ww (eB E) 622 (cel E (sDo s v)) = ww (eB E) 622 (va_up (cel E s) 621 (.inl (eC E 3, 1, .inr (.inr (.inr (.inl (vf_upd s.2.2 0 v))))))) := ww_congr fun o ho => by
  by_cases h : o = 621
  · subst h; rw [cel_621]; simp [va_up, sDo]
  · simp only [va_up]
    rw [if_neg h]
    unfold cel
    by_cases h2 : o = 620
    · rw [if_pos h2, if_pos h2]; rfl
    · rw [if_neg h2, if_neg h2, if_neg h, if_neg h]; rfl
theorem snl_lst (X : CL E cc nL sc C) {Cn : KT} {K0 : Prop} (hdg : decode cc pc = .ok (.lastore, 1)) (h : xLst E pc ls st s Cn K0) (hC : ∀ pc ls st s, Cn pc ls st s → JL E nL C k q pc ls st s) (h0 : K0 → JL E nL C k q pc ls st s) : JL E nL C k q pc ls st s := by
  unfold xLst at h
  split at h
  · rename_i v i a r
    obtain ⟨rfl, rfl, h⟩ := h
    have h1 := hC _ _ _ _ h
    obtain ⟨p, e, s0, m, args, below, meth, c, R, Q⟩ := C
    obtain ⟨⟨hx, hb, -⟩, -, hWK, hB9, -⟩ := X
    intro H locs arr hS0 hS1 hl hlen
    have hK : va_K (eD E) wCl (eT E) s0 := hWK.1.1
    refine va_last (f := s.2.1) (n := 1) hx hb hK hS0.1 ww_D hS1 620 2 (by rw [ww_get (by decide), cel_620]; rfl) rfl in01 hdg (fun H1 locs1 k1 k2 k3 => ?_)
    refine h1 H1 locs1 arr ⟨?_, Nat.le_trans hB9 k3.1, fun e => nomatch e⟩ k3 hl hlen
    rw [cel_lo1, ← ww_set]
    exact k1
  · exact h0 h
end SNL
