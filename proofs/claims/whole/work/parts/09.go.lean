/-! ===== a block of instructions at once: what it does to locals, stack and numbers ===== -/
abbrev KT : Type := Nat → List (Option Value) → List Value → ST → Prop
abbrev TB : Type := List (Nat × Instr × Nat × Nat)
def lkp (tb : TB) (pc : Nat) : Option (Instr × Nat) := (tb.find? (fun q => q.1 == pc)).map (fun q => (q.2.1, q.2.2.2))
def flk (L : List (Nat × Nat × Nat × Nat)) (i : Nat) : Option (Nat × Nat) := (L.find? (fun q => q.1 == i)).map (fun q => (q.2.1, q.2.2.1))
def tgtOk (i : Instr) (pc t : Nat) : Bool := match i with
  | .goto off => decide ((pc : Int) + off = (t : Int))
  | .ifCond _ off => decide ((pc : Int) + off = (t : Int))
  | .if_icmp _ off => decide ((pc : Int) + off = (t : Int))
  | _ => true
/-- the length of the instructions that a block knows -/
def instrLen (i : Instr) : Nat := match i with
  | .bipush _ => 2 | .iload _ => 2 | .aload _ => 2 | .istore _ => 2 | .astore _ => 2 | .sipush _ => 3 | .iinc _ _ => 3 | .goto _ => 3 | .ifCond _ _ => 3 | .if_icmp _ _ => 3 | .getfield _ => 3 | .putfield _ => 3
  | .invokevirtual _ => 3 | .invokestatic _ => 3 | .invokespecial _ => 3 | .getstatic _ => 3 | .new _ => 3 | .anewarray _ => 3 | .newarray _ => 2 | .ldc _ => 2 | .ldc_w _ => 3 | .if_acmp _ _ => 3 | .dload _ => 2 | .dstore _ => 2 | .lload _ => 2 | .lstore _ => 2
  | .tableswitch _ _ _ _ => 0 | .lookupswitch _ _ => 0 | _ => 1
def tbOk (code : ByteArray) (tb : TB) : Bool := tb.all (fun q => decide (decode code q.1 = .ok (q.2.1, q.2.2.1)) && tgtOk q.2.1 q.1 q.2.2.2 && (decide (q.2.2.1 = instrLen q.2.1) || decide (instrLen q.2.1 = 0)))
def bI (n : Int) : Int32 := (Int8.ofInt n).toInt32
def sI (n : Int) : Int32 := (Int16.ofInt n).toInt32
def cI (n : Int) : Int32 := Int32.ofInt n
def iRem (x y : Int32) : Int32 := x - x / y * y
def iC (x : Int32) : Int32 := (x.toUInt32 % 65536).toInt32
def xLdI (i len : Nat) (pc : Nat) (ls : List (Option Value)) (st : List Value) (s : ST) (Cn : KT) (K0 : Prop) : Prop := match ls[i]? with
  | some (some (.int x)) => Cn (pc + len) ls (.int x :: st) s
  | _ => K0
def xLdA (i len : Nat) (pc : Nat) (ls : List (Option Value)) (st : List Value) (s : ST) (Cn : KT) (K0 : Prop) : Prop := match ls[i]? with
  | some (some (.ref x)) => Cn (pc + len) ls (.ref x :: st) s
  | _ => K0
def xSt (i len : Nat) (pc : Nat) (ls : List (Option Value)) (st : List Value) (s : ST) (Cn : KT) (K0 : Prop) : Prop := match st with
  | .int x :: r => i < ls.length ∧ Cn (pc + len) (ls.set i (some (.int x))) r s
  | _ => K0
def xStA (i len : Nat) (pc : Nat) (ls : List (Option Value)) (st : List Value) (s : ST) (Cn : KT) (K0 : Prop) : Prop := match st with
  | .ref x :: r => i < ls.length ∧ Cn (pc + len) (ls.set i (some (.ref x))) r s
  | _ => K0
def xInc (i : Nat) (n : Int) (pc : Nat) (ls : List (Option Value)) (st : List Value) (s : ST) (Cn : KT) (K0 : Prop) : Prop := match ls[i]? with
  | some (some (.int x)) => Cn (pc + 3) (ls.set i (some (.int (x + cI n)))) st s
  | _ => K0
def xBin (f : Int32 → Int32 → Int32) (pc : Nat) (ls : List (Option Value)) (st : List Value) (s : ST) (Cn : KT) (K0 : Prop) : Prop := match st with
  | .int y :: .int x :: r => Cn (pc + 1) ls (.int (f x y) :: r) s
  | _ => K0
def xRem (pc : Nat) (ls : List (Option Value)) (st : List Value) (s : ST) (Cn : KT) (K0 : Prop) : Prop := match st with
  | .int y :: .int x :: r => ¬ y = 0 ∧ Cn (pc + 1) ls (.int (iRem x y) :: r) s
  | _ => K0
def xI2c (pc : Nat) (ls : List (Option Value)) (st : List Value) (s : ST) (Cn : KT) (K0 : Prop) : Prop := match st with
  | .int x :: r => Cn (pc + 1) ls (.int (iC x) :: r) s
  | _ => K0
def xDup (pc : Nat) (ls : List (Option Value)) (st : List Value) (s : ST) (Cn : KT) (K0 : Prop) : Prop := match st with
  | .int x :: r => Cn (pc + 1) ls (.int x :: .int x :: r) s
  | .ref x :: r => Cn (pc + 1) ls (.ref x :: .ref x :: r) s
  | _ => K0
def xDup2 (pc : Nat) (ls : List (Option Value)) (st : List Value) (s : ST) (Cn : KT) (K0 : Prop) : Prop := match st with
  | .int x :: .ref y :: r => Cn (pc + 1) ls (.int x :: .ref y :: .int x :: .ref y :: r) s
  | _ => K0
def xPop (pc : Nat) (ls : List (Option Value)) (st : List Value) (s : ST) (Cn : KT) (K0 : Prop) : Prop := match st with
  | .int _ :: r => Cn (pc + 1) ls r s
  | _ => K0
def xIf (op : Jvm.ClassFile.Cond) (t pc : Nat) (ls : List (Option Value)) (st : List Value) (s : ST) (Cn : KT) (K0 : Prop) : Prop := match st with
  | .int x :: r => (match op with
    | .eq => (x = 0 → Cn t ls r s) ∧ (¬ x = 0 → Cn (pc + 3) ls r s)
    | .ne => (¬ x = 0 → Cn t ls r s) ∧ (x = 0 → Cn (pc + 3) ls r s)
    | .lt => (x < 0 → Cn t ls r s) ∧ (¬ x < 0 → Cn (pc + 3) ls r s)
    | .ge => (0 ≤ x → Cn t ls r s) ∧ (¬ 0 ≤ x → Cn (pc + 3) ls r s)
    | .gt => (0 < x → Cn t ls r s) ∧ (¬ 0 < x → Cn (pc + 3) ls r s)
    | .le => (x ≤ 0 → Cn t ls r s) ∧ (¬ x ≤ 0 → Cn (pc + 3) ls r s))
  | _ => K0
def xCmp (op : Jvm.ClassFile.Cond) (t pc : Nat) (ls : List (Option Value)) (st : List Value) (s : ST) (Cn : KT) (K0 : Prop) : Prop := match st with
  | .int y :: .int x :: r => (match op with
    | .eq => (x = y → Cn t ls r s) ∧ (¬ x = y → Cn (pc + 3) ls r s)
    | .ne => (¬ x = y → Cn t ls r s) ∧ (x = y → Cn (pc + 3) ls r s)
    | .lt => (x < y → Cn t ls r s) ∧ (¬ x < y → Cn (pc + 3) ls r s)
    | .ge => (y ≤ x → Cn t ls r s) ∧ (¬ y ≤ x → Cn (pc + 3) ls r s)
    | .gt => (y < x → Cn t ls r s) ∧ (¬ y < x → Cn (pc + 3) ls r s)
    | .le => (x ≤ y → Cn t ls r s) ∧ (¬ x ≤ y → Cn (pc + 3) ls r s))
  | _ => K0
def xGetF (F : Option LE) (ci k : Nat) (s : ST) (Cn : Value → Prop) (K0 : Prop) : Prop := match F with
  | some (.inl o) => o.1 = ci ∧ Cn (lval s.1 (o.2 k))
  | _ => K0
def xGet (E : WE) (fl : Nat → Option (Nat × Nat)) (i pc : Nat) (ls : List (Option Value)) (st : List Value) (s : ST) (Cn : KT) (K0 : Prop) : Prop := match st with
  | .ref a :: r => (match fl i with
    | some q => xGetF (layA E a) q.1 q.2 s (fun v => Cn (pc + 3) ls (v :: r) s) K0
    | none => K0)
  | _ => K0
def xPutF (F : Option LE) (ci k : Nat) (v : Int32) (Cn : Nat → Nat → Prop) (K0 : Prop) : Prop := match F with
  | some (.inl o) => (match o.2 k with
    | .inr q => o.1 = ci ∧ (putT ci k = 1 ∨ (putT ci k = 2 ∧ (v = 0 ∨ v = 1))) ∧ Cn q.1 q.2
    | _ => K0)
  | _ => K0
def xPut (E : WE) (fl : Nat → Option (Nat × Nat)) (i pc : Nat) (ls : List (Option Value)) (st : List Value) (s : ST) (Cn : KT) (K0 : Prop) : Prop := match st with
  | .int v :: .ref a :: r => (match fl i with
    | some q => xPutF (layA E a) q.1 q.2 v (fun r' j => Cn (pc + 3) ls r (upS s r' j v)) K0
    | none => K0)
  | _ => K0
def xArrF (F : Option LE) (tag : Nat) (i : Int32) (Cn : Nat → Nat → Prop) (K0 : Prop) : Prop := match F with
  | some (.inr (.inl a)) => a.1 = tag ∧ vp_in i a.2.1 ∧ Cn a.2.2.1 (a.2.2.2 + i.toNatClampNeg)
  | _ => K0
def xAld (E : WE) (tag pc : Nat) (ls : List (Option Value)) (st : List Value) (s : ST) (Cn : KT) (K0 : Prop) : Prop := match st with
  | .int i :: .ref a :: r => xArrF (layA E a) tag i (fun r' j => Cn (pc + 1) ls (.int (s.1 r' j) :: r) s) K0
  | _ => K0
def xAst (E : WE) (tag pc : Nat) (ls : List (Option Value)) (st : List Value) (s : ST) (Cn : KT) (K0 : Prop) : Prop := match st with
  | .int v :: .int i :: .ref a :: r => xArrF (layA E a) tag i (fun r' j => Cn (pc + 1) ls r (upS s r' j (if tag = 1 then vp_nar .char v else v))) K0
  | _ => K0
def xQldF (F : Option LE) (i : Int32) (Cn : Nat → Prop) (K0 : Prop) : Prop := match F with
  | some (.inr (.inr a)) => (a.1 = 4 ∨ a.1 = 5 ∨ a.1 = 6) ∧ vp_in i a.2.1 ∧ Cn (a.2.2 i.toNatClampNeg)
  | _ => K0
def xQld (E : WE) (pc : Nat) (ls : List (Option Value)) (st : List Value) (s : ST) (Cn : KT) (K0 : Prop) : Prop := match st with
  | .int i :: .ref a :: r => xQldF (layA E a) i (fun b => Cn (pc + 1) ls (.ref b :: r) s) K0
  | _ => K0
def xRet (rt : Option FieldType) (st : List Value) (s : ST) (Rt : Option Value → ST → Prop) (K0 : Prop) : Prop := match st with
  | [.int v] => (match rt with
    | some .int => Rt (some (.int v)) s
    | some .boolean => (v = 0 ∨ v = 1) ∧ Rt (some (.int v)) s
    | _ => K0)
  | _ => K0
def xVret (rt : Option FieldType) (st : List Value) (s : ST) (Rt : Option Value → ST → Prop) (K0 : Prop) : Prop := match st with
  | [] => (match rt with
    | none => Rt none s
    | _ => K0)
  | _ => K0
def step (E : WE) (fl : Nat → Option (Nat × Nat)) (rt : Option FieldType) (Rt : Option Value → ST → Prop) (i : Instr) (t pc : Nat) (ls : List (Option Value)) (st : List Value) (s : ST) (Cn : KT) (K0 : Prop) : Prop := match i with
  | .iconst n => Cn (pc + 1) ls (.int (cI n) :: st) s
  | .bipush n => Cn (pc + 2) ls (.int (bI n) :: st) s
  | .sipush n => Cn (pc + 3) ls (.int (sI n) :: st) s
  | .iload j => xLdI j 2 pc ls st s Cn K0
  | .iload_n j => xLdI j.val 1 pc ls st s Cn K0
  | .aload j => xLdA j 2 pc ls st s Cn K0
  | .aload_n j => xLdA j.val 1 pc ls st s Cn K0
  | .istore j => xSt j 2 pc ls st s Cn K0
  | .istore_n j => xSt j.val 1 pc ls st s Cn K0
  | .astore j => xStA j 2 pc ls st s Cn K0
  | .astore_n j => xStA j.val 1 pc ls st s Cn K0
  | .iinc j n => xInc j n pc ls st s Cn K0
  | .iadd => xBin (fun x y => x + y) pc ls st s Cn K0
  | .isub => xBin (fun x y => x - y) pc ls st s Cn K0
  | .imul => xBin (fun x y => x * y) pc ls st s Cn K0
  | .irem => xRem pc ls st s Cn K0
  | .ishl => xBin (fun x y => x <<< (y &&& 31)) pc ls st s Cn K0
  | .ishr => xBin (fun x y => x >>> (y &&& 31)) pc ls st s Cn K0
  | .iand => xBin (fun x y => x &&& y) pc ls st s Cn K0
  | .ior => xBin (fun x y => x ||| y) pc ls st s Cn K0
  | .ixor => xBin (fun x y => x ^^^ y) pc ls st s Cn K0
  | .i2c => xI2c pc ls st s Cn K0
  | .dup => xDup pc ls st s Cn K0
  | .dup2 => xDup2 pc ls st s Cn K0
  | .pop => xPop pc ls st s Cn K0
  | .goto _ => Cn t ls st s
  | .ifCond op _ => xIf op t pc ls st s Cn K0
  | .if_icmp op _ => xCmp op t pc ls st s Cn K0
  | .getfield j => xGet E fl j pc ls st s Cn K0
  | .putfield j => xPut E fl j pc ls st s Cn K0
  | .iaload => xAld E 0 pc ls st s Cn K0
  | .caload => xAld E 1 pc ls st s Cn K0
  | .iastore => xAst E 0 pc ls st s Cn K0
  | .castore => xAst E 1 pc ls st s Cn K0
  | .aaload => xQld E pc ls st s Cn K0
  | .ireturn => xRet rt st s Rt K0
  | .return_ => xVret rt st s Rt K0
  | _ => K0
def go (E : WE) (tb : TB) (fl : Nat → Option (Nat × Nat)) (rt : Option FieldType) (Rt : Option Value → ST → Prop) (stops : List Nat) (K : KT) : Nat → Nat → List (Option Value) → List Value → ST → Prop
  | 0, pc, ls, st, s => K pc ls st s
  | n + 1, pc, ls, st, s => match lkp tb pc with
    | some q => step E fl rt Rt q.1 q.2 pc ls st s (fun pc' ls' st' s' => if pc' ∈ stops then K pc' ls' st' s' else go E tb fl rt Rt stops K n pc' ls' st' s') (K pc ls st s)
    | none => K pc ls st s
/-- the judgement over the table of numbers -/
def J2 (E : WE) (mi : MI) (C : CT) (d mc ms : Nat) (P : OC → ST → Prop) (k q : Nat) : KT := fun pc ls st s =>
  J E mi C d mc ms (fun o A n z => n = 622 ∧ z = false ∧ ∃ s' : ST, ww (eB E) 622 A = ww (eB E) 622 (cel E s') ∧ P o s') pc ls st (cel E s) 622 false k q
theorem J_ww {E : WE} {mi : MI} {C : CT} {d mc ms : Nat} {P : PO} {pc : Nat} {ls : List (Option Value)} {st : List Value} {A A' : AH} {n k q : Nat} {z : Bool} (h : ww (eB E) n A = ww (eB E) n A') (hJ : J E mi C d mc ms P pc ls st A' n z k q) : J E mi C d mc ms P pc ls st A n z k q := by
  obtain ⟨p, e, s, m, args, below, meth, c⟩ := C
  intro H locs arr hS0 hS1 hl hlen
  exact hJ H locs arr ⟨by rw [← h]; exact hS0.1, hS0.2⟩ hS1 hl hlen
theorem lkp_spec {code : ByteArray} {tb : TB} (h : tbOk code tb = true) {pc t : Nat} {i : Instr} (hl : lkp tb pc = some (i, t)) : ∃ len, decode code pc = .ok (i, len) ∧ tgtOk i pc t = true ∧ (len = instrLen i ∨ instrLen i = 0) := by
  unfold lkp at hl
  cases hf : tb.find? (fun q => q.1 == pc) with
  | none => rw [hf] at hl; cases hl
  | some q =>
    rw [hf] at hl
    have h1 : q.1 = pc := by have := List.find?_some hf; simpa using this
    have h2 := List.all_eq_true.mp h q (List.mem_of_find?_eq_some hf)
    simp only [Bool.and_eq_true, Bool.or_eq_true, decide_eq_true_eq] at h2
    have h3 := Option.some.inj hl
    obtain ⟨e1, e2⟩ := Prod.mk.inj h3
    subst h1; subst e1; subst e2
    exact ⟨_, h2.1.1, h2.1.2, h2.2⟩
theorem flk_spec {own : String} {L : List (Nat × Nat × Nat × Nat)} (h : L.all (flOk own) = true) {i : Nat} {q : Nat × Nat} (hl : flk L i = some q) : ∃ r : vw_C, wCl[q.1]? = some r ∧ q.2 < r.2.2 ∧ Cond.fieldLink own i (r.2.1 q.2).1 (r.2.1 q.2).2.1 (r.2.1 q.2).2.2.1 ∈ wT := by
  unfold flk at hl
  cases hf : L.find? (fun q => q.1 == i) with
  | none => rw [hf] at hl; cases hl
  | some x =>
    rw [hf] at hl
    have h1 : x.1 = i := by have := List.find?_some hf; simpa using this
    have h2 := List.all_eq_true.mp h x (List.mem_of_find?_eq_some hf)
    have h3 := Option.some.inj hl
    subst h3; subst h1
    unfold flOk at h2
    cases hr : wCl[x.2.1]? with
    | none => rw [hr] at h2; cases h2
    | some r =>
      rw [hr] at h2
      simp only [Bool.and_eq_true, decide_eq_true_eq] at h2
      exact ⟨r, rfl, h2.1, wAt_in h2.2⟩
theorem ls_len_set {ls : List (Option Value)} {i : Nat} {v : Option Value} {n : Nat} (h : ls.length = n) : (ls.set i v).length = n := by rw [List.length_set]; exact h
