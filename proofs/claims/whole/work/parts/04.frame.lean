/-! ===== the frame: the world by offsets from a base, what is known of the machine, one contract for all methods ===== -/
/-- launch, class numbers and slots, array classes, the base, the two constants of the enum -/
abbrev WE : Type := Launch × va_G × (Nat → ClassId) × Nat × (Nat → Nat)
abbrev eL (E : WE) : Launch := E.1
abbrev eD (E : WE) : va_G := E.2.1
abbrev eC (E : WE) : Nat → ClassId := E.2.2.1
abbrev eB (E : WE) : Nat := E.2.2.2.1
abbrev eR (E : WE) : Nat → Nat := E.2.2.2.2
def eT (E : WE) : List (ClassId × FieldType) := [(eC E 0, .int), (eC E 1, .char), (eC E 2, .long), (eC E 3, .double), (eC E 4, .object RX7), (eC E 5, .object RX1), (eC E 6, .object RX3)]
def eA (E : WE) : Nat → Prop := fun q => eB E ≤ q
abbrev AH : Type := Nat → va_E
def ww (B n : Nat) (A : AH) : va_W := (List.range n).map (fun o => (B + o, A o))
theorem ww_get {B n o : Nat} {A : AH} (h : o < n) : (ww B n A)[o]? = some (B + o, A o) := by
  simp [ww, h]
theorem ww_get_iff {B n k : Nat} {A : AH} {q : Nat × va_E} (h : (ww B n A)[k]? = some q) : k < n ∧ q = (B + k, A k) := by
  have hk : k < (ww B n A).length := (List.getElem?_eq_some_iff.mp h).1
  have hk : k < n := by simpa [ww] using hk
  rw [ww_get hk] at h
  exact ⟨hk, (Option.some.inj h).symm⟩
theorem ww_set {B n o : Nat} {A : AH} {e : va_E} : (ww B n A).set o (B + o, e) = ww B n (va_up A o e) := by
  apply List.ext_getElem?
  intro k
  by_cases hk : k < n
  · by_cases ho : o = k
    · subst ho
      rw [ww_get hk, List.getElem?_set_self (by simpa [ww] using hk)]
      simp [va_up]
    · rw [ww_get hk, List.getElem?_set_ne ho, ww_get hk]
      simp [va_up, Ne.symm ho]
  · rw [List.getElem?_eq_none (by simpa [ww] using hk), List.getElem?_eq_none (by simpa [ww] using hk)]
theorem ww_push {B n : Nat} {A : AH} {e : va_E} : ww B n A ++ [(B + n, e)] = ww B (n + 1) (va_up A n e) := by
  simp only [ww, List.range_succ, List.map_append, List.map_cons, List.map_nil]
  congr 1
  · apply List.map_congr_left
    intro o ho
    have : o ≠ n := Nat.ne_of_lt (List.mem_range.mp ho)
    simp [va_up, this]
  · simp [va_up]
theorem ww_D {E : WE} {n : Nat} {A : AH} : va_D (eA E) (ww (eB E) n A) := by
  refine ⟨fun i j p q hi hj h => ?_, fun k q hk => ?_⟩
  · obtain ⟨_, e1⟩ := ww_get_iff hi
    obtain ⟨_, e2⟩ := ww_get_iff hj
    rw [e1, e2] at h
    exact Nat.add_left_cancel h
  · obtain ⟨_, e1⟩ := ww_get_iff hk
    rw [e1]
    exact Nat.le_add_right _ _
/-- the heap holds n cells from the base on, as A says; z: it ends there -/
def hS (E : WE) (A : AH) (n : Nat) (z : Bool) (H : Heap) : Prop := va_P (eD E) wCl (ww (eB E) n A) H ∧ eB E ≤ H.size ∧ (z = true → H.size = eB E + n)
theorem hS.loose {E : WE} {A : AH} {n : Nat} {z : Bool} {H : Heap} (h : hS E A n z H) : hS E A n false H := ⟨h.1, h.2.1, fun e => nomatch e⟩
def wIAE : String := "java/lang/IllegalArgumentException"
def wISE : String := "java/lang/IllegalStateException"
def wIOB : String := "java/lang/IndexOutOfBoundsException"
def wNSE : String := "java/util/NoSuchElementException"
def wUOE : String := "java/lang/UnsupportedOperationException"
def wARE : String := "java/lang/ArithmeticException"
def wRTE : String := "java/lang/RuntimeException"
def wEXC : String := "java/lang/Exception"
def wXs : List String := [wIAE, wISE, wIOB, wNSE, wUOE, wARE]
def nestWs : List (String × Nat × MethodName × String) := [(RX3, 17, yX7_init, RX8), (RX3, 62, yX8_contains, RX8), (RX0, 82, yX8_contains, RX8)]
def declWs : List MethodName := [Bundle.initS wRTE, Bundle.initS wEXC, Bundle.initS Bundle.tN]
def strWs : List (Nat × String) := [(347, "a number is out of range"), (60, "there are 6 schools"), (341, "no such school"), (101, "no such family"), (131, "what is out of range"), (152, "no such index"), (345, "there are 24 children"), (178, "the text has an error"), (343, "no such child"), (212, "there would be more than 4 choices"), (228, "no such choice"), (268, "the child holds no seat"), (279, "the appeal is refused"), (281, "no appeal was refused"), (292, "no such entry is kept"), (321, "no child holds a seat"), (324, "the input has 40 characters"), (329, "no text had an error"), (331, "there is no change to undo"), (339, "nothing was saved")]
/-- what is known of the machine beside the good words, in U with the heap H -/
def WK (E : WE) (U : State) (H : Heap) : Prop :=
  (va_K (eD E) wCl (eT E) U ∧ (∀ q ∈ nestWs, va_Nw (.methodLinkNest q.1 q.2.1 q.2.2.1 q.2.2.2) U) ∧ (∀ x ∈ wXs, va_Nw (.castable x x) U) ∧ (∀ x ∈ declWs, va_Nw (.declares x) U)) ∧
  (∀ q ∈ strWs, ∃ sa, vk_R RX8 q.1 q.2 sa U) ∧ (∀ x ∈ wXs, ∀ y ∈ wXs, x ≠ y → va_Nc x y U) ∧
  (vx_Zq Bundle.tN "UNASSIGNED_STACK" Bundle.steD (eA E) U H ∧ vx_Zq Bundle.tN "SUPPRESSED_SENTINEL" Bundle.listD (eA E) U H ∧
   va_Z "SchoolPlaces$Roll" "HOLDERS" "LSchoolPlaces$Roll;" (.ref (eR E 0)) (eA E) U H ∧ va_Z "SchoolPlaces$Roll" "WAITERS" "LSchoolPlaces$Roll;" (.ref (eR E 1)) (eA E) U H) ∧ eR E 0 ≠ eR E 1 ∧
  va_AO RX7 U ∧ va_AO RX1 U ∧ va_AO RX3 U
theorem WK.moved {E : WE} {s U : State} {H H1 : Heap} (h : WK E s H) (hW : s.WarmedH U.vm) (hq : ∀ a : Nat, a < H.size → ¬ eA E a → H1[a]? = H[a]?) : WK E U H1 := by
  obtain ⟨⟨h1, h2, h3, h4⟩, h5, h6, ⟨h7, h8, h9, h10⟩, h11, h12, h13, h14⟩ := h
  refine ⟨⟨va_K.moved hW.alike h1, fun q hq => va_Nw.warmM hW (h2 q hq), fun x hx => va_Nw.warmC hW (h3 x hx), fun x hx => va_Nw.warmD hW (h4 x hx)⟩,
    fun q hq => ?_, fun x hx y hy n => va_Nc.moved hW.alike (h6 x hx y hy n),
    ⟨(vx_Zq.moved hW.alike h7).kept hq, (vx_Zq.moved hW.alike h8).kept hq, (va_Z.moved hW.alike h9).kept hq, (va_Z.moved hW.alike h10).kept hq⟩, h11, va_AO.moved hW.alike h12, va_AO.moved hW.alike h13, va_AO.moved hW.alike h14⟩
  obtain ⟨sa, h⟩ := h5 q hq
  exact ⟨sa, h.warm hW⟩
theorem WK.calling {E : WE} {U : State} {g : JFrame} {mk : MethodId} {a : Array Value} (h : WK E U U.heap) : WK E (U.calling g mk a) (U.calling g mk a).heap := by
  refine WK.moved (s := U) (H := U.heap) h ?_ (fun _ _ _ => rfl)
  exact State.WarmedH.refl U
/-! ===== contracts ===== -/
abbrev MI : Type := MethodName × ByteArray × Nat × Option FieldType
abbrev OC : Type := Option Value ⊕ String
abbrev PO : Type := OC → AH → Nat → Bool → Prop
abbrev CT : Type := Program × Env × State × MethodId × Array Value × List Frame × Method × Code
def rmOf (d mc ms : Nat) : Room := { frames := d, cells := mc, slots := ms, locals := 40 * d + 100 }
def SpB (E : WE) (A : AH) (n : Nat) (z : Bool) : State → Prop := fun U => hS E A n z U.heap ∧ WK E U U.heap
def QcP (E : WE) (P : PO) : Array Value → State → Outcome → State → Prop := fun _ st oc t => (∃ (v : Option Value) (A : AH) (n : Nat) (z : Bool), oc = .returned v ∧ P (.inl v) A n z ∧ hS E A n z t.heap) ∧ va_F (eA E) st t
def XcP (E : WE) (P : PO) : String → State → State → Prop := fun X st t => (∃ (A : AH) (n : Nat) (z : Bool), P (.inr X) A n z ∧ hS E A n z t.heap) ∧ va_F (eA E) st t
def wsOf (mi : MI) : List Cond := Cond.code mi.1 mi.2.1 mi.2.2.1 mi.2.2.2 :: wT
/-- the method mi, called with av where the world is A: it comes to an end in P -/
def Sp (E : WE) (mi : MI) (d mc ms : Nat) (av : List Value) (A : AH) (n : Nat) (z : Bool) (P : PO) : Prop :=
  (eL E).stackTraces = false → vx_Met (eL E) mi.1 (wsOf mi) (rmOf d mc ms) (va_Pc av (SpB E A n z)) (QcP E P) (XcP E P) mc ms (eA E)
/-- what holds of the machine in a method's body -/
def Cx (E : WE) (mi : MI) (C : CT) : Prop := match C with
  | (p, _, s, m, args, _, meth, c) =>
  (p.tables.exec = Jvm.exec ∧ c.code = mi.2.1 ∧ c.maxLocals = mi.2.2.1 ∧ s.vm.findClass mi.1.cls = some m.cls ∧ (∀ w ∈ wT, w.before args s = true)) ∧
  (meth.sig.returnType = mi.2.2.2 ∧ meth.locks = false ∧ (∀ x ∈ c.exceptionTable.toList, False) ∧ meth.name = mi.1.name) ∧
  (WK E s s.heap ∧ eB E ≤ s.heap.size ∧ (eL E).stackTraces = false)
/-- the locals, by place -/
def lsAll : Nat → List (Option Value) → List (Nat × Value)
  | _, [] => []
  | i, none :: l => lsAll (i + 1) l
  | i, some v :: l => (i, v) :: lsAll (i + 1) l
theorem lsAll_mem : ∀ (l : List (Option Value)) (i : Nat) (q : Nat × Value), q ∈ lsAll i l ↔ i ≤ q.1 ∧ l[q.1 - i]? = some (some q.2)
  | [], i, q => by simp [lsAll]
  | none :: l, i, q => by
    rw [lsAll, lsAll_mem l (i + 1) q]
    by_cases h : i < q.1
    · have e : q.1 - i = (q.1 - (i + 1)) + 1 := by omega
      rw [e, List.getElem?_cons_succ]
      constructor <;> (rintro ⟨h1, h2⟩; exact ⟨by omega, h2⟩)
    · constructor
      · rintro ⟨h1, -⟩; omega
      · rintro ⟨h1, h2⟩
        have e : q.1 - i = 0 := by omega
        rw [e] at h2
        simp at h2
  | some v :: l, i, q => by
    rw [lsAll, List.mem_cons, lsAll_mem l (i + 1) q]
    by_cases h : i < q.1
    · have e : q.1 - i = (q.1 - (i + 1)) + 1 := by omega
      rw [e, List.getElem?_cons_succ]
      constructor
      · rintro (h1 | ⟨h1, h2⟩)
        · rw [h1] at h; exact absurd h (Nat.lt_irrefl _)
        · exact ⟨by omega, h2⟩
      · rintro ⟨h1, h2⟩; exact Or.inr ⟨by omega, h2⟩
    · constructor
      · rintro (h1 | ⟨h1, -⟩)
        · subst h1; simp
        · omega
      · rintro ⟨h1, h2⟩
        have e : q.1 - i = 0 := by omega
        rw [e] at h2
        have e2 : q.1 = i := by omega
        left
        simp only [List.getElem?_cons_zero, Option.some.injEq] at h2
        obtain ⟨a, b⟩ := q
        simp only at h2 e2
        rw [h2, e2]
def lsOk (arr : Array Slot) (ls : List (Option Value)) : Prop := lv_has arr ls.length (lsAll 0 ls) ∧ ∀ v, some v ∈ ls → v.category = 1
theorem lsOk.get {arr : Array Slot} {ls : List (Option Value)} (h : lsOk arr ls) {i : Nat} {v : Value} (hi : ls[i]? = some (some v)) : arr[i]? = some (.val v) :=
  h.1.2.2 (i, v) ((lsAll_mem ls 0 (i, v)).mpr ⟨Nat.zero_le _, hi⟩)
theorem lsOk.size {arr : Array Slot} {ls : List (Option Value)} (h : lsOk arr ls) : arr.size = ls.length := h.1.1
theorem lsOk.set {arr : Array Slot} {ls : List (Option Value)} (h : lsOk arr ls) {i : Nat} {v : Value} (hv : v.category = 1) (hi : i < ls.length) {arr' : Array Slot}
    (h2 : lv_has arr' ls.length ((i, v) :: (lsAll 0 ls).filter (fun q => !(q.1 == i) && !(q.1 + 1 == i && q.2.category == 2)))) : lsOk arr' (ls.set i (some v)) := by
  have hc : ∀ w, some w ∈ ls.set i (some v) → w.category = 1 := fun w hw => by
    rcases List.mem_or_eq_of_mem_set hw with h1 | h1
    · exact h.2 w h1
    · cases h1; exact hv
  refine ⟨⟨by rw [List.length_set]; exact h2.1, h2.2.1, fun q hq => h2.2.2 q ?_⟩, hc⟩
  have hq1 := (lsAll_mem _ 0 q).mp hq
  obtain ⟨-, hq2⟩ := hq1
  rw [Nat.sub_zero] at hq2
  by_cases e : i = q.1
  · subst e
    rw [List.getElem?_set_self hi] at hq2
    obtain ⟨a, b⟩ := q
    simp only [Option.some.injEq] at hq2
    subst hq2
    exact List.mem_cons_self
  · rw [List.getElem?_set_ne e] at hq2
    refine List.mem_cons_of_mem _ (List.mem_filter.mpr ⟨(lsAll_mem ls 0 q).mpr ⟨Nat.zero_le _, by rw [Nat.sub_zero]; exact hq2⟩, ?_⟩)
    have h1 : q.2.category = 1 := h.2 q.2 (List.mem_of_getElem? hq2)
    simp [h1, Ne.symm e]
/-- the judgement: in the body of mi, at pc, with locals ls, stack st and the world A, the method comes to its end in P -/
def J (E : WE) (mi : MI) (C : CT) (d mc ms : Nat) (P : PO) (pc : Nat) (ls : List (Option Value)) (st : List Value) (A : AH) (n : Nat) (z : Bool) (k q : Nat) : Prop := match C with
  | (p, e, s, m, args, below, meth, c) =>
  ∀ (H : Heap) (locs : List Loc) (arr : Array Slot), hS E A n z H → va_S (eA E) s.heap H locs → lsOk arr ls → ls.length = mi.2.2.1 →
    W p (eL E) e (rmOf d mc ms) s m args below meth c H locs k q (vx_MQ below (QcP E P) (XcP E P) args s mc ms (eA E)) (F0 m pc arr st)
def entL (av : List Value) (n : Nat) : List (Option Value) := av.map some ++ List.replicate (n - av.length) none
theorem lv_args_cat1 : ∀ (vs : List Value) (i : Nat), (∀ v ∈ vs, v.category = 1) → lv_args i vs = lsAll i (vs.map some)
  | [], i, _ => rfl
  | v :: vs, i, h => by
    have h1 : v.category = 1 := h v List.mem_cons_self
    have ih := lv_args_cat1 vs (i + 1) (fun w hw => h w (List.mem_cons_of_mem _ hw))
    rw [List.map_cons, lsAll, ← ih]
    simp [lv_args, h1]
theorem lsAll_app : ∀ (l : List (Option Value)) (i k : Nat), lsAll i (l ++ List.replicate k none) = lsAll i l
  | [], i, 0 => rfl
  | [], i, k + 1 => by
    have := lsAll_app [] (i + 1) k
    simpa [lsAll, List.replicate_succ] using this
  | none :: l, i, k => by simpa [lsAll] using lsAll_app l (i + 1) k
  | some v :: l, i, k => by simpa [lsAll] using lsAll_app l (i + 1) k
theorem lg_sl_cat1 : ∀ (vs : List Value), (∀ v ∈ vs, v.category = 1) → (lg_sl vs).length = vs.length
  | [], _ => rfl
  | v :: vs, h => by
    have h1 : v.category = 1 := h v List.mem_cons_self
    have ih := lg_sl_cat1 vs (fun w hw => h w (List.mem_cons_of_mem _ hw))
    simp only [lg_sl] at ih
    simp [lg_sl, h1, ih]
set_option maxHeartbeats 2000000 in
/-- a contract out of the walk of the body from its entry -/
theorem Sp.mk {E : WE} {mi : MI} {d mc ms : Nat} {av : List Value} {A : AH} {n : Nat} {z : Bool} {P : PO} (hy : plainName mi.1.cls = true) (hc : ∀ v ∈ av, v.category = 1) (hlen : av.length ≤ mi.2.2.1)
    (k : ∀ C : CT, Cx E mi C → J E mi C d mc ms P 0 (entL av mi.2.2.1) [] A n z 0 0) : Sp E mi d mc ms av A n z P := by
  intro hl
  obtain ⟨y, bytes, maxL, ret⟩ := mi
  refine vx_ofW (cc := bytes) (maxL := maxL) (ret := ret) hy rfl ?_
  intro p e s m args below meth c s₁ B hml htab hv
  obtain ⟨rfl, hS0, hWK⟩ := hv
  have hts : ∀ w ∈ wsOf (y, bytes, maxL, ret), w.before av.toArray s = true := atoms_spec (ws := wsOf (y, bytes, maxL, ret)) B.pre
  have hX : Cx E (y, bytes, maxL, ret) (p, e, s, m, av.toArray, below, meth, c) := ⟨⟨B.exec, B.bytes, hml, findClass_of_methodNamed B.named, fun w hw => hts w (List.mem_cons_of_mem _ hw)⟩, ⟨B.returns, B.notSynchronized, htab, (name_of_methodNamed B.named B.method).1⟩, hWK, hS0.2.1, hl⟩
  have K := k _ hX s.heap [] ((lg_sl av ++ List.replicate (maxL - (lg_sl av).length) Slot.unset).toArray) hS0 va_S.rf
  have hlen' : av.length ≤ maxL := hlen
  have e1 : (entL av maxL).length = maxL := by simp [entL]; omega
  have hl := lv_entry av (n := maxL) (by rw [lg_sl_cat1 av hc]; exact hlen')
  have hok : lsOk ((lg_sl av ++ List.replicate (maxL - (lg_sl av).length) Slot.unset).toArray) (entL av maxL) := by
    refine ⟨?_, ?_⟩
    · rw [e1, entL, lsAll_app, ← lv_args_cat1 av 0 hc]
      exact hl
    · intro v hv
      simp only [entL, List.mem_append, List.mem_map, List.mem_replicate] at hv
      rcases hv with ⟨w, hw, e⟩ | ⟨-, e⟩
      · cases e; exact hc _ hw
      · cases e
  rw [lg_entry_eq]
  exact K hok e1
