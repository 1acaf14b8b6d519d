/-! ===== rows of the constructors: the world grows at its end ===== -/
theorem lkd {code : ByteArray} {tb : TB} (h : tbOk code tb = true) {pc t : Nat} {i : Instr} (hl : lkp tb pc = some (i, t)) (hz : ¬ instrLen i = 0) : decode code pc = .ok (i, instrLen i) := by
  obtain ⟨len, hdg, -, hlen⟩ := lkp_spec h hl
  rw [hlen.resolve_right hz] at hdg
  exact hdg
theorem oI_i : Cond.instanceMethod objectInit ∈ wT := wAt_in (i := 81) (by decide +kernel)
theorem oI_c : Cond.code objectInit ⟨#[0xb1]⟩ 1 none ∈ wT := wAt_in (i := 82) (by decide +kernel)
/-- the world is T from offset a up to b -/
def isT (A T : AH) (a b : Nat) : Prop := ∀ x, a ≤ x → x < b → A x = T x
section CTR
variable {E : WE} {mi : MI} {C : CT} {d mc ms : Nat} {P : PO} {tb : TB} {pc : Nat} {ls : List (Option Value)} {st : List Value} {A : AH} {n k q : Nat} {z : Bool}
theorem j_aload (X : Cx E mi C) (htb : tbOk mi.2.1 tb = true) {j : Fin 4} (hi : lkp tb pc = some (.aload_n j, 0)) {x : Nat} (hl9 : ls[j.val]? = some (some (.ref x))) (kk : J E mi C d mc ms P (pc + 1) ls (.ref x :: st) A n z k q) : J E mi C d mc ms P pc ls st A n z k q := by
  obtain ⟨p, e, s0, m, args, below, meth, c⟩ := C
  obtain ⟨⟨hx, hb, -⟩, -⟩ := X
  intro H locs arr hS0 hS1 hl hlen
  exact lv_aload_n hx hb (lkd htb hi (by simp [instrLen])) rfl (hl.get hl9) (kk H locs arr hS0 hS1 hl hlen)
theorem j_iload (X : Cx E mi C) (htb : tbOk mi.2.1 tb = true) {j : Fin 4} (hi : lkp tb pc = some (.iload_n j, 0)) {x : Int32} (hl9 : ls[j.val]? = some (some (.int x))) (kk : J E mi C d mc ms P (pc + 1) ls (.int x :: st) A n z k q) : J E mi C d mc ms P pc ls st A n z k q := by
  obtain ⟨p, e, s0, m, args, below, meth, c⟩ := C
  obtain ⟨⟨hx, hb, -⟩, -⟩ := X
  intro H locs arr hS0 hS1 hl hlen
  exact lv_iload_n hx hb (lkd htb hi (by simp [instrLen])) rfl (hl.get hl9) (kk H locs arr hS0 hS1 hl hlen)
theorem j_iconst (X : Cx E mi C) (htb : tbOk mi.2.1 tb = true) {v : Int} {x : Int32} {iv : _} (hi : lkp tb pc = some (.iconst iv, 0)) (hv : cI iv = x) (kk : J E mi C d mc ms P (pc + 1) ls (.int x :: st) A n z k q) : J E mi C d mc ms P pc ls st A n z k q := by
  obtain ⟨p, e, s0, m, args, below, meth, c⟩ := C
  obtain ⟨⟨hx, hb, -⟩, -⟩ := X
  intro H locs arr hS0 hS1 hl hlen
  exact lv_iconst hx hb (lkd htb hi (by simp [instrLen])) hv (kk H locs arr hS0 hS1 hl hlen)
theorem j_bipush (X : Cx E mi C) (htb : tbOk mi.2.1 tb = true) {v : Int} {x : Int32} (hi : lkp tb pc = some (.bipush v, 0)) (hv : bI v = x) (kk : J E mi C d mc ms P (pc + 2) ls (.int x :: st) A n z k q) : J E mi C d mc ms P pc ls st A n z k q := by
  obtain ⟨p, e, s0, m, args, below, meth, c⟩ := C
  obtain ⟨⟨hx, hb, -⟩, -⟩ := X
  intro H locs arr hS0 hS1 hl hlen
  exact lv_bipush hx hb (lkd htb hi (by simp [instrLen])) hv (kk H locs arr hS0 hS1 hl hlen)
theorem j_sipush (X : Cx E mi C) (htb : tbOk mi.2.1 tb = true) {v : Int} {x : Int32} (hi : lkp tb pc = some (.sipush v, 0)) (hv : sI v = x) (kk : J E mi C d mc ms P (pc + 3) ls (.int x :: st) A n z k q) : J E mi C d mc ms P pc ls st A n z k q := by
  obtain ⟨p, e, s0, m, args, below, meth, c⟩ := C
  obtain ⟨⟨hx, hb, -⟩, -⟩ := X
  intro H locs arr hS0 hS1 hl hlen
  exact lv_sipush hx hb (lkd htb hi (by simp [instrLen])) hv (kk H locs arr hS0 hS1 hl hlen)
theorem j_dup (X : Cx E mi C) (htb : tbOk mi.2.1 tb = true) (hi : lkp tb pc = some (.dup, 0)) {x : Nat} (kk : J E mi C d mc ms P (pc + 1) ls (.ref x :: .ref x :: st) A n z k q) : J E mi C d mc ms P pc ls (.ref x :: st) A n z k q := by
  obtain ⟨p, e, s0, m, args, below, meth, c⟩ := C
  obtain ⟨⟨hx, hb, -⟩, -⟩ := X
  intro H locs arr hS0 hS1 hl hlen
  exact lv_dup hx hb (lkd htb hi (by simp [instrLen])) rfl (kk H locs arr hS0 hS1 hl hlen)
theorem j_istore (X : Cx E mi C) (htb : tbOk mi.2.1 tb = true) {j : Fin 4} (hi : lkp tb pc = some (.istore_n j, 0)) {x : Int32} (hj : j.val < ls.length) (kk : J E mi C d mc ms P (pc + 1) (ls.set j.val (some (.int x))) st A n z k q) : J E mi C d mc ms P pc ls (.int x :: st) A n z k q := by
  obtain ⟨p, e, s0, m, args, below, meth, c⟩ := C
  obtain ⟨⟨hx, hb, -⟩, -⟩ := X
  intro H locs arr hS0 hS1 hl hlen
  exact lv_istore_n hx hb (lkd htb hi (by simp [instrLen])) rfl hl.1 hj rfl (fun arr' h2 => kk H locs arr' hS0 hS1 (hl.set rfl hj h2) (ls_len_set hlen))
theorem j_iinc (X : Cx E mi C) (htb : tbOk mi.2.1 tb = true) {i : Nat} {v : Int} (hi : lkp tb pc = some (.iinc i v, 0)) {x y : Int32} (hx9 : ls[i]? = some (some (.int x))) (hy : x + cI v = y) (kk : J E mi C d mc ms P (pc + 3) (ls.set i (some (.int y))) st A n z k q) : J E mi C d mc ms P pc ls st A n z k q := by
  subst hy
  have hj : i < ls.length := (List.getElem?_eq_some_iff.mp hx9).1
  obtain ⟨p, e, s0, m, args, below, meth, c⟩ := C
  obtain ⟨⟨hx, hb, -⟩, -⟩ := X
  intro H locs arr hS0 hS1 hl hlen
  obtain ⟨j, hj9⟩ := List.getElem?_of_mem ((lsAll_mem ls 0 (i, Value.int x)).mpr ⟨Nat.zero_le _, hx9⟩)
  exact lv_iinc (k := j) hx hb (lkd htb hi (by simp [instrLen])) hl.1 hj9 rfl hj rfl (fun arr' h2 => kk H locs arr' hS0 hS1 (hl.set rfl hj h2) (ls_len_set hlen))
theorem j_goto (X : Cx E mi C) (htb : tbOk mi.2.1 tb = true) {off : Int} {t : Nat} (hi : lkp tb pc = some (.goto off, t)) (kk : J E mi C d mc ms P t ls st A n z k q) : J E mi C d mc ms P pc ls st A n z k q := by
  obtain ⟨p, e, s0, m, args, below, meth, c⟩ := C
  obtain ⟨⟨hx, hb, -⟩, -⟩ := X
  obtain ⟨len, hdg, ht, hlen9⟩ := lkp_spec htb hi
  have e9 : len = 3 := hlen9.resolve_right (by simp [instrLen])
  subst e9
  intro H locs arr hS0 hS1 hl hlen
  exact lv_goto hx hb hdg (of_decide_eq_true ht) (kk H locs arr hS0 hS1 hl hlen)
theorem j_ge (X : Cx E mi C) (htb : tbOk mi.2.1 tb = true) {off : Int} {t : Nat} (hi : lkp tb pc = some (.if_icmp .ge off, t)) {x y : Int32} (k1 : y ≤ x → J E mi C d mc ms P t ls st A n z k q) (k2 : ¬ y ≤ x → J E mi C d mc ms P (pc + 3) ls st A n z k q) : J E mi C d mc ms P pc ls (.int y :: .int x :: st) A n z k q := by
  obtain ⟨p, e, s0, m, args, below, meth, c⟩ := C
  obtain ⟨⟨hx, hb, -⟩, -⟩ := X
  obtain ⟨len, hdg, ht, hlen9⟩ := lkp_spec htb hi
  have e9 : len = 3 := hlen9.resolve_right (by simp [instrLen])
  subst e9
  intro H locs arr hS0 hS1 hl hlen
  exact lv_icmp_ge hx hb hdg (of_decide_eq_true ht) (fun c9 => k1 c9 H locs arr hS0 hS1 hl hlen) (fun c9 => k2 c9 H locs arr hS0 hS1 hl hlen)
theorem j_super (X : Cx E mi C) (htb : tbOk mi.2.1 tb = true) {idx : Nat} (hi : lkp tb pc = some (.invokespecial idx, 0)) (hlink : Cond.methodLink mi.1.cls idx objectInit ∈ wT) (hd : 1 ≤ d) (hcat : (st.map fun v => v.category).sum ≤ 80) {x : Nat} (kk : J E mi C d mc ms P (pc + 3) ls st A n z k q) : J E mi C d mc ms P pc ls (.ref x :: st) A n z k q := by
  obtain ⟨p, e, s0, m, args, below, meth, c⟩ := C
  obtain ⟨⟨hx, hb, hml, hown, hts⟩, -⟩ := X
  intro H locs arr hS0 hS1 hl hlen
  exact W.objInit hx hb hown (hts _ hlink) (hts _ oI_i) (hts _ oI_c) rfl (by rw [hml]; show arr.size = _; rw [hl.size, hlen]) rfl (lkd htb hi (by simp [instrLen])) hd (by show 2 * 0 + _ + 12 ≤ 40 * d + 100; omega) (kk H locs arr hS0 hS1 hl hlen)
theorem hS_push {s0 : State} {H H1 : Heap} {locs : List Loc} {x : va_E} (hB : eB E ≤ s0.heap.size) (hS0 : hS E A n true H) (hS1 : va_S (eA E) s0.heap H locs) (z1 : H1.size = H.size + 1) (o1 : ∀ q : Nat, q < H.size → H1[q]? = H[q]?) (hx : va_P (eD E) wCl [(H.size, x)] H1) :
    hS E (va_up A n x) (n + 1) true H1 ∧ va_S (eA E) s0.heap H1 locs := by
  have hz : H.size = eB E + n := hS0.2.2 rfl
  refine ⟨⟨?_, by omega, fun _ => by omega⟩, ⟨Nat.le_trans hS1.1 (by omega), fun y h1 h2 => (o1 y (Nat.lt_of_lt_of_le h1 hS1.1)).trans (hS1.2.1 y h1 h2), hS1.2.2⟩⟩
  rw [← ww_push, ← hz]
  exact (hS0.1.kept (fun k y hk => o1 y.1 ((hS0.1 k y hk).lt))).app hx
theorem j_new (X : Cx E mi C) (htb : tbOk mi.2.1 tb = true) {idx ci : Nat} {r : vw_C} {fs : List Value} (hi : lkp tb pc = some (.new idx, 0)) (hc : wCl[ci]? = some r) (hcl : Cond.classLink mi.1.cls idx r.1 ∈ wT) (hinst : Cond.instantiable r.1 r.2.2 ∈ wT) (hini : Cond.initialized r.1 ∈ wT)
    (hfs : ∀ j, j < r.2.2 → defaultValue (tyOf ci j) = vp_V fs j) (hk : k + 1 ≤ mc) (hq : q + r.2.2 ≤ ms) (kk : J E mi C d mc ms P (pc + 3) ls (.ref (eB E + n) :: st) (va_up A n (.inr (ci, fs))) (n + 1) true (k + 1) (q + r.2.2)) : J E mi C d mc ms P pc ls st A n true k q := by
  obtain ⟨p, e, s0, m, args, below, meth, c⟩ := C
  obtain ⟨⟨hx, hb, hml, hown, hts⟩, -, hWK, hB9, -⟩ := X
  intro H locs arr hS0 hS1 hl hlen
  have hKn := hWK.1.1.1 ci _ hc
  refine W.newcK hx hb hown (hts _ hcl) (hts _ hinst) (hts _ hini) rfl (lkd htb hi (by simp [instrLen])) hk hq hKn.2.1 rfl fun H1 kC hkC e1 z1 o1 => ?_
  have hz : H.size = eB E + n := hS0.2.2 rfl
  obtain ⟨g1, g2⟩ := hS_push (x := .inr (ci, fs)) hB9 hS0 hS1 z1 o1 (fun k9 y hk9 => by
    have hz9 : k9 < 1 := (List.getElem?_eq_some_iff.mp hk9).1
    rw [show k9 = 0 by omega] at hk9
    cases hk9
    exact ⟨_, hc, (u_born (tyOf ci) hts (inCn hc) hKn hkC e1 (tyOf_ok hc)).to hfs⟩)
  have := kk H1 locs arr g1 g2 hl hlen
  rw [← hz] at this
  exact this
theorem j_newa (X : Cx E mi C) (htb : tbOk mi.2.1 tb = true) {aty : ArrayType} {t : Nat} {ty : FieldType} (hi : lkp tb pc = some (.newarray aty, 0)) (harr : Cond.arrayClass (newarray.typeOf aty) ∈ wT) (hty : newarray.typeOf aty = ty) (ht : (eT E)[t]? = some (eC E t, ty)) (hra : ∀ U cA, va_RA U cA ty = (U.vm.findClass ("[" ++ ty.toString) = some cA))
    {a0 : vp_A} {v : Int32} {N : Nat} (ha : ∀ cA : ClassId, vp_cell cA a0 = arrV cA N (fun _ => defaultValue ty)) (hv : v = nI N) (hN : N < 10000) (hby : componentBytes ty ≤ 8) (hk : k + 1 ≤ mc) (hq : q + N ≤ ms)
    (kk : J E mi C d mc ms P (pc + 2) ls (.ref (eB E + n) :: st) (va_up A n (.inl (eC E t, a0))) (n + 1) true (k + 1) (q + N)) : J E mi C d mc ms P pc ls (.int v :: st) A n true k q := by
  subst hv
  subst hty
  obtain ⟨p, e, s0, m, args, below, meth, c⟩ := C
  obtain ⟨⟨hx, hb, hml, hown, hts⟩, -, hWK, hB9, -⟩ := X
  intro H locs arr hS0 hS1 hl hlen
  have hz : H.size = eB E + n := hS0.2.2 rfl
  have e0 : (nI N).toNatClampNeg = N := nI31 (by omega)
  refine va_newaK hx hb (hts _ harr) rfl (lkd htb hi (by simp [instrLen])) rfl (n := nI N) (N := N) (by rw [Int32.lt_iff_toInt_lt, nI_toInt (by omega)]; show ¬ (N : Int) < 0; omega) e0 (Nat.le_trans (Nat.mul_le_mul (Nat.le_of_lt hN) hby) (by decide)) hk hq rfl fun H1 cA e1 z1 o1 hAr hNm => ?_
  have hcA : cA = eC E t := by
    have h1 := (hWK.1.1.2 t _ ht).2
    rw [hra] at h1
    exact Option.some.inj (hNm.symm.trans h1)
  subst hcA
  obtain ⟨g1, g2⟩ := hS_push (x := .inl (eC E t, a0)) hB9 hS0 hS1 z1 o1 (fun k9 y hk9 => by
    have hz9 : k9 < 1 := (List.getElem?_eq_some_iff.mp hk9).1
    rw [show k9 = 0 by omega] at hk9
    cases hk9
    show H1[H.size]? = some (vp_cell _ _)
    rw [ha]
    exact e1)
  have := kk H1 locs arr g1 g2 hl hlen
  rw [← hz] at this
  exact this
theorem j_newq (X : Cx E mi C) (htb : tbOk mi.2.1 tb = true) {idx t : Nat} {cn : String} (hi : lkp tb pc = some (.anewarray idx, 0)) (hcl : Cond.classLink mi.1.cls idx cn ∈ wT) (ht : (eT E)[t]? = some (eC E t, .object cn)) (hao : ∀ U H, WK E U H → va_AO cn U)
    {v : Int32} {N : Nat} (hv : v = nI N) (hN : N < 10000) (hk : k + 1 ≤ mc) (hq : q + N ≤ ms)
    (kk : J E mi C d mc ms P (pc + 3) ls (.ref (eB E + n) :: st) (va_up A n (.inl (eC E t, N, .inr (.inr (.inr (.inr (fun _ => none))))))) (n + 1) true (k + 1) (q + N)) : J E mi C d mc ms P pc ls (.int v :: st) A n true k q := by
  subst hv
  obtain ⟨p, e, s0, m, args, below, meth, c⟩ := C
  obtain ⟨⟨hx, hb, hml, hown, hts⟩, -, hWK, hB9, -⟩ := X
  intro H locs arr hS0 hS1 hl hlen
  have hz : H.size = eB E + n := hS0.2.2 rfl
  have e0 : (nI N).toNatClampNeg = N := nI31 (by omega)
  refine W.anew hx hb hown (hts _ hcl) (va_AO.use (hao _ _ hWK)) rfl (lkd htb hi (by simp [instrLen])) rfl (n := nI N) (by rw [Int32.lt_iff_toInt_lt, nI_toInt (by omega)]; show ¬ (N : Int) < 0; omega) (by rw [e0]; omega) hk (by rw [e0]; exact hq) fun cA kA comp f1 f2 f3 f4 => ?_
  have hcA : cA = eC E t := by
    obtain ⟨kA9, comp9, -, -, -, h1⟩ := (hWK.1.1.2 t _ ht).2
    exact Option.some.inj (f1.symm.trans h1)
  subst hcA
  generalize hH1 : H.push ({ cls := eC E t, slots := Array.replicate (nI N).toNatClampNeg .null, vm := .none } : Cell) = H1
  have z1 : H1.size = H.size + 1 := by rw [← hH1, Array.size_push]
  have e1 : H1[H.size]? = some (arrV (eC E t) N (fun _ => .null)) := by rw [← hH1, Array.getElem?_push_size, ← arrV_new, e0]
  have o1 : ∀ q : Nat, q < H.size → H1[q]? = H[q]? := fun q hq => by rw [← hH1, Array.getElem?_push, if_neg (Nat.ne_of_lt hq)]
  obtain ⟨g1, g2⟩ := hS_push (x := .inl (eC E t, N, .inr (.inr (.inr (.inr (fun _ => none)))))) hB9 hS0 hS1 z1 o1 (fun k9 y hk9 => by
    have hz9 : k9 < 1 := (List.getElem?_eq_some_iff.mp hk9).1
    rw [show k9 = 0 by omega] at hk9
    cases hk9
    show H1[H.size]? = some (vp_cell _ _)
    rw [vp_cell_q]
    exact e1)
  have := kk H1 locs arr g1 g2 hl hlen
  rw [← hz] at this
  rw [e0]
  exact this
theorem hS_set {s0 : State} {H1 : Heap} {o : Nat} {x : va_E} {locs1 : List Loc} (ho : o < n) (hB : eB E ≤ s0.heap.size) (hP : va_P (eD E) wCl ((ww (eB E) n A).set o (eB E + o, x)) H1) (h1 : va_S (eA E) s0.heap H1 locs1) (hz : z = true → H1.size = eB E + n) : hS E (va_up A o x) n z H1 :=
  ⟨by rw [← ww_set]; exact hP, Nat.le_trans hB h1.1, hz⟩
end CTR
