/-! ===== the law's beginning: two objects, two arrays; the empty state ===== -/
def JG (E : WE) (nL : Nat) (C : LT) (k q : Nat) (pc : Nat) (ls : List (Option Value)) (st : List Value) (A : AH) (n : Nat) : Prop := match C with
  | (p, e, s0, m, args, below, meth, c, R, Q) => ∀ (H : Heap) (locs : List Loc) (arr : Array Slot), hS E A n true H → va_S (eA E) s0.heap H locs → lsOk arr ls → ls.length = nL →
    W p (eL E) e R s0 m args below meth c H locs k q Q (F0 m pc arr st)
section JGR
variable {E : WE} {cc : ByteArray} {nL : Nat} {sc : SCR} {C : LT} {tb : TB} {k q pc : Nat} {ls : List (Option Value)} {st : List Value} {A : AH} {n : Nat}
abbrev rmC (C : LT) : Room := C.2.2.2.2.2.2.2.2.1
theorem g_dup (X : CL E cc nL sc C) (htb : tbOk cc tb = true) (hi : lkp tb pc = some (.dup, 0)) {x : Nat} (kk : JG E nL C k q (pc + 1) ls (.ref x :: .ref x :: st) A n) : JG E nL C k q pc ls (.ref x :: st) A n := by
  obtain ⟨p, e, s0, m, args, below, meth, c, R, Q⟩ := C
  obtain ⟨⟨hx, hb, -⟩, -⟩ := X
  intro H locs arr hS0 hS1 hl hlen
  exact lv_dup hx hb (lkd htb hi (by simp [instrLen])) rfl (kk H locs arr hS0 hS1 hl hlen)
theorem g_iconst (X : CL E cc nL sc C) (htb : tbOk cc tb = true) {iv : _} {x : Int32} (hi : lkp tb pc = some (.iconst iv, 0)) (hv : cI iv = x) (kk : JG E nL C k q (pc + 1) ls (.int x :: st) A n) : JG E nL C k q pc ls st A n := by
  obtain ⟨p, e, s0, m, args, below, meth, c, R, Q⟩ := C
  obtain ⟨⟨hx, hb, -⟩, -⟩ := X
  intro H locs arr hS0 hS1 hl hlen
  exact lv_iconst hx hb (lkd htb hi (by simp [instrLen])) hv (kk H locs arr hS0 hS1 hl hlen)
theorem g_astn (X : CL E cc nL sc C) (htb : tbOk cc tb = true) {j : Fin 4} (hi : lkp tb pc = some (.astore_n j, 0)) {x : Nat} (hj : j.val < ls.length) (kk : JG E nL C k q (pc + 1) (ls.set j.val (some (.ref x))) st A n) : JG E nL C k q pc ls (.ref x :: st) A n := by
  obtain ⟨p, e, s0, m, args, below, meth, c, R, Q⟩ := C
  obtain ⟨⟨hx, hb, -⟩, -⟩ := X
  intro H locs arr hS0 hS1 hl hlen
  exact lv_astore_n hx hb (lkd htb hi (by simp [instrLen])) rfl hl.1 hj rfl (fun arr' h2 => kk H locs arr' hS0 hS1 (hl.set rfl hj h2) (ls_len_set hlen))
theorem g_ast (X : CL E cc nL sc C) (htb : tbOk cc tb = true) {j : Nat} (hi : lkp tb pc = some (.astore j, 0)) {x : Nat} (hj : j < ls.length) (kk : JG E nL C k q (pc + 2) (ls.set j (some (.ref x))) st A n) : JG E nL C k q pc ls (.ref x :: st) A n := by
  obtain ⟨p, e, s0, m, args, below, meth, c, R, Q⟩ := C
  obtain ⟨⟨hx, hb, -⟩, -⟩ := X
  intro H locs arr hS0 hS1 hl hlen
  exact lv_astore hx hb (lkd htb hi (by simp [instrLen])) hl.1 hj rfl (fun arr' h2 => kk H locs arr' hS0 hS1 (hl.set rfl hj h2) (ls_len_set hlen))
theorem g_new (X : CL E cc nL sc C) (htb : tbOk cc tb = true) {idx ci : Nat} {r : vw_C} {fs : List Value} (hi : lkp tb pc = some (.new idx, 0)) (hc : wCl[ci]? = some r) (hcl : Cond.classLink RL idx r.1 ∈ wT) (hinst : Cond.instantiable r.1 r.2.2 ∈ wT) (hini : Cond.initialized r.1 ∈ wT)
    (hfs : ∀ j, j < r.2.2 → defaultValue (tyOf ci j) = vp_V fs j) (hk : k + 1 ≤ (rmC C).cells) (hq : q + r.2.2 ≤ (rmC C).slots) (kk : JG E nL C (k + 1) (q + r.2.2) (pc + 3) ls (.ref (eB E + n) :: st) (va_up A n (.inr (ci, fs))) (n + 1)) : JG E nL C k q pc ls st A n := by
  obtain ⟨p, e, s0, m, args, below, meth, c, R, Q⟩ := C
  obtain ⟨⟨hx, hb, hml, hown, hts⟩, -, hWK, hB9, -⟩ := X
  intro H locs arr hS0 hS1 hl hlen
  have hKn := hWK.1.1.1 ci _ hc
  refine W.newcK hx hb hown (hts _ hcl) (hts _ hinst) (hts _ hini) rfl (lkd htb hi (by simp [instrLen])) hk hq hKn.2.1 rfl fun H1 kC hkC e1 z1 o1 => ?_
  have hz : H.size = eB E + n := hS0.2.2 rfl
  obtain ⟨g1, g2⟩ := hS_push (x := .inr (ci, fs)) hB9 hS0 hS1 z1 o1 (fun k9 y hk9 => by
    have hz9 : k9 < 1 := (List.getElem?_eq_some_iff.mp hk9).1
    rw [show k9 = 0 by omega] at hk9
    cases hk9
    exact ⟨_, hc, (u_born (tyOf ci) hts (inCn hc) hKn hkC e1 (tyOf_ok hc)).to hfs⟩)
  have := kk H1 locs arr g1 g2 hl hlen
  rw [← hz] at this
  exact this
theorem g_newa (X : CL E cc nL sc C) (htb : tbOk cc tb = true) {aty : ArrayType} {t : Nat} {ty : FieldType} (hi : lkp tb pc = some (.newarray aty, 0)) (harr : Cond.arrayClass (newarray.typeOf aty) ∈ wT) (hty : newarray.typeOf aty = ty) (ht : (eT E)[t]? = some (eC E t, ty)) (hra : ∀ U cA, va_RA U cA ty = (U.vm.findClass ("[" ++ ty.toString) = some cA))
    {a0 : vp_A} (ha : ∀ cA : ClassId, vp_cell cA a0 = arrV cA 1 (fun _ => defaultValue ty)) (hby : componentBytes ty ≤ 8) (hk : k + 1 ≤ (rmC C).cells) (hq : q + 1 ≤ (rmC C).slots)
    (kk : JG E nL C (k + 1) (q + 1) (pc + 2) ls (.ref (eB E + n) :: st) (va_up A n (.inl (eC E t, a0))) (n + 1)) : JG E nL C k q pc ls (.int (nI 1) :: st) A n := by
  subst hty
  obtain ⟨p, e, s0, m, args, below, meth, c, R, Q⟩ := C
  obtain ⟨⟨hx, hb, hml, hown, hts⟩, -, hWK, hB9, -⟩ := X
  intro H locs arr hS0 hS1 hl hlen
  have hz : H.size = eB E + n := hS0.2.2 rfl
  refine va_newaK hx hb (hts _ harr) rfl (lkd htb hi (by simp [instrLen])) rfl (n := nI 1) (N := 1) (by decide) rfl (by omega) hk hq rfl fun H1 cA e1 z1 o1 hAr hNm => ?_
  have hcA : cA = eC E t := by
    have h1 := (hWK.1.1.2 t _ ht).2
    rw [hra] at h1
    exact Option.some.inj (hNm.symm.trans h1)
  subst hcA
  obtain ⟨g1, g2⟩ := hS_push (x := .inl (eC E t, a0)) hB9 hS0 hS1 z1 o1 (fun k9 y hk9 => by
    have hz9 : k9 < 1 := (List.getElem?_eq_some_iff.mp hk9).1
    rw [show k9 = 0 by omega] at hk9
    cases hk9
    show H1[H.size]? = some (vp_cell _ _)
    rw [ha]
    exact e1)
  have := kk H1 locs arr g1 g2 hl hlen
  rw [← hz] at this
  exact this
theorem g_callI (X : CL E cc nL sc C) (htb : tbOk cc tb = true) {mi' : MI} {idx d' mc' ms' b n' o : Nat} (hSp : Sp E mi' d' mc' ms' [.ref b] A n true (CtP E A o n n')) (hi : lkp tb pc = some (.invokespecial idx, 0)) (hv : NOk mi' 0) (hlink : Cond.methodLink RL idx mi'.1 ∈ wT)
    (hcat : (st.map fun v => v.category).sum ≤ 8) (hd : d' + 1 ≤ (rmC C).frames ∧ 40 * d' + 140 ≤ (rmC C).locals) (hk : k + mc' ≤ (rmC C).cells) (hq : q + ms' ≤ (rmC C).slots)
    (kk : ∀ A' : AH, (∀ x, x < n → ¬ x = o → A' x = A x) → A' o = TT E o → (∀ x, n ≤ x → x < n' → A' x = TT E x) → JG E nL C (k + mc') (q + ms') (pc + 3) ls st A' n') : JG E nL C k q pc ls (.ref b :: st) A n := by
  obtain ⟨p, e, s0, m, args, below, meth, c, R, Q⟩ := C
  obtain ⟨⟨hx, hb, hml, hown, hts⟩, -, hWK, hB9, hst9⟩ := X
  intro H locs arr hS0 hS1 hl hlen
  have cb := callL_w (R := R) (mc' := mc') (ms' := ms') hts hv.1 hlink hd
  rw [hv.2.2.2] at cb
  have hr : vx_Run p (eL E) e R s0 m args below meth c H locs k q mc' ms' (F0 m pc arr (.ref b :: st)) st (QcP E (CtP E A o n n') (Value.ref b :: []).toArray) (XcP E (CtP E A o n n')) (eA E) := vx_runI (nL := nL) (Ts := wT) (H := H) (locs := locs) (cells := k) (slots := q) (g := F0 m pc arr (.ref b :: st)) (As := []) (rest := st) ⟨hx, hb, hml, hown, hts⟩ (hSp hst9) ⟨cb, hv.2.2.1, hts _ hv.2.1⟩ ⟨SpB.blind, fun U hU hW => ⟨rfl, SpB.at hS0 hWK hS1 hU hW⟩⟩ rfl rfl (by show arr.size = _; rw [hl.size, hlen]) rfl (by show 2 * 0 + _ ≤ 8; omega) (lkd htb hi (by simp [instrLen])) ⟨hk, hq⟩
  intro T hT Xs
  rcases hr T hT Xs with ⟨v, st₀, t, T', L, h0, X', hL, e1, e2, ⟨⟨v', A', n9, z, hv9, hp, hh⟩, hF⟩, go⟩ | ⟨q9, st₀, t, T', L, E', ce, h0, X', hL, e1, e2, ⟨⟨A', n9, z, hp, hh⟩, hF⟩, hce, hcv, hcl, go⟩
  · cases hv9
    obtain ⟨ev, rfl, rfl, g1, g2, g3⟩ := hp
    cases ev
    obtain ⟨k1, k2, k3⟩ := vx_keep h0 e1 hS1 (fun q _ h => h) (fun _ h => h) hL hF
    obtain ⟨t2, a1, b1⟩ := kk A' g1 g2 g3 T'.heap (locs ++ L) arr (by rw [e1]; exact hh) k3 hl hlen T' rfl X'
    exact ⟨t2, go t2 a1, b1⟩
  · cases hp.1
end JGR
def R0 : RW := fun _ => nI 0
def a00 : AS := (R0, (0, fun _ => R0), (false, R0), (nI 0, nI 0 - nI 1), (0, fun _ => nI 0))
theorem Inv00 : Inv R0 := ⟨⟨⟨rfl, by decide⟩, ⟨rfl, by decide⟩, ⟨rfl, by decide⟩⟩, fun j hj => absurd hj (by show ¬ j < 0; omega), fun i hi => absurd hi (by show ¬ i < 0; omega)⟩
theorem m1_eq : nI 0 - nI 1 = (-1 : Int32) := by decide
theorem AInv00 : AInv 0 a00 := ⟨⟨Inv00, Nat.le_refl 0⟩, ⟨by decide, fun k hk => absurd hk (by show ¬ k < 0; omega)⟩, fun h => absurd h (by decide), ⟨⟨0, by decide, rfl⟩, Or.inl m1_eq⟩, ⟨by decide, fun k hk => absurd hk (by show ¬ k < 0; omega)⟩⟩
theorem Sh00 {r : RW} (h : ∀ k, k < 57 → r k = nI 0) : Sh r R0 := ⟨⟨h 0 (by decide), h 1 (by decide), h 2 (by decide)⟩, fun j w hj => absurd hj (by show ¬ j < 0; omega), fun f hf => h (45 + f) (by omega), fun i w hi => absurd hi (by show ¬ i < 0; omega), fun i p hi => absurd hi (by show ¬ i < 0; omega), fun e w he => absurd he (by show ¬ e < 0; omega)⟩
theorem AbsC00 : AbsC s00 a00 := ⟨Sh00 (fun k hk => numI_0 (r := 0) (j := k) (by omega)), ⟨0, by decide, by decide, by decide, fun k hk => absurd hk (by show ¬ k < 0; omega)⟩, ⟨by decide, fun h => absurd h (by decide)⟩, ⟨by decide, by decide⟩, ⟨by decide, fun k hk => absurd hk (by show ¬ k < 0; omega)⟩⟩
theorem AbsM00 : AbsM s00 a00 := ⟨Sh00 (fun k hk => numI_0 (r := 21) (j := k) (by omega)), ⟨by decide, fun k hk => absurd hk (by show ¬ k < 0; omega)⟩, ⟨by decide, fun h => absurd h (by decide)⟩, ⟨by decide, by decide⟩, ⟨by decide, fun k hk => absurd hk (by show ¬ k < 0; omega)⟩⟩
