/-! ===== the class: the constants of the enum, comparing objects, a constant number, copying an array ===== -/
section JRW
variable {E : WE} {mi : MI} {C : CT} {d mc ms : Nat} {P : OC → ST → Prop} {pc : Nat} {ls : List (Option Value)} {rest : List Value} {s : ST}
theorem JM_getsH (X : Cx E mi C) {tb : TB} {t idx : Nat} (htb : tbOk mi.2.1 tb = true) (hi9 : lkp tb pc = some (.getstatic idx, t)) (hlink : Cond.fieldLink mi.1.cls idx "SchoolPlaces$Roll" "HOLDERS" "LSchoolPlaces$Roll;" ∈ wT)
    (kk : JM E mi C d mc ms P (pc + 3) ls (.ref (eR E 0) :: rest) s) : JM E mi C d mc ms P pc ls rest s := by
  obtain ⟨p, e, s0, m, args, below, meth, c⟩ := C
  obtain ⟨len, hdg, -, hl9⟩ := lkp_spec htb hi9
  have e1 : len = 3 := hl9.resolve_right (by simp [instrLen])
  subst e1
  obtain ⟨⟨hx, hb, hml, hown, hts⟩, -, hWK, -, -⟩ := X
  intro H locs arr hS0 hS1 hl hlen
  exact va_gets hx hb hWK.2.2.2.1.2.2.1 hS1 hown (hts _ hlink) (fun _ h => h) hdg (kk H locs arr hS0 hS1 hl hlen)
theorem JM_getsW (X : Cx E mi C) {tb : TB} {t idx : Nat} (htb : tbOk mi.2.1 tb = true) (hi9 : lkp tb pc = some (.getstatic idx, t)) (hlink : Cond.fieldLink mi.1.cls idx "SchoolPlaces$Roll" "WAITERS" "LSchoolPlaces$Roll;" ∈ wT)
    (kk : JM E mi C d mc ms P (pc + 3) ls (.ref (eR E 1) :: rest) s) : JM E mi C d mc ms P pc ls rest s := by
  obtain ⟨p, e, s0, m, args, below, meth, c⟩ := C
  obtain ⟨len, hdg, -, hl9⟩ := lkp_spec htb hi9
  have e1 : len = 3 := hl9.resolve_right (by simp [instrLen])
  subst e1
  obtain ⟨⟨hx, hb, hml, hown, hts⟩, -, hWK, -, -⟩ := X
  intro H locs arr hS0 hS1 hl hlen
  exact va_gets hx hb hWK.2.2.2.1.2.2.2 hS1 hown (hts _ hlink) (fun _ h => h) hdg (kk H locs arr hS0 hS1 hl hlen)
theorem Cx.roll (X : Cx E mi C) : eR E 0 ≠ eR E 1 := by
  obtain ⟨p, e, s0, m, args, below, meth, c⟩ := C
  exact X.2.2.1.2.2.2.2.1
theorem JM_acmp (X : Cx E mi C) {tb : TB} {t : Nat} {off : Int} (htb : tbOk mi.2.1 tb = true) (hi9 : lkp tb pc = some (.if_acmp .ne off, t)) {tgt : Nat} (ht : (pc : Int) + off = (tgt : Int)) {x y : Nat}
    (kt : ¬ x = y → JM E mi C d mc ms P tgt ls rest s) (kf : x = y → JM E mi C d mc ms P (pc + 3) ls rest s) : JM E mi C d mc ms P pc ls (.ref y :: .ref x :: rest) s := by
  obtain ⟨p, e, s0, m, args, below, meth, c⟩ := C
  obtain ⟨len, hdg, -, hl9⟩ := lkp_spec htb hi9
  have e1 : len = 3 := hl9.resolve_right (by simp [instrLen])
  subst e1
  obtain ⟨⟨hx, hb, hml, hown, hts⟩, -, hWK, -, -⟩ := X
  intro H locs arr hS0 hS1 hl hlen
  exact lv_acmp_ne hx hb (rx := some x) (ry := some y) hdg ht (fun h => kt (fun e => h (by rw [e])) H locs arr hS0 hS1 hl hlen) (fun h => kf (Option.some.inj h) H locs arr hS0 hS1 hl hlen)
theorem JM_ldc (X : Cx E mi C) {tb : TB} {t idx : Nat} {v : Int32} (htb : tbOk mi.2.1 tb = true) (hi9 : lkp tb pc = some (.ldc idx, t)) (hc : Cond.constant mi.1.cls idx v ∈ wT)
    (kk : JM E mi C d mc ms P (pc + 2) ls (.int v :: rest) s) : JM E mi C d mc ms P pc ls rest s := by
  obtain ⟨p, e, s0, m, args, below, meth, c⟩ := C
  obtain ⟨len, hdg, -, hl9⟩ := lkp_spec htb hi9
  have e1 : len = 2 := hl9.resolve_right (by simp [instrLen])
  subst e1
  obtain ⟨⟨hx, hb, hml, hown, hts⟩, -, hWK, -, -⟩ := X
  intro H locs arr hS0 hS1 hl hlen
  exact lv_ldc hx hb hown (hts _ hc) hdg (kk H locs arr hS0 hS1 hl hlen)
end JRW
theorem toE_cong {E : WE} {s s' : Nat → Nat → Int32} {o : Nat} {x : LE} (h : owOk o x) (he : ∀ r j, (ow r j).1 = o → s' r j = s r j) : toE E s' x = toE E s x := by
  rcases x with c | a | a
  · have e : ∀ k, k < nfOf c.1 → lval s' (c.2 k) = lval s (c.2 k) := by
      intro k hk
      cases hx : c.2 k with
      | inl a => rfl
      | inr q =>
        obtain ⟨r', j'⟩ := q
        have h1 := h k hk r' j' hx
        show Value.int _ = Value.int _
        rw [he r' j' (by rw [h1])]
    show Sum.inr _ = Sum.inr _
    congr 2
    exact List.map_congr_left fun k hk => e k (List.mem_range.mp hk)
  · show Sum.inl _ = Sum.inl _
    congr 4
    funext i
    by_cases hi : i < a.2.1
    · rw [if_pos hi, if_pos hi]
      exact he _ _ (by rw [h i hi])
    · rw [if_neg hi, if_neg hi]
  · rfl
theorem cel_cong {E : WE} {s s' : ST} {o : Nat} (h : o < 622) (h2 : s'.2 = s.2) (he : ∀ r j, (ow r j).1 = o → s'.1 r j = s.1 r j) : cel E s' o = cel E s o := by
  unfold cel
  rw [h2]
  by_cases h1 : o = 620
  · rw [if_pos h1, if_pos h1]
  · rw [if_neg h1, if_neg h1]
    by_cases h3 : o = 621
    · rw [if_pos h3, if_pos h3]
    · rw [if_neg h3, if_neg h3]
      exact toE_cong (owLay (by omega)) he
theorem cel_cpy {E : WE} {s : ST} {o1 n n0 n1 r0 r1 f0 f1 : Nat} (l1 : o1 < 620) (e1 : lay E o1 = .inr (.inl (0, n1, r1, f1))) (hn : n ≤ n0) (hn1 : n ≤ n1) :
    ww (eB E) 622 (va_up (cel E s) o1 (.inl (eC E 0, n1, .inl (va_cpy (fun j => if j < n0 then s.1 r0 (f0 + j) else 0) (fun j => if j < n1 then s.1 r1 (f1 + j) else 0) 0 0 n)))) = ww (eB E) 622 (cel E (sr s r1 (cpy (s.1 r1) (fun i => s.1 r0 (f0 + i)) f1 n))) := by
  have hw : owOk o1 (lay E o1) := owLay l1
  rw [e1] at hw
  refine ww_congr fun o' ho' => ?_
  by_cases e : o' = o1
  · subst e
    rw [cel_lo l1, e1]
    simp only [va_up, if_true]
    show Sum.inl _ = Sum.inl _
    congr 4
    funext j
    show va_cpy _ _ 0 0 n j = if j < n1 then (sr s r1 (cpy (s.1 r1) (fun i => s.1 r0 (f0 + i)) f1 n)).1 r1 (f1 + j) else 0
    rw [sr_same]
    by_cases hj : j < n
    · rw [pk_cpy_in (Nat.zero_le _) (by omega), if_pos (by omega), if_pos (by omega)]
      unfold cpy
      rw [if_pos (by omega), show f1 + j - f1 = j by omega, show 0 + (j - 0) = j by omega]
    · rw [pk_cpy_out (by omega)]
      by_cases hj1 : j < n1
      · rw [if_pos hj1, if_pos hj1]
        unfold cpy
        rw [if_neg (by omega)]
      · rw [if_neg hj1, if_neg hj1]
  · simp only [va_up, if_neg e]
    refine (cel_cong (s' := sr s r1 (cpy (s.1 r1) (fun i => s.1 r0 (f0 + i)) f1 n)) (s := s) ho' rfl (fun r j hj => ?_)).symm
    by_cases hr : r = r1
    · subst hr
      rw [sr_same]
      unfold cpy
      rw [if_neg]
      rintro ⟨q1, q2⟩
      have h9 := hw (j - f1) (show j - f1 < n1 by omega)
      simp only at h9
      rw [show f1 + (j - f1) = j by omega] at h9
      rw [h9] at hj
      exact e hj.symm
    · rw [sr_ne hr]
section JRC
variable {E : WE} {mi : MI} {C : CT} {d mc ms : Nat} {P : OC → ST → Prop} {pc : Nat} {ls : List (Option Value)} {rest : List Value} {s : ST}
theorem JM_copy (X : Cx E mi C) {tb : TB} {t idx : Nat} (htb : tbOk mi.2.1 tb = true) (hi9 : lkp tb pc = some (.invokestatic idx, t)) (hlink : Cond.methodLink mi.1.cls idx arraycopyName ∈ wT) (hd : 1 ≤ d) (hcat : (rest.map fun v => v.category).sum ≤ 8)
    {a0 a1 n n0 n1 r0 r1 f0 f1 : Nat} (h0 : layA E a0 = some (.inr (.inl (0, n0, r0, f0)))) (h1 : layA E a1 = some (.inr (.inl (0, n1, r1, f1)))) (hn : n ≤ n0) (hn1 : n ≤ n1) (hb9 : n < 2 ^ 31)
    (kk : JM E mi C d mc ms P (pc + 3) ls rest (sr s r1 (cpy (s.1 r1) (fun i => s.1 r0 (f0 + i)) f1 n))) : JM E mi C d mc ms P pc ls (.int (nI n) :: .int (nI 0) :: .ref a1 :: .int (nI 0) :: .ref a0 :: rest) s := by
  obtain ⟨p, e, s0, m, args, below, meth, c⟩ := C
  obtain ⟨len, hdg, -, hl9⟩ := lkp_spec htb hi9
  have e1 : len = 3 := hl9.resolve_right (by simp [instrLen])
  subst e1
  obtain ⟨⟨hx, hb, hml, hown, hts⟩, -, hWK, hB9, -⟩ := X
  obtain ⟨o0, rfl, l0, e0⟩ := layA_spec h0
  obtain ⟨o1, rfl, l1, e1⟩ := layA_spec h1
  have z0 : (nI 0).toNatClampNeg = 0 := nI31 (by decide)
  have zn : (nI n).toNatClampNeg = n := nI31 hb9
  intro H locs arr hS0 hS1 hl hlen
  refine va_copyi (D := eD E) (cl := wCl) (tys := eT E) hx hb (by rw [hml, ← hlen]; exact hl.1.1.symm) hown (hts _ hlink) (hts _ (wAt_in (i := 364) (by decide +kernel))) (hts _ (wAt_in (i := 363) (by decide +kernel))) (hts _ (wAt_in (i := 65) (by decide +kernel)))
    hWK.1.1 hS0.1 ww_D hS1 o0 o1 0 0 (ty := .int) (cel_arr l0 e0) (cel_arr l1 e1) rfl rfl rfl (by decide) (by decide) (nI_pos hb9) (by rw [z0, zn]; omega) (by rw [z0, zn]; omega) (fun _ _ => rfl) hd (by show _ + (7 + 11) ≤ 40 * d + 100; omega) hdg (fun H1 locs1 hP1 hD1 hS9 => ?_)
  rw [ww_set, z0, zn, cel_cpy l1 e1 hn hn1] at hP1
  exact kk H1 locs1 arr ⟨hP1, Nat.le_trans hB9 hS9.1, fun e9 => nomatch e9⟩ hS9 hl hlen
end JRC
