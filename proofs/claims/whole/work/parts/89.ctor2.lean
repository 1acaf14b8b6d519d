/-! ===== rows of the constructors: fields, arrays of references ===== -/
section CTS
variable {E : WE} {mi : MI} {C : CT} {d mc ms : Nat} {P : PO} {tb : TB} {pc : Nat} {ls : List (Option Value)} {st : List Value} {A : AH} {n k q : Nat} {z : Bool}
theorem j_put (X : Cx E mi C) (htb : tbOk mi.2.1 tb = true) {idx ci kf : Nat} {r : vw_C} (hi9 : lkp tb pc = some (.putfield idx, 0)) (hc : wCl[ci]? = some r) (hk9 : kf < r.2.2) (hlink : Cond.fieldLink mi.1.cls idx (r.2.1 kf).1 (r.2.1 kf).2.1 (r.2.1 kf).2.2.1 ∈ wT)
    (hf : (r.2.1 kf).2.2.2 = false ∨ ((r.2.1 kf).2.2.2 = true ∧ mi.1.name = "<init>" ∧ (r.2.1 kf).1 = mi.1.cls)) {o : Nat} (ho : o < n) {fs : List Value} (hA : A o = .inr (ci, fs)) {v : Value} (hn : narrow (tyOf ci kf) v = v) (hfit : fits (tyOf ci kf) v = true) (hl9 : kf < fs.length)
    (kk : J E mi C d mc ms P (pc + 3) ls st (va_up A o (.inr (ci, fs.set kf v))) n z k q) : J E mi C d mc ms P pc ls (v :: .ref (eB E + o) :: st) A n z k q := by
  obtain ⟨p, e, s0, m, args, below, meth, c⟩ := C
  obtain ⟨⟨hx, hb, hml, hown, hts⟩, ⟨-, -, -, hname⟩, hWK, hB9, -⟩ := X
  intro H locs arr hS0 hS1 hl hlen
  obtain ⟨cn, T, N⟩ := r
  have he : (ww (eB E) n A)[o]? = some (eB E + o, .inr (ci, fs)) := by rw [ww_get ho, hA]
  have hK := hWK.1.1
  have hd := tyOf_ok hc kf hk9
  have hap := va_apart (own := mi.1.cls) (D := eD E) (tys := eT E) hts (inCn hc) (tyOf ci) (tyOf_ok hc) (nmOf_ok hc) hK hc
  obtain ⟨r', h1, cell, q1, q2, q3, q4⟩ := hS0.1 o _ he
  have hr : r' = (cn, T, N) := Option.some.inj (h1.symm.trans hc)
  subst hr
  obtain ⟨hS, hfc, kC, hkC, hkind⟩ := hK.1 ci _ hc
  obtain ⟨cf, kf', fi, f, hi, hsl⟩ := hS kf hk9
  have hlay := hts _ (inCn hc _ (u_in_lay hk9))
  have hst := (u_facts hfc hkC (u_lays hts (inCn hc) hk9) hi).1
  unfold u_lay at hlay
  rcases hf with hf | ⟨hf, hin2, hdecl⟩
  · rw [if_neg (by rw [hf]; decide)] at hlay
    have h6 := u_store hfc hkC hkind hlay hi hd hn hfit
    refine W.putK hx hb (f := f) ⟨hown, hts _ hlink, ⟨_, _, _, hi⟩, hst⟩ (by rw [q2]; exact h6) q1 q3 (by rw [hsl]; exact k2_hasslot (q4 kf hk9)) rfl rfl (lkd htb hi9 (by simp [instrLen])) fun H' e1 e2 e3 => ?_
    rw [hsl] at e1 ⊢
    refine kk H' _ arr (hS_set ho hB9 (hS0.1.set ww_D he ⟨_, hc, t_OB.to (V := updV (vp_V fs) kf v) ⟨_, e1, q2, q3, t_set q4 hap hk9 v⟩ (fun j _ => vp_updV_set hl9 v j)⟩ e3) (hS1.put (k := 0) e2 e3 (ww_D.2 o _ he)) (fun hz => e2.trans (hS0.2.2 hz))) (hS1.put e2 e3 (ww_D.2 o _ he)) hl hlen
  · rw [if_pos hf] at hlay
    have hcf : m.cls = cf := by
      obtain ⟨_, _, c', _, _, _, -, -, hf', -, -, -, hown2, -⟩ := Cond.laysFinal_spec hlay
      have e1 : c' = cf := by have := hi.symm.trans hf'; simp at this; exact this.1.symm
      rw [hdecl] at hown2
      rw [← e1]; exact Option.some.inj (hown.symm.trans hown2)
    have h6 := u_fits hfc hkC hkind (Or.inr hlay) hi hd hn hfit
    refine W.putFinK hx hb hown (hts _ hlink) hi hst hcf (hname.trans hin2) (by rw [q2]; exact h6) q1 q3 (by rw [hsl]; exact k2_hasslot (q4 kf hk9)) rfl rfl (lkd htb hi9 (by simp [instrLen])) fun H' e1 e2 e3 => ?_
    rw [hsl] at e1 ⊢
    refine kk H' _ arr (hS_set ho hB9 (hS0.1.set ww_D he ⟨_, hc, t_OB.to (V := updV (vp_V fs) kf v) ⟨_, e1, q2, q3, t_set q4 hap hk9 v⟩ (fun j _ => vp_updV_set hl9 v j)⟩ e3) (hS1.put (k := 0) e2 e3 (ww_D.2 o _ he)) (fun hz => e2.trans (hS0.2.2 hz))) (hS1.put e2 e3 (ww_D.2 o _ he)) hl hlen
theorem j_astq (X : Cx E mi C) (htb : tbOk mi.2.1 tb = true) (hi9 : lkp tb pc = some (.aastore, 0)) {t o ov ci N j : Nat} {r : vw_C} {vs : List Value} {f : Nat → Option Nat} (ho : o < n) (hA : A o = .inl (eC E t, N, .inr (.inr (.inr (.inr f))))) (ht : (eT E)[t]? = some (eC E t, .object r.1)) (hov : ov < n) (hV : A ov = .inr (ci, vs)) (hc : wCl[ci]? = some r) (hj : j < N) (hj2 : N < 2 ^ 31)
    (kk : J E mi C d mc ms P (pc + 1) ls st (va_up A o (.inl (eC E t, N, .inr (.inr (.inr (.inr (va_up f j (some (eB E + ov))))))))) n z k q) : J E mi C d mc ms P pc ls (.ref (eB E + ov) :: .int (nI j) :: .ref (eB E + o) :: st) A n z k q := by
  obtain ⟨p, e, s0, m, args, below, meth, c⟩ := C
  obtain ⟨⟨hx, hb, hml, hown, hts⟩, -, hWK, hB9, -⟩ := X
  intro H locs arr hS0 hS1 hl hlen
  have ha : (ww (eB E) n A)[o]? = some (eB E + o, .inl (eC E t, N, .inr (.inr (.inr (.inr f))))) := by rw [ww_get ho, hA]
  have hv : (ww (eB E) n A)[ov]? = some (eB E + ov, .inr (ci, vs)) := by rw [ww_get hov, hV]
  have hK := hWK.1.1
  have ej : (nI j).toNatClampNeg = j := nI31 (by omega)
  have hin : vp_in (nI j) N := vp_in_nI hj hj2
  have hlt : (nI j).toNatClampNeg < N := by rw [ej]; exact hj
  have h0 : ¬ nI j < 0 := fun q => hin (Or.inl q)
  obtain ⟨r', hr', cellV, g1, g2, g3, -⟩ := hS0.1 ov _ hv
  have hcls := (hK.1 ci r hc).2
  obtain ⟨kA, comp, k1, k2, k3, -⟩ := (hK.2 t _ ht).2
  have hcomp : comp = (eD E).1 ci := Option.some.inj (k3.symm.trans hcls.1)
  subst hcomp
  obtain ⟨kC, hkC, -⟩ := hcls.2
  refine W.aast hx hb (hS0.1 o _ ha) (fun q h => by cases h) (fun h => by cases h) k1 k2 rfl hkC ⟨h0, by show _ < (arrV _ _ _).slots.size; rw [arrV_size]; exact hlt⟩ g1 (fun q h => by rw [g3] at h; cases h) (by rw [g2]; exact hkC) (by rw [g2]; exact va_assign hcls) rfl rfl (lkd htb hi9 (by simp [instrLen])) fun H1 e z9 oq => ?_
  refine kk H1 _ arr (hS_set ho hB9 (hS0.1.set ww_D ha ?_ oq) (hS1.put (k := 0) z9 oq (ww_D.2 o _ ha)) (fun hz => z9.trans (hS0.2.2 hz))) (hS1.put z9 oq (ww_D.2 o _ ha)) hl hlen
  show H1[eB E + o]? = some (vp_cell _ _)
  rw [e]
  rw [vp_cell_q, vp_cell_q, arrV_store]
  congr 2
  funext q
  rw [ej]
  by_cases hq : q = j
  · subst hq
    simp [updV, va_up, va_rf]
  · simp [updV, va_up, hq]
theorem j_get (X : Cx E mi C) {L : List (Nat × Nat × Nat × Nat)} (hL : L.all (flOk mi.1.cls) = true) (htb : tbOk mi.2.1 tb = true) {idx ci kf : Nat} (hi9 : lkp tb pc = some (.getfield idx, 0)) (hfl : flk L idx = some (ci, kf)) {o : Nat} (ho : o < n) {fs : List Value} (hA : A o = .inr (ci, fs)) {v : Value} (hv : fs[kf]? = some v)
    (kk : J E mi C d mc ms P (pc + 3) ls (v :: st) A n z k q) : J E mi C d mc ms P pc ls (.ref (eB E + o) :: st) A n z k q := by
  obtain ⟨r, hc, hk9, hlink⟩ := flk_spec hL hfl
  obtain ⟨p, e, s0, m, args, below, meth, c⟩ := C
  obtain ⟨⟨hx, hb, hml, hown, hts⟩, -, hWK, hB9, -⟩ := X
  intro H locs arr hS0 hS1 hl hlen
  have he : (ww (eB E) n A)[o]? = some (eB E + o, .inr (ci, fs)) := by rw [ww_get ho, hA]
  exact va_get (D := eD E) (cl := wCl) (tys := eT E) (C := r.1) (T := r.2.1) (N := r.2.2) (ref := (r.2.1 kf).1) hx hb hts (inCn hc) hown hWK.1.1 hS0.1 o he hc kf hk9 (hts _ hlink) (fun _ h9 => h9) hv (lkd htb hi9 (by simp [instrLen])) (kk H locs arr hS0 hS1 hl hlen)
end CTS
