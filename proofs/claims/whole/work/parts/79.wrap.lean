/-! ===== the wrappers of the law: called, caught, returned ===== -/
abbrev HT : Type := List (Nat × Nat × Nat × Nat)
def SpW (E : WE) (mi : MI) (hh : HT) (d : Nat) (av : List Value) (s : ST) (P : OC → ST → Prop) : Prop :=
  (eL E).stackTraces = false → vx_Met (eL E) mi.1 (Cond.codeWith mi.1 mi.2.1 mi.2.2.1 mi.2.2.2 hh :: wT) (rmOf d 1 6) (va_Pc av (SpB E (cel E s) 622 false)) (QcP E (PoC E P)) (XcP E (PoC E P)) 1 6 (eA E)
abbrev wC (E : WE) (d : Nat) (P : OC → ST → Prop) (p : Program) (e : Env) (s0 : State) (m : MethodId) (args : Array Value) (below : List Frame) (meth : Method) (c : Code) : LT :=
  (p, e, s0, m, args, below, meth, c, rmOf d 1 6, vx_MQ below (QcP E (PoC E P)) (XcP E (PoC E P)) args s0 1 6 (eA E))
set_option maxHeartbeats 2000000 in
theorem SpW.mk {E : WE} {mi : MI} {hh : HT} {d : Nat} {av : List Value} {s : ST} {P : OC → ST → Prop} (hy : plainName mi.1.cls = true) (hown : mi.1.cls = RL) (hc : ∀ v ∈ av, v.category = 1) (hlen : av.length ≤ mi.2.2.1)
    (k : ∀ (p : Program) (e : Env) (s0 : State) (m : MethodId) (args : Array Value) (below : List Frame) (meth : Method) (c : Code), CL E mi.2.1 mi.2.2.1 none (wC E d P p e s0 m args below meth c) → c.exceptionTable.toList = tableOf hh → meth.sig.returnType = mi.2.2.2 →
      JL E mi.2.2.1 (wC E d P p e s0 m args below meth c) 0 0 0 (entL av mi.2.2.1) [] s) : SpW E mi hh d av s P := by
  intro hl
  obtain ⟨y, bytes, maxL, ret⟩ := mi
  refine vx_ofWH (cc := bytes) (maxL := maxL) (ret := ret) (hh := hh) hy rfl ?_
  intro p e s0 m args below meth c s₁ B hml hv
  obtain ⟨rfl, hS0, hWK⟩ := hv
  have hts : ∀ w ∈ Cond.codeWith y bytes maxL ret hh :: wT, w.before av.toArray s0 = true := atoms_spec (ws := Cond.codeWith y bytes maxL ret hh :: wT) B.pre
  have hown2 : s0.vm.findClass RL = some m.cls := by rw [← hown]; exact findClass_of_methodNamed B.named
  have hX : CL E bytes maxL none (wC E d P p e s0 m av.toArray below meth c) := ⟨⟨B.exec, B.bytes, hml, hown2, fun w hw => hts w (List.mem_cons_of_mem _ hw)⟩, ⟨B.notSynchronized, fun b L xs h => nomatch h⟩, hWK, hS0.2.1, hl⟩
  have K := k p e s0 m av.toArray below meth c hX (vx_table (x := y) B (hts _ List.mem_cons_self)) B.returns s0.heap [] ((lg_sl av ++ List.replicate (maxL - (lg_sl av).length) Slot.unset).toArray) hS0 va_S.rf
  have hlen' : av.length ≤ maxL := hlen
  have e1 : (entL av maxL).length = maxL := by simp [entL]; omega
  have hl := lv_entry av (n := maxL) (by rw [lg_sl_cat1 av hc]; exact hlen')
  have hok : lsOk ((lg_sl av ++ List.replicate (maxL - (lg_sl av).length) Slot.unset).toArray) (entL av maxL) := by
    refine ⟨?_, ?_⟩
    · rw [e1, entL, lsAll_app, ← lv_args_cat1 av 0 hc]
      exact hl
    · intro v hv
      simp only [entL, List.mem_append, List.mem_map, List.mem_replicate] at hv
      rcases hv with ⟨w, hw, e⟩ | ⟨-, e⟩
      · cases e; exact hc _ hw
      · cases e
  rw [lg_entry_eq]
  exact K hok e1
theorem kl_13 : Cond.classLink RL 13 wIAE ∈ wT := wAt_in (i := 487) (by decide +kernel)
theorem kl_15 : Cond.classLink RL 15 wISE ∈ wT := wAt_in (i := 488) (by decide +kernel)
theorem kl_21 : Cond.classLink RL 21 wIOB ∈ wT := wAt_in (i := 591) (by decide +kernel)
theorem kl_42 : Cond.classLink RL 42 wNSE ∈ wT := wAt_in (i := 701) (by decide +kernel)
theorem kl_80 : Cond.classLink RL 80 wUOE ∈ wT := wAt_in (i := 870) (by decide +kernel)
theorem kl_98 : Cond.classLink RL 98 wARE ∈ wT := wAt_in (i := 953) (by decide +kernel)
/-- Z is caught at pc by the handler at hp, no earlier row fits it -/
def catchW (hh : HT) (pc : Nat) (Z : String) (hp : Nat) : Prop := ∃ (pre : HT) (a b t : Nat) (suf : HT), hh = pre ++ (a, b, hp, t) :: suf ∧ (a ≤ pc ∧ pc < b) ∧ t ≠ 0 ∧ Cond.classLink RL t Z ∈ wT ∧ Z ∈ wXs ∧
  ∀ z ∈ pre, z.2.2.2 ≠ 0 ∧ ∃ nm, nm ∈ wXs ∧ Z ≠ nm ∧ Cond.classLink RL z.2.2.2 nm ∈ wT
theorem catch1 {a b hp t pc : Nat} {suf : HT} {Z : String} (h1 : a ≤ pc ∧ pc < b ∧ t ≠ 0) (hl : Cond.classLink RL t Z ∈ wT) (hz : Z ∈ wXs) : catchW ((a, b, hp, t) :: suf) pc Z hp :=
  ⟨[], a, b, t, suf, rfl, ⟨h1.1, h1.2.1⟩, h1.2.2, hl, hz, fun _ h => absurd h List.not_mem_nil⟩
theorem catchS {x : Nat × Nat × Nat × Nat} {hh : HT} {hp pc : Nat} {Z nm : String} (h : catchW hh pc Z hp) (ht : x.2.2.2 ≠ 0) (hl : Cond.classLink RL x.2.2.2 nm ∈ wT) (hm : nm ∈ wXs) (hn : Z ≠ nm) : catchW (x :: hh) pc Z hp := by
  obtain ⟨pre, a, b, t, suf, rfl, h1, h2, h3, h4, h5⟩ := h
  refine ⟨x :: pre, a, b, t, suf, rfl, h1, h2, h3, h4, fun z hz => ?_⟩
  rcases List.mem_cons.mp hz with e | hz
  · subst e; exact ⟨ht, nm, hm, hn, hl⟩
  · exact h5 z hz
section WRP
variable {E : WE} {cc : ByteArray} {nL d : Nat} {P : OC → ST → Prop} {p : Program} {e : Env} {s0 : State} {m : MethodId} {args : Array Value} {below : List Frame} {meth : Method} {c : Code} {pc : Nat} {ls : List (Option Value)} {st rest : List Value} {s : ST}
theorem JL_iret {k q : Nat} (X : CL E cc nL none (wC E d P p e s0 m args below meth c)) {tb : TB} (htb : tbOk cc tb = true) (hi : lkp tb pc = some (.ireturn, 0)) (hr : meth.sig.returnType = some .int) {v : Int32} (hP : P (.inl (some (.int v))) s) (hk : k ≤ 1) (hq : q ≤ 6) :
    JL E nL (wC E d P p e s0 m args below meth c) k q pc ls [.int v] s := by
  obtain ⟨len, hdg, -, hlen9⟩ := lkp_spec htb hi
  have e9 : len = 1 := hlen9.resolve_right (by simp [instrLen])
  subst e9
  obtain ⟨⟨hx, hbb, -⟩, ⟨hlocks, -⟩, -⟩ := X
  intro H locs arr hS0 hS1 hl hlen
  refine vx_ret (W.widen hk hq ?_)
  exact W.iret hx hbb hr (fun t ht hW => ⟨⟨_, _, _, _, rfl, ⟨rfl, rfl, s, rfl, hP⟩, by rw [ht]; exact hS0⟩, hS1.F ht⟩) hS1.2.2 hdg
theorem tableOf_app {a b : HT} : tableOf (a ++ b) = tableOf a ++ tableOf b := List.map_append
theorem JL_callC (X : CL E cc nL none (wC E d P p e s0 m args below meth c)) {mi' : MI} {nA idx d' : Nat} {As : List Value} {P' : OC → ST → Prop} (hSp : SpC E mi' d' 1 6 (.ref (aF E 0) :: As) s P') {tb : TB} (htb : tbOk cc tb = true) (hi : lkp tb pc = some (.invokevirtual idx, 0)) (hv : IOk mi' nA) (hlink : Cond.methodLink RL idx mi'.1 ∈ wT)
    (hcls : mi'.1.cls = RX8) (hst : st = As.reverse ++ .ref (aF E 0) :: rest) (hn : As.length = nA) (hcat : (rest.map fun v => v.category).sum ≤ 8) (hd : d' + 1 ≤ d) {hh : HT} (htab : c.exceptionTable.toList = tableOf hh)
    (kk : ∀ (v : Option Value) (s' : ST), P' (.inl v) s' → JL E nL (wC E d P p e s0 m args below meth c) 1 6 (pc + 3) ls (v.toList ++ rest) s')
    (kx : ∀ (Z : String) (s' : ST), P' (.inr Z) s' → ∃ hp, catchW hh pc Z hp ∧ ∀ qa, JL E nL (wC E d P p e s0 m args below meth c) 1 6 hp ls [.ref qa] s') :
    JL E nL (wC E d P p e s0 m args below meth c) 0 0 pc ls st s := by
  obtain ⟨len, hdg, -, hlen9⟩ := lkp_spec htb hi
  have e9 : len = 3 := hlen9.resolve_right (by simp [instrLen])
  subst e9
  intro H locs arr hS0 hS1 hl hlen
  refine JL_call (JL_runV X hSp hv hlink lA_0 (by rw [hcls]; rfl) hst hn hcat ⟨hd, by show 40 * d' + 140 ≤ 40 * d + 100; omega⟩ (by show 0 + 1 ≤ 1; omega) (by show 0 + 6 ≤ 6; omega) hdg hS0 hS1 hl hlen) hS1
    (fun v s' H1 locs1 hp g1 g2 => kk v s' hp H1 locs1 arr g1 g2 hl hlen) (fun Z s' H1 locs1 q9 ce hp g1 g2 hce hcv hcl => ?_)
  obtain ⟨hp9, ⟨pre, a, b, t, suf, hhe, hab, ht0, hkl, hZ, hpre⟩, hJ⟩ := kx Z s' hp
  obtain ⟨⟨hx, hbb, hml, hown, hts⟩, -, ⟨⟨-, -, hca, -⟩, -, hnc, -⟩, -, -⟩ := X
  refine vx_catch (own := RL) (name := Z) hown (tableOf pre) ⟨a, b, hp9, t⟩ (tableOf suf) (by rw [htab, hhe, tableOf_app]; rfl) (fun z hz => Or.inr ?_) (by simp [covers]; omega) ht0 (hts _ hkl) (va_Nw.use rfl (hca Z hZ)) hce hcv hcl (hJ q9 H1 locs1 arr g1 g2 hl hlen)
  obtain ⟨z0, hz0, rfl⟩ := List.mem_map.mp hz
  obtain ⟨h1, nm, h2, h3, h4⟩ := hpre z0 hz0
  exact ⟨h1, nm, hts _ h4, hnc Z hZ nm h2 h3⟩
end WRP
/-- behind a wrapper: it says what was thrown; what was answered lies in the long -/
def PW (s : ST) (o : OR) : OC → ST → Prop := fun oc s' => oc = .inl (some (.int o.2.2)) ∧ ((∀ r, 20 ≤ r → s'.1 r = s.1 r) ∧ s'.2.2 = s.2.2) ∧ AbsC s' o.1 ∧ (o.2.2 = nI 0 → s'.2.1 0 = o.2.1.toInt64)
theorem PW.ret {s s' : ST} {o : OR} (h : PC s o.1 s') : PW s o (.inl (some (.int o.2.2))) (sLo s' o.2.1.toInt64) := by
  refine ⟨rfl, ⟨h.1.2, by show s'.2.2 = s.2.2; rw [h.1.1]⟩, h.2, fun _ => ?_⟩
  simp [sLo, vp_updL]
theorem PW.thr {s s' : ST} {o : OR} {t : Nat} (h : PC s o.1 s') (ht : o.2.2 = nI (t + 1)) (hb : t < 1000) : PW s o (.inl (some (.int (nI (t + 1))))) s' := by
  refine ⟨by rw [ht], ⟨h.1.2, by rw [h.1.1]⟩, h.2, fun e => ?_⟩
  rw [ht, nI_inj (by omega) (by decide)] at e
  omega
/-- a wrapper's contract, out of the call's, and of what stands around it -/
theorem PW_mk {E : WE} {mi : MI} {hh : HT} {d d' : Nat} {av As : List Value} {s : ST} {o : OR} {exs : List String} {mi' : MI} {nA idx pv pe : Nat} {ls : List (Option Value)} {tb : TB} (hy : plainName mi.1.cls = true ∧ mi.1.cls = RL ∧ mi.2.2.2 = some .int) (hc : av.all (fun v => v.category == 1) = true) (hlen : av.length ≤ mi.2.2.1) (hls : entL av mi.2.2.1 = ls)
    (hSp : SpT E mi' d' (.ref (aF E 0) :: As) s exs o) (ht : ∃ t, t ≤ exs.length ∧ t ≤ 3 ∧ o.2.2 = nI t) (htb : tbOk mi.2.1 tb = true) (hi : lkp tb pv = some (.invokevirtual idx, 0)) (hie : lkp tb pe = some (.ireturn, 0)) (hv : IOk mi' nA) (hlink : Cond.methodLink RL idx mi'.1 ∈ wT) (hcls : mi'.1.cls = RX8) (hn : As.length = nA) (hd : d' + 1 ≤ d)
    (hpre : ∀ C, CL E mi.2.1 mi.2.2.1 none C → JL E mi.2.2.1 C 0 0 pv ls (As.reverse ++ .ref (aF E 0) :: [.int (nI 0), .ref (aF E 620)]) s → JL E mi.2.2.1 C 0 0 0 ls [] s)
    (hpost : ∀ C s', CL E mi.2.1 mi.2.2.1 none C → JL E mi.2.2.1 C 1 6 pe ls [.int (nI 0)] (sLo s' o.2.1.toInt64) → JL E mi.2.2.1 C 1 6 (pv + 3) ls [.int o.2.1, .int (nI 0), .ref (aF E 620)] s')
    (hx : ∀ ix, ix < exs.length → ∃ hp pr, catchW hh pv (exs.getD ix "") hp ∧ lkp tb pr = some (.ireturn, 0) ∧ ∀ C s' qa, ∃ ls', CL E mi.2.1 mi.2.2.1 none C → JL E mi.2.2.1 C 1 6 pr ls' [.int (nI (ix + 1))] s' → JL E mi.2.2.1 C 1 6 hp ls [.ref qa] s') :
    SpW E mi hh d av s (PW s o) := by
  refine SpW.mk hy.1 hy.2.1 (fun v hv => by have := List.all_eq_true.mp hc v hv; simpa using this) hlen (fun p e s0 m args below meth c X htab hret => ?_)
  rw [hls]
  refine hpre _ X ?_
  refine JL_callC X hSp htb hi hv hlink hcls rfl hn (by show 1 + (1 + 0) ≤ 8; omega) hd htab (fun v s' hp => ?_) (fun Z s' hp => ?_)
  · obtain ⟨h1, h2⟩ := hp
    unfold outT at h1
    split at h1
    · rename_i e0
      cases h1
      refine hpost _ s' X (JL_iret X htb hie (hret.trans hy.2.2) ?_ (Nat.le_refl 1) (Nat.le_refl 6))
      have := PW.ret (s := s) h2
      rw [e0] at this
      exact this
    · cases h1
  · obtain ⟨h1, h2⟩ := hp
    unfold outT at h1
    split at h1
    · cases h1
    · rename_i e0
      obtain ⟨t, ht1, ht3, ht2⟩ := ht
      obtain ⟨ix, rfl⟩ : ∃ ix, t = ix + 1 := ⟨t - 1, by
        have : ¬ t = 0 := fun e => e0 (by rw [ht2, e])
        omega⟩
      have hz : Z = exs.getD ix "" := by
        have := Sum.inr.inj h1
        rw [ht2, nx_nI (by omega)] at this
        exact this
      obtain ⟨hp, pr, g1, g2, g3⟩ := hx ix (by omega)
      refine ⟨hp, hz ▸ g1, fun qa => ?_⟩
      obtain ⟨ls', g4⟩ := g3 (wC E d (PW s o) p e s0 m args below meth c) s' qa
      exact g4 X (JL_iret X htb g2 (hret.trans hy.2.2) (PW.thr h2 ht2 (by omega)) (Nat.le_refl 1) (Nat.le_refl 6))
theorem zIAE : wIAE ∈ wXs := List.mem_of_getElem? (i := 0) rfl
theorem zISE : wISE ∈ wXs := List.mem_of_getElem? (i := 1) rfl
theorem zIOB : wIOB ∈ wXs := List.mem_of_getElem? (i := 2) rfl
theorem zNSE : wNSE ∈ wXs := List.mem_of_getElem? (i := 3) rfl
theorem zUOE : wUOE ∈ wXs := List.mem_of_getElem? (i := 4) rfl
theorem zARE : wARE ∈ wXs := List.mem_of_getElem? (i := 5) rfl
theorem tIn {n t : Nat} {x : Int32} (h : x = nI t) (h2 : t ≤ n) (h3 : t ≤ 3) : ∃ t, t ≤ n ∧ t ≤ 3 ∧ x = nI t := ⟨t, h2, h3, h⟩
theorem t_opt2 {a : AS} {v : Option Int32} : ∃ t, t ≤ 2 ∧ t ≤ 3 ∧ (opt2 a v).2.2 = nI t := by
  cases v
  · exact ⟨2, by decide, by decide, rfl⟩
  · exact ⟨0, by decide, by decide, rfl⟩
theorem t_opt1 {a : AS} {v : Option Int32} : ∃ t, t ≤ 1 ∧ t ≤ 3 ∧ (opt1 a v).2.2 = nI t := by
  cases v
  · exact ⟨1, by decide, by decide, rfl⟩
  · exact ⟨0, by decide, by decide, rfl⟩
