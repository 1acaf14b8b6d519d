/-! ===== a block of the law's own instructions; its calls; the wrappers' contract ===== -/
def stepL (E : WE) (sc : SCR) (i : Instr) (t pc : Nat) (ls : List (Option Value)) (st : List Value) (s : ST) (Cn : KT) (K0 : Prop) : Prop := match i with
  | .iconst n => Cn (pc + 1) ls (.int (cI n) :: st) s
  | .bipush n => Cn (pc + 2) ls (.int (bI n) :: st) s
  | .iload j => xLdI j 2 pc ls st s Cn K0
  | .iload_n j => xLdI j.val 1 pc ls st s Cn K0
  | .aload j => xLdA j 2 pc ls st s Cn K0
  | .aload_n j => xLdA j.val 1 pc ls st s Cn K0
  | .istore j => xSt j 2 pc ls st s Cn K0
  | .istore_n j => xSt j.val 1 pc ls st s Cn K0
  | .astore j => xStA j 2 pc ls st s Cn K0
  | .astore_n j => xStA j.val 1 pc ls st s Cn K0
  | .iinc j n => xInc j n pc ls st s Cn K0
  | .iadd => xBin (fun x y => x + y) pc ls st s Cn K0
  | .isub => xBin (fun x y => x - y) pc ls st s Cn K0
  | .iand => xBin (fun x y => x &&& y) pc ls st s Cn K0
  | .i2c => xI2c pc ls st s Cn K0
  | .i2l => xI2l pc ls st s Cn K0
  | .lconst n => Cn (pc + 1) ls (.long (Int64.ofNat (n : Nat)) :: st) s
  | .lcmp => xLcmp pc ls st s Cn K0
  | .goto _ => Cn t ls st s
  | .ifCond op _ => xIf op t pc ls st s Cn K0
  | .if_icmp op _ => xCmp op t pc ls st s Cn K0
  | .iaload => xSld sc pc ls st s Cn K0
  | .arraylength => xSln sc pc ls st s Cn K0
  | .laload => xLld E pc ls st s Cn K0
  | .lastore => xLst E pc ls st s Cn K0
  | _ => K0
def goL (E : WE) (sc : SCR) (tb : TB) (stops : List Nat) (K : KT) : Nat → Nat → List (Option Value) → List Value → ST → Prop
  | 0, pc, ls, st, s => K pc ls st s
  | n + 1, pc, ls, st, s => match lkp tb pc with
    | some q => stepL E sc q.1 q.2 pc ls st s (fun pc' ls' st' s' => if pc' ∈ stops then K pc' ls' st' s' else goL E sc tb stops K n pc' ls' st' s') (K pc ls st s)
    | none => K pc ls st s
def ctL (E : WE) (sc : SCR) (tb : TB) (stops : List Nat) (K : KT) (n : Nat) : KT := fun pc ls st s => if pc ∈ stops then K pc ls st s else goL E sc tb stops K n pc ls st s
def gsL (E : WE) (sc : SCR) (tb : TB) (stops : List Nat) (K : KT) (n pc : Nat) (ls : List (Option Value)) (st : List Value) (s : ST) (x : Option (Instr × Nat)) : Prop := match x with
  | some q => stepL E sc q.1 q.2 pc ls st s (ctL E sc tb stops K n) (K pc ls st s)
  | none => K pc ls st s
section RUNL
variable {E : WE} {sc : SCR} {tb : TB} {stops : List Nat} {K : KT} {n pc : Nat} {ls : List (Option Value)} {st : List Value} {s : ST}
theorem goL_go : goL E sc tb stops K (n + 1) pc ls st s = gsL E sc tb stops K n pc ls st s (lkp tb pc) := rfl
theorem gsL_some {i : Instr} {t : Nat} : gsL E sc tb stops K n pc ls st s (some (i, t)) = stepL E sc i t pc ls st s (ctL E sc tb stops K n) (K pc ls st s) := rfl
theorem ctL_ctL : ctL E sc tb stops K n pc ls st s = if pc ∈ stops then K pc ls st s else goL E sc tb stops K n pc ls st s := rfl
end RUNL
section SNM
variable {E : WE} {cc : ByteArray} {nL : Nat} {sc : SCR} {C : LT} {k q : Nat}
theorem snl_step (X : CL E cc nL sc C) {i : Instr} {t len pc : Nat} {ls : List (Option Value)} {st : List Value} {s : ST} {Cn : KT} {K0 : Prop} (hdg : decode cc pc = .ok (i, len)) (ht : tgtOk i pc t = true)
    (h : stepL E sc i t pc ls st s Cn K0) (hC : ∀ pc ls st s, Cn pc ls st s → JL E nL C k q pc ls st s) (h0 : K0 → JL E nL C k q pc ls st s) (hlen : len = instrLen i ∨ instrLen i = 0) : JL E nL C k q pc ls st s := by
  by_cases hz : instrLen i = 0
  · cases i <;> first | exact h0 h | (exact absurd hz (by simp [instrLen]))
  have hlen2 : len = instrLen i := hlen.resolve_right hz
  subst hlen2
  clear hlen hz
  cases i with
  | iconst n => exact snl_push X ⟨n, hdg, rfl, rfl⟩ (hC _ _ _ _ h)
  | bipush n => exact snl_bpush X hdg (hC _ _ _ _ h)
  | iload j => exact snl_ldI X (Or.inl ⟨hdg, rfl⟩) h hC h0
  | iload_n j => exact snl_ldI X (Or.inr ⟨j, hdg, rfl, rfl⟩) h hC h0
  | aload j => exact snl_ldA X (Or.inl ⟨hdg, rfl⟩) h hC h0
  | aload_n j => exact snl_ldA X (Or.inr ⟨j, hdg, rfl, rfl⟩) h hC h0
  | istore j => exact snl_st X (Or.inl ⟨hdg, rfl⟩) h hC h0
  | istore_n j => exact snl_st X (Or.inr ⟨j, hdg, rfl, rfl⟩) h hC h0
  | astore j => exact snl_stA X (Or.inl ⟨hdg, rfl⟩) h hC h0
  | astore_n j => exact snl_stA X (Or.inr ⟨j, hdg, rfl, rfl⟩) h hC h0
  | iinc j n => exact snl_inc X hdg h hC h0
  | iadd => exact snl_bin X (fun p e s0 m args below meth c hx hb H locs arr R Q x y rest hw => lv_iadd hx hb hdg hw) h hC h0
  | isub => exact snl_bin X (fun p e s0 m args below meth c hx hb H locs arr R Q x y rest hw => lv_isub hx hb hdg hw) h hC h0
  | iand => exact snl_bin X (fun p e s0 m args below meth c hx hb H locs arr R Q x y rest hw => lv_iand hx hb hdg hw) h hC h0
  | i2c => exact snl_i2c X hdg h hC h0
  | i2l => exact snl_i2l X hdg h hC h0
  | lconst n => exact snl_lconst X hdg (hC _ _ _ _ h)
  | lcmp => exact snl_lcmp X hdg h hC h0
  | goto off => exact snl_goto X hdg (of_decide_eq_true ht) (hC _ _ _ _ h)
  | ifCond op off => exact snl_if X hdg (of_decide_eq_true ht) h hC h0
  | if_icmp op off => exact snl_cmp X hdg (of_decide_eq_true ht) h hC h0
  | iaload => exact snl_sld X hdg h hC h0
  | arraylength => exact snl_sln X hdg h hC h0
  | laload => exact snl_lld X hdg h hC h0
  | lastore => exact snl_lst X hdg h hC h0
  | _ => exact h0 h
theorem runL (X : CL E cc nL sc C) {tb : TB} (htb : tbOk cc tb = true) {K : KT} (hK : ∀ pc ls st s, K pc ls st s → JL E nL C k q pc ls st s) {stops : List Nat} :
    ∀ (n pc : Nat) (ls : List (Option Value)) (st : List Value) (s : ST), goL E sc tb stops K n pc ls st s → JL E nL C k q pc ls st s := by
  intro n
  induction n with
  | zero => intro pc ls st s h; exact hK _ _ _ _ h
  | succ n ih =>
    intro pc ls st s h
    unfold goL at h
    split at h
    · rename_i x hx9
      obtain ⟨i, t⟩ := x
      obtain ⟨len, hdg, ht, hlen⟩ := lkp_spec htb hx9
      refine snl_step X hdg ht h (fun pc' ls' st' s' h' => ?_) (fun h' => hK _ _ _ _ h') hlen
      split at h'
      · exact hK _ _ _ _ h'
      · exact ih _ _ _ _ h'
    · exact hK _ _ _ _ h
theorem goJ (X : CL E cc nL sc C) {tb : TB} (htb : tbOk cc tb = true) (n : Nat) (stops : List Nat) {pc : Nat} {ls : List (Option Value)} {st : List Value} {s : ST} (h : goL E sc tb stops (JL E nL C k q) n pc ls st s) : JL E nL C k q pc ls st s :=
  runL X htb (fun _ _ _ _ h => h) n pc ls st s h
theorem swLIn (X : CL E cc nL sc C) {tb : TB} {pc : Nat} {ls : List (Option Value)} {rest : List Value} {s : ST} {df lo hi : Int} {offs : Array Int} {t : Nat} (htb : tbOk cc tb = true) (hi9 : lkp tb pc = some (.tableswitch df lo hi offs, t)) (n : Nat) {off : Int} {tgt : Nat} (hc : n < 2 ^ 31 ∧ lo ≤ (n : Int) ∧ (n : Int) ≤ hi ∧ offs[((n : Int) - lo).toNat]? = some off ∧ (pc : Int) + off = (tgt : Int))
    (kk : JL E nL C k q tgt ls rest s) : JL E nL C k q pc ls (.int (nI n) :: rest) s := by
  obtain ⟨p, e, s0, m, args, below, meth, c, R, Q⟩ := C
  obtain ⟨len, hdg, -, -⟩ := lkp_spec htb hi9
  obtain ⟨⟨hx, hb, -⟩, -⟩ := X
  obtain ⟨h1, h2, h3, h4, h5⟩ := hc
  intro H locs arr hS0 hS1 hl hlen
  refine lv_tableIn hx hb hdg (by rw [nI_toInt h1]; omega) (by rw [nI_toInt h1]; omega) (by rw [nI_toInt h1]; exact h4) h5 (kk H locs arr hS0 hS1 hl hlen)
theorem swLOut (X : CL E cc nL sc C) {tb : TB} {pc : Nat} {ls : List (Option Value)} {rest : List Value} {s : ST} {df lo hi : Int} {offs : Array Int} {t : Nat} (htb : tbOk cc tb = true) (hi9 : lkp tb pc = some (.tableswitch df lo hi offs, t)) {n : Nat} {tgt : Nat} (hc : n < 2 ^ 31 ∧ hi < (n : Int) ∧ (pc : Int) + df = (tgt : Int))
    (kk : JL E nL C k q tgt ls rest s) : JL E nL C k q pc ls (.int (nI n) :: rest) s := by
  obtain ⟨p, e, s0, m, args, below, meth, c, R, Q⟩ := C
  obtain ⟨len, hdg, -, -⟩ := lkp_spec htb hi9
  obtain ⟨⟨hx, hb, -⟩, -⟩ := X
  obtain ⟨h1, h2, h5⟩ := hc
  intro H locs arr hS0 hS1 hl hlen
  exact lv_tableOut hx hb hdg (Or.inr (by rw [nI_toInt h1]; exact h2)) h5 (kk H locs arr hS0 hS1 hl hlen)
end SNM
section LCALL
variable {E : WE} {cc : ByteArray} {nL : Nat} {sc : SCR} {p : Program} {e : Env} {s0 : State} {m : MethodId} {args : Array Value} {below : List Frame} {meth : Method} {c : Code} {R : Room} {Q : State → Prop} {k q pc : Nat}
theorem hS.ww {A A' : AH} {n : Nat} {z : Bool} {H : Heap} (h : ww (eB E) n A = ww (eB E) n A') (hS0 : hS E A n z H) : hS E A' n z H := ⟨by rw [← h]; exact hS0.1, hS0.2⟩
theorem JL_call {H : Heap} {locs : List Loc} {arr : Array Slot} {st rest : List Value} {mc' ms' : Nat} {a : Array Value} {P' : OC → ST → Prop}
    (hr : vx_Run p (eL E) e R s0 m args below meth c H locs k q mc' ms' (F0 m pc arr st) rest (QcP E (PoC E P') a) (XcP E (PoC E P')) (eA E)) (hS1 : va_S (eA E) s0.heap H locs)
    (kk : ∀ (v : Option Value) (s' : ST) (H1 : Heap) (locs1 : List Loc), P' (.inl v) s' → hS E (cel E s') 622 false H1 → va_S (eA E) s0.heap H1 locs1 →
      W p (eL E) e R s0 m args below meth c H1 locs1 (k + mc') (q + ms') Q (F0 m (pc + 3) arr (v.toList ++ rest)))
    (kx : ∀ (Z : String) (s' : ST) (H1 : Heap) (locs1 : List Loc) (q9 : Addr) (ce : Cell), P' (.inr Z) s' → hS E (cel E s') 622 false H1 → va_S (eA E) s0.heap H1 locs1 → H1[q9]? = some ce → ce.vm = .none → s0.vm.findClass Z = some ce.cls →
      vx_W p (eL E) e R s0 m args below meth c H1 locs1 (k + mc') (q + ms') Q (F0 m pc arr rest) q9) :
    W p (eL E) e R s0 m args below meth c H locs k q Q (F0 m pc arr st) := by
  intro T hT Xs
  rcases hr T hT Xs with ⟨v, st₀, t, T', L, h0, X', hL, e1, e2, ⟨⟨v', A, n, z, hv, hp, hh⟩, hF⟩, go⟩ | ⟨q9, st₀, t, T', L, E', ce, h0, X', hL, e1, e2, ⟨⟨A, n, z, hp, hh⟩, hF⟩, hce, hcv, hcl, go⟩
  · cases hv
    obtain ⟨rfl, rfl, s', hw, hp⟩ := hp
    obtain ⟨k1, k2, k3⟩ := vx_keep h0 e1 hS1 (fun q _ h => h) (fun _ h => h) hL hF
    obtain ⟨t2, a1, b1⟩ := kk v s' T'.heap (locs ++ L) hp (by rw [e1]; exact hS.ww hw hh) k3 T' rfl X'
    exact ⟨t2, go t2 a1, b1⟩
  · obtain ⟨rfl, rfl, s', hw, hp⟩ := hp
    obtain ⟨k1, k2, k3⟩ := vx_keep h0 e1 hS1 (fun q _ h => h) (fun _ h => h) hL hF
    obtain ⟨t2, a1, b1⟩ := kx E' s' T'.heap (locs ++ L) q9 ce hp (by rw [e1]; exact hS.ww hw hh) k3 (by rw [e1]; exact hce) hcv hcl T' rfl X'
    exact ⟨t2, go.trans a1, b1⟩
theorem callL_w (hts : ∀ w ∈ wT, w.before args s0 = true) {mi' : MI} {nA idx d' mc' ms' : Nat} (hv : VOk mi' nA) (hlink : Cond.methodLink RL idx mi'.1 ∈ wT) (hd : d' + 1 ≤ R.frames ∧ 40 * d' + 140 ≤ R.locals) :
    CallB R s0 args RL idx mi'.1 mi'.2.1 mi'.2.2.1 mi'.2.2.2 (wsOf mi') (rmOf d' mc' ms') mc' ms' nA := by
  obtain ⟨h1, h2, h3, h4, -⟩ := hv
  refine callB_of (Ts := wT) (ws' := wT) nA hts (fun w hw => ?_) rfl rfl rfl (hts _ h1) (hts _ hlink) h3 ⟨hd.1, ?_⟩
  · rcases List.mem_cons.mp hw with e1 | e1
    · subst e1; exact ⟨h2, good_of_word (wT_good h2)⟩
    · exact ⟨e1, good_of_word (wT_good e1)⟩
  · show 8 + (mi'.2.2.1 + 11) + (40 * d' + 100) ≤ R.locals
    omega
theorem hrecvL {s0 : State} (hWK : WK E s0 s0.heap) {H : Heap} {A : AH} {n : Nat} {z : Bool} {b o ci : Nat} {fs : List Value} {C : String} (hS0 : hS E A n z H) (hb : b = eB E + o) (ho : o < n) (hA : A o = .inr (ci, fs)) (hC : (wCl[ci]?).map (fun r => r.1) = some C) :
    ∃ cellB : Cell, H[b]? = some cellB ∧ cellB.vm.isStatics = false ∧ s0.vm.findClass C = some cellB.cls := by
  cases hr : wCl[ci]? with
  | none => rw [hr] at hC; cases hC
  | some r =>
    rw [hr] at hC
    have e1 : r.1 = C := Option.some.inj hC
    subst e1; subst hb
    exact va_recv hWK.1.1 hS0.1 hr (q0 := o) (by rw [ww_get ho, hA])
theorem JL_runV (X : CL E cc nL sc (p, e, s0, m, args, below, meth, c, R, Q)) {mi' : MI} {nA idx d' mc' ms' b ci : Nat} {F : Nat → LV} {As rest st : List Value} {s : ST} {P' : OC → ST → Prop} (hSp : SpC E mi' d' mc' ms' (.ref b :: As) s P') (hv : IOk mi' nA) (hlink : Cond.methodLink RL idx mi'.1 ∈ wT)
    (hb : layA E b = some (.inl (ci, F))) (hC : (wCl[ci]?).map (fun r => r.1) = some mi'.1.cls) (hst : st = As.reverse ++ .ref b :: rest) (hn : As.length = nA) (hcat : (rest.map fun v => v.category).sum ≤ 8) (hd : d' + 1 ≤ R.frames ∧ 40 * d' + 140 ≤ R.locals) (hk : k + mc' ≤ R.cells) (hq : q + ms' ≤ R.slots) (hdg : decode cc pc = .ok (.invokevirtual idx, 3))
    {H : Heap} {locs : List Loc} {arr : Array Slot} {ls : List (Option Value)} (hS0 : hS E (cel E s) 622 false H) (hS1 : va_S (eA E) s0.heap H locs) (hl : lsOk arr ls) (hlen : ls.length = nL) :
    vx_Run p (eL E) e R s0 m args below meth c H locs k q mc' ms' (F0 m pc arr st) rest (QcP E (PoC E P') (Value.ref b :: As).toArray) (XcP E (PoC E P')) (eA E) := by
  obtain ⟨o, ho, ho2, hlay⟩ := layA_spec hb
  have hcell : cel E s o = .inr (ci, (List.range (nfOf ci)).map (fun k => lval s.1 (F k))) := by rw [cel_lo ho2, hlay]; rfl
  obtain ⟨⟨hx, hbb, hml, hown, hts⟩, -, hWK, -, hst9⟩ := X
  have cw : CallW R s0 args RL mi'.1.cls idx mi'.1 mi'.2.1 mi'.2.2.1 mi'.2.2.2 (wsOf mi') (rmOf d' mc' ms') mc' ms' nA := ⟨callL_w hts hv.1 hlink hd, hts _ hv.2.1, hts _ hv.2.2⟩
  exact vx_runV (nL := nL) (Ts := wT) ⟨hx, hbb, hml, hown, hts⟩ (hSp hst9) cw ⟨SpB.blind, hrecvL hWK hS0 ho (Nat.lt_of_lt_of_le ho2 (by decide)) hcell hC, fun U hU hW => ⟨rfl, SpB.at hS0 hWK hS1 hU hW⟩⟩ rfl hn (by show arr.size = _; rw [hl.size, hlen]) hst (by show 2 * 0 + _ ≤ 8; omega) hdg ⟨hk, hq⟩
end LCALL
/-- a virtual call that returns, from the law -/
theorem cVL {E : WE} {cc : ByteArray} {nL : Nat} {sc : SCR} {C : LT} {k q pc : Nat} {ls : List (Option Value)} {st : List Value} {s : ST} (X : CL E cc nL sc C) {mi' : MI} {nA idx d' mc' ms' b ci : Nat} {F : Nat → LV} {As rest : List Value} {P' : OC → ST → Prop} (hSp : SpC E mi' d' mc' ms' (.ref b :: As) s P') {tb : TB} (htb : tbOk cc tb = true) (hi : lkp tb pc = some (.invokevirtual idx, 0)) (hv : IOk mi' nA) (hlink : Cond.methodLink RL idx mi'.1 ∈ wT)
    (hb : layA E b = some (.inl (ci, F))) (hC : (wCl[ci]?).map (fun r => r.1) = some mi'.1.cls) (hst : st = As.reverse ++ .ref b :: rest) (hn : As.length = nA) (hcat : (rest.map fun v => v.category).sum ≤ 8)
    (hd : d' + 1 ≤ C.2.2.2.2.2.2.2.2.1.frames ∧ 40 * d' + 140 ≤ C.2.2.2.2.2.2.2.2.1.locals) (hk : k + mc' ≤ C.2.2.2.2.2.2.2.2.1.cells) (hq : q + ms' ≤ C.2.2.2.2.2.2.2.2.1.slots)
    (kx : ∀ (Z : String) (s' : ST), P' (.inr Z) s' → False)
    (kk : ∀ (v : Option Value) (s' : ST), P' (.inl v) s' → JL E nL C (k + mc') (q + ms') (pc + 3) ls (v.toList ++ rest) s') : JL E nL C k q pc ls st s := by
  obtain ⟨p, e, s0, m, args, below, meth, c, R, Q⟩ := C
  obtain ⟨len, hdg, -, hlen9⟩ := lkp_spec htb hi
  have e9 : len = 3 := hlen9.resolve_right (by simp [instrLen])
  subst e9
  intro H locs arr hS0 hS1 hl hlen
  exact JL_call (JL_runV X hSp hv hlink hb hC hst hn hcat hd hk hq hdg hS0 hS1 hl hlen) hS1 (fun v s' H1 locs1 hp g1 g2 => kk v s' hp H1 locs1 arr g1 g2 hl hlen) (fun Z s' _ _ _ _ hp _ _ _ _ _ => (kx Z s' hp).elim)
