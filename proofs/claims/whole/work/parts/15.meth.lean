/-! ===== methods over the table of numbers ===== -/
def PoC (E : WE) (P : OC → ST → Prop) : PO := fun o A n z => n = 622 ∧ z = false ∧ ∃ s' : ST, ww (eB E) 622 A = ww (eB E) 622 (cel E s') ∧ P o s'
/-- called with av where the numbers are s, the method ends in P -/
def SpC (E : WE) (mi : MI) (d mc ms : Nat) (av : List Value) (s : ST) (P : OC → ST → Prop) : Prop := Sp E mi d mc ms av (cel E s) 622 false (PoC E P)
/-- .. it returns v, the numbers are t then -/
def SpR (E : WE) (mi : MI) (d : Nat) (av : List Value) (s : ST) (v : Option Value) (t : ST) : Prop := SpC E mi d 0 0 av s (fun o s' => o = .inl v ∧ s' = t)
/-- .. it throws Z -/
def SpX (E : WE) (mi : MI) (d : Nat) (av : List Value) (s : ST) (Z : String) (t : ST) : Prop := SpC E mi d 1 6 av s (fun o s' => o = .inr Z ∧ s' = t)
def JM (E : WE) (mi : MI) (C : CT) (d mc ms : Nat) (P : OC → ST → Prop) : KT := fun pc ls st s => J2 E mi C d mc ms P 0 0 pc ls st s
theorem SpC.mk {E : WE} {mi : MI} {nA d mc ms : Nat} {av : List Value} {s : ST} {P : OC → ST → Prop} (hy : VOk mi nA) (hc : ∀ v ∈ av, v.category = 1) (hlen : av.length ≤ mi.2.2.1)
    (k : ∀ C : CT, Cx E mi C → JM E mi C d mc ms P 0 (entL av mi.2.2.1) [] s) : SpC E mi d mc ms av s P := Sp.mk hy.2.2.2.2 hc hlen k
section MET
variable {E : WE} {mi : MI} {C : CT} {d mc ms : Nat} {P : OC → ST → Prop} {pc : Nat} {ls : List (Option Value)} {st : List Value} {s : ST}
theorem run (X : Cx E mi C) {L : List (Nat × Nat × Nat × Nat)} (hL : L.all (flOk mi.1.cls) = true) {rt : Option FieldType} (hrt : mi.2.2.2 = rt) {tb : TB} (htb : tbOk mi.2.1 tb = true) (n : Nat) (stops : List Nat)
    (h : go E tb (flk L) rt (fun v s => P (.inl v) s) stops (JM E mi C d mc ms P) n pc ls st s) : JM E mi C d mc ms P pc ls st s :=
  go_sound X hL hrt ⟨Nat.zero_le _, Nat.zero_le _⟩ (fun _ _ h => h) htb (fun _ _ _ _ h => h) n pc ls st s h
theorem JM.ww {s' : ST} (h : ww (eB E) 622 (cel E s) = ww (eB E) 622 (cel E s')) (hJ : JM E mi C d mc ms P pc ls st s') : JM E mi C d mc ms P pc ls st s := J_ww h hJ
theorem JM_callV (X : Cx E mi C) {mi' : MI} {nA idx d' mc' ms' b ci : Nat} {F : Nat → LV} {As rest : List Value} {P' : OC → ST → Prop} (hSp : SpC E mi' d' mc' ms' (.ref b :: As) s P') (hv : IOk mi' nA) (hlink : Cond.methodLink mi.1.cls idx mi'.1 ∈ wT)
    (hb : layA E b = some (.inl (ci, F))) (hC : (wCl[ci]?).map (fun r => r.1) = some mi'.1.cls)
    (hst : st = As.reverse ++ .ref b :: rest) (hn : As.length = nA) (hcat : (rest.map fun v => v.category).sum ≤ 8) (hd : d' + 1 ≤ d) (hk : 0 + mc' ≤ mc) (hq : 0 + ms' ≤ ms) (hdg : decode mi.2.1 pc = .ok (.invokevirtual idx, 3))
    (kk : ∀ (v : Option Value) (s' : ST), P' (.inl v) s' → J2 E mi C d mc ms P (0 + mc') (0 + ms') (pc + 3) ls (v.toList ++ rest) s')
    (kx : ∀ (Z : String) (s' : ST), P' (.inr Z) s' → P (.inr Z) s') : JM E mi C d mc ms P pc ls st s := by
  obtain ⟨o, ho, ho2, hl⟩ := layA_spec hb
  have hcell : cel E s o = .inr (ci, (List.range (nfOf ci)).map (fun k => lval s.1 (F k))) := by rw [cel_lo ho2, hl]; rfl
  refine J_callV X hSp hv hlink ho (Nat.lt_of_lt_of_le ho2 (by decide)) hcell hC hst hn hcat hd hk hq hdg (fun v A' n' z' hp => ?_) (fun Z A' n' z' hp => ?_)
  · obtain ⟨rfl, rfl, s', hw, hp⟩ := hp
    exact J_ww hw (kk v s' hp)
  · obtain ⟨rfl, rfl, s', hw, hp⟩ := hp
    exact ⟨rfl, rfl, s', hw, kx _ _ hp⟩
theorem JM_callS (X : Cx E mi C) {mi' : MI} {nA idx d' mc' ms' : Nat} {As rest : List Value} {P' : OC → ST → Prop} (hSp : SpC E mi' d' mc' ms' As s P') (hv : TOk mi' nA) (hlink : Cond.methodLink mi.1.cls idx mi'.1 ∈ wT)
    (hst : st = As.reverse ++ rest) (hn : As.length = nA) (hcat : (rest.map fun v => v.category).sum ≤ 8) (hd : d' + 1 ≤ d) (hk : 0 + mc' ≤ mc) (hq : 0 + ms' ≤ ms) (hdg : decode mi.2.1 pc = .ok (.invokestatic idx, 3))
    (kk : ∀ (v : Option Value) (s' : ST), P' (.inl v) s' → J2 E mi C d mc ms P (0 + mc') (0 + ms') (pc + 3) ls (v.toList ++ rest) s')
    (kx : ∀ (Z : String) (s' : ST), P' (.inr Z) s' → P (.inr Z) s') : JM E mi C d mc ms P pc ls st s := by
  refine J_callS X hSp hv hlink hst hn hcat hd hk hq hdg (fun v A' n' z' hp => ?_) (fun Z A' n' z' hp => ?_)
  · obtain ⟨rfl, rfl, s', hw, hp⟩ := hp
    exact J_ww hw (kk v s' hp)
  · obtain ⟨rfl, rfl, s', hw, hp⟩ := hp
    exact ⟨rfl, rfl, s', hw, kx _ _ hp⟩
theorem JM_callSN (X : Cx E mi C) {mi' : MI} {nA idx d' mc' ms' : Nat} {host : String} {As rest : List Value} {P' : OC → ST → Prop} (hSp : SpC E mi' d' mc' ms' As s P') (hv : TOk mi' nA) (hlink : (mi.1.cls, idx, mi'.1, host) ∈ nestWs)
    (hst : st = As.reverse ++ rest) (hn : As.length = nA) (hcat : (rest.map fun v => v.category).sum ≤ 8) (hd : d' + 1 ≤ d) (hk : 0 + mc' ≤ mc) (hq : 0 + ms' ≤ ms) (hdg : decode mi.2.1 pc = .ok (.invokestatic idx, 3))
    (kk : ∀ (v : Option Value) (s' : ST), P' (.inl v) s' → J2 E mi C d mc ms P (0 + mc') (0 + ms') (pc + 3) ls (v.toList ++ rest) s')
    (kx : ∀ (Z : String) (s' : ST), P' (.inr Z) s' → P (.inr Z) s') : JM E mi C d mc ms P pc ls st s := by
  refine J_callSN X hSp hv hlink hst hn hcat hd hk hq hdg (fun v A' n' z' hp => ?_) (fun Z A' n' z' hp => ?_)
  · obtain ⟨rfl, rfl, s', hw, hp⟩ := hp
    exact J_ww hw (kk v s' hp)
  · obtain ⟨rfl, rfl, s', hw, hp⟩ := hp
    exact ⟨rfl, rfl, s', hw, kx _ _ hp⟩
/-- a virtual call that returns -/
theorem cV (X : Cx E mi C) {mi' : MI} {nA idx d' b ci : Nat} {F : Nat → LV} {As rest : List Value} {v : Option Value} {s' : ST} {tb : TB} (htb : tbOk mi.2.1 tb = true) (hi : lkp tb pc = some (.invokevirtual idx, 0)) (hSp : SpR E mi' d' (.ref b :: As) s v s') (hv : IOk mi' nA) (hlink : Cond.methodLink mi.1.cls idx mi'.1 ∈ wT)
    (hb : layA E b = some (.inl (ci, F))) (hC : (wCl[ci]?).map (fun r => r.1) = some mi'.1.cls)
    (hst : st = As.reverse ++ .ref b :: rest) (hn : As.length = nA) (hcat : (rest.map fun v => v.category).sum ≤ 8) (hd : d' + 1 ≤ d)
    (kk : JM E mi C d mc ms P (pc + 3) ls (v.toList ++ rest) s') : JM E mi C d mc ms P pc ls st s := by
  obtain ⟨len, hdg, -, hlen⟩ := lkp_spec htb hi
  have e : len = 3 := hlen.resolve_right (by simp [instrLen])
  subst e
  exact JM_callV X hSp hv hlink hb hC hst hn hcat hd (Nat.zero_le _) (Nat.zero_le _) hdg (fun v' t h => by obtain ⟨e1, rfl⟩ := h; cases e1; exact kk) (fun Z t h => by cases h.1)
/-- a virtual call that throws -/
theorem cVX (X : Cx E mi C) {mi' : MI} {nA idx d' b ci : Nat} {F : Nat → LV} {As rest : List Value} {Z : String} {s' : ST} {tb : TB} (htb : tbOk mi.2.1 tb = true) (hi : lkp tb pc = some (.invokevirtual idx, 0)) (hSp : SpX E mi' d' (.ref b :: As) s Z s') (hv : IOk mi' nA) (hlink : Cond.methodLink mi.1.cls idx mi'.1 ∈ wT)
    (hb : layA E b = some (.inl (ci, F))) (hC : (wCl[ci]?).map (fun r => r.1) = some mi'.1.cls)
    (hst : st = As.reverse ++ .ref b :: rest) (hn : As.length = nA) (hcat : (rest.map fun v => v.category).sum ≤ 8) (hd : d' + 1 ≤ d)
    (kk : P (.inr Z) s') : JM E mi C d 1 6 P pc ls st s := by
  obtain ⟨len, hdg, -, hlen⟩ := lkp_spec htb hi
  have e : len = 3 := hlen.resolve_right (by simp [instrLen])
  subst e
  exact JM_callV X hSp hv hlink hb hC hst hn hcat hd (Nat.le_refl _) (Nat.le_refl _) hdg (fun v' t h => by cases h.1) (fun Z t h => by obtain ⟨e1, rfl⟩ := h; cases e1; exact kk)
theorem cS (X : Cx E mi C) {mi' : MI} {nA idx d' : Nat} {As rest : List Value} {v : Option Value} {s' : ST} {tb : TB} (htb : tbOk mi.2.1 tb = true) (hi : lkp tb pc = some (.invokestatic idx, 0)) (hSp : SpR E mi' d' As s v s') (hv : TOk mi' nA) (hlink : Cond.methodLink mi.1.cls idx mi'.1 ∈ wT)
    (hst : st = As.reverse ++ rest) (hn : As.length = nA) (hcat : (rest.map fun v => v.category).sum ≤ 8) (hd : d' + 1 ≤ d)
    (kk : JM E mi C d mc ms P (pc + 3) ls (v.toList ++ rest) s') : JM E mi C d mc ms P pc ls st s := by
  obtain ⟨len, hdg, -, hlen⟩ := lkp_spec htb hi
  have e : len = 3 := hlen.resolve_right (by simp [instrLen])
  subst e
  exact JM_callS X hSp hv hlink hst hn hcat hd (Nat.zero_le _) (Nat.zero_le _) hdg (fun v' t h => by obtain ⟨e1, rfl⟩ := h; cases e1; exact kk) (fun Z t h => by cases h.1)
theorem cSX (X : Cx E mi C) {mi' : MI} {nA idx d' : Nat} {As rest : List Value} {Z : String} {s' : ST} {tb : TB} (htb : tbOk mi.2.1 tb = true) (hi : lkp tb pc = some (.invokestatic idx, 0)) (hSp : SpX E mi' d' As s Z s') (hv : TOk mi' nA) (hlink : Cond.methodLink mi.1.cls idx mi'.1 ∈ wT)
    (hst : st = As.reverse ++ rest) (hn : As.length = nA) (hcat : (rest.map fun v => v.category).sum ≤ 8) (hd : d' + 1 ≤ d)
    (kk : P (.inr Z) s') : JM E mi C d 1 6 P pc ls st s := by
  obtain ⟨len, hdg, -, hlen⟩ := lkp_spec htb hi
  have e : len = 3 := hlen.resolve_right (by simp [instrLen])
  subst e
  exact JM_callS X hSp hv hlink hst hn hcat hd (Nat.le_refl _) (Nat.le_refl _) hdg (fun v' t h => by cases h.1) (fun Z t h => by obtain ⟨e1, rfl⟩ := h; cases e1; exact kk)
theorem cSN (X : Cx E mi C) {mi' : MI} {nA idx d' : Nat} {host : String} {As rest : List Value} {v : Option Value} {s' : ST} {tb : TB} (htb : tbOk mi.2.1 tb = true) (hi : lkp tb pc = some (.invokestatic idx, 0)) (hSp : SpR E mi' d' As s v s') (hv : TOk mi' nA) (hlink : (mi.1.cls, idx, mi'.1, host) ∈ nestWs)
    (hst : st = As.reverse ++ rest) (hn : As.length = nA) (hcat : (rest.map fun v => v.category).sum ≤ 8) (hd : d' + 1 ≤ d)
    (kk : JM E mi C d mc ms P (pc + 3) ls (v.toList ++ rest) s') : JM E mi C d mc ms P pc ls st s := by
  obtain ⟨len, hdg, -, hlen⟩ := lkp_spec htb hi
  have e : len = 3 := hlen.resolve_right (by simp [instrLen])
  subst e
  exact JM_callSN X hSp hv hlink hst hn hcat hd (Nat.zero_le _) (Nat.zero_le _) hdg (fun v' t h => by obtain ⟨e1, rfl⟩ := h; cases e1; exact kk) (fun Z t h => by cases h.1)
end MET
/-- a method's contract, from its entry -/
theorem SpC.of {E : WE} {mi : MI} {nA d mc ms : Nat} {av : List Value} {s : ST} {P : OC → ST → Prop} (hy : VOk mi nA) (hc : av.all (fun v => v.category == 1) = true) (hlen : av.length ≤ mi.2.2.1) (ls : List (Option Value)) (hls : entL av mi.2.2.1 = ls)
    (k : ∀ C : CT, Cx E mi C → JM E mi C d mc ms P 0 ls [] s) : SpC E mi d mc ms av s P :=
  SpC.mk hy (fun v hv => by have := List.all_eq_true.mp hc v hv; simpa using this) hlen (fun C X => by rw [hls]; exact k C X)
/-- what comes behind an instruction, and an instruction that was looked up: named, so that a block is read off from the left -/
def ctn (E : WE) (tb : TB) (fl : Nat → Option (Nat × Nat)) (rt : Option FieldType) (Rt : Option Value → ST → Prop) (stops : List Nat) (K : KT) (n : Nat) : KT := fun pc ls st s => if pc ∈ stops then K pc ls st s else go E tb fl rt Rt stops K n pc ls st s
def gos (E : WE) (tb : TB) (fl : Nat → Option (Nat × Nat)) (rt : Option FieldType) (Rt : Option Value → ST → Prop) (stops : List Nat) (K : KT) (n pc : Nat) (ls : List (Option Value)) (st : List Value) (s : ST) (x : Option (Instr × Nat)) : Prop := match x with
  | some q => step E fl rt Rt q.1 q.2 pc ls st s (ctn E tb fl rt Rt stops K n) (K pc ls st s)
  | none => K pc ls st s
section RUNS
variable {E : WE} {tb : TB} {fl : Nat → Option (Nat × Nat)} {rt : Option FieldType} {Rt : Option Value → ST → Prop} {stops : List Nat} {K : KT} {n pc : Nat} {ls : List (Option Value)} {st : List Value} {s : ST}
theorem go_go : go E tb fl rt Rt stops K (n + 1) pc ls st s = gos E tb fl rt Rt stops K n pc ls st s (lkp tb pc) := rfl
theorem go_0 : go E tb fl rt Rt stops K 0 pc ls st s = K pc ls st s := rfl
theorem gos_some {i : Instr} {t : Nat} : gos E tb fl rt Rt stops K n pc ls st s (some (i, t)) = step E fl rt Rt i t pc ls st s (ctn E tb fl rt Rt stops K n) (K pc ls st s) := rfl
theorem gos_none : gos E tb fl rt Rt stops K n pc ls st s none = K pc ls st s := rfl
theorem ctn_ctn : ctn E tb fl rt Rt stops K n pc ls st s = if pc ∈ stops then K pc ls st s else go E tb fl rt Rt stops K n pc ls st s := rfl
end RUNS
theorem fv0 : ((0 : Fin 4) : Nat) = 0 := rfl
theorem fv1 : ((1 : Fin 4) : Nat) = 1 := rfl
theorem fv2 : ((2 : Fin 4) : Nat) = 2 := rfl
theorem fv3 : ((3 : Fin 4) : Nat) = 3 := rfl
theorem SpR.of {E : WE} {mi : MI} {nA d : Nat} {av : List Value} {s t : ST} {v : Option Value} (hy : VOk mi nA) (ls : List (Option Value)) (hc : av.all (fun v => v.category == 1) = true) (hlen : av.length ≤ mi.2.2.1) (hls : entL av mi.2.2.1 = ls)
    (k : ∀ (C : CT) (P : OC → ST → Prop), Cx E mi C → P (.inl v) t → JM E mi C d 0 0 P 0 ls [] s) : SpR E mi d av s v t :=
  SpC.of hy hc hlen ls hls (fun C X => k C _ X ⟨rfl, rfl⟩)
theorem SpX.of {E : WE} {mi : MI} {nA d : Nat} {av : List Value} {s t : ST} {Z : String} (hy : VOk mi nA) (ls : List (Option Value)) (hc : av.all (fun v => v.category == 1) = true) (hlen : av.length ≤ mi.2.2.1) (hls : entL av mi.2.2.1 = ls)
    (k : ∀ (C : CT) (P : OC → ST → Prop), Cx E mi C → P (.inr Z) t → JM E mi C d 1 6 P 0 ls [] s) : SpX E mi d av s Z t :=
  SpC.of hy hc hlen ls hls (fun C X => k C _ X ⟨rfl, rfl⟩)
