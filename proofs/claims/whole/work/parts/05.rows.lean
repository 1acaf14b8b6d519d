/-! ===== rows of the judgement: calls, ends, throws ===== -/
def vOkB (mi : MI) (nA : Nat) (p2 p3 : Nat) : Bool :=
  wAt p2 (.initialized mi.1.cls) && wAt p3 (.code mi.1 mi.2.1 mi.2.2.1 mi.2.2.2) && (decide (mi.1.cls ≠ "java/lang/invoke/MethodHandle") && decide (mi.1.cls ≠ "java/lang/invoke/VarHandle") && decide ((parseMethodDescriptor mi.1.desc).map (fun d => d.parameters.length) = some nA)) && decide (mi.2.2.1 ≤ 20) && plainName mi.1.cls
def VOk (mi : MI) (nA : Nat) : Prop := Cond.initialized mi.1.cls ∈ wT ∧ Cond.code mi.1 mi.2.1 mi.2.2.1 mi.2.2.2 ∈ wT ∧
  (mi.1.cls ≠ "java/lang/invoke/MethodHandle" ∧ mi.1.cls ≠ "java/lang/invoke/VarHandle" ∧ (parseMethodDescriptor mi.1.desc).map (fun d => d.parameters.length) = some nA) ∧ mi.2.2.1 ≤ 20 ∧ plainName mi.1.cls = true
theorem VOk.of {mi : MI} {nA : Nat} (p2 p3 : Nat) (h : vOkB mi nA p2 p3 = true) : VOk mi nA := by
  simp only [vOkB, Bool.and_eq_true, decide_eq_true_eq] at h
  obtain ⟨⟨⟨⟨h1, h2⟩, ⟨h3, h4⟩, h5⟩, h6⟩, h7⟩ := h
  exact ⟨wAt_in h1, wAt_in h2, ⟨h3, h4, h5⟩, h6, h7⟩
def IOk (mi : MI) (nA : Nat) : Prop := VOk mi nA ∧ Cond.instanceMethod mi.1 ∈ wT ∧ Cond.selects mi.1.cls mi.1 mi.1 ∈ wT
theorem IOk.of {mi : MI} {nA : Nat} (p0 p1 p2 p3 : Nat) (h : vOkB mi nA p2 p3 = true) (h0 : (wAt p0 (.instanceMethod mi.1) && wAt p1 (.selects mi.1.cls mi.1 mi.1)) = true) : IOk mi nA := by
  simp only [Bool.and_eq_true] at h0
  exact ⟨VOk.of p2 p3 h, wAt_in h0.1, wAt_in h0.2⟩
def TOk (mi : MI) (nA : Nat) : Prop := VOk mi nA ∧ Cond.static mi.1 ∈ wT
theorem TOk.of {mi : MI} {nA : Nat} (p0 p2 p3 : Nat) (h : vOkB mi nA p2 p3 = true) (h0 : wAt p0 (.static mi.1) = true) : TOk mi nA := ⟨VOk.of p2 p3 h, wAt_in h0⟩
def NOk (mi : MI) (nA : Nat) : Prop := VOk mi nA ∧ Cond.instanceMethod mi.1 ∈ wT ∧ mi.1.name = "<init>" ∧ mi.2.2.2 = none
theorem NOk.of {mi : MI} {nA : Nat} (p0 p2 p3 : Nat) (h : vOkB mi nA p2 p3 = true) (h0 : wAt p0 (.instanceMethod mi.1) = true) (h1 : mi.1.name = "<init>") (h2 : mi.2.2.2 = none) : NOk mi nA := ⟨VOk.of p2 p3 h, wAt_in h0, h1, h2⟩
theorem SpB.blind {E : WE} {av : List Value} {A : AH} {n : Nat} {z : Bool} : FrameBlind (va_Pc av (SpB E A n z)) := by
  intro a U g mk h
  exact ⟨h.1, h.2.1, h.2.2.calling⟩
theorem SpB.at {E : WE} {A : AH} {n : Nat} {z : Bool} {s U : State} {H : Heap} {locs : List Loc} (hS0 : hS E A n z H) (hWK : WK E s s.heap) (hS1 : va_S (eA E) s.heap H locs) (hU : U.heap = H) (hW : s.WarmedH U.vm) : SpB E A n z U := by
  refine ⟨by rw [hU]; exact hS0, ?_⟩
  rw [hU]
  exact hWK.moved hW hS1.2.1
section ROWS
variable {E : WE} {mi : MI} {d mc ms : Nat} {P : PO} {p : Program} {e : Env} {s : State} {m : MethodId} {args : Array Value} {below : List Frame} {meth : Method} {c : Code}
theorem J_run (X : Cx E mi (p, e, s, m, args, below, meth, c)) {H : Heap} {locs : List Loc} {arr : Array Slot} {pc : Nat} {st rest : List Value} {k q mc' ms' : Nat} {a : Array Value} {P' : PO}
    (hr : vx_Run p (eL E) e (rmOf d mc ms) s m args below meth c H locs k q mc' ms' (F0 m pc arr st) rest (QcP E P' a) (XcP E P') (eA E)) (hS1 : va_S (eA E) s.heap H locs) (hk : k + mc' ≤ mc) (hq : q + ms' ≤ ms)
    (kk : ∀ (v : Option Value) (A : AH) (n : Nat) (z : Bool) (H1 : Heap) (locs1 : List Loc), P' (.inl v) A n z → hS E A n z H1 → va_S (eA E) s.heap H1 locs1 →
      W p (eL E) e (rmOf d mc ms) s m args below meth c H1 locs1 (k + mc') (q + ms') (vx_MQ below (QcP E P) (XcP E P) args s mc ms (eA E)) (F0 m (pc + 3) arr (v.toList ++ rest)))
    (kx : ∀ (Z : String) (A : AH) (n : Nat) (z : Bool), P' (.inr Z) A n z → P (.inr Z) A n z) :
    W p (eL E) e (rmOf d mc ms) s m args below meth c H locs k q (vx_MQ below (QcP E P) (XcP E P) args s mc ms (eA E)) (F0 m pc arr st) := by
  obtain ⟨-, ⟨-, hlocks, htab, -⟩, -⟩ := X
  intro T hT Xs
  rcases hr T hT Xs with ⟨v, st₀, t, T', L, h0, X', hL, e1, e2, ⟨⟨v', A, n, z, hv, hp, hh⟩, hF⟩, go⟩ | ⟨q9, st₀, t, T', L, E', ce, h0, X', hL, e1, e2, ⟨⟨A, n, z, hp, hh⟩, hF⟩, hce, hcv, hcl, go⟩
  · cases hv
    obtain ⟨k1, k2, k3⟩ := vx_keep h0 e1 hS1 (fun q _ h => h) (fun _ h => h) hL hF
    obtain ⟨t2, a1, b1⟩ := kk v A n z T'.heap (locs ++ L) hp (by rw [e1]; exact hh) k3 T' rfl X'
    exact ⟨t2, go t2 a1, b1⟩
  · obtain ⟨k1, k2, k3⟩ := vx_keep h0 e1 hS1 (fun q _ h => h) (fun _ h => h) hL hF
    obtain ⟨t2, a1, b1⟩ := vx_out (Qc := QcP E P) (XC := XcP E P) (mc := mc) (ms := ms) (free := eA E) (args := args) (s := s) (below := below) (p := p) (l := eL E) (e := e) (R := rmOf d mc ms) (H := T'.heap) (locs := locs ++ L) (pc := pc) (ls := arr) (rest := rest) (E := E') (ce := ce) (q := q9) (cells := k + mc') (slots := q + ms')
      (fun x hx => (htab x hx).elim) hlocks (by rw [e1]; exact hce) hcv hcl (fun t' ht' _ => ⟨⟨A, n, z, kx _ _ _ _ hp, by rw [ht', e1]; exact hh⟩, k3.F ht'⟩) k3.2.2 hk hq T' rfl X'
    exact ⟨t2, go.trans a1, b1⟩
theorem callB_w (X : Cx E mi (p, e, s, m, args, below, meth, c)) {mi' : MI} {nA idx d' mc' ms' : Nat} (hv : VOk mi' nA) (hlink : Cond.methodLink mi.1.cls idx mi'.1 ∈ wT) (hd : d' + 1 ≤ d) :
    CallB (rmOf d mc ms) s args mi.1.cls idx mi'.1 mi'.2.1 mi'.2.2.1 mi'.2.2.2 (wsOf mi') (rmOf d' mc' ms') mc' ms' nA := by
  obtain ⟨⟨-, -, -, -, hts⟩, -, -⟩ := X
  obtain ⟨h1, h2, h3, h4, -⟩ := hv
  refine callB_of (Ts := wT) (ws' := wT) nA hts (fun w hw => ?_) rfl rfl rfl (hts _ h1) (hts _ hlink) h3 ⟨hd, ?_⟩
  · rcases List.mem_cons.mp hw with e1 | e1
    · subst e1; exact ⟨h2, good_of_word (wT_good h2)⟩
    · exact ⟨e1, good_of_word (wT_good e1)⟩
  · show 8 + (mi'.2.2.1 + 11) + (40 * d' + 100) ≤ 40 * d + 100
    omega
theorem hrecv (X : Cx E mi (p, e, s, m, args, below, meth, c)) {H : Heap} {A : AH} {n : Nat} {z : Bool} {b o ci : Nat} {fs : List Value} {C : String} (hS0 : hS E A n z H) (hb : b = eB E + o) (ho : o < n) (hA : A o = .inr (ci, fs)) (hC : (wCl[ci]?).map (fun r => r.1) = some C) :
    ∃ cellB : Cell, H[b]? = some cellB ∧ cellB.vm.isStatics = false ∧ s.vm.findClass C = some cellB.cls := by
  obtain ⟨-, -, hWK, -, -⟩ := X
  cases hr : wCl[ci]? with
  | none => rw [hr] at hC; cases hC
  | some r =>
    rw [hr] at hC
    have e1 : r.1 = C := Option.some.inj hC
    subst e1; subst hb
    exact va_recv hWK.1.1 hS0.1 hr (q0 := o) (by rw [ww_get ho, hA])
end ROWS
section ROWJ
variable {E : WE} {mi : MI} {C : CT} {d mc ms : Nat} {P : PO} {pc : Nat} {ls : List (Option Value)} {A : AH} {n k q : Nat} {z : Bool}
theorem J_callV (X : Cx E mi C) {mi' : MI} {nA idx d' mc' ms' b : Nat} {As rest st : List Value} {P' : PO} (hSp : Sp E mi' d' mc' ms' (.ref b :: As) A n z P') (hv : IOk mi' nA) (hlink : Cond.methodLink mi.1.cls idx mi'.1 ∈ wT)
    {o ci : Nat} {fs : List Value} (hb : b = eB E + o) (ho : o < n) (hA : A o = .inr (ci, fs)) (hC : (wCl[ci]?).map (fun r => r.1) = some mi'.1.cls)
    (hst : st = As.reverse ++ .ref b :: rest) (hn : As.length = nA) (hcat : (rest.map fun v => v.category).sum ≤ 8) (hd : d' + 1 ≤ d) (hk : k + mc' ≤ mc) (hq : q + ms' ≤ ms) (hdg : decode mi.2.1 pc = .ok (.invokevirtual idx, 3))
    (kk : ∀ (v : Option Value) (A' : AH) (n' : Nat) (z' : Bool), P' (.inl v) A' n' z' → J E mi C d mc ms P (pc + 3) ls (v.toList ++ rest) A' n' z' (k + mc') (q + ms'))
    (kx : ∀ (Z : String) (A' : AH) (n' : Nat) (z' : Bool), P' (.inr Z) A' n' z' → P (.inr Z) A' n' z') : J E mi C d mc ms P pc ls st A n z k q := by
  obtain ⟨p, e, s, m, args, below, meth, c⟩ := C
  intro H locs arr hS0 hS1 hl hlen
  have X0 := X
  obtain ⟨⟨hx, hbb, hml, hown, hts⟩, -, hWK, -, hst9⟩ := X
  refine J_run X0 (mc' := mc') (ms' := ms') (rest := rest) (P' := P') (a := (Value.ref b :: As).toArray) ?_ hS1 hk hq (fun v A' n' z' H1 locs1 hp hh hs => kk v A' n' z' hp H1 locs1 arr hh hs hl hlen) kx
  have cw : CallW (rmOf d mc ms) s args mi.1.cls mi'.1.cls idx mi'.1 mi'.2.1 mi'.2.2.1 mi'.2.2.2 (wsOf mi') (rmOf d' mc' ms') mc' ms' nA := ⟨callB_w X0 hv.1 hlink hd, hts _ hv.2.1, hts _ hv.2.2⟩
  exact vx_runV (nL := mi.2.2.1) (Ts := wT) ⟨hx, hbb, hml, hown, hts⟩ (hSp hst9) cw ⟨SpB.blind, hrecv X0 hS0 hb ho hA hC, fun U hU hW => ⟨rfl, SpB.at hS0 hWK hS1 hU hW⟩⟩ rfl hn (by show arr.size = _; rw [hl.size, hlen]) hst (by show 2 * 0 + _ ≤ 8; omega) hdg ⟨hk, hq⟩
theorem J_callS (X : Cx E mi C) {mi' : MI} {nA idx d' mc' ms' : Nat} {As rest st : List Value} {P' : PO} (hSp : Sp E mi' d' mc' ms' As A n z P') (hv : TOk mi' nA) (hlink : Cond.methodLink mi.1.cls idx mi'.1 ∈ wT)
    (hst : st = As.reverse ++ rest) (hn : As.length = nA) (hcat : (rest.map fun v => v.category).sum ≤ 8) (hd : d' + 1 ≤ d) (hk : k + mc' ≤ mc) (hq : q + ms' ≤ ms) (hdg : decode mi.2.1 pc = .ok (.invokestatic idx, 3))
    (kk : ∀ (v : Option Value) (A' : AH) (n' : Nat) (z' : Bool), P' (.inl v) A' n' z' → J E mi C d mc ms P (pc + 3) ls (v.toList ++ rest) A' n' z' (k + mc') (q + ms'))
    (kx : ∀ (Z : String) (A' : AH) (n' : Nat) (z' : Bool), P' (.inr Z) A' n' z' → P (.inr Z) A' n' z') : J E mi C d mc ms P pc ls st A n z k q := by
  obtain ⟨p, e, s, m, args, below, meth, c⟩ := C
  intro H locs arr hS0 hS1 hl hlen
  have X0 := X
  obtain ⟨⟨hx, hbb, hml, hown, hts⟩, -, hWK, -, hst9⟩ := X
  refine J_run X0 (mc' := mc') (ms' := ms') (rest := rest) (P' := P') (a := As.toArray) ?_ hS1 hk hq (fun v A' n' z' H1 locs1 hp hh hs => kk v A' n' z' hp H1 locs1 arr hh hs hl hlen) kx
  exact vx_runS (nL := mi.2.2.1) (Ts := wT) ⟨hx, hbb, hml, hown, hts⟩ (hSp hst9) ⟨callB_w X0 hv.1 hlink hd, hts _ hv.2⟩ ⟨SpB.blind, fun U hU hW => ⟨rfl, SpB.at hS0 hWK hS1 hU hW⟩⟩ rfl hn (by show arr.size = _; rw [hl.size, hlen]) hst (by show 2 * 0 + _ ≤ 8; omega) hdg ⟨hk, hq⟩
theorem J_callI (X : Cx E mi C) {mi' : MI} {nA idx d' mc' ms' b : Nat} {As rest st : List Value} {P' : PO} (hSp : Sp E mi' d' mc' ms' (.ref b :: As) A n z P') (hv : NOk mi' nA) (hlink : Cond.methodLink mi.1.cls idx mi'.1 ∈ wT)
    (hst : st = As.reverse ++ .ref b :: rest) (hn : As.length = nA) (hcat : (rest.map fun v => v.category).sum ≤ 8) (hd : d' + 1 ≤ d) (hk : k + mc' ≤ mc) (hq : q + ms' ≤ ms) (hdg : decode mi.2.1 pc = .ok (.invokespecial idx, 3))
    (kk : ∀ (v : Option Value) (A' : AH) (n' : Nat) (z' : Bool), P' (.inl v) A' n' z' → J E mi C d mc ms P (pc + 3) ls (v.toList ++ rest) A' n' z' (k + mc') (q + ms'))
    (kx : ∀ (Z : String) (A' : AH) (n' : Nat) (z' : Bool), P' (.inr Z) A' n' z' → P (.inr Z) A' n' z') : J E mi C d mc ms P pc ls st A n z k q := by
  obtain ⟨p, e, s, m, args, below, meth, c⟩ := C
  intro H locs arr hS0 hS1 hl hlen
  have X0 := X
  obtain ⟨⟨hx, hbb, hml, hown, hts⟩, -, hWK, -, hst9⟩ := X
  refine J_run X0 (mc' := mc') (ms' := ms') (rest := rest) (P' := P') (a := (Value.ref b :: As).toArray) ?_ hS1 hk hq (fun v A' n' z' H1 locs1 hp hh hs => kk v A' n' z' hp H1 locs1 arr hh hs hl hlen) kx
  have cb := callB_w (d := d) (mc := mc) (ms := ms) (d' := d') (mc' := mc') (ms' := ms') X0 hv.1 hlink hd
  rw [hv.2.2.2] at cb
  exact vx_runI (nL := mi.2.2.1) (Ts := wT) ⟨hx, hbb, hml, hown, hts⟩ (hSp hst9) ⟨cb, hv.2.2.1, hts _ hv.2.1⟩ ⟨SpB.blind, fun U hU hW => ⟨rfl, SpB.at hS0 hWK hS1 hU hW⟩⟩ rfl hn (by show arr.size = _; rw [hl.size, hlen]) hst (by show 2 * 0 + _ ≤ 8; omega) hdg ⟨hk, hq⟩
theorem va_CN_w {p : Program} {e : Env} {s : State} {m : MethodId} {args : Array Value} {below : List Frame} {meth : Method} {c : Code} (X : Cx E mi (p, e, s, m, args, below, meth, c)) {mi' : MI} {nA idx d' mc' ms' : Nat} {host : String} (hv : VOk mi' nA) (hlink : (mi.1.cls, idx, mi'.1, host) ∈ nestWs) (hd : d' + 1 ≤ d) :
    va_CN (rmOf d mc ms) s args mi.1.cls idx mi'.1 host mi'.2.1 mi'.2.2.1 mi'.2.2.2 (wsOf mi') (rmOf d' mc' ms') mc' ms' nA := by
  obtain ⟨⟨-, -, -, -, hts⟩, -, hWK, -, -⟩ := X
  obtain ⟨h1, h2, h3, h4, -⟩ := hv
  refine va_cnB (Ts := wT) (ws' := wT) nA hts (fun w hw => ?_) rfl rfl rfl (hWK.1.2.1 _ hlink) (hts _ h1) h3 ⟨hd, ?_⟩
  · rcases List.mem_cons.mp hw with e1 | e1
    · subst e1; exact ⟨h2, good_of_word (wT_good h2)⟩
    · exact ⟨e1, good_of_word (wT_good e1)⟩
  · show 8 + (mi'.2.2.1 + 11) + (40 * d' + 100) ≤ 40 * d + 100
    omega
/-- a private static method of the nest's host -/
theorem J_callSN (X : Cx E mi C) {mi' : MI} {nA idx d' mc' ms' : Nat} {host : String} {As rest st : List Value} {P' : PO} (hSp : Sp E mi' d' mc' ms' As A n z P') (hv : TOk mi' nA) (hlink : (mi.1.cls, idx, mi'.1, host) ∈ nestWs)
    (hst : st = As.reverse ++ rest) (hn : As.length = nA) (hcat : (rest.map fun v => v.category).sum ≤ 8) (hd : d' + 1 ≤ d) (hk : k + mc' ≤ mc) (hq : q + ms' ≤ ms) (hdg : decode mi.2.1 pc = .ok (.invokestatic idx, 3))
    (kk : ∀ (v : Option Value) (A' : AH) (n' : Nat) (z' : Bool), P' (.inl v) A' n' z' → J E mi C d mc ms P (pc + 3) ls (v.toList ++ rest) A' n' z' (k + mc') (q + ms'))
    (kx : ∀ (Z : String) (A' : AH) (n' : Nat) (z' : Bool), P' (.inr Z) A' n' z' → P (.inr Z) A' n' z') : J E mi C d mc ms P pc ls st A n z k q := by
  obtain ⟨p, e, s, m, args, below, meth, c⟩ := C
  intro H locs arr hS0 hS1 hl hlen
  have X0 := X
  obtain ⟨⟨hx, hbb, hml, hown, hts⟩, -, hWK, -, hst9⟩ := X
  refine J_run X0 (mc' := mc') (ms' := ms') (rest := rest) (P' := P') (a := As.toArray) ?_ hS1 hk hq (fun v A' n' z' H1 locs1 hp hh hs => kk v A' n' z' hp H1 locs1 arr hh hs hl hlen) kx
  exact vx_runSN (nL := mi.2.2.1) (Ts := wT) ⟨hx, hbb, hml, hown, hts⟩ (hSp hst9) ⟨va_CN_w X0 hv.1 hlink hd, hts _ hv.2, trivial⟩ ⟨SpB.blind, fun U hU hW => ⟨rfl, SpB.at hS0 hWK hS1 hU hW⟩⟩ rfl hn (by show arr.size = _; rw [hl.size, hlen]) hst (by show 2 * 0 + _ ≤ 8; omega) hdg ⟨hk, hq⟩
/-- a private constructor of a nest mate -/
theorem J_callIN (X : Cx E mi C) {mi' : MI} {nA idx d' mc' ms' b : Nat} {host : String} {As rest st : List Value} {P' : PO} (hSp : Sp E mi' d' mc' ms' (.ref b :: As) A n z P') (hv : NOk mi' nA) (hlink : (mi.1.cls, idx, mi'.1, host) ∈ nestWs)
    (hst : st = As.reverse ++ .ref b :: rest) (hn : As.length = nA) (hcat : (rest.map fun v => v.category).sum ≤ 8) (hd : d' + 1 ≤ d) (hk : k + mc' ≤ mc) (hq : q + ms' ≤ ms) (hdg : decode mi.2.1 pc = .ok (.invokespecial idx, 3))
    (kk : ∀ (v : Option Value) (A' : AH) (n' : Nat) (z' : Bool), P' (.inl v) A' n' z' → J E mi C d mc ms P (pc + 3) ls (v.toList ++ rest) A' n' z' (k + mc') (q + ms'))
    (kx : ∀ (Z : String) (A' : AH) (n' : Nat) (z' : Bool), P' (.inr Z) A' n' z' → P (.inr Z) A' n' z') : J E mi C d mc ms P pc ls st A n z k q := by
  obtain ⟨p, e, s, m, args, below, meth, c⟩ := C
  intro H locs arr hS0 hS1 hl hlen
  have X0 := X
  obtain ⟨⟨hx, hbb, hml, hown, hts⟩, -, hWK, -, hst9⟩ := X
  refine J_run X0 (mc' := mc') (ms' := ms') (rest := rest) (P' := P') (a := (Value.ref b :: As).toArray) ?_ hS1 hk hq (fun v A' n' z' H1 locs1 hp hh hs => kk v A' n' z' hp H1 locs1 arr hh hs hl hlen) kx
  have cb := va_CN_w (d := d) (mc := mc) (ms := ms) (d' := d') (mc' := mc') (ms' := ms') X0 hv.1 hlink hd
  rw [hv.2.2.2] at cb
  exact vx_runIN (nL := mi.2.2.1) (Ts := wT) ⟨hx, hbb, hml, hown, hts⟩ (hSp hst9) ⟨cb, hv.2.2.1, hts _ hv.2.1⟩ ⟨SpB.blind, fun U hU hW => ⟨rfl, SpB.at hS0 hWK hS1 hU hW⟩⟩ rfl hn (by show arr.size = _; rw [hl.size, hlen]) hst (by show 2 * 0 + _ ≤ 8; omega) hdg ⟨hk, hq⟩
end ROWJ
