/-! ===== the class: Math.abs, Math.min, Math.max ===== -/
section MTH
variable {E : WE} {mi : MI} {C : CT} {d mc ms : Nat} {P : OC → ST → Prop} {pc : Nat} {ls : List (Option Value)} {rest : List Value} {s : ST}
theorem ini_math : Cond.initialized "java/lang/Math" ∈ wT := wAt_in (i := 66) (by decide +kernel)
theorem JM_abs (X : Cx E mi C) {tb : TB} {t idx : Nat} (htb : tbOk mi.2.1 tb = true) (hi9 : lkp tb pc = some (.invokestatic idx, t)) (hlink : Cond.methodLink mi.1.cls idx Lib.Math.abs.name ∈ wT) (hd : 1 ≤ d) (hcat : (rest.map fun v => v.category).sum ≤ 8) {x : Int32}
    (kk : JM E mi C d mc ms P (pc + 3) ls (.int (if 0 ≤ x then x else 0 - x) :: rest) s) : JM E mi C d mc ms P pc ls (.int x :: rest) s := by
  obtain ⟨p, e, s0, m, args, below, meth, c⟩ := C
  obtain ⟨len, hdg, -, hl9⟩ := lkp_spec htb hi9
  have e1 : len = 3 := hl9.resolve_right (by simp [instrLen])
  subst e1
  obtain ⟨⟨hx, hb, hml, hown, hts⟩, -⟩ := X
  intro H locs arr hS0 hS1 hl hlen
  exact va_mabs hx hb (by rw [hml, ← hlen]; exact hl.1.1.symm) hown (hts _ hlink) (hts _ (wAt_in (i := 408) (by decide +kernel))) (hts _ ini_math) (hts _ (wAt_in (i := 409) (by decide +kernel))) hd (by show _ ≤ 40 * d + 100; omega) (Nat.zero_le _) (Nat.zero_le _) hdg (kk H locs arr hS0 hS1 hl hlen)
theorem JM_min (X : Cx E mi C) {tb : TB} {t idx : Nat} (htb : tbOk mi.2.1 tb = true) (hi9 : lkp tb pc = some (.invokestatic idx, t)) (hlink : Cond.methodLink mi.1.cls idx Lib.Math.min.name ∈ wT) (hd : 1 ≤ d) (hcat : (rest.map fun v => v.category).sum ≤ 8) {x y : Int32}
    (kk : JM E mi C d mc ms P (pc + 3) ls (.int (if y < x then y else x) :: rest) s) : JM E mi C d mc ms P pc ls (.int y :: .int x :: rest) s := by
  obtain ⟨p, e, s0, m, args, below, meth, c⟩ := C
  obtain ⟨len, hdg, -, hl9⟩ := lkp_spec htb hi9
  have e1 : len = 3 := hl9.resolve_right (by simp [instrLen])
  subst e1
  obtain ⟨⟨hx, hb, hml, hown, hts⟩, -⟩ := X
  intro H locs arr hS0 hS1 hl hlen
  exact va_mmin hx hb (by rw [hml, ← hlen]; exact hl.1.1.symm) hown (hts _ hlink) (hts _ (wAt_in (i := 375) (by decide +kernel))) (hts _ ini_math) (hts _ (wAt_in (i := 376) (by decide +kernel))) hd (by show _ ≤ 40 * d + 100; omega) (Nat.zero_le _) (Nat.zero_le _) hdg (kk H locs arr hS0 hS1 hl hlen)
theorem JM_max (X : Cx E mi C) {tb : TB} {t idx : Nat} (htb : tbOk mi.2.1 tb = true) (hi9 : lkp tb pc = some (.invokestatic idx, t)) (hlink : Cond.methodLink mi.1.cls idx Lib.Math.max.name ∈ wT) (hd : 1 ≤ d) (hcat : (rest.map fun v => v.category).sum ≤ 8) {x y : Int32}
    (kk : JM E mi C d mc ms P (pc + 3) ls (.int (if x < y then y else x) :: rest) s) : JM E mi C d mc ms P pc ls (.int y :: .int x :: rest) s := by
  obtain ⟨p, e, s0, m, args, below, meth, c⟩ := C
  obtain ⟨len, hdg, -, hl9⟩ := lkp_spec htb hi9
  have e1 : len = 3 := hl9.resolve_right (by simp [instrLen])
  subst e1
  obtain ⟨⟨hx, hb, hml, hown, hts⟩, -⟩ := X
  intro H locs arr hS0 hS1 hl hlen
  exact va_mmax hx hb (by rw [hml, ← hlen]; exact hl.1.1.symm) hown (hts _ hlink) (hts _ (wAt_in (i := 460) (by decide +kernel))) (hts _ ini_math) (hts _ (wAt_in (i := 461) (by decide +kernel))) hd (by show _ ≤ 40 * d + 100; omega) (Nat.zero_le _) (Nat.zero_le _) hdg (kk H locs arr hS0 hS1 hl hlen)
end MTH
