/-! ===== what is known of the machine at the start ===== -/
theorem tbI {w : Cond} (i : Nat) (h : lw_tbl[i]? = some w) : w ∈ lw_tbl := List.mem_of_getElem? h
theorem instW {c : Nat} {q : vw_C} (h : wCl[c]? = some q) : Cond.instantiable q.1 q.2.2 ∈ wT := by
  have hl : c < 9 := (List.getElem?_eq_some_iff.mp h).1
  rcases (show c = 0 ∨ c = 1 ∨ c = 2 ∨ c = 3 ∨ c = 4 ∨ c = 5 ∨ c = 6 ∨ c = 7 ∨ c = 8 by omega) with rfl | rfl | rfl | rfl | rfl | rfl | rfl | rfl | rfl <;> cases h
  · exact wAt_in (i := 253) (by decide +kernel)
  · exact wAt_in (i := 131) (by decide +kernel)
  · exact wAt_in (i := 275) (by decide +kernel)
  · exact wAt_in (i := 84) (by decide +kernel)
  · exact wAt_in (i := 233) (by decide +kernel)
  · exact wAt_in (i := 189) (by decide +kernel)
  · exact wAt_in (i := 91) (by decide +kernel)
  · exact wAt_in (i := 76) (by decide +kernel)
  · exact wAt_in (i := 1011) (by decide +kernel)
section KNW
variable {s : State} {args : Array Value}
theorem st_cls (hts : ∀ w ∈ wT, w.before args s = true) : ∃ D : va_G, ∀ (c : Nat) (q : vw_C), wCl[c]? = some q → u_Kn s q.1 q.2.1 q.2.2 (D.1 c) (D.2 c) := by
  have h : ∀ c : Nat, ∃ x : ClassId × (Nat → Nat), ∀ q : vw_C, wCl[c]? = some q → u_Kn s q.1 q.2.1 q.2.2 x.1 x.2 := by
    intro c
    cases hq : wCl[c]? with
    | none => exact ⟨(0, fun _ => 0), fun q h => by cases h⟩
    | some r =>
      obtain ⟨cC, iS, hK⟩ := u_known (C := r.1) (T := r.2.1) (N := r.2.2) (n := r.2.2) hts (inCn hq) (hts _ (instW hq))
      exact ⟨(cC, iS), fun q h => by cases h; exact hK⟩
  exact ⟨(fun c => (Classical.choose (h c)).1, fun c => (Classical.choose (h c)).2), fun c q hq => Classical.choose_spec (h c) q hq⟩
theorem st_arr (hts : ∀ w ∈ lw_tbl, w.before args s = true) : ∃ f : Nat → ClassId, ∀ (k : Nat) (q : ClassId × FieldType), [(f 0, FieldType.int), (f 1, .char), (f 2, .long), (f 3, .double), (f 4, .object RX7), (f 5, .object RX1), (f 6, .object RX3)][k]? = some q → ArrOfT s q.1 q.2 ∧ va_RA s q.1 q.2 := by
  obtain ⟨c0, k0, m0, a0, b0, d0⟩ := Cond.arrayClass_spec (hts (.arrayClass .int) (tbI 187 (by decide +kernel)))
  obtain ⟨c1, k1, m1, a1, b1, d1⟩ := Cond.arrayClass_spec (hts (.arrayClass .char) (tbI 1071 (by decide +kernel)))
  obtain ⟨c2, k2, m2, a2, b2, d2⟩ := Cond.arrayClass_spec (hts (.arrayClass .long) (tbI 1396 (by decide +kernel)))
  obtain ⟨c3, k3, m3, a3, b3, d3⟩ := Cond.arrayClass_spec (hts (.arrayClass .double) (tbI 1397 (by decide +kernel)))
  obtain ⟨m4, c4, k4, a4, -, b4, d4, e4⟩ := Cond.arrayOver_spec (hts (.arrayOver (.object RX7)) (tbI 90 (by decide +kernel)))
  obtain ⟨m5, c5, k5, a5, -, b5, d5, e5⟩ := Cond.arrayOver_spec (hts (.arrayOver (.object RX1)) (tbI 130 (by decide +kernel)))
  obtain ⟨m6, c6, k6, a6, -, b6, d6, e6⟩ := Cond.arrayOver_spec (hts (.arrayOver (.object RX3)) (tbI 239 (by decide +kernel)))
  refine ⟨fun k => if k = 0 then c0 else if k = 1 then c1 else if k = 2 then c2 else if k = 3 then c3 else if k = 4 then c4 else if k = 5 then c5 else c6, fun k q hq => ?_⟩
  have hl : k < 7 := (List.getElem?_eq_some_iff.mp hq).1
  rcases (show k = 0 ∨ k = 1 ∨ k = 2 ∨ k = 3 ∨ k = 4 ∨ k = 5 ∨ k = 6 by omega) with rfl | rfl | rfl | rfl | rfl | rfl | rfl <;> cases hq
  · exact ⟨fun n z => ⟨(fun k h => (by cases h)), k0, b0, m0, d0⟩, a0⟩
  · exact ⟨fun n z => ⟨(fun k h => (by cases h)), k1, b1, m1, d1⟩, a1⟩
  · exact ⟨fun n z => ⟨(fun k h => (by cases h)), k2, b2, m2, d2⟩, a2⟩
  · exact ⟨fun n z => ⟨(fun k h => (by cases h)), k3, b3, m3, d3⟩, a3⟩
  · exact ⟨fun n z => ⟨(fun k h => (by cases h)), k4, b4, m4, d4⟩, k4, m4, b4, d4, a4, e4⟩
  · exact ⟨fun n z => ⟨(fun k h => (by cases h)), k5, b5, m5, d5⟩, k5, m5, b5, d5, a5, e5⟩
  · exact ⟨fun n z => ⟨(fun k h => (by cases h)), k6, b6, m6, d6⟩, k6, m6, b6, d6, a6, e6⟩
theorem st_str (hts : ∀ w ∈ lw_tbl, w.before args s = true) {cur : Nat} (hc : s.vm.findClass RX8 = some cur) {i : Nat} {tx : String} (h : Cond.stringRef RX8 i tx ∈ lw_tbl) : ∃ sa, vk_R RX8 i tx sa s := by
  have hb : va_Nw (.stringRef RX8 i tx) s := hts _ h
  obtain ⟨-, -, -, a, -, -, -, -, -, he⟩ := Cond.stringRef_spec hc (show (Cond.stringRef RX8 i tx).holds #[] s none s [] = true from hb)
  exact ⟨a, hb, he⟩
theorem st_strs (hts : ∀ w ∈ lw_tbl, w.before args s = true) {cur : Nat} (hc : s.vm.findClass RX8 = some cur) : ∀ q ∈ strWs, ∃ sa, vk_R RX8 q.1 q.2 sa s := by
  unfold strWs
  exact List.forall_mem_cons.mpr ⟨st_str hts hc (tbI 541 (by decide +kernel)), List.forall_mem_cons.mpr ⟨st_str hts hc (tbI 577 (by decide +kernel)), List.forall_mem_cons.mpr ⟨st_str hts hc (tbI 632 (by decide +kernel)), List.forall_mem_cons.mpr ⟨st_str hts hc (tbI 679 (by decide +kernel)), List.forall_mem_cons.mpr ⟨st_str hts hc (tbI 697 (by decide +kernel)), List.forall_mem_cons.mpr ⟨st_str hts hc (tbI 733 (by decide +kernel)), List.forall_mem_cons.mpr ⟨st_str hts hc (tbI 760 (by decide +kernel)), List.forall_mem_cons.mpr ⟨st_str hts hc (tbI 796 (by decide +kernel)), List.forall_mem_cons.mpr ⟨st_str hts hc (tbI 813 (by decide +kernel)), List.forall_mem_cons.mpr ⟨st_str hts hc (tbI 815 (by decide +kernel)), List.forall_mem_cons.mpr ⟨st_str hts hc (tbI 837 (by decide +kernel)), List.forall_mem_cons.mpr ⟨st_str hts hc (tbI 884 (by decide +kernel)), List.forall_mem_cons.mpr ⟨st_str hts hc (tbI 904 (by decide +kernel)), List.forall_mem_cons.mpr ⟨st_str hts hc (tbI 912 (by decide +kernel)), List.forall_mem_cons.mpr ⟨st_str hts hc (tbI 921 (by decide +kernel)), List.forall_mem_cons.mpr ⟨st_str hts hc (tbI 972 (by decide +kernel)), List.forall_mem_cons.mpr ⟨st_str hts hc (tbI 981 (by decide +kernel)), List.forall_mem_cons.mpr ⟨st_str hts hc (tbI 989 (by decide +kernel)), List.forall_mem_cons.mpr ⟨st_str hts hc (tbI 997 (by decide +kernel)), List.forall_mem_cons.mpr ⟨st_str hts hc (tbI 1009 (by decide +kernel)), fun _ h => absurd h List.not_mem_nil⟩⟩⟩⟩⟩⟩⟩⟩⟩⟩⟩⟩⟩⟩⟩⟩⟩⟩⟩⟩
theorem st_nc (hg : (Jvm.Cond.and given_1 narrow_1).before args s = true) : ∀ x ∈ wXs, ∀ y ∈ wXs, x ≠ y → va_Nc x y s := by
  have hs := flat_of_before _ hg
  intro x hx y hy hne
  simp only [wXs, List.mem_cons, List.not_mem_nil, or_false] at hx hy
  rcases hx with rfl | rfl | rfl | rfl | rfl | rfl <;> rcases hy with rfl | rfl | rfl | rfl | rfl | rfl <;> first | exact absurd rfl hne | exact va_Nc.of (hs _ (by decide +kernel))
theorem st_roll (hts : ∀ w ∈ lw_tbl, w.before args s = true) (hg : (Jvm.Cond.and given_1 narrow_1).before args s = true) {A : Nat → Prop} (hA : ∀ a : Nat, a < s.heap.size → ¬ A a) :
    ∃ r0 r1 : Nat, va_Z "SchoolPlaces$Roll" "HOLDERS" "LSchoolPlaces$Roll;" (.ref r0) A s s.heap ∧ va_Z "SchoolPlaces$Roll" "WAITERS" "LSchoolPlaces$Roll;" (.ref r1) A s s.heap ∧ r0 ≠ r1 := by
  have hs := flat_of_before _ hg
  obtain ⟨r0, -, -, -, e0, -⟩ := Cond.exactly_spec (hs (Cond.exactly (.static "SchoolPlaces$Roll" "HOLDERS" "LSchoolPlaces$Roll;") "SchoolPlaces$Roll") (by decide +kernel))
  obtain ⟨r1, -, -, -, e1, -⟩ := Cond.exactly_spec (hs (Cond.exactly (.static "SchoolPlaces$Roll" "WAITERS" "LSchoolPlaces$Roll;") "SchoolPlaces$Roll") (by decide +kernel))
  have hne := hs (Cond.not (.eq (.static "SchoolPlaces$Roll" "HOLDERS" "LSchoolPlaces$Roll;") (.static "SchoolPlaces$Roll" "WAITERS" "LSchoolPlaces$Roll;"))) (by decide +kernel)
  refine ⟨r0, r1, va_Zof (hts _ (tbI 707 (by decide +kernel))) (hts _ (tbI 71 (by decide +kernel))) e0 hA, va_Zof (hts _ (tbI 748 (by decide +kernel))) (hts _ (tbI 71 (by decide +kernel))) e1 hA, fun e => ?_⟩
  subst e
  simp [Cond.before, Cond.holds, Cond.value, e0, e1] at hne
end KNW
