/-! ===== the law from its entry ===== -/
theorem st_E (l : Launch) {s : State} {args : Array Value} (hts : ∀ w ∈ lw_tbl, w.before args s = true) (hg : (Jvm.Cond.and given_1 narrow_1).before args s = true) : ∃ E : WE, eL E = l ∧ eB E = s.heap.size ∧ WK E s s.heap := by
  have htw : ∀ w ∈ wT, w.before args s = true := fun w h => hts w (wT_tbl h)
  have hs := flat_of_before _ hg
  obtain ⟨D, hD⟩ := st_cls htw
  obtain ⟨f, hf⟩ := st_arr hts
  have hA : ∀ a : Nat, a < s.heap.size → ¬ (fun q : Nat => s.heap.size ≤ q) a := fun a h => Nat.not_le.mpr h
  obtain ⟨r0, r1, h0, h1, hne⟩ := st_roll hts hg hA
  obtain ⟨hcf, -⟩ : (∃ cur, s.vm.findClass RX8 = some cur) ∧ True := ⟨⟨_, (hD 7 _ rfl).2.1⟩, trivial⟩
  obtain ⟨cur, hcur⟩ := hcf
  refine ⟨(l, D, f, s.heap.size, fun k => if k = 0 then r0 else r1), rfl, rfl, ⟨⟨hD, hf⟩, ?_, ?_, ?_⟩, st_strs hts hcur, st_nc hg, ⟨?_, ?_, h0, h1⟩, hne, va_AO.of (hts _ (tbI 90 (by decide +kernel))), va_AO.of (hts _ (tbI 130 (by decide +kernel))), va_AO.of (hts _ (tbI 239 (by decide +kernel)))⟩
  · exact List.forall_mem_cons.mpr ⟨va_Nw.of rfl (hts _ (tbI 92 (by decide +kernel))), List.forall_mem_cons.mpr ⟨va_Nw.of rfl (hts _ (tbI 400 (by decide +kernel))), List.forall_mem_cons.mpr ⟨va_Nw.of rfl (hts _ (tbI 430 (by decide +kernel))), fun _ h => absurd h List.not_mem_nil⟩⟩⟩
  · exact List.forall_mem_cons.mpr ⟨va_Nw.of rfl (hts _ (tbI 498 (by decide +kernel))), List.forall_mem_cons.mpr ⟨va_Nw.of rfl (hts _ (tbI 570 (by decide +kernel))), List.forall_mem_cons.mpr ⟨va_Nw.of rfl (hts _ (tbI 625 (by decide +kernel))), List.forall_mem_cons.mpr ⟨va_Nw.of rfl (hts _ (tbI 726 (by decide +kernel))), List.forall_mem_cons.mpr ⟨va_Nw.of rfl (hts _ (tbI 877 (by decide +kernel))), List.forall_mem_cons.mpr ⟨va_Nw.of rfl (hts _ (tbI 965 (by decide +kernel))), fun _ h => absurd h List.not_mem_nil⟩⟩⟩⟩⟩⟩
  · exact List.forall_mem_cons.mpr ⟨va_Nw.of rfl (hts _ (tbI 500 (by decide +kernel))), List.forall_mem_cons.mpr ⟨va_Nw.of rfl (hts _ (tbI 502 (by decide +kernel))), List.forall_mem_cons.mpr ⟨va_Nw.of rfl (hts _ (tbI 504 (by decide +kernel))), fun _ h => absurd h List.not_mem_nil⟩⟩⟩
  · exact vx_Zqof (hts _ (tbI 523 (by decide +kernel))) (hts _ (tbI 60 (by decide +kernel))) (hs _ (by decide +kernel)) hA
  · exact vx_Zqof (hts _ (tbI 525 (by decide +kernel))) (hts _ (tbI 60 (by decide +kernel))) (hs _ (by decide +kernel)) hA
theorem JG_of {E : WE} {nL : Nat} {C : LT} {k q pc : Nat} {ls : List (Option Value)} {st : List Value} {A : AH} {s : ST} (h : ww (eB E) 622 A = ww (eB E) 622 (cel E s)) (hJ : JL E nL C k q pc ls st s) : JG E nL C k q pc ls st A 622 := by
  obtain ⟨p, e, s0, m, args, below, meth, c, R, Q⟩ := C
  intro H locs arr hS0 hS1 hl hlen
  exact hJ H locs arr (hS.ww h hS0).loose hS1 hl hlen
theorem st_law {E : WE} {C : LT} {b L : Nat} {xs : Nat → Int32} (X : CL E code 9 (some (b, L, xs)) C) (hL : L ≤ 2560) (hR : 20 ≤ (rmC C).frames ∧ 1000 ≤ (rmC C).locals ∧ 2000 ≤ (rmC C).cells ∧ 20000 ≤ (rmC C).slots)
    (hend : ∀ ls s, JL E 9 C (622 + 513) (15463 + 3078) 2084 ls [.int (nI 1)] s) (A : AH) : JG E 9 C 0 0 0 [some (.ref b), none, none, none, none, none, none, none, none] [] A 0 := by
  obtain ⟨r1, r2, r3, r4⟩ := hR
  refine g_new X tA_0_ok (ci := 7) kA_0 rfl (wAt_in (i := 75) (by decide +kernel)) (wAt_in (i := 76) (by decide +kernel)) (wAt_in (i := 51) (by decide +kernel)) blk8 (by omega) (by show 0 + 8 ≤ _; omega) ?_
  refine g_dup X tA_0_ok kA_3 ?_
  refine g_callI X tA_0_ok (ct_top (d0 := 5) (Nat.le_refl 5) vu_eq) kA_4 vX8_init (wAt_in (i := 77) (by decide +kernel)) (by show 1 + 0 ≤ 8; omega) ⟨by omega, by omega⟩ (by omega) (by show 0 + 8 + 7764 ≤ _; omega) (fun A1 _ t0 t1 => ?_)
  refine g_astn X tA_0_ok kA_7 (Nat.le_of_ble_eq_true rfl) ?_
  refine g_new X tA_0_ok (ci := 8) kA_8 rfl (wAt_in (i := 1010) (by decide +kernel)) (wAt_in (i := 1011) (by decide +kernel)) (wAt_in (i := 59) (by decide +kernel)) blk9 (by omega) (by show 0 + 8 + 7764 + 18 ≤ _; omega) ?_
  refine g_dup X tA_0_ok kA_11 ?_
  refine g_callI X tA_0_ok (ct_model (d0 := 1) (Nat.le_refl 1) vu_eq) kA_12 vX9_init (wAt_in (i := 1012) (by decide +kernel)) (by show 1 + 0 ≤ 8; omega) ⟨by omega, by omega⟩ (by omega) (by show 0 + 8 + 7764 + 18 + 7671 ≤ _; omega) (fun A2 u0 u1 u2 => ?_)
  refine g_astn X tA_0_ok kA_15 (Nat.le_of_ble_eq_true rfl) ?_
  refine g_iconst X tA_0_ok kA_16 (show cI 1 = nI 1 by decide) ?_
  refine g_newa X tA_0_ok (ty := .long) (t := 2) (a0 := (1, .inr (.inl (fun _ => 0)))) kA_17 (wAt_in (i := 1396) (by decide +kernel)) rfl rfl (fun _ _ => rfl) (fun _ => rfl) (by decide) (by omega) (by show 0 + 8 + 7764 + 18 + 7671 + 1 ≤ _; omega) ?_
  refine g_astn X tA_0_ok kA_19 (Nat.le_of_ble_eq_true rfl) ?_
  refine g_iconst X tA_0_ok kA_20 (show cI 1 = nI 1 by decide) ?_
  refine g_newa X tA_0_ok (ty := .double) (t := 3) (a0 := (1, .inr (.inr (.inr (.inl (fun _ => 0)))))) kA_21 (wAt_in (i := 1397) (by decide +kernel)) rfl rfl (fun _ _ => rfl) (fun _ => rfl) (by decide) (by omega) (by show 0 + 8 + 7764 + 18 + 7671 + 1 + 1 ≤ _; omega) ?_
  refine g_ast X tA_0_ok kA_23 (Nat.le_of_ble_eq_true rfl) ?_
  refine JG_of (s := s00) (ww_congr fun o ho => ?_) ?_
  · by_cases c1 : o = 621
    · subst c1
      rw [vu_eq, cel_621]
      rfl
    rw [vu_ne c1]
    by_cases c2 : o = 620
    · subst c2
      rw [vu_eq, cel_620]
      rfl
    rw [vu_ne c2]
    show A2 o = TT E o
    by_cases c3 : o = 611
    · rw [c3]; exact u1
    by_cases c4 : 611 < o
    · exact u2 o (by omega) (by omega)
    rw [u0 o (by omega) c3, vu_ne c3]
    by_cases c5 : o = 0
    · rw [c5]; exact t0
    · exact t1 o (by omega) (by omega)
  · refine goJ X tA_0_ok 60 [28] ?_
    simp only [goL_go, gsL_some, ctL_ctL, stepL, fv0, fv1, fv2, fv3, List.getElem?_cons_zero, List.getElem?_cons_succ, List.set_cons_zero, List.set_cons_succ, List.mem_cons, List.not_mem_nil, or_false, or_self, if_false, if_true, List.length_cons, List.length_nil, Nat.reduceEqDiff, not_false_eq_true, true_or, or_true, false_or, Nat.zero_add, Nat.add_zero, Nat.reduceAdd, Nat.reduceMul, Nat.reduceLT, Nat.reduceSub, true_implies, false_implies, not_true_eq_false, true_and, and_true, eq_self, nI_add, xLdA, xLdI, xSt, xStA, xI2l, xI2c, xLcmp, xLld, xIf, xCmp, xBin, xSld, cI_0, cI_1, cI_2, cI_3, cI_4, not_false_eq_true, cI_f4, kA_25, kA_26]
    exact law_loop X hL (K := 622) (Qn := 15463) ⟨⟨Nat.le_trans (by decide) r1, r2⟩, Nat.le_trans (by decide) r3, Nat.le_trans (by decide) r4⟩ hend 512 0 (by omega) (by decide) s00 a00 none none none AbsC00 AbsM00 AInv00
