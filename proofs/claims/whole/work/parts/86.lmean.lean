/-! ===== the law's case of the mean ===== -/
theorem lc_25 {E : WE} {C : LT} {b L : Nat} {xs : Nat → Int32} (X : CL E code 9 (some (b, L, xs)) C) {k q B i : Nat} {s : ST} {a : AS} (hR : RmL C k q) (hC : AbsC s a) (hM : AbsM s a) (hA : AInv B a) (hB : B + 300 ≤ 1073741824) {o6 o7 o8 : Option Value} (hN : NxL E C k q B b i) : JL E 9 C k q 1809 (lsL E b i o6 o7 o8) [] s := by
  have hR0 := hR
  obtain ⟨⟨r1, r2⟩, r3, r4⟩ := hR
  have hnn := fun h => mean_num hA.inv (R := aR a) h
  have hv : (oMean a).2.2 = nI 0 → vf_n64 (oMean a).2.1 := fun h => by
    unfold oMean at h ⊢
    split at h
    · exact absurd h (by show ¬ nI 1 = nI 0; decide)
    · rename_i c
      rw [if_neg c]
      exact hnn c
  unfold lsL
  refine goJ X tA_c25_ok 60 [1812] ?_
  simp only [goL_go, gsL_some, ctL_ctL, stepL, fv0, fv1, fv2, fv3, List.getElem?_cons_zero, List.getElem?_cons_succ, List.set_cons_zero, List.set_cons_succ, List.mem_cons, List.not_mem_nil, or_false, or_self, if_false, if_true, List.length_cons, List.length_nil, Nat.reduceEqDiff, not_false_eq_true, true_or, or_true, false_or, Nat.zero_add, Nat.add_zero, Nat.reduceAdd, Nat.reduceMul, Nat.reduceLT, Nat.reduceSub, true_implies, false_implies, not_true_eq_false, true_and, and_true, eq_self, nI_add, xLdA, xLdI, xSt, xStA, xI2l, xI2c, xLcmp, xLld, xIf, xCmp, xBin, xSld, cI_0, cI_1, cI_2, cI_3, cI_4, not_false_eq_true, cI_f4, kA_1809, kA_1810]
  refine cWL X (As := [.ref (aF E 0), .ref (aF E 621)]) (rest := []) (w_meanDistance hC hA) tA_c25_ok kA_1812 sL_meanDistance rfl rfl (by decide) ⟨by omega, by omega⟩ r3 r4 (fun Z s' h => by cases h.1) (fun v s1 h1 => ?_)
  obtain ⟨e1, g1, g3, g4⟩ := h1
  cases e1
  have hM1 : AbsM s1 a := hM.of g1
  refine goJ X tA_c25_ok 60 [1818] ?_
  simp only [goL_go, gsL_some, ctL_ctL, stepL, fv0, fv1, fv2, fv3, List.getElem?_cons_zero, List.getElem?_cons_succ, List.set_cons_zero, List.set_cons_succ, List.mem_cons, List.not_mem_nil, or_false, or_self, if_false, if_true, List.length_cons, List.length_nil, Nat.reduceEqDiff, not_false_eq_true, true_or, or_true, false_or, Nat.zero_add, Nat.add_zero, Nat.reduceAdd, Nat.reduceMul, Nat.reduceLT, Nat.reduceSub, true_implies, false_implies, not_true_eq_false, true_and, and_true, eq_self, nI_add, xLdA, xLdI, xSt, xStA, xI2l, xI2c, xLcmp, xLld, xIf, xCmp, xBin, xSld, cI_0, cI_1, cI_2, cI_3, cI_4, not_false_eq_true, cI_f4, Option.toList_some, List.cons_append, List.nil_append, kA_1815, kA_1817]
  refine cVL X (mc' := 0) (ms' := 0) (As := []) (rest := []) (m_meanDistance hM1 hA hnn) tA_c25_ok kA_1818 vX9_meanDistance lm_meanDistance lA_611 rfl rfl rfl (by decide) ⟨by omega, by omega⟩ (by omega) (by omega) (fun Z s' h => by cases h.1) (fun v s2 h2 => ?_)
  obtain ⟨e2, ⟨⟨f1, f2⟩, f3, f4⟩⟩ := h2
  cases e2
  have hA2 : AInv (B + 200) (oMean a).1 := i_mean hA
  have hout : (oMean a).2.2 = nI 0 → s2.2.2 0 = (oMean a).2.1 := fun h => by rw [f1]; exact g4 h
  have hC2 : AbsC s2 (oMean a).1 := g3.of f2
  have hX := X
  obtain ⟨p, e, s0, m, args, below, meth, c, R, Q⟩ := C
  obtain ⟨⟨hx, hb, -⟩, -, hWK, hB9, -⟩ := X
  have hK : va_K (eD E) wCl (eT E) s0 := hWK.1.1
  generalize (oMean a).2.1 = v at hv hout ⊢
  generalize (oMean a).2.2 = t at hv hout f3 ⊢
  have d1821 : decode code 1821 = .ok (.dstore 7, 2) := by decide +kernel
  have d1823 : decode code 1823 = .ok (.aload_n 2, 1) := by decide +kernel
  have d1827 : decode code 1827 = .ok (.iload 6, 2) := by decide +kernel
  have d1829 : decode code 1829 = .ok (.if_icmp .eq 5, 3) := by decide +kernel
  have d1834 : decode code 1834 = .ok (.iload 6, 2) := by decide +kernel
  have d1836 : decode code 1836 = .ok (.ifCond .ne 35, 3) := by decide +kernel
  have d1839 : decode code 1839 = .ok (.aload 4, 2) := by decide +kernel
  have d1841 : decode code 1841 = .ok (.iconst 0, 1) := by decide +kernel
  have d1842 : decode code 1842 = .ok (.daload, 1) := by decide +kernel
  have d1843 : decode code 1843 = .ok (.dload 7, 2) := by decide +kernel
  have d1845 : decode code 1845 = .ok (.dcmp .l, 1) := by decide +kernel
  have d1846 : decode code 1846 = .ok (.ifCond .eq 25, 3) := by decide +kernel
  have d1871 : decode code 1871 = .ok (.goto 206, 3) := by decide +kernel
  intro H locs arr hS0 hS1 hl hlen
  refine lv_dstore (i := 7) (nL := 9) hx hb d1821 hl.1 (by decide) rfl (fun arr' h' => ?_)
  have hok : lsOk arr' (lsL E b i (some (.int t)) none none) := by
    refine ⟨⟨h'.1, h'.2.1, fun x hx9 => h'.2.2 x ?_⟩, fun w hw => ?_⟩
    · refine List.mem_cons_of_mem _ (List.mem_filter.mpr ⟨?_, ?_⟩)
      · simp only [lsL, lsAll, List.mem_cons, List.not_mem_nil, or_false] at hx9 ⊢
        rcases hx9 with rfl | rfl | rfl | rfl | rfl | rfl | rfl <;> simp
      · simp only [lsL, lsAll, List.mem_cons, List.not_mem_nil, or_false] at hx9
        rcases hx9 with rfl | rfl | rfl | rfl | rfl | rfl | rfl <;> rfl
    · simp only [lsL, List.mem_cons, List.not_mem_nil, or_false, Option.some.injEq, reduceCtorEq] at hw
      rcases hw with rfl | rfl | rfl | rfl | rfl | rfl | rfl <;> rfl
  have h7 : arr'[7]? = some (.val (.double v)) := h'.2.2 (7, .double v) List.mem_cons_self
  have hend : ∀ (H1 : Heap) (locs1 : List Loc), hS E (cel E s2) 622 false H1 → va_S (eA E) s0.heap H1 locs1 → W p (eL E) e R s0 m args below meth c H1 locs1 (k + 1) (q + 6) Q (F0 m 2077 arr' []) :=
    fun H1 locs1 g1 g2 => hN s2 _ (some (.int t)) none none hC2 f4 hA2 H1 locs1 arr' g1 g2 hok rfl
  refine lv_aload_n (i := 2) hx hb d1823 rfl (hok.get rfl) ?_
  refine JL_call (JL_runV hX (mc' := 0) (ms' := 0) (As := []) (rest := []) (m_thrown (s := s2)) vX9_thrown l123 lA_611 rfl rfl rfl (by decide) ⟨by show 0 + 1 ≤ R.frames; have : 14 ≤ R.frames := r1; omega, by show 40 * 0 + 140 ≤ R.locals; have : 1000 ≤ R.locals := r2; omega⟩ (by show k + 1 + 0 ≤ R.cells; exact r3) (by show q + 6 + 0 ≤ R.slots; exact r4) (by decide +kernel) hS0 hS1 hok rfl) hS1 (fun v3 s3 H1 locs1 h3 g1 g2 => ?_) (fun Z s' _ _ _ _ hp _ _ _ _ _ => by cases hp.1)
  obtain ⟨e3, rfl⟩ := h3
  cases e3
  rw [f3]
  refine lv_iload (i := 6) hx hb d1827 (hok.get rfl) ?_
  refine lv_icmp_eq (tgt := 1834) hx hb d1829 rfl (fun _ => ?_) (fun c9 => absurd rfl c9)
  refine lv_iload (i := 6) hx hb d1834 (hok.get rfl) ?_
  refine lv_if_ne (tgt := 1871) hx hb d1836 rfl (fun _ => lv_goto hx hb d1871 rfl (hend H1 locs1 g1 g2)) (fun c9 => ?_)
  have ht : t = nI 0 := c9
  refine lv_aload (i := 4) hx hb d1839 (hok.get rfl) ?_
  refine lv_iconst (v := nI 0) hx hb d1841 rfl ?_
  refine va_dald (f := s3.2.2) (n := 1) hx hb hK g1.1 621 3 (by rw [ww_get (by decide), cel_621]; rfl) rfl in01 d1842 ?_
  rw [show (nI 0).toNatClampNeg = 0 from rfl, hout ht]
  refine lv_dload (i := 7) hx hb d1843 h7 ?_
  refine lv_dcmp hx hb d1845 ?_
  rw [cmp_self (hv ht)]
  exact lv_if_eq (tgt := 1871) hx hb d1846 rfl (fun _ => lv_goto hx hb d1871 rfl (hend H1 locs1 g1 g2)) (fun c9 => absurd rfl c9)
