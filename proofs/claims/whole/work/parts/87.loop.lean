/-! ===== the law's loop ===== -/
theorem and31 (x : Int32) : ∃ c, c < 32 ∧ x &&& nI 31 = nI c := by
  refine ⟨(x.toBitVec &&& 31#32).toNat, ?_, ?_⟩
  · rw [BitVec.toNat_and]
    show x.toBitVec.toNat &&& 31 < 32
    rw [show (31 : Nat) = 2 ^ 5 - 1 by decide, Nat.and_two_pow_sub_one_eq_mod]
    omega
  · unfold nI
    apply Int32.toBitVec_inj.mp
    simp
theorem lt5 {L i : Nat} (hL : L ≤ 2560) (hi : i ≤ 2560) : (nI L - nI 5 < nI i) = (L < i + 5) := by
  have h : (nI L - nI 5).toInt = (L : Int) - 5 := by
    rw [Int32.toInt_sub, nI_toInt (by omega), nI_toInt (by omega)]
    exact Int.bmod_eq_of_le (by omega) (by omega)
  rw [Int32.lt_iff_toInt_lt, h, nI_toInt (by omega)]
  apply propext
  omega
theorem lc5 : cI 5 = nI 5 := by decide
theorem nI_ofNat {L : Nat} : Int32.ofNat L = nI L := rfl
theorem law_loop {E : WE} {C : LT} {b L : Nat} {xs : Nat → Int32} (X : CL E code 9 (some (b, L, xs)) C) (hL : L ≤ 2560) {K Qn : Nat} (hR : (14 ≤ C.2.2.2.2.2.2.2.2.1.frames ∧ 1000 ≤ C.2.2.2.2.2.2.2.2.1.locals) ∧ K + 513 ≤ C.2.2.2.2.2.2.2.2.1.cells ∧ Qn + 3078 ≤ C.2.2.2.2.2.2.2.2.1.slots)
    (hend : ∀ ls s, JL E 9 C (K + 513) (Qn + 3078) 2084 ls [.int (nI 1)] s) :
    ∀ (n j : Nat), L < 5 * (j + n) + 5 → j + n ≤ 512 → ∀ (s : ST) (a : AS) (o6 o7 o8 : Option Value), AbsC s a → AbsM s a → AInv (200 * j) a → JL E 9 C (K + j) (Qn + 6 * j) 28 (lsL E b (5 * j) o6 o7 o8) [] s := by
  have hexit : ∀ (j : Nat), L < 5 * j + 5 → j ≤ 512 → ∀ (s : ST) (o6 o7 o8 : Option Value), JL E 9 C (K + j) (Qn + 6 * j) 28 (lsL E b (5 * j) o6 o7 o8) [] s := by
    intro j hj hj2 s o6 o7 o8
    have hc := lt5 hL (show 5 * j ≤ 2560 by omega)
    have hc2 : (nI L - nI 5 < nI (5 * j)) = True := hc.trans (eq_true hj)
    unfold lsL
    refine goJ X tA_0_ok 60 [2084] ?_
    simp only [goL_go, gsL_some, ctL_ctL, stepL, fv0, fv1, fv2, fv3, List.getElem?_cons_zero, List.getElem?_cons_succ, List.set_cons_zero, List.set_cons_succ, List.mem_cons, List.not_mem_nil, or_false, or_self, if_false, if_true, List.length_cons, List.length_nil, Nat.reduceEqDiff, not_false_eq_true, true_or, or_true, false_or, Nat.zero_add, Nat.add_zero, Nat.reduceAdd, Nat.reduceMul, Nat.reduceLT, Nat.reduceSub, true_implies, false_implies, not_true_eq_false, true_and, and_true, eq_self, nI_add, xLdA, xLdI, xSt, xStA, xI2l, xI2c, xLcmp, xLld, xIf, xCmp, xBin, xSld, cI_0, cI_1, cI_2, cI_3, cI_4, not_false_eq_true, cI_f4, xSln, nI_ofNat, lc5, hc2, kA_28, kA_30, kA_31, kA_32, kA_33, kA_34, kA_2083]
    exact JL.wid (by omega) (by omega) (hend _ s)
  intro n
  induction n with
  | zero => intro j h1 h2 s a o6 o7 o8 _ _ _; exact hexit j (by omega) (by omega) s o6 o7 o8
  | succ n ih =>
    intro j h1 h2 s a o6 o7 o8 hC hM hA
    by_cases h5 : L < 5 * j + 5
    · exact hexit j h5 (by omega) s o6 o7 o8
    have hc := lt5 hL (show 5 * j ≤ 2560 by omega)
    have hc2 : (nI L - nI 5 < nI (5 * j)) = False := hc.trans (eq_false h5)
    have n0 : (nI (5 * j)).toNatClampNeg = 5 * j := nI31 (by omega)
    have v0 : vp_in (nI (5 * j)) L := vp_in_nI (by omega) (by omega)
    have hi : 5 * j + 5 ≤ L := by omega
    have hB : 200 * j + 300 ≤ 1073741824 := by omega
    obtain ⟨⟨r1, r2⟩, r3, r4⟩ := hR
    have hRm : RmL C (K + j) (Qn + 6 * j) := ⟨⟨r1, r2⟩, by omega, by omega⟩
    have hN : NxL E C (K + j) (Qn + 6 * j) (200 * j) b (5 * j) := by
      intro s' a' u v w g1 g2 g3
      unfold lsL
      refine goJ X tA_0_ok 60 [28] ?_
      simp only [goL_go, gsL_some, ctL_ctL, stepL, fv0, fv1, fv2, fv3, List.getElem?_cons_zero, List.getElem?_cons_succ, List.set_cons_zero, List.set_cons_succ, List.mem_cons, List.not_mem_nil, or_false, or_self, if_false, if_true, List.length_cons, List.length_nil, Nat.reduceEqDiff, not_false_eq_true, true_or, or_true, false_or, Nat.zero_add, Nat.add_zero, Nat.reduceAdd, Nat.reduceMul, Nat.reduceLT, Nat.reduceSub, true_implies, false_implies, not_true_eq_false, true_and, and_true, eq_self, nI_add, xLdA, xLdI, xSt, xStA, xI2l, xI2c, xLcmp, xLld, xIf, xCmp, xBin, xSld, cI_0, cI_1, cI_2, cI_3, cI_4, not_false_eq_true, cI_f4, xInc, lc5, kA_2077, kA_2080]
      have := ih (j + 1) (by omega) (by omega) s' a' u v w g1 g2 (by rw [show 200 * (j + 1) = 200 * j + 200 by omega]; exact g3)
      rw [show K + (j + 1) = K + j + 1 by omega, show Qn + 6 * (j + 1) = Qn + 6 * j + 6 by omega, show 5 * (j + 1) = 5 * j + 5 by omega] at this
      exact this
    have hsw : JL E 9 C (K + j) (Qn + 6 * j) 44 (lsL E b (5 * j) o6 o7 o8) [.int (xs (5 * j) &&& nI 31)] s → JL E 9 C (K + j) (Qn + 6 * j) 28 (lsL E b (5 * j) o6 o7 o8) [] s := by
      intro hJ
      unfold lsL
      refine goJ X tA_0_ok 60 [44] ?_
      simp only [goL_go, gsL_some, ctL_ctL, stepL, fv0, fv1, fv2, fv3, List.getElem?_cons_zero, List.getElem?_cons_succ, List.set_cons_zero, List.set_cons_succ, List.mem_cons, List.not_mem_nil, or_false, or_self, if_false, if_true, List.length_cons, List.length_nil, Nat.reduceEqDiff, not_false_eq_true, true_or, or_true, false_or, Nat.zero_add, Nat.add_zero, Nat.reduceAdd, Nat.reduceMul, Nat.reduceLT, Nat.reduceSub, true_implies, false_implies, not_true_eq_false, true_and, and_true, eq_self, nI_add, xLdA, xLdI, xSt, xStA, xI2l, xI2c, xLcmp, xLld, xIf, xCmp, xBin, xSld, cI_0, cI_1, cI_2, cI_3, cI_4, not_false_eq_true, cI_f4, xSln, nI_ofNat, lc5, hc2, bI_31, n0, v0, kA_28, kA_30, kA_31, kA_32, kA_33, kA_34, kA_37, kA_38, kA_40, kA_41, kA_43]
      exact hJ
    refine hsw ?_
    obtain ⟨c, hc9, e9⟩ := and31 (xs (5 * j))
    rw [e9]
    rcases (show c = 0 ∨ c = 1 ∨ c = 2 ∨ c = 3 ∨ c = 4 ∨ c = 5 ∨ c = 6 ∨ c = 7 ∨ c = 8 ∨ c = 9 ∨ c = 10 ∨ c = 11 ∨ c = 12 ∨ c = 13 ∨ c = 14 ∨ c = 15 ∨ c = 16 ∨ c = 17 ∨ c = 18 ∨ c = 19 ∨ c = 20 ∨ c = 21 ∨ c = 22 ∨ c = 23 ∨ c = 24 ∨ c = 25 ∨ c = 26 ∨ c = 27 ∨ c = 28 ∨ c = 29 ∨ c = 30 ∨ c = 31 by omega) with rfl | rfl | rfl | rfl | rfl | rfl | rfl | rfl | rfl | rfl | rfl | rfl | rfl | rfl | rfl | rfl | rfl | rfl | rfl | rfl | rfl | rfl | rfl | rfl | rfl | rfl | rfl | rfl | rfl | rfl | rfl | rfl
    · exact swLIn X tA_0_ok kA_44 0 (tgt := 184) ⟨by decide, by decide, by decide, rfl, rfl⟩ (lc_0 X hRm hC hM hA hB hi hL hN)
    · exact swLIn X tA_0_ok kA_44 1 (tgt := 276) ⟨by decide, by decide, by decide, rfl, rfl⟩ (lc_1 X hRm hC hM hA hB hi hL hN)
    · exact swLIn X tA_0_ok kA_44 2 (tgt := 344) ⟨by decide, by decide, by decide, rfl, rfl⟩ (lc_2 X hRm hC hM hA hB hi hL hN)
    · exact swLIn X tA_0_ok kA_44 3 (tgt := 412) ⟨by decide, by decide, by decide, rfl, rfl⟩ (lc_3 X hRm hC hM hA hB hi hL hN)
    · exact swLIn X tA_0_ok kA_44 4 (tgt := 480) ⟨by decide, by decide, by decide, rfl, rfl⟩ (lc_4 X hRm hC hM hA hB hi hL hN)
    · exact swLIn X tA_0_ok kA_44 5 (tgt := 548) ⟨by decide, by decide, by decide, rfl, rfl⟩ (lc_5 X hRm hC hM hA hB hi hL hN)
    · exact swLIn X tA_0_ok kA_44 6 (tgt := 651) ⟨by decide, by decide, by decide, rfl, rfl⟩ (lc_6 X hRm hC hM hA hB hi hL hN)
    · exact swLIn X tA_0_ok kA_44 7 (tgt := 719) ⟨by decide, by decide, by decide, rfl, rfl⟩ (lc_7 X hRm hC hM hA hB hi hL hN)
    · exact swLIn X tA_0_ok kA_44 8 (tgt := 787) ⟨by decide, by decide, by decide, rfl, rfl⟩ (lc_8 X hRm hC hM hA hB hi hL hN)
    · exact swLIn X tA_0_ok kA_44 9 (tgt := 855) ⟨by decide, by decide, by decide, rfl, rfl⟩ (lc_9 X hRm hC hM hA hB hi hL hN)
    · exact swLIn X tA_0_ok kA_44 10 (tgt := 947) ⟨by decide, by decide, by decide, rfl, rfl⟩ (lc_10 X hRm hC hM hA hB hi hL hN)
    · exact swLIn X tA_0_ok kA_44 11 (tgt := 991) ⟨by decide, by decide, by decide, rfl, rfl⟩ (lc_11 X hRm hC hM hA hB hi hL hN)
    · exact swLIn X tA_0_ok kA_44 12 (tgt := 1071) ⟨by decide, by decide, by decide, rfl, rfl⟩ (lc_12 X hRm hC hM hA hB hi hL hN)
    · exact swLIn X tA_0_ok kA_44 13 (tgt := 1139) ⟨by decide, by decide, by decide, rfl, rfl⟩ (lc_13 X hRm hC hM hA hB hi hL hN)
    · exact swLIn X tA_0_ok kA_44 14 (tgt := 1207) ⟨by decide, by decide, by decide, rfl, rfl⟩ (lc_14 X hRm hC hM hA hB hi hL hN)
    · exact swLIn X tA_0_ok kA_44 15 (tgt := 1275) ⟨by decide, by decide, by decide, rfl, rfl⟩ (lc_15 X hRm hC hM hA hB hi hL hN)
    · exact swLIn X tA_0_ok kA_44 16 (tgt := 1355) ⟨by decide, by decide, by decide, rfl, rfl⟩ (lc_16 X hRm hC hM hA hB hi hL hN)
    · exact swLIn X tA_0_ok kA_44 17 (tgt := 1423) ⟨by decide, by decide, by decide, rfl, rfl⟩ (lc_17 X hRm hC hM hA hB hN)
    · exact swLIn X tA_0_ok kA_44 18 (tgt := 1436) ⟨by decide, by decide, by decide, rfl, rfl⟩ (lc_18 X hRm hC hM hA hB hi hL hN)
    · exact swLIn X tA_0_ok kA_44 19 (tgt := 1492) ⟨by decide, by decide, by decide, rfl, rfl⟩ (lc_19 X hRm hC hM hA hB hN)
    · exact swLIn X tA_0_ok kA_44 20 (tgt := 1505) ⟨by decide, by decide, by decide, rfl, rfl⟩ (lc_20 X hRm hC hM hA hB hi hL hN)
    · exact swLIn X tA_0_ok kA_44 21 (tgt := 1561) ⟨by decide, by decide, by decide, rfl, rfl⟩ (lc_21 X hRm hC hM hA hB hi hL hN)
    · exact swLIn X tA_0_ok kA_44 22 (tgt := 1641) ⟨by decide, by decide, by decide, rfl, rfl⟩ (lc_22 X hRm hC hM hA hB hi hL hN)
    · exact swLIn X tA_0_ok kA_44 23 (tgt := 1685) ⟨by decide, by decide, by decide, rfl, rfl⟩ (lc_23 X hRm hC hM hA hB hi hL hN)
    · exact swLIn X tA_0_ok kA_44 24 (tgt := 1753) ⟨by decide, by decide, by decide, rfl, rfl⟩ (lc_24 X hRm hC hM hA hB hi hL hN)
    · exact swLIn X tA_0_ok kA_44 25 (tgt := 1809) ⟨by decide, by decide, by decide, rfl, rfl⟩ (lc_25 X hRm hC hM hA hB hN)
    · exact swLIn X tA_0_ok kA_44 26 (tgt := 1874) ⟨by decide, by decide, by decide, rfl, rfl⟩ (lc_26 X hRm hC hM hA hB hi hL hN)
    · exact swLIn X tA_0_ok kA_44 27 (tgt := 1932) ⟨by decide, by decide, by decide, rfl, rfl⟩ (lc_27 X hRm hC hM hA hB hi hL hN)
    · exact swLIn X tA_0_ok kA_44 28 (tgt := 1976) ⟨by decide, by decide, by decide, rfl, rfl⟩ (lc_28 X hRm hC hM hA hB hi hL hN)
    · exact swLIn X tA_0_ok kA_44 29 (tgt := 2020) ⟨by decide, by decide, by decide, rfl, rfl⟩ (lc_29 X hRm hC hM hA hB hN)
    · exact swLIn X tA_0_ok kA_44 30 (tgt := 2033) ⟨by decide, by decide, by decide, rfl, rfl⟩ (lc_30 X hRm hC hM hA hB hi hL hN)
    · exact swLOut X tA_0_ok kA_44 (n := 31) (tgt := 2077) ⟨by decide, by decide, rfl⟩ (JL.wid (by omega) (by omega) (hN s a o6 o7 o8 hC hM hA.o))
