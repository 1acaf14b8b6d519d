/-! ===== constants ===== -/
theorem bI_6 : bI 6 = nI 6 := by decide
theorem bI_7 : bI 7 = nI 7 := by decide
theorem bI_8 : bI 8 = nI 8 := by decide
theorem bI_10 : bI 10 = nI 10 := by decide
theorem bI_11 : bI 11 = nI 11 := by decide
theorem bI_12 : bI 12 = nI 12 := by decide
theorem bI_13 : bI 13 = nI 13 := by decide
theorem bI_24 : bI 24 = nI 24 := by decide
theorem bI_31 : bI 31 = nI 31 := by decide
theorem bI_40 : bI 40 = nI 40 := by decide
theorem bI_44 : bI 44 = nI 44 := by decide
theorem bI_45 : bI 45 = nI 45 := by decide
theorem bI_48 : bI 48 = nI 48 := by decide
theorem bI_50 : bI 50 = nI 50 := by decide
theorem bI_53 : bI 53 = nI 53 := by decide
theorem bI_57 : bI 57 = nI 57 := by decide
theorem bI_58 : bI 58 = nI 58 := by decide
theorem bI_80 : bI 80 = nI 80 := by decide
theorem bI_99 : bI 99 = nI 99 := by decide
theorem bI_100 : bI 100 = nI 100 := by decide
theorem bI_102 : bI 102 = nI 102 := by decide
theorem bI_108 : bI 108 = nI 108 := by decide
theorem cI_m1 : cI (-1) = (-1) := by decide
theorem cI_0 : cI 0 = nI 0 := by decide
theorem cI_1 : cI 1 = nI 1 := by decide
theorem cI_2 : cI 2 = nI 2 := by decide
theorem cI_3 : cI 3 = nI 3 := by decide
theorem cI_4 : cI 4 = nI 4 := by decide
theorem cI_5 : cI 5 = nI 5 := by decide
theorem sI_144 : sI 144 = nI 144 := by decide
theorem sI_198 : sI 198 = nI 198 := by decide
theorem sI_199 : sI 199 = nI 199 := by decide
theorem sI_320 : sI 320 = nI 320 := by decide
theorem sI_369 : sI 369 = nI 369 := by decide
theorem sI_689 : sI 689 = nI 689 := by decide
theorem sI_999 : sI 999 = nI 999 := by decide
theorem sI_1000 : sI 1000 = nI 1000 := by decide
theorem sI_5512 : sI 5512 = nI 5512 := by decide
def plF (f : Nat → Int32) (w : Int32) : Nat → Nat → Int32
  | _, 0 => -1
  | j, n + 1 => if f j = w then nI j else plF f w (j + 1) n
theorem c_placeOf {E : WE} {d i m : Nat} {w : Int32} {s : ST} (hd : d < 10) (hi : i < 24) (hm : s.1 d (57 + 13 * i + 5) = nI m) (hm4 : m ≤ 4) :
    SpR E mX1_placeOf 1 [.ref (aC E d i), .int w] s (some (.int (plF (fun p => s.1 d (57 + 13 * i + 6 + p)) w 0 m))) s := by
  refine SpR.of vX1_placeOf.1 [some (.ref (aC E d i)), some (.int w), none] rfl (Nat.le_of_ble_eq_true rfl) rfl (fun C P X hP => ?_)
  have loop : ∀ (n j : Nat), j + n = m → P (.inl (some (.int (plF (fun p => s.1 d (57 + 13 * i + 6 + p)) w j n)))) s → JM E mX1_placeOf C 1 0 0 P 2 [some (.ref (aC E d i)), some (.int w), some (.int (nI j))] [] s := by
    intro n
    induction n with
    | zero =>
      intro j hj hP
      refine run X (rt := some .int) flX1_ok rfl tX1_placeOf_ok 20 [2] ?_
      simp only [go_go, gos_some, ctn_ctn, step, fv0, fv1, fv2, fv3, List.getElem?_cons_zero, List.getElem?_cons_succ, List.set_cons_zero, List.set_cons_succ, List.mem_cons, List.not_mem_nil, or_false, or_self, if_false, if_true, List.length_cons, List.length_nil, lval, Nat.reduceAdd, Nat.reduceEqDiff, Nat.reduceMul, Nat.reduceLT, Nat.reduceSub, true_implies, false_implies, not_true_eq_false, not_false_eq_true, true_and, and_true, kX1_placeOf_0, kX1_placeOf_1, kX1_placeOf_2, kX1_placeOf_3, kX1_placeOf_4, kX1_placeOf_7, kX1_placeOf_10, kX1_placeOf_11, kX1_placeOf_14, kX1_placeOf_15, kX1_placeOf_16, kX1_placeOf_17, kX1_placeOf_20, kX1_placeOf_21, kX1_placeOf_22, kX1_placeOf_25, kX1_placeOf_28, kX1_placeOf_29, xAld, xArrF, xCmp, xGet, xGetF, xInc, xLdA, xLdI, xRet, xSt, fX1_22, fX1_9, cI_0, cI_1, cI_m1, lA_C hd hi, fChi, hm, lA_Cc hd hi]
      trace_state
      sorry
    | succ n ih => 
      intro j hj hP
      refine run X (rt := some .int) flX1_ok rfl tX1_placeOf_ok 20 [2] ?_
      simp only [go_go, gos_some, ctn_ctn, step, fv0, fv1, fv2, fv3, List.getElem?_cons_zero, List.getElem?_cons_succ, List.set_cons_zero, List.set_cons_succ, List.mem_cons, List.not_mem_nil, or_false, or_self, if_false, if_true, List.length_cons, List.length_nil, lval, Nat.reduceAdd, Nat.reduceEqDiff, Nat.reduceMul, Nat.reduceLT, Nat.reduceSub, true_implies, false_implies, not_true_eq_false, not_false_eq_true, true_and, and_true, kX1_placeOf_0, kX1_placeOf_1, kX1_placeOf_2, kX1_placeOf_3, kX1_placeOf_4, kX1_placeOf_7, kX1_placeOf_10, kX1_placeOf_11, kX1_placeOf_14, kX1_placeOf_15, kX1_placeOf_16, kX1_placeOf_17, kX1_placeOf_20, kX1_placeOf_21, kX1_placeOf_22, kX1_placeOf_25, kX1_placeOf_28, kX1_placeOf_29, xAld, xArrF, xCmp, xGet, xGetF, xInc, xLdA, xLdI, xRet, xSt, fX1_22, fX1_9, cI_0, cI_1, cI_m1, lA_C hd hi, fChi, hm, lA_Cc hd hi]
      trace_state
      sorry
  refine run X (rt := some .int) flX1_ok rfl tX1_placeOf_ok 20 [2] ?_
  simp only [go_go, gos_some, ctn_ctn, step, fv0, fv1, fv2, fv3, List.getElem?_cons_zero, List.getElem?_cons_succ, List.set_cons_zero, List.set_cons_succ, List.mem_cons, List.not_mem_nil, or_false, or_self, if_false, if_true, List.length_cons, List.length_nil, lval, Nat.reduceAdd, Nat.reduceEqDiff, Nat.reduceMul, Nat.reduceLT, Nat.reduceSub, true_implies, false_implies, not_true_eq_false, not_false_eq_true, true_and, and_true, kX1_placeOf_0, kX1_placeOf_1, kX1_placeOf_2, kX1_placeOf_3, kX1_placeOf_4, kX1_placeOf_7, kX1_placeOf_10, kX1_placeOf_11, kX1_placeOf_14, kX1_placeOf_15, kX1_placeOf_16, kX1_placeOf_17, kX1_placeOf_20, kX1_placeOf_21, kX1_placeOf_22, kX1_placeOf_25, kX1_placeOf_28, kX1_placeOf_29, xAld, xArrF, xCmp, xGet, xGetF, xInc, xLdA, xLdI, xRet, xSt, fX1_22, fX1_9, cI_0, cI_1, cI_m1]
  trace_state
  sorry
