/-! ===== the state of the desk, as both sides show it ===== -/
abbrev AS : Type := RW × (Nat × (Nat → RW)) × (Bool × RW) × (Int32 × Int32) × (Nat × (Nat → Int32))
abbrev aR (a : AS) : RW := a.1
abbrev aN (a : AS) : Nat := a.2.1.1
abbrev aP (a : AS) : Nat → RW := a.2.1.2
abbrev aV (a : AS) : Bool := a.2.2.1.1
abbrev aW (a : AS) : RW := a.2.2.1.2
abbrev aG (a : AS) : Int32 := a.2.2.2.1.1
abbrev aE (a : AS) : Int32 := a.2.2.2.1.2
abbrev aT (a : AS) : Nat := a.2.2.2.2.1
abbrev aI (a : AS) : Nat → Int32 := a.2.2.2.2.2
def wR (a : AS) (R : RW) : AS := (R, a.2)
def wH (a : AS) (n : Nat) (f : Nat → RW) : AS := (a.1, (n, f), a.2.2)
def wV (a : AS) (R : RW) : AS := (a.1, a.2.1, (true, R), a.2.2.2)
def wG (a : AS) (x : Int32) : AS := (a.1, a.2.1, a.2.2.1, (x, aE a), a.2.2.2.2)
def wE (a : AS) (x : Int32) : AS := (a.1, a.2.1, a.2.2.1, (aG a, x), a.2.2.2.2)
def wI (a : AS) (n : Nat) (f : Nat → Int32) : AS := (a.1, a.2.1, a.2.2.1, a.2.2.2.1, (n, f))
/-- what there is is remembered -/
def puA (a : AS) : AS := if aN a = 8 then wH a 8 (fun k => if k = 7 then aR a else aP a (k + 1)) else wH a (aN a + 1) (fun k => if k = aN a then aR a else aP a k)
def ROk (B : Nat) (R : RW) : Prop := Inv R ∧ nn R 2 ≤ B
def AInv (B : Nat) (a : AS) : Prop := ROk B (aR a) ∧ (aN a ≤ 8 ∧ ∀ k, k < aN a → ROk B (aP a k)) ∧ (aV a = true → ROk B (aW a)) ∧ ((∃ g, g ≤ 4 ∧ aG a = nI g) ∧ (aE a = -1 ∨ ∃ e, e ≤ 40 ∧ aE a = nI e)) ∧
  (aT a ≤ 40 ∧ ∀ k, k < aT a → ∃ c, c < 65536 ∧ aI a k = nI c)
def AbsM (s : ST) (a : AS) : Prop := Sh (s.1 21) (aR a) ∧ (s.1 20 0 = nI (aN a) ∧ ∀ k, k < aN a → Sh (fun j => s.1 22 (689 * k + j)) (aP a k)) ∧ (s.1 20 1 = bv (aV a) ∧ (aV a = true → Sh (s.1 23) (aW a))) ∧
  (s.1 20 3 = aG a ∧ s.1 20 4 = aE a) ∧ (s.1 20 5 = nI (aT a) ∧ ∀ k, k < aT a → s.1 25 k = aI a k)
/-- the reference's numbers alone have changed -/
def frM (s s' : ST) : Prop := s'.2 = s.2 ∧ ∀ r, r < 20 → s'.1 r = s.1 r
theorem frM.rf {s : ST} : frM s s := ⟨rfl, fun _ _ => rfl⟩
theorem frM.tr {s s1 s2 : ST} (h : frM s s1) (h2 : frM s1 s2) : frM s s2 := ⟨h2.1.trans h.1, fun r hr => (h2.2 r hr).trans (h.2 r hr)⟩
theorem frM.sr {s : ST} {r : Nat} {x : RW} (h : 20 ≤ r) : frM s (sr s r x) := ⟨rfl, fun r' hr => sr_ne (by omega)⟩
/-- behind a call of the reference: the numbers show a', it has noted t -/
def PM (s : ST) (a' : AS) (t : Int32) : ST → Prop := fun s' => frM s s' ∧ s'.1 20 2 = t ∧ AbsM s' a'
theorem AbsM.row {s : ST} {a : AS} (h : AbsM s a) {r' R' : RW} (hS : Sh r' R') : AbsM (sr s 21 r') (wR a R') := by
  obtain ⟨h1, h2, h3, h4, h5⟩ := h
  exact ⟨by rw [sr_same]; exact hS, by rw [sr_ne (by decide), sr_ne (by decide)]; exact h2, by rw [sr_ne (by decide), sr_ne (by decide)]; exact h3, by rw [sr_ne (by decide)]; exact h4, by rw [sr_ne (by decide), sr_ne (by decide)]; exact h5⟩
theorem AbsM.far {s : ST} {a : AS} (h : AbsM s a) {r : Nat} {x : RW} (hr : ¬ 20 = r ∧ ¬ 21 = r ∧ ¬ 22 = r ∧ ¬ 23 = r ∧ ¬ 25 = r) : AbsM (sr s r x) a := by
  obtain ⟨h1, h2, h3, h4, h5⟩ := h
  unfold AbsM
  rw [sr_ne hr.1, sr_ne hr.2.1, sr_ne hr.2.2.1, sr_ne hr.2.2.2.1, sr_ne hr.2.2.2.2]
  exact ⟨h1, h2, h3, h4, h5⟩
/-- a scalar of the reference that the state doesn't show -/
theorem AbsM.sc {s : ST} {a : AS} (h : AbsM s a) {j : Nat} {v : Int32} (hj : ¬ 0 = j ∧ ¬ 1 = j ∧ ¬ 3 = j ∧ ¬ 4 = j ∧ ¬ 5 = j) : AbsM (sr s 20 (ur (s.1 20) j v)) a := by
  obtain ⟨h1, h2, h3, h4, h5⟩ := h
  unfold AbsM
  rw [sr_same, sr_ne (by decide), sr_ne (by decide), sr_ne (by decide), sr_ne (by decide), ur_ne hj.1, ur_ne hj.2.1, ur_ne hj.2.2.1, ur_ne hj.2.2.2.1, ur_ne hj.2.2.2.2]
  exact ⟨h1, h2, h3, h4, h5⟩
theorem Sh.raw {r r' R : RW} (h : Sh r R) (e : ∀ k, k < 689 → r' k = r k) (hI : Inv R) : Sh r' R := by
  obtain ⟨⟨a0, a1, a2⟩, a3, a4, a5, a6, a7⟩ := h
  have hs := hI.s
  have hc := hI.c
  exact ⟨⟨(e 0 (by decide)).trans a0, (e 1 (by decide)).trans a1, (e 2 (by decide)).trans a2⟩, fun j w hj hw => (e _ (by omega)).trans (a3 j w hj hw), fun f hf => (e _ (by omega)).trans (a4 f hf),
    fun i w hi hw hw2 => (e _ (by omega)).trans (a5 i w hi hw hw2), fun i p hi hp => (e _ (by have := (hI.m hi).2; omega)).trans (a6 i p hi hp), fun x w hx hx8 hw => (e _ (by omega)).trans (a7 x w hx hx8 hw)⟩
theorem ROk.mono {B B' : Nat} {R : RW} (h : ROk B R) (hB : B ≤ B') : ROk B' R := ⟨h.1, Nat.le_trans h.2 hB⟩
theorem AInv.mono {B B' : Nat} {a : AS} (h : AInv B a) (hB : B ≤ B') : AInv B' a := ⟨h.1.mono hB, ⟨h.2.1.1, fun k hk => (h.2.1.2 k hk).mono hB⟩, fun e => (h.2.2.1 e).mono hB, h.2.2.2⟩
theorem AInv.pu {B : Nat} {a : AS} (h : AInv B a) : AInv B (puA a) := by
  obtain ⟨h1, ⟨h2, h3⟩, h4⟩ := h
  unfold puA
  split
  · refine ⟨h1, ⟨Nat.le_refl 8, fun k hk => ?_⟩, h4⟩
    show ROk B (if k = 7 then aR a else aP a (k + 1))
    have hk8 : k < 8 := hk
    split
    · exact h1
    · exact h3 _ (by omega)
  · refine ⟨h1, ⟨show aN a + 1 ≤ 8 by omega, fun k hk => ?_⟩, h4⟩
    show ROk B (if k = aN a then aR a else aP a k)
    have hk8 : k < aN a + 1 := hk
    split
    · exact h1
    · exact h3 _ (by omega)
theorem AInv.wR {B : Nat} {a : AS} (h : AInv B a) {R : RW} (hR : ROk B R) : AInv B (wR a R) := ⟨hR, h.2⟩
/-- the loop that moves the past down by one -/
def shf (x : RW) (k : Nat) : RW := fun i => if i < k then x (i + 689) else x i
def cpy (x y : RW) (b k : Nat) : RW := fun i => if b ≤ i ∧ i < b + k then y (i - b) else x i
theorem shf_ur {x : RW} {k : Nat} : ur (shf x k) k (x (k + 689)) = shf x (k + 1) := by
  funext i
  unfold ur shf
  by_cases h : i = k
  · subst h; rw [if_pos rfl, if_pos (by omega)]
  · rw [if_neg h]
    by_cases h2 : i < k
    · rw [if_pos h2, if_pos (by omega)]
    · rw [if_neg h2, if_neg (by omega)]
theorem cpy_ur {x y : RW} {b k : Nat} : ur (cpy x y b k) (b + k) (y k) = cpy x y b (k + 1) := by
  funext i
  unfold ur cpy
  by_cases h : i = b + k
  · subst h; rw [if_pos rfl, if_pos (by omega), show b + k - b = k by omega]
  · rw [if_neg h]
    by_cases h2 : b ≤ i ∧ i < b + k
    · rw [if_pos h2, if_pos (by omega)]
    · rw [if_neg h2, if_neg (by omega)]
theorem cpy_0 {x y : RW} {b : Nat} : cpy x y b 0 = x := by
  funext i
  unfold cpy
  rw [if_neg (by omega)]
theorem shf_0 {x : RW} : shf x 0 = x := by
  funext i
  unfold shf
  rw [if_neg (by omega)]
set_option maxRecDepth 10000 in
theorem m_rememberG {E : WE} {s : ST} {a : AS} {B : Nat} (h : AbsM s a) (hA : AInv B a) (Q : ST → Prop) (hQ : ∀ s', PM s (puA a) (s.1 20 2) s' → (∀ r, ¬ r = 20 → ¬ r = 22 → s'.1 r = s.1 r) → (∀ j, ¬ j = 0 → s'.1 20 j = s.1 20 j) → Q s') : SpQ E mX9_remember 0 [.ref (aF E 611)] s none Q := by
  refine SpQ.of vX9_remember.1 [some (.ref (aF E 611)), none] rfl (Nat.le_of_ble_eq_true rfl) rfl (fun C P X hP => ?_)
  obtain ⟨h1, ⟨h2, h3⟩, h4, h5, h6⟩ := h
  obtain ⟨g1, ⟨g2, g3⟩, -⟩ := hA
  -- the second half: from 55 on, with m things remembered
  have half : ∀ (m : Nat) (s1 : ST), m < 8 → s1.1 20 0 = nI m → frM s s1 → (∀ r, ¬ r = 20 → ¬ r = 22 → s1.1 r = s.1 r) → (∀ j, ¬ j = 0 → s1.1 20 j = s.1 20 j) →
      (∀ b : AS, b = wH a (m + 1) (fun k => if k = m then aR a else (puA a).2.1.2 k) → b = puA a) → (∀ k, k < m → Sh (fun j => s1.1 22 (689 * k + j)) (if k = m then aR a else (puA a).2.1.2 k) ∧ Inv (if k = m then aR a else (puA a).2.1.2 k)) →
      JM E mX9_remember C 0 0 0 P 55 [some (.ref (aF E 611)), none] [] s1 ∧ ∀ x : Int32, JM E mX9_remember C 0 0 0 P 55 [some (.ref (aF E 611)), some (.int x)] [] s1 := by
    intro m s1 hm hs0 hfr hro hsc hpu hpa
    have key : ∀ k, k ≤ 689 → JM E mX9_remember C 0 0 0 P 57 [some (.ref (aF E 611)), some (.int (nI k))] [] (sr s1 22 (cpy (s1.1 22) (s1.1 21) (689 * m) k)) → JM E mX9_remember C 0 0 0 P 57 [some (.ref (aF E 611)), some (.int (nI k))] [] (sr s1 22 (cpy (s1.1 22) (s1.1 21) (689 * m) k)) := fun _ _ h => h
    have loop : JM E mX9_remember C 0 0 0 P 57 [some (.ref (aF E 611)), some (.int (nI 0))] [] s1 := by
      have := loopU (N := 689) (I := fun k => JM E mX9_remember C 0 0 0 P 57 [some (.ref (aF E 611)), some (.int (nI k))] [] (sr s1 22 (cpy (s1.1 22) (s1.1 21) (689 * m) k))) ?_ (fun k hk ih => ?_)
      · rw [cpy_0, sr_id] at this; exact this
      · refine run X (rt := none) flX9_ok rfl tX9_remember_ok 40 [57] ?_
        simp only [go_go, gos_some, ctn_ctn, step, fv0, fv1, fv2, fv3, List.getElem?_cons_zero, List.getElem?_cons_succ, List.set_cons_zero, List.set_cons_succ, List.mem_cons, List.not_mem_nil, or_false, or_self, if_false, if_true, List.length_cons, List.length_nil, lval, upS_sr, sr_same, sr_sr, Nat.reduceEqDiff, not_false_eq_true, Classical.not_not, true_or, or_true, false_or, Nat.zero_add, Nat.add_zero, nI_add, pk_mul, Option.toList_some, Option.toList_none, List.cons_append, List.nil_append, n00, n11, n10, bv0, bv1, bft, bnf, bnt, Nat.reduceAdd, Nat.reduceEqDiff, Nat.reduceMul, Nat.reduceLT, Nat.reduceSub, true_implies, false_implies, not_true_eq_false, not_false_eq_true, true_and, and_true, sr_ne (show ¬ 21 = 20 by decide), sr_ne (show ¬ 20 = 21 by decide), sr_ne (show ¬ 22 = 20 by decide), sr_ne (show ¬ 22 = 21 by decide), sr_ne (show ¬ 20 = 22 by decide), sr_ne (show ¬ 21 = 22 by decide), kX9_remember_0, kX9_remember_1, kX9_remember_4, kX9_remember_6, kX9_remember_9, kX9_remember_10, kX9_remember_11, kX9_remember_14, kX9_remember_15, kX9_remember_16, kX9_remember_19, kX9_remember_20, kX9_remember_21, kX9_remember_22, kX9_remember_25, kX9_remember_26, kX9_remember_29, kX9_remember_30, kX9_remember_33, kX9_remember_34, kX9_remember_37, kX9_remember_38, kX9_remember_39, kX9_remember_42, kX9_remember_43, kX9_remember_46, kX9_remember_47, kX9_remember_48, kX9_remember_49, kX9_remember_52, kX9_remember_55, kX9_remember_56, kX9_remember_57, kX9_remember_58, kX9_remember_61, kX9_remember_64, kX9_remember_65, kX9_remember_68, kX9_remember_71, kX9_remember_72, kX9_remember_75, kX9_remember_76, kX9_remember_77, kX9_remember_78, kX9_remember_79, kX9_remember_82, kX9_remember_83, kX9_remember_84, kX9_remember_85, kX9_remember_88, kX9_remember_91, kX9_remember_92, kX9_remember_93, kX9_remember_96, kX9_remember_97, kX9_remember_98, kX9_remember_101, Nat.zero_ne_one, xAld, xArrF, xAst, xBin, xCmp, xDup, xGet, xGetF, xInc, xLdA, xLdI, xPut, xPutF, xSt, xVret, fX9_13, fX9_42, fX9_9, bI_8, cI_0, cI_1, sI_689, lA_611, fMod, lA_612, lA_613, lA_614, lA_615, lA_616, lA_617, lA_618, lA_619, nI_le (Nat.le_refl 689) (show 689 < 2 ^ 31 by decide), hs0, putT, show ¬ 8 = 5 by decide]
        refine hP _ (hQ _ ⟨hfr.tr (((frM.sr (by decide)).tr (frM.sr (by decide)))), ?_, ?_⟩ (fun r ha hb => by rw [sr_ne ha, sr_ne hb, hro r ha hb]) (fun j hj => by rw [sr_same, ur_ne hj, hsc j hj]))
        · rw [sr_same, ur_ne (by decide), hsc 2 (by decide)]
        · rw [← hpu _ rfl]
          unfold AbsM
          rw [sr_same, sr_ne (show ¬ 21 = 20 by decide), sr_ne (show ¬ 22 = 20 by decide), sr_ne (show ¬ 23 = 20 by decide), sr_ne (show ¬ 25 = 20 by decide), sr_same, sr_ne (show ¬ 21 = 22 by decide), sr_ne (show ¬ 23 = 22 by decide), sr_ne (show ¬ 25 = 22 by decide), hro 21 (by decide) (by decide), hro 23 (by decide) (by decide), hro 25 (by decide) (by decide)]
          rw [ur_ne (show ¬ 1 = 0 by decide), ur_ne (show ¬ 3 = 0 by decide), ur_ne (show ¬ 4 = 0 by decide), ur_ne (show ¬ 5 = 0 by decide), hsc 1 (by decide), hsc 3 (by decide), hsc 4 (by decide), hsc 5 (by decide)]
          refine ⟨h1, ⟨ur_eq, fun k hk => ?_⟩, h4, h5, h6⟩
          have hk9 : k < m + 1 := hk
          show Sh (fun j => cpy (s1.1 22) (s.1 21) (689 * m) 689 (689 * k + j)) (if k = m then aR a else (puA a).2.1.2 k)
          by_cases e : k = m
          · subst e
            rw [if_pos rfl]
            refine h1.raw (fun j hj => ?_) g1.1
            show cpy (s1.1 22) (s.1 21) (689 * k) 689 (689 * k + j) = s.1 21 j
            unfold cpy
            rw [if_pos (by omega), show 689 * k + j - 689 * k = j by omega]
          · refine (hpa k (by omega)).1.raw (fun j hj => ?_) (hpa k (by omega)).2
            show cpy (s1.1 22) (s.1 21) (689 * m) 689 (689 * k + j) = s1.1 22 (689 * k + j)
            unfold cpy
            rw [if_neg (by omega)]
      · have e1 : 689 * m + k < 5512 := by omega
        refine run X (rt := none) flX9_ok rfl tX9_remember_ok 40 [57] ?_
        simp only [go_go, gos_some, ctn_ctn, step, fv0, fv1, fv2, fv3, List.getElem?_cons_zero, List.getElem?_cons_succ, List.set_cons_zero, List.set_cons_succ, List.mem_cons, List.not_mem_nil, or_false, or_self, if_false, if_true, List.length_cons, List.length_nil, lval, upS_sr, sr_same, sr_sr, Nat.reduceEqDiff, not_false_eq_true, Classical.not_not, true_or, or_true, false_or, Nat.zero_add, Nat.add_zero, nI_add, pk_mul, Option.toList_some, Option.toList_none, List.cons_append, List.nil_append, n00, n11, n10, bv0, bv1, bft, bnf, bnt, Nat.reduceAdd, Nat.reduceEqDiff, Nat.reduceMul, Nat.reduceLT, Nat.reduceSub, true_implies, false_implies, not_true_eq_false, not_false_eq_true, true_and, and_true, sr_ne (show ¬ 21 = 20 by decide), sr_ne (show ¬ 20 = 21 by decide), sr_ne (show ¬ 22 = 20 by decide), sr_ne (show ¬ 22 = 21 by decide), sr_ne (show ¬ 20 = 22 by decide), sr_ne (show ¬ 21 = 22 by decide), kX9_remember_0, kX9_remember_1, kX9_remember_4, kX9_remember_6, kX9_remember_9, kX9_remember_10, kX9_remember_11, kX9_remember_14, kX9_remember_15, kX9_remember_16, kX9_remember_19, kX9_remember_20, kX9_remember_21, kX9_remember_22, kX9_remember_25, kX9_remember_26, kX9_remember_29, kX9_remember_30, kX9_remember_33, kX9_remember_34, kX9_remember_37, kX9_remember_38, kX9_remember_39, kX9_remember_42, kX9_remember_43, kX9_remember_46, kX9_remember_47, kX9_remember_48, kX9_remember_49, kX9_remember_52, kX9_remember_55, kX9_remember_56, kX9_remember_57, kX9_remember_58, kX9_remember_61, kX9_remember_64, kX9_remember_65, kX9_remember_68, kX9_remember_71, kX9_remember_72, kX9_remember_75, kX9_remember_76, kX9_remember_77, kX9_remember_78, kX9_remember_79, kX9_remember_82, kX9_remember_83, kX9_remember_84, kX9_remember_85, kX9_remember_88, kX9_remember_91, kX9_remember_92, kX9_remember_93, kX9_remember_96, kX9_remember_97, kX9_remember_98, kX9_remember_101, Nat.zero_ne_one, xAld, xArrF, xAst, xBin, xCmp, xDup, xGet, xGetF, xInc, xLdA, xLdI, xPut, xPutF, xSt, xVret, fX9_13, fX9_42, fX9_9, bI_8, cI_0, cI_1, sI_689, lA_611, fMod, lA_612, lA_613, lA_614, lA_615, lA_616, lA_617, lA_618, lA_619, nI_ge hk (show 689 < 2 ^ 31 by decide), hs0, vp_in_nI e1 (by decide), nI31 (show 689 * m + k < 2 ^ 31 by omega), vp_in_nI hk (by decide), nI31 (show k < 2 ^ 31 by omega), cpy_ur]
        exact ih
    refine ⟨?_, fun x => ?_⟩
    · refine run X (rt := none) flX9_ok rfl tX9_remember_ok 40 [57] ?_
      simp only [go_go, gos_some, ctn_ctn, step, fv0, fv1, fv2, fv3, List.getElem?_cons_zero, List.getElem?_cons_succ, List.set_cons_zero, List.set_cons_succ, List.mem_cons, List.not_mem_nil, or_false, or_self, if_false, if_true, List.length_cons, List.length_nil, lval, upS_sr, sr_same, sr_sr, Nat.reduceEqDiff, not_false_eq_true, Classical.not_not, true_or, or_true, false_or, Nat.zero_add, Nat.add_zero, nI_add, pk_mul, Option.toList_some, Option.toList_none, List.cons_append, List.nil_append, n00, n11, n10, bv0, bv1, bft, bnf, bnt, Nat.reduceAdd, Nat.reduceEqDiff, Nat.reduceMul, Nat.reduceLT, Nat.reduceSub, true_implies, false_implies, not_true_eq_false, not_false_eq_true, true_and, and_true, sr_ne (show ¬ 21 = 20 by decide), sr_ne (show ¬ 20 = 21 by decide), sr_ne (show ¬ 22 = 20 by decide), sr_ne (show ¬ 22 = 21 by decide), sr_ne (show ¬ 20 = 22 by decide), sr_ne (show ¬ 21 = 22 by decide), kX9_remember_0, kX9_remember_1, kX9_remember_4, kX9_remember_6, kX9_remember_9, kX9_remember_10, kX9_remember_11, kX9_remember_14, kX9_remember_15, kX9_remember_16, kX9_remember_19, kX9_remember_20, kX9_remember_21, kX9_remember_22, kX9_remember_25, kX9_remember_26, kX9_remember_29, kX9_remember_30, kX9_remember_33, kX9_remember_34, kX9_remember_37, kX9_remember_38, kX9_remember_39, kX9_remember_42, kX9_remember_43, kX9_remember_46, kX9_remember_47, kX9_remember_48, kX9_remember_49, kX9_remember_52, kX9_remember_55, kX9_remember_56, kX9_remember_57, kX9_remember_58, kX9_remember_61, kX9_remember_64, kX9_remember_65, kX9_remember_68, kX9_remember_71, kX9_remember_72, kX9_remember_75, kX9_remember_76, kX9_remember_77, kX9_remember_78, kX9_remember_79, kX9_remember_82, kX9_remember_83, kX9_remember_84, kX9_remember_85, kX9_remember_88, kX9_remember_91, kX9_remember_92, kX9_remember_93, kX9_remember_96, kX9_remember_97, kX9_remember_98, kX9_remember_101, Nat.zero_ne_one, xAld, xArrF, xAst, xBin, xCmp, xDup, xGet, xGetF, xInc, xLdA, xLdI, xPut, xPutF, xSt, xVret, fX9_13, fX9_42, fX9_9, bI_8, cI_0, cI_1, sI_689, lA_611, fMod, lA_612, lA_613, lA_614, lA_615, lA_616, lA_617, lA_618, lA_619]
      exact loop
    · refine run X (rt := none) flX9_ok rfl tX9_remember_ok 40 [57] ?_
      simp only [go_go, gos_some, ctn_ctn, step, fv0, fv1, fv2, fv3, List.getElem?_cons_zero, List.getElem?_cons_succ, List.set_cons_zero, List.set_cons_succ, List.mem_cons, List.not_mem_nil, or_false, or_self, if_false, if_true, List.length_cons, List.length_nil, lval, upS_sr, sr_same, sr_sr, Nat.reduceEqDiff, not_false_eq_true, Classical.not_not, true_or, or_true, false_or, Nat.zero_add, Nat.add_zero, nI_add, pk_mul, Option.toList_some, Option.toList_none, List.cons_append, List.nil_append, n00, n11, n10, bv0, bv1, bft, bnf, bnt, Nat.reduceAdd, Nat.reduceEqDiff, Nat.reduceMul, Nat.reduceLT, Nat.reduceSub, true_implies, false_implies, not_true_eq_false, not_false_eq_true, true_and, and_true, sr_ne (show ¬ 21 = 20 by decide), sr_ne (show ¬ 20 = 21 by decide), sr_ne (show ¬ 22 = 20 by decide), sr_ne (show ¬ 22 = 21 by decide), sr_ne (show ¬ 20 = 22 by decide), sr_ne (show ¬ 21 = 22 by decide), kX9_remember_0, kX9_remember_1, kX9_remember_4, kX9_remember_6, kX9_remember_9, kX9_remember_10, kX9_remember_11, kX9_remember_14, kX9_remember_15, kX9_remember_16, kX9_remember_19, kX9_remember_20, kX9_remember_21, kX9_remember_22, kX9_remember_25, kX9_remember_26, kX9_remember_29, kX9_remember_30, kX9_remember_33, kX9_remember_34, kX9_remember_37, kX9_remember_38, kX9_remember_39, kX9_remember_42, kX9_remember_43, kX9_remember_46, kX9_remember_47, kX9_remember_48, kX9_remember_49, kX9_remember_52, kX9_remember_55, kX9_remember_56, kX9_remember_57, kX9_remember_58, kX9_remember_61, kX9_remember_64, kX9_remember_65, kX9_remember_68, kX9_remember_71, kX9_remember_72, kX9_remember_75, kX9_remember_76, kX9_remember_77, kX9_remember_78, kX9_remember_79, kX9_remember_82, kX9_remember_83, kX9_remember_84, kX9_remember_85, kX9_remember_88, kX9_remember_91, kX9_remember_92, kX9_remember_93, kX9_remember_96, kX9_remember_97, kX9_remember_98, kX9_remember_101, Nat.zero_ne_one, xAld, xArrF, xAst, xBin, xCmp, xDup, xGet, xGetF, xInc, xLdA, xLdI, xPut, xPutF, xSt, xVret, fX9_13, fX9_42, fX9_9, bI_8, cI_0, cI_1, sI_689, lA_611, fMod, lA_612, lA_613, lA_614, lA_615, lA_616, lA_617, lA_618, lA_619]
      exact loop
  by_cases h8 : aN a = 8
  · have hpe : puA a = wH a 8 (fun k => if k = 7 then aR a else aP a (k + 1)) := by unfold puA; rw [if_pos h8]
    rw [h8] at h2
    have loop : ∀ s1 : ST, s1 = sr s 20 (ur (s.1 20) 0 (nI 7)) → JM E mX9_remember C 0 0 0 P 21 [some (.ref (aF E 611)), some (.int (nI 0))] [] s1 := by
      intro s1 hs1
      have hx : s1.1 20 0 = nI 7 := by rw [hs1, sr_same, ur_eq]
      have := loopU (N := 4823) (I := fun k => JM E mX9_remember C 0 0 0 P 21 [some (.ref (aF E 611)), some (.int (nI k))] [] (sr s1 22 (shf (s1.1 22) k))) ?_ (fun k hk ih => ?_)
      · rw [shf_0, sr_id] at this; exact this
      · refine run X (rt := none) flX9_ok rfl tX9_remember_ok 40 [21, 55] ?_
        simp only [go_go, gos_some, ctn_ctn, step, fv0, fv1, fv2, fv3, List.getElem?_cons_zero, List.getElem?_cons_succ, List.set_cons_zero, List.set_cons_succ, List.mem_cons, List.not_mem_nil, or_false, or_self, if_false, if_true, List.length_cons, List.length_nil, lval, upS_sr, sr_same, sr_sr, Nat.reduceEqDiff, not_false_eq_true, Classical.not_not, true_or, or_true, false_or, Nat.zero_add, Nat.add_zero, nI_add, pk_mul, Option.toList_some, Option.toList_none, List.cons_append, List.nil_append, n00, n11, n10, bv0, bv1, bft, bnf, bnt, Nat.reduceAdd, Nat.reduceEqDiff, Nat.reduceMul, Nat.reduceLT, Nat.reduceSub, true_implies, false_implies, not_true_eq_false, not_false_eq_true, true_and, and_true, sr_ne (show ¬ 21 = 20 by decide), sr_ne (show ¬ 20 = 21 by decide), sr_ne (show ¬ 22 = 20 by decide), sr_ne (show ¬ 22 = 21 by decide), sr_ne (show ¬ 20 = 22 by decide), sr_ne (show ¬ 21 = 22 by decide), kX9_remember_0, kX9_remember_1, kX9_remember_4, kX9_remember_6, kX9_remember_9, kX9_remember_10, kX9_remember_11, kX9_remember_14, kX9_remember_15, kX9_remember_16, kX9_remember_19, kX9_remember_20, kX9_remember_21, kX9_remember_22, kX9_remember_25, kX9_remember_26, kX9_remember_29, kX9_remember_30, kX9_remember_33, kX9_remember_34, kX9_remember_37, kX9_remember_38, kX9_remember_39, kX9_remember_42, kX9_remember_43, kX9_remember_46, kX9_remember_47, kX9_remember_48, kX9_remember_49, kX9_remember_52, kX9_remember_55, kX9_remember_56, kX9_remember_57, kX9_remember_58, kX9_remember_61, kX9_remember_64, kX9_remember_65, kX9_remember_68, kX9_remember_71, kX9_remember_72, kX9_remember_75, kX9_remember_76, kX9_remember_77, kX9_remember_78, kX9_remember_79, kX9_remember_82, kX9_remember_83, kX9_remember_84, kX9_remember_85, kX9_remember_88, kX9_remember_91, kX9_remember_92, kX9_remember_93, kX9_remember_96, kX9_remember_97, kX9_remember_98, kX9_remember_101, Nat.zero_ne_one, xAld, xArrF, xAst, xBin, xCmp, xDup, xGet, xGetF, xInc, xLdA, xLdI, xPut, xPutF, xSt, xVret, fX9_13, fX9_42, fX9_9, bI_8, cI_0, cI_1, sI_689, lA_611, fMod, lA_612, lA_613, lA_614, lA_615, lA_616, lA_617, lA_618, lA_619, nI_le (Nat.le_refl 4823) (show 4823 < 2 ^ 31 by decide), hx]
        refine (half 7 _ (by decide) (by rw [sr_ne (by decide)]; exact hx) (hs1 ▸ (frM.sr (by decide)).tr (frM.sr (by decide))) (fun r hr hr2 => by rw [sr_ne hr2, hs1, sr_ne hr]) (fun j hj => by rw [sr_ne (by decide), hs1, sr_same, ur_ne hj]) (fun b hb => ?_) (fun k hk => ?_)).2 _
        · rw [hb, hpe]
          show wH a 8 _ = wH a 8 _
          congr 1
          funext k
          show (if k = 7 then aR a else if k = 7 then aR a else aP a (k + 1)) = _
          split <;> rfl
        · rw [if_neg (by omega), hpe]
          show Sh _ (if k = 7 then aR a else aP a (k + 1)) ∧ Inv (if k = 7 then aR a else aP a (k + 1))
          rw [if_neg (by omega), sr_same]
          refine ⟨(h3 (k + 1) (by omega)).raw (fun j hj => ?_) (g3 (k + 1) (by omega)).1, (g3 (k + 1) (by omega)).1⟩
          show shf (s1.1 22) 4823 (689 * k + j) = s.1 22 (689 * (k + 1) + j)
          unfold shf
          rw [if_pos (by omega), hs1, sr_ne (by decide), show 689 * k + j + 689 = 689 * (k + 1) + j by omega]
      · have e1 : k + 689 < 5512 := by omega
        refine run X (rt := none) flX9_ok rfl tX9_remember_ok 40 [21, 55] ?_
        simp only [go_go, gos_some, ctn_ctn, step, fv0, fv1, fv2, fv3, List.getElem?_cons_zero, List.getElem?_cons_succ, List.set_cons_zero, List.set_cons_succ, List.mem_cons, List.not_mem_nil, or_false, or_self, if_false, if_true, List.length_cons, List.length_nil, lval, upS_sr, sr_same, sr_sr, Nat.reduceEqDiff, not_false_eq_true, Classical.not_not, true_or, or_true, false_or, Nat.zero_add, Nat.add_zero, nI_add, pk_mul, Option.toList_some, Option.toList_none, List.cons_append, List.nil_append, n00, n11, n10, bv0, bv1, bft, bnf, bnt, Nat.reduceAdd, Nat.reduceEqDiff, Nat.reduceMul, Nat.reduceLT, Nat.reduceSub, true_implies, false_implies, not_true_eq_false, not_false_eq_true, true_and, and_true, sr_ne (show ¬ 21 = 20 by decide), sr_ne (show ¬ 20 = 21 by decide), sr_ne (show ¬ 22 = 20 by decide), sr_ne (show ¬ 22 = 21 by decide), sr_ne (show ¬ 20 = 22 by decide), sr_ne (show ¬ 21 = 22 by decide), kX9_remember_0, kX9_remember_1, kX9_remember_4, kX9_remember_6, kX9_remember_9, kX9_remember_10, kX9_remember_11, kX9_remember_14, kX9_remember_15, kX9_remember_16, kX9_remember_19, kX9_remember_20, kX9_remember_21, kX9_remember_22, kX9_remember_25, kX9_remember_26, kX9_remember_29, kX9_remember_30, kX9_remember_33, kX9_remember_34, kX9_remember_37, kX9_remember_38, kX9_remember_39, kX9_remember_42, kX9_remember_43, kX9_remember_46, kX9_remember_47, kX9_remember_48, kX9_remember_49, kX9_remember_52, kX9_remember_55, kX9_remember_56, kX9_remember_57, kX9_remember_58, kX9_remember_61, kX9_remember_64, kX9_remember_65, kX9_remember_68, kX9_remember_71, kX9_remember_72, kX9_remember_75, kX9_remember_76, kX9_remember_77, kX9_remember_78, kX9_remember_79, kX9_remember_82, kX9_remember_83, kX9_remember_84, kX9_remember_85, kX9_remember_88, kX9_remember_91, kX9_remember_92, kX9_remember_93, kX9_remember_96, kX9_remember_97, kX9_remember_98, kX9_remember_101, Nat.zero_ne_one, xAld, xArrF, xAst, xBin, xCmp, xDup, xGet, xGetF, xInc, xLdA, xLdI, xPut, xPutF, xSt, xVret, fX9_13, fX9_42, fX9_9, bI_8, cI_0, cI_1, sI_689, lA_611, fMod, lA_612, lA_613, lA_614, lA_615, lA_616, lA_617, lA_618, lA_619, nI_ge hk (show 4823 < 2 ^ 31 by decide), hx, vp_in_nI e1 (by decide), nI31 (show k + 689 < 2 ^ 31 by omega), vp_in_nI (show k < 5512 by omega) (by decide), nI31 (show k < 2 ^ 31 by omega)]
        rw [show shf (s1.1 22) k (k + 689) = s1.1 22 (k + 689) by unfold shf; rw [if_neg (by omega)], shf_ur]
        exact ih
    refine run X (rt := none) flX9_ok rfl tX9_remember_ok 40 [21, 55] ?_
    simp only [go_go, gos_some, ctn_ctn, step, fv0, fv1, fv2, fv3, List.getElem?_cons_zero, List.getElem?_cons_succ, List.set_cons_zero, List.set_cons_succ, List.mem_cons, List.not_mem_nil, or_false, or_self, if_false, if_true, List.length_cons, List.length_nil, lval, upS_sr, sr_same, sr_sr, Nat.reduceEqDiff, not_false_eq_true, Classical.not_not, true_or, or_true, false_or, Nat.zero_add, Nat.add_zero, nI_add, pk_mul, Option.toList_some, Option.toList_none, List.cons_append, List.nil_append, n00, n11, n10, bv0, bv1, bft, bnf, bnt, Nat.reduceAdd, Nat.reduceEqDiff, Nat.reduceMul, Nat.reduceLT, Nat.reduceSub, true_implies, false_implies, not_true_eq_false, not_false_eq_true, true_and, and_true, sr_ne (show ¬ 21 = 20 by decide), sr_ne (show ¬ 20 = 21 by decide), sr_ne (show ¬ 22 = 20 by decide), sr_ne (show ¬ 22 = 21 by decide), sr_ne (show ¬ 20 = 22 by decide), sr_ne (show ¬ 21 = 22 by decide), kX9_remember_0, kX9_remember_1, kX9_remember_4, kX9_remember_6, kX9_remember_9, kX9_remember_10, kX9_remember_11, kX9_remember_14, kX9_remember_15, kX9_remember_16, kX9_remember_19, kX9_remember_20, kX9_remember_21, kX9_remember_22, kX9_remember_25, kX9_remember_26, kX9_remember_29, kX9_remember_30, kX9_remember_33, kX9_remember_34, kX9_remember_37, kX9_remember_38, kX9_remember_39, kX9_remember_42, kX9_remember_43, kX9_remember_46, kX9_remember_47, kX9_remember_48, kX9_remember_49, kX9_remember_52, kX9_remember_55, kX9_remember_56, kX9_remember_57, kX9_remember_58, kX9_remember_61, kX9_remember_64, kX9_remember_65, kX9_remember_68, kX9_remember_71, kX9_remember_72, kX9_remember_75, kX9_remember_76, kX9_remember_77, kX9_remember_78, kX9_remember_79, kX9_remember_82, kX9_remember_83, kX9_remember_84, kX9_remember_85, kX9_remember_88, kX9_remember_91, kX9_remember_92, kX9_remember_93, kX9_remember_96, kX9_remember_97, kX9_remember_98, kX9_remember_101, Nat.zero_ne_one, xAld, xArrF, xAst, xBin, xCmp, xDup, xGet, xGetF, xInc, xLdA, xLdI, xPut, xPutF, xSt, xVret, fX9_13, fX9_42, fX9_9, bI_8, cI_0, cI_1, sI_689, lA_611, fMod, lA_612, lA_613, lA_614, lA_615, lA_616, lA_617, lA_618, lA_619, h2, putT, show nI 8 - nI 1 = nI 7 from rfl, nI_inj (show 8 < 2 ^ 31 by decide) (show 8 < 2 ^ 31 by decide)]
    exact loop _ rfl
  · have hpe : puA a = wH a (aN a + 1) (fun k => if k = aN a then aR a else aP a k) := by unfold puA; rw [if_neg h8]
    refine run X (rt := none) flX9_ok rfl tX9_remember_ok 40 [21, 55] ?_
    simp only [go_go, gos_some, ctn_ctn, step, fv0, fv1, fv2, fv3, List.getElem?_cons_zero, List.getElem?_cons_succ, List.set_cons_zero, List.set_cons_succ, List.mem_cons, List.not_mem_nil, or_false, or_self, if_false, if_true, List.length_cons, List.length_nil, lval, upS_sr, sr_same, sr_sr, Nat.reduceEqDiff, not_false_eq_true, Classical.not_not, true_or, or_true, false_or, Nat.zero_add, Nat.add_zero, nI_add, pk_mul, Option.toList_some, Option.toList_none, List.cons_append, List.nil_append, n00, n11, n10, bv0, bv1, bft, bnf, bnt, Nat.reduceAdd, Nat.reduceEqDiff, Nat.reduceMul, Nat.reduceLT, Nat.reduceSub, true_implies, false_implies, not_true_eq_false, not_false_eq_true, true_and, and_true, sr_ne (show ¬ 21 = 20 by decide), sr_ne (show ¬ 20 = 21 by decide), sr_ne (show ¬ 22 = 20 by decide), sr_ne (show ¬ 22 = 21 by decide), sr_ne (show ¬ 20 = 22 by decide), sr_ne (show ¬ 21 = 22 by decide), kX9_remember_0, kX9_remember_1, kX9_remember_4, kX9_remember_6, kX9_remember_9, kX9_remember_10, kX9_remember_11, kX9_remember_14, kX9_remember_15, kX9_remember_16, kX9_remember_19, kX9_remember_20, kX9_remember_21, kX9_remember_22, kX9_remember_25, kX9_remember_26, kX9_remember_29, kX9_remember_30, kX9_remember_33, kX9_remember_34, kX9_remember_37, kX9_remember_38, kX9_remember_39, kX9_remember_42, kX9_remember_43, kX9_remember_46, kX9_remember_47, kX9_remember_48, kX9_remember_49, kX9_remember_52, kX9_remember_55, kX9_remember_56, kX9_remember_57, kX9_remember_58, kX9_remember_61, kX9_remember_64, kX9_remember_65, kX9_remember_68, kX9_remember_71, kX9_remember_72, kX9_remember_75, kX9_remember_76, kX9_remember_77, kX9_remember_78, kX9_remember_79, kX9_remember_82, kX9_remember_83, kX9_remember_84, kX9_remember_85, kX9_remember_88, kX9_remember_91, kX9_remember_92, kX9_remember_93, kX9_remember_96, kX9_remember_97, kX9_remember_98, kX9_remember_101, Nat.zero_ne_one, xAld, xArrF, xAst, xBin, xCmp, xDup, xGet, xGetF, xInc, xLdA, xLdI, xPut, xPutF, xSt, xVret, fX9_13, fX9_42, fX9_9, bI_8, cI_0, cI_1, sI_689, lA_611, fMod, lA_612, lA_613, lA_614, lA_615, lA_616, lA_617, lA_618, lA_619, h2, nI_inj (show aN a < 2 ^ 31 by omega) (show 8 < 2 ^ 31 by decide), h8]
    refine (half (aN a) s (by omega) h2 frM.rf (fun _ _ _ => rfl) (fun _ _ => rfl) (fun b hb => ?_) (fun k hk => ?_)).1
    · rw [hb, hpe]
      show wH a (aN a + 1) _ = wH a (aN a + 1) _
      congr 1
      funext k
      show (if k = aN a then aR a else if k = aN a then aR a else aP a k) = _
      split <;> rfl
    · rw [if_neg (by omega), hpe]
      show Sh _ (if k = aN a then aR a else aP a k) ∧ Inv (if k = aN a then aR a else aP a k)
      rw [if_neg (by omega)]
      exact ⟨h3 k hk, (g3 k hk).1⟩
theorem m_remember {E : WE} {s : ST} {a : AS} {B : Nat} (h : AbsM s a) (hA : AInv B a) : SpQ E mX9_remember 0 [.ref (aF E 611)] s none (PM s (puA a) (s.1 20 2)) := m_rememberG h hA _ (fun _ h _ _ => h)
