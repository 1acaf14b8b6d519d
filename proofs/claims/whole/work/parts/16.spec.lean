/-! ===== constants ===== -/
theorem bI_6 : bI 6 = nI 6 := by decide
theorem bI_7 : bI 7 = nI 7 := by decide
theorem bI_8 : bI 8 = nI 8 := by decide
theorem bI_10 : bI 10 = nI 10 := by decide
theorem bI_11 : bI 11 = nI 11 := by decide
theorem bI_12 : bI 12 = nI 12 := by decide
theorem bI_13 : bI 13 = nI 13 := by decide
theorem bI_24 : bI 24 = nI 24 := by decide
theorem bI_31 : bI 31 = nI 31 := by decide
theorem bI_40 : bI 40 = nI 40 := by decide
theorem bI_44 : bI 44 = nI 44 := by decide
theorem bI_45 : bI 45 = nI 45 := by decide
theorem bI_48 : bI 48 = nI 48 := by decide
theorem bI_50 : bI 50 = nI 50 := by decide
theorem bI_53 : bI 53 = nI 53 := by decide
theorem bI_57 : bI 57 = nI 57 := by decide
theorem bI_58 : bI 58 = nI 58 := by decide
theorem bI_80 : bI 80 = nI 80 := by decide
theorem bI_99 : bI 99 = nI 99 := by decide
theorem bI_100 : bI 100 = nI 100 := by decide
theorem bI_102 : bI 102 = nI 102 := by decide
theorem bI_108 : bI 108 = nI 108 := by decide
theorem cI_m1 : cI (-1) = (-1) := by decide
theorem cI_0 : cI 0 = nI 0 := by decide
theorem cI_1 : cI 1 = nI 1 := by decide
theorem cI_2 : cI 2 = nI 2 := by decide
theorem cI_3 : cI 3 = nI 3 := by decide
theorem cI_4 : cI 4 = nI 4 := by decide
theorem cI_5 : cI 5 = nI 5 := by decide
theorem sI_144 : sI 144 = nI 144 := by decide
theorem sI_198 : sI 198 = nI 198 := by decide
theorem sI_199 : sI 199 = nI 199 := by decide
theorem sI_320 : sI 320 = nI 320 := by decide
theorem sI_369 : sI 369 = nI 369 := by decide
theorem sI_689 : sI 689 = nI 689 := by decide
theorem sI_999 : sI 999 = nI 999 := by decide
theorem sI_1000 : sI 1000 = nI 1000 := by decide
theorem sI_5512 : sI 5512 = nI 5512 := by decide
def bv (b : Bool) : Int32 := if b then nI 1 else nI 0
theorem bv_t : bv true = nI 1 := rfl
theorem bv_f : bv false = nI 0 := rfl
theorem n00 : (nI 0 = 0) = True := eq_true rfl
theorem n11 : (nI 1 = 1) = True := eq_true rfl
theorem n10 : (nI 1 = 0) = False := eq_false (by decide)
theorem bv0 (b : Bool) : (bv b = 0) = (b = false) := by cases b <;> simp [bv] <;> decide
theorem bv1 (b : Bool) : (bv b = 1) = (b = true) := by cases b <;> simp [bv] <;> decide
theorem bft (b : Bool) : (b = false ∨ b = true) = True := by cases b <;> simp
theorem bnf (b : Bool) : (¬ b = false) = (b = true) := by cases b <;> simp
theorem bnt (b : Bool) : (¬ b = true) = (b = false) := by cases b <;> simp
/-! ===== the numbers of a row ===== -/
abbrev RW : Type := Nat → Int32
def nn (R : RW) (k : Nat) : Nat := (R k).toNatClampNeg
def nm (R : RW) (k b : Nat) : Prop := R k = nI (nn R k) ∧ nn R k ≤ b
def ixO (R : RW) (x : Int32) : Prop := x = -1 ∨ ∃ j, j < nn R 0 ∧ x = nI j
/-- what always holds of a row -/
def Inv (R : RW) : Prop := (nm R 0 6 ∧ nm R 1 24 ∧ nm R 2 1073741824) ∧
  (∀ j, j < nn R 0 → nm R (3 + 7 * j) 99 ∧ nm R (3 + 7 * j + 1) 99 ∧ nm R (3 + 7 * j + 2) 12 ∧ nm R (3 + 7 * j + 3) 198 ∧ nm R (3 + 7 * j + 4) 1 ∧ nm R (3 + 7 * j + 5) 100 ∧ nm R (3 + 7 * j + 6) 3) ∧
  (∀ i, i < nn R 1 → (nm R (57 + 13 * i) 99 ∧ nm R (57 + 13 * i + 1) 99 ∧ nm R (57 + 13 * i + 2) 11 ∧ nm R (57 + 13 * i + 3) 999) ∧ ixO R (R (57 + 13 * i + 4)) ∧ nm R (57 + 13 * i + 5) 4 ∧ ixO R (R (57 + 13 * i + 10)) ∧
    ∀ p, p < nn R (57 + 13 * i + 5) → ∃ j, j < nn R 0 ∧ R (57 + 13 * i + 6 + p) = nI j)
/-- a row of the memory shows R, as far as it is alive -/
def Sh (r R : RW) : Prop := (r 0 = R 0 ∧ r 1 = R 1 ∧ r 2 = R 2) ∧ (∀ j w, j < nn R 0 → w < 7 → r (3 + 7 * j + w) = R (3 + 7 * j + w)) ∧ (∀ f, f < 12 → r (45 + f) = R (45 + f)) ∧
  (∀ i w, i < nn R 1 → w < 13 → (w < 6 ∨ 10 ≤ w) → r (57 + 13 * i + w) = R (57 + 13 * i + w)) ∧ (∀ i p, i < nn R 1 → p < nn R (57 + 13 * i + 5) → r (57 + 13 * i + 6 + p) = R (57 + 13 * i + 6 + p)) ∧
  (∀ e w, e < nn R 2 → e < 80 → w < 4 → r (369 + 4 * e + w) = R (369 + 4 * e + w))
theorem Inv.s {R : RW} (h : Inv R) : nn R 0 ≤ 6 := h.1.1.2
theorem Inv.c {R : RW} (h : Inv R) : nn R 1 ≤ 24 := h.1.2.1.2
theorem Inv.s0 {R : RW} (h : Inv R) : R 0 = nI (nn R 0) := h.1.1.1
theorem Inv.c0 {R : RW} (h : Inv R) : R 1 = nI (nn R 1) := h.1.2.1.1
theorem Inv.m {R : RW} (h : Inv R) {i : Nat} (hi : i < nn R 1) : R (57 + 13 * i + 5) = nI (nn R (57 + 13 * i + 5)) ∧ nn R (57 + 13 * i + 5) ≤ 4 := (h.2.2 i hi).2.2.1
theorem Sh.c {r R : RW} (h : Sh r R) {i : Nat} (hi : i < nn R 1) (w : Nat) (h1 : w < 13) (h2 : w < 6 ∨ 10 ≤ w) : r (57 + 13 * i + w) = R (57 + 13 * i + w) := h.2.2.2.1 i w hi h1 h2
theorem Sh.s {r R : RW} (h : Sh r R) {j : Nat} (hj : j < nn R 0) (w : Nat) (h1 : w < 7) : r (3 + 7 * j + w) = R (3 + 7 * j + w) := h.2.1 j w hj h1
theorem Sh.p {r R : RW} (h : Sh r R) {i p : Nat} (hi : i < nn R 1) (hp : p < nn R (57 + 13 * i + 5)) : r (57 + 13 * i + 6 + p) = R (57 + 13 * i + 6 + p) := h.2.2.2.2.1 i p hi hp
theorem nI31 {n : Nat} (h : n < 2 ^ 31) : (nI n).toNatClampNeg = n := nI_clamp h
theorem nI_inj {a b : Nat} (ha : a < 2 ^ 31) (hb : b < 2 ^ 31) : (nI a = nI b) = (a = b) := propext (nI_eq ha hb)
theorem nI_m1 {a : Nat} (ha : a < 2 ^ 31) : (nI a = -1) = False := by
  refine eq_false (fun h => ?_)
  have h1 := congrArg Int32.toInt h
  rw [nI_toInt ha] at h1
  have h2 : (-1 : Int32).toInt = -1 := by decide
  omega
theorem i_le (x y : Int32) : x ≤ y ↔ x.toInt ≤ y.toInt := Int32.le_iff_toInt_le
theorem i_lt (x y : Int32) : x < y ↔ x.toInt < y.toInt := Int32.lt_iff_toInt_lt
theorem nI_sub_toInt {a b : Nat} (ha : a < 2 ^ 30) (hb : b < 2 ^ 30) : (nI a - nI b).toInt = (a : Int) - b := pk_sub_toInt ha hb
/-- x is one of 0 .. n - 1 -/
def ixB (n : Nat) (x : Int32) : Bool := decide (0 ≤ x.toInt ∧ x.toInt < n)
theorem ixB_of {n : Nat} {x : Int32} (hn : n < 2 ^ 31) (h : ixB n x = true) : ∃ j, j < n ∧ x = nI j := by
  have h1 := of_decide_eq_true h
  refine ⟨x.toInt.toNat, by omega, ?_⟩
  apply Int32.toInt_inj.mp
  rw [nI_toInt (by omega)]
  omega
theorem ixB_nI {n j : Nat} (h : j < n) (hn : n < 2 ^ 31) : ixB n (nI j) = true := by
  unfold ixB
  rw [nI_toInt (by omega)]
  exact decide_eq_true ⟨by omega, by omega⟩
theorem ixB_in {n : Nat} {x : Int32} (hn : n < 2 ^ 31) : decide (nI 0 ≤ x ∧ x ≤ nI n) = ixB (n + 1) x := by
  unfold ixB
  refine decide_eq_decide.mpr ?_
  rw [i_le, i_le, nI_toInt hn, nI_toInt (by decide)]
  omega
theorem ixB_in1 {n : Nat} {x : Int32} (hn : n < 2 ^ 30) : decide (nI 0 ≤ x ∧ x ≤ nI n - nI 1) = ixB n x := by
  unfold ixB
  refine decide_eq_decide.mpr ?_
  rw [i_le, i_le, nI_sub_toInt hn (by decide), nI_toInt (by decide)]
  omega
/-- the absolute difference -/
def adf (a b : Nat) : Nat := if a < b then b - a else a - b
theorem adf_le {a b m : Nat} (ha : a ≤ m) (hb : b ≤ m) : adf a b ≤ m := by unfold adf; split <;> omega
/-! ===== the words of the document, over a row ===== -/
/-- the first place of w among n numbers, from j on -/
def plF (f : Nat → Int32) (w : Int32) : Nat → Nat → Int32
  | _, 0 => -1
  | j, n + 1 => if f j = w then nI j else plF f w (j + 1) n
theorem plF_cong {f g : Nat → Int32} {w : Int32} : ∀ (n j : Nat), (∀ p, j ≤ p → p < j + n → f p = g p) → plF f w j n = plF g w j n
  | 0, j, _ => rfl
  | n + 1, j, h => by
    rw [plF, plF, h j (by omega) (by omega), plF_cong n (j + 1) (fun p h1 h2 => h p (by omega) (by omega))]
theorem plF_or {f : Nat → Int32} {w : Int32} : ∀ (n j : Nat), plF f w j n = -1 ∨ ∃ p, j ≤ p ∧ p < j + n ∧ plF f w j n = nI p ∧ f p = w
  | 0, j => Or.inl rfl
  | n + 1, j => by
    rw [plF]
    by_cases h : f j = w
    · rw [if_pos h]; exact Or.inr ⟨j, by omega, by omega, rfl, h⟩
    · rw [if_neg h]
      rcases plF_or (f := f) (w := w) n (j + 1) with h1 | ⟨p, h1, h2, h3, h4⟩
      · exact Or.inl h1
      · exact Or.inr ⟨p, by omega, by omega, h3, h4⟩
def pl (R : RW) (i : Nat) (w : Int32) : Int32 := plF (fun p => R (57 + 13 * i + 6 + p)) w 0 (nn R (57 + 13 * i + 5))
def pf (R : RW) (i j : Nat) : Bool := !decide (pl R i (nI j) = -1) && (decide (pl R i (R (57 + 13 * i + 10)) = -1) || decide (pl R i (nI j) < pl R i (R (57 + 13 * i + 10))))
def ds (R : RW) (i j : Nat) : Nat := adf (nn R (57 + 13 * i)) (nn R (3 + 7 * j)) + adf (nn R (57 + 13 * i + 1)) (nn R (3 + 7 * j + 1))
def nr (R : RW) (i j : Nat) : Bool := decide (ds R i j ≤ nn R (3 + 7 * j + 3))
def hasB (x b : Int32) : Bool := decide ((x >>> (b &&& 31)) &&& nI 1 = nI 1)
def sb (R : RW) (i j : Nat) : Bool := hasB (R (45 + nn R (57 + 13 * i + 2))) (nI j) || hasB (R (57 + 13 * i + 11)) (nI j)
def cl (R : RW) (i j : Nat) : Nat := if R (57 + 13 * i + 4) = nI j then 0 else if sb R i j && (decide (nn R (3 + 7 * j + 4) = 1) || nr R i j) then 1 else if nr R i j then 2 else if sb R i j then 3 else 4
def ky (R : RW) (i j : Nat) : Nat := ((cl R i j * 199 + ds R i j) * 1000 + nn R (57 + 13 * i + 3)) * 24 + i
/-- how many below n -/
def ct (p : Nat → Bool) : Nat → Nat
  | 0 => 0
  | n + 1 => ct p n + (if p n then 1 else 0)
theorem ct_le (p : Nat → Bool) : ∀ n, ct p n ≤ n
  | 0 => Nat.le_refl _
  | n + 1 => by have := ct_le p n; rw [ct]; split <;> omega
theorem ct_cong {p q : Nat → Bool} : ∀ (n : Nat), (∀ k, k < n → p k = q k) → ct p n = ct q n
  | 0, _ => rfl
  | n + 1, h => by rw [ct, ct, ct_cong n (fun k hk => h k (by omega)), h n (by omega)]
def hl (R : RW) (j : Nat) : Nat := ct (fun i => decide (R (57 + 13 * i + 10) = nI j)) (nn R 1)
def fr (R : RW) (j : Nat) : Nat := nn R (3 + 7 * j + 2) + nn R (3 + 7 * j + 6) - hl R j
def wm (R : RW) (j : Nat) : Nat := ct (fun i => pf R i j) (nn R 1)
def wa (R : RW) (i j : Nat) : Nat := ct (fun o => pf R o j && decide (ky R o j < ky R i j)) (nn R 1)
def ha (R : RW) (i j : Nat) : Nat := ct (fun o => decide (R (57 + 13 * o + 10) = nI j) && decide (ky R o j < ky R i j)) (nn R 1)
theorem ds_le {R : RW} (h : Inv R) {i j : Nat} (hi : i < nn R 1) (hj : j < nn R 0) : ds R i j ≤ 198 := by
  obtain ⟨⟨h1, h2, -⟩, -⟩ := h.2.2 i hi
  obtain ⟨h3, h4, -⟩ := h.2.1 j hj
  have a1 := adf_le (m := 99) h1.2 h3.2
  have a2 := adf_le (m := 99) h2.2 h4.2
  unfold ds
  omega
theorem cl_le (R : RW) (i j : Nat) : cl R i j ≤ 4 := by unfold cl; split <;> (try omega); split <;> (try omega); split <;> (try omega); split <;> omega
theorem and_n1 (x : Int32) : (x &&& nI 1 = nI 1) = (x.toBitVec.getLsbD 0 = true) := by
  rw [show nI 1 = (1 : Int32) from rfl]
  apply propext
  constructor
  · intro h
    have h1 := congrArg Int32.toBitVec h
    have h2 := congrArg (fun b : BitVec 32 => b.getLsbD 0) h1
    simpa using h2
  · intro h
    apply Int32.toBitVec_inj.mp
    apply BitVec.eq_of_getLsbD_eq
    intro i hi
    by_cases e : i = 0
    · subst e; simpa using h
    · have : (1 : Int32).toBitVec.getLsbD i = false := by
        show (1#32).getLsbD i = false
        simp [e]
      simp [this, e]
theorem hasB_or (a b c : Int32) : hasB (a ||| b) c = (hasB a c || hasB b c) := by
  unfold hasB
  have e : (a ||| b) >>> (c &&& 31) = a >>> (c &&& 31) ||| b >>> (c &&& 31) := by
    apply Int32.toBitVec_inj.mp
    simp [BitVec.sshiftRight_or_distrib]
  rw [e]
  simp only [and_n1]
  simp
