/-! ===== the mean is a number ===== -/
theorem f64_t : (FP.Core.b64).tails = 4503599627370496 := by decide +kernel
theorem f64_e : (FP.Core.b64).exps = 2048 := by decide +kernel
theorem f64_m : (FP.Core.b64).qmax = 971 := by decide +kernel
theorem f64_n : (FP.Core.b64).qmin = -1074 := by decide +kernel
theorem f64_p : (2 : Nat) ^ (FP.Core.b64).p = 9007199254740992 := by decide +kernel
/-- a datum that is a number or an infinity of the format -/
def okD : FP.Core.Datum → Prop
  | .nan => False
  | .inf _ => True
  | .fin _ c q => c < 9007199254740992 ∧ q ≤ 971
theorem enc_ok {x : FP.Core.Datum} (h : okD x) : FP.Core.encode FP.Core.b64 x % 9223372036854775808 ≤ 9218868437227405312 := by
  cases x with
  | nan => exact absurd h id
  | inf s =>
    unfold FP.Core.encode FP.Core.assemble
    rw [f64_t, f64_e]
    cases s <;> decide
  | fin s c q =>
    obtain ⟨h1, h2⟩ := h
    simp only [FP.Core.encode, FP.Core.assemble]
    rw [f64_t, f64_e, f64_n]
    have hs : s.toNat = 0 ∨ s.toNat = 1 := by cases s <;> simp
    split <;> omega
theorem settle_ok {s : Bool} {c : Nat} {q : Int} : okD (FP.Core.settle FP.Core.b64 s c q) := by
  unfold FP.Core.settle FP.Core.bound
  rw [f64_p, f64_m, f64_t]
  split
  · split
    · rename_i a b; exact ⟨a, b⟩
    · trivial
  · split
    · rename_i a b; exact ⟨by decide, b⟩
    · trivial
theorem ratio_ok {s : Bool} {n d : Nat} {e : Int} : okD (FP.Core.roundRatio FP.Core.b64 s n d e) := by
  unfold FP.Core.roundRatio FP.Core.roundAt
  split
  · exact ⟨by decide, by rw [f64_n]; decide⟩
  · exact settle_ok
theorem dec_ok {n : Nat} (h : n % 9223372036854775808 ≤ 9218868437227405312) : FP.Core.decode FP.Core.b64 n ≠ .nan := by
  unfold FP.Core.decode FP.Core.fieldE FP.Core.fieldT
  rw [f64_t, f64_e]
  split
  · rename_i a
    rw [if_pos (by omega)]
    intro e; cases e
  · split <;> (intro e; cases e)
theorem u64n (n : Nat) : (UInt64.ofNat n).toNat = n % 18446744073709551616 := UInt64.toNat_ofNat'
theorem i2d_dec (x : Int32) : FP.Core.decode FP.Core.b64 (FP.i2d x).toNat ≠ .nan := by
  show FP.Core.decode FP.Core.b64 (UInt64.ofNat (FP.Core.fromInt FP.Core.b64 x.toInt)).toNat ≠ .nan
  have h : FP.Core.fromInt FP.Core.b64 x.toInt % 9223372036854775808 ≤ 9218868437227405312 := enc_ok ratio_ok
  generalize FP.Core.fromInt FP.Core.b64 x.toInt = n at h
  rw [u64n]
  exact dec_ok (by omega)
def finB (x : UInt64) : Bool := match FP.Core.decode FP.Core.b64 x.toNat with
  | .fin _ d _ => !decide (d = 0)
  | _ => false
theorem fin24 : ∀ n, n < 25 → n ≠ 0 → finB (FP.i2d (nI n)) = true := by decide +kernel
theorem quo_ok {x y : FP.Core.Datum} (hx : x ≠ .nan) {t : Bool} {d : Nat} {r : Int} (hy : y = .fin t d r) (hd : d ≠ 0) : okD (FP.Core.quotient FP.Core.b64 x y) := by
  subst hy
  cases x with
  | nan => exact absurd rfl hx
  | inf s => trivial
  | fin s c q =>
    unfold FP.Core.quotient
    simp only [if_neg hd]
    exact ratio_ok
theorem vf_of {n : Nat} (h : n % 9223372036854775808 ≤ 9218868437227405312) : vf_n64 (UInt64.ofNat n) := by
  unfold vf_n64
  rw [UInt64.le_iff_toNat_le, UInt64.toNat_and, u64n]
  show (n % 18446744073709551616) &&& 9223372036854775807 ≤ 9218868437227405312
  rw [show (9223372036854775807 : Nat) = 2 ^ 63 - 1 by decide, Nat.and_two_pow_sub_one_eq_mod]
  omega
theorem mean_num {R : RW} (hI : Inv R) (h : cS4 R ≠ 0) : vf_n64 (FP.ddiv (FP.i2d (nI (cS7 R))) (FP.i2d (nI (cS4 R)))) := by
  have hc := hI.c
  have l4 : cS4 R ≤ nn R 1 := ct_le _ _
  have hb := fin24 (cS4 R) (by omega) h
  show vf_n64 (UInt64.ofNat (FP.Core.div FP.Core.b64 (FP.i2d (nI (cS7 R))).toNat (FP.i2d (nI (cS4 R))).toNat))
  refine vf_of ?_
  unfold FP.Core.div
  have hx := i2d_dec (nI (cS7 R))
  unfold finB at hb
  generalize FP.Core.decode FP.Core.b64 (FP.i2d (nI (cS7 R))).toNat = x at hx
  generalize hy : FP.Core.decode FP.Core.b64 (FP.i2d (nI (cS4 R))).toNat = y at hb
  cases y with
  | nan => exact absurd hb (by decide)
  | inf s => exact absurd hb (by simp)
  | fin t d r => exact enc_ok (quo_ok hx rfl (by simpa using hb))
theorem cmp_self {v : UInt64} (h : vf_n64 v) {op : CmpOp} : Op.cmpValue (FP.dcmp v v) op = 0 := by
  have hd : FP.Core.decode FP.Core.b64 v.toNat ≠ .nan := by
    refine dec_ok ?_
    unfold vf_n64 at h
    rw [UInt64.le_iff_toNat_le, UInt64.toNat_and] at h
    have h : v.toNat &&& 9223372036854775807 ≤ 9218868437227405312 := h
    rw [show (9223372036854775807 : Nat) = 2 ^ 63 - 1 by decide, Nat.and_two_pow_sub_one_eq_mod] at h
    exact h
  have : FP.dcmp v v = some .eq := by
    show FP.Core.order (FP.Core.decode FP.Core.b64 v.toNat) (FP.Core.decode FP.Core.b64 v.toNat) = some .eq
    generalize FP.Core.decode FP.Core.b64 v.toNat = x at hd
    cases x with
    | nan => exact absurd rfl hd
    | inf s => cases s <;> decide
    | fin s c q =>
      unfold FP.Core.order
      simp
  rw [this]
  cases op <;> rfl
