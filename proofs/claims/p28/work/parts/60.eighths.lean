/-! eighths -/
theorem fits_n {s : Bool} {c : Nat} {q : Int} (h1 : 2 ^ 23 ≤ c) (h2 : c < 2 ^ 24) (h3 : -149 ≤ q) (h4 : q ≤ 104) : FP.Core.fits FP.Core.b32 (.fin s c q) := ⟨h2, h3, h4, Or.inr h1⟩
theorem val_nrm {E t : Nat} (hE : 1 ≤ E) (hE2 : E ≤ 254) (ht : t < 2 ^ 23) : FP.Core.val32 (UInt32.ofNat (E * 2 ^ 23 + t)) = .fin false (2 ^ 23 + t) ((E : Int) - 150) := by
  rw [← FP.Core.val32_of32 (fits_n (s := false) (c := 2 ^ 23 + t) (q := (E : Int) - 150) (by omega) (by omega) (by omega) (by omega))]
  refine congrArg FP.Core.val32 (congrArg UInt32.ofNat ?_)
  unfold FP.Core.encode
  show _ = if 2 ^ 23 + t < FP.Core.b32.tails then _ else _
  rw [FP.Core.tails_b32, if_neg (by omega)]
  unfold FP.Core.assemble
  rw [FP.Core.tails_b32, FP.Core.qmin_b32, show ((E : Int) - 150 - -149).toNat + 1 = E by omega]
  show _ = (0 * _ + E) * 2 ^ 23 + (2 ^ 23 + t - 2 ^ 23)
  rw [Nat.zero_mul]
  omega
theorem half_nrm {E t : Nat} (hE : 2 ≤ E) (hE2 : E ≤ 254) (ht : t < 2 ^ 23) : FP.fmul (UInt32.ofNat (E * 2 ^ 23 + t)) 1056964608 = UInt32.ofNat ((E - 1) * 2 ^ 23 + t) := by
  have e1 := val_nrm (E := E - 1) (t := t) (by omega) (by omega) ht
  have e2 : FP.Core.val32 (FP.Core.fmul (UInt32.ofNat (E * 2 ^ 23 + t)) 1056964608) = FP.Core.val32 (UInt32.ofNat ((E - 1) * 2 ^ 23 + t)) := by
    rw [e1, FP.Core.val32_fmul, val_nrm (by omega) hE2 ht, show FP.Core.val32 1056964608 = .fin false 8388608 (-24) by decide +kernel]
    show FP.Core.roundRatio FP.Core.b32 false ((2 ^ 23 + t) * 8388608) 1 ((E : Int) - 150 + -24) = _
    refine FP.Core.roundRatio_exact FP.Core.good_b32 (by decide) (fits_n (by omega) (by omega) (by omega) (by omega)) ?_
    rw [show ((E : Int) - 150 + -24 - (((E - 1 : Nat) : Int) - 150)).toNat = 0 by omega, show ((((E - 1 : Nat) : Int) - 150) - ((E : Int) - 150 + -24)).toNat = 23 by omega]
    omega
  exact FP.Core.val32_inj (by rw [e2, e1]; intro z; cases z) e2
theorem i2f_nrm {t : Nat} (ht : t < 2 ^ 23) : FP.i2f (nI (t + 8388608)) = UInt32.ofNat (150 * 2 ^ 23 + t) := by
  have e1 := val_nrm (E := 150) (t := t) (by omega) (by omega) ht
  have e2 : FP.Core.val32 (FP.Core.i2f (nI (t + 8388608))) = FP.Core.val32 (UInt32.ofNat (150 * 2 ^ 23 + t)) := by
    rw [e1, FP.Core.val32_i2f, nI_toInt (show t + 8388608 < 2 ^ 31 by omega)]
    unfold FP.Core.ofInt
    rw [show decide ((((t + 8388608 : Nat) : Int)) < 0) = false from decide_eq_false (by omega), Int.natAbs_natCast]
    show FP.Core.roundRatio FP.Core.b32 false (t + 8388608) 1 0 = _
    refine FP.Core.roundRatio_exact FP.Core.good_b32 (by decide) (fits_n (by omega) (by omega) (by omega) (by omega)) ?_
    rw [show ((0 : Int) - (((150 : Nat) : Int) - 150)).toNat = 0 by omega, show ((((150 : Nat) : Int) - 150) - 0).toNat = 0 by omega]
    omega
  exact FP.Core.val32_inj (by rw [e2, e1]; intro z; cases z) e2
theorem hv_nrm {E t : Nat} (hE2 : E ≤ 254) (ht : t < 2 ^ 23) : ∀ n, n < E → hvN (UInt32.ofNat (E * 2 ^ 23 + t)) n = UInt32.ofNat ((E - n) * 2 ^ 23 + t)
  | 0, _ => rfl
  | n + 1, h => by
    show FP.fmul (hvN (UInt32.ofNat (E * 2 ^ 23 + t)) n) 1056964608 = _
    rw [hv_nrm hE2 ht n (by omega), half_nrm (by omega) (by omega) ht, Nat.sub_sub]
theorem nI_nat {n : Nat} (h : n < 2 ^ 31) : (nI n).toBitVec.toNat = n := by
  show n % 2 ^ 32 = n
  omega
theorem nI_ge0 {n : Nat} (h : n < 2 ^ 31) : (0 : Int32) ≤ nI n := by
  rw [Int32.le_iff_toInt_le, nI_toInt h]
  show (0 : Int) ≤ _
  omega
/-- a number by its bits, from the least exponent to 150 -/
theorem tfl_p {n : Nat} (h1 : 2 ^ 23 ≤ n) (h2 : n < 151 * 2 ^ 23) : tfl (nI n) = UInt32.ofNat n := by
  have hx : exN (nI n) = n / 2 ^ 23 := by
    unfold exN
    rw [nI_nat (by omega)]
    omega
  have ht : tN (nI n) = n % 2 ^ 23 := by
    show (nI n).toBitVec.toNat % 2 ^ 23 = _
    rw [nI_nat (by omega)]
  rw [← tfl_0 (nI_ge0 (by omega)), dgE_s (by rw [hx]; omega), exE_s (by rw [hx]; omega), hx, ht, i2f_nrm (Nat.mod_lt _ (by decide)), hv_nrm (by decide) (Nat.mod_lt _ (by decide)) _ (by omega)]
  refine congrArg UInt32.ofNat ?_
  omega
/-- the bits with the sign -/
def nM (n : Nat) : Int32 := nI n ||| -2147483648
theorem nM_nat {n : Nat} (h : n < 2 ^ 31) : (nM n).toBitVec.toNat = 2 ^ 31 + n := by
  unfold nM
  rw [Int32.toBitVec_or, BitVec.toNat_or, nI_nat h, show (Int32.toBitVec (-2147483648)).toNat = 2 ^ 31 * 1 by decide, Nat.or_comm, ← Nat.two_pow_add_eq_or_of_lt h, Nat.mul_one]
theorem nM_lt {n : Nat} (h : n < 2 ^ 31) : ¬ (0 : Int32) ≤ nM n := by
  rw [Int32.le_iff_toInt_le]
  show ¬ (0 : Int) ≤ (nM n).toBitVec.toInt
  rw [BitVec.toInt_eq_toNat_cond, nM_nat h, if_neg (by omega)]
  omega
theorem tfl_m {n : Nat} (h1 : 2 ^ 23 ≤ n) (h2 : n < 151 * 2 ^ 23) : tfl (nM n) = FP.fneg (UInt32.ofNat n) := by
  have hx : exN (nM n) = n / 2 ^ 23 := by
    unfold exN
    rw [nM_nat (by omega)]
    omega
  have ht : tN (nM n) = n % 2 ^ 23 := by
    show (nM n).toBitVec.toNat % 2 ^ 23 = _
    rw [nM_nat (by omega)]
    omega
  rw [← tfl_1 (nM_lt (by omega)), dgE_s (by rw [hx]; omega), exE_s (by rw [hx]; omega), hx, ht, i2f_nrm (Nat.mod_lt _ (by decide)), hv_nrm (by decide) (Nat.mod_lt _ (by decide)) _ (by omega)]
  refine congrArg (fun z => FP.fneg (UInt32.ofNat z)) ?_
  omega
theorem tfl_z : tfl (nI 0) = 0 := by decide +kernel
/-- the bits of so many eighths -/
def bN (e : Nat) : Nat := if e = 0 then 0 else (124 + Nat.log2 e) * 2 ^ 23 + (e - 2 ^ Nat.log2 e) * 2 ^ (23 - Nat.log2 e)
def allB (p : Nat → Bool) : Nat → Bool
  | 0 => true
  | n + 1 => p n && allB p n
theorem allB_lt {p : Nat → Bool} : ∀ {n : Nat}, allB p n = true → ∀ k, k < n → p k = true
  | 0, _, k, hk => absurd hk (Nat.not_lt_zero k)
  | n + 1, h, k, hk => by
    have h : (p n && allB p n) = true := h
    rw [Bool.and_eq_true] at h
    by_cases q : k = n
    · subst q
      exact h.1
    · exact allB_lt h.2 k (by omega)
/-- the float of so many eighths, 0 or more; of so many below 0 -/
abbrev uN (e : Nat) : UInt32 := UInt32.ofNat (bN e)
abbrev uM (e : Nat) : UInt32 := FP.fneg (uN e)
def okP (e : Nat) : Bool := (FP.f2d (uN e) == FP.dmul (FP.i2d (nI e)) 4593671619917905920) && decide (¬ Op.cmpValue (FP.fcmp (uN e) 3296329728) .l < 0 ∧ ¬ 0 < Op.cmpValue (FP.fcmp (uN e) 1148846080) .g) && rngB (uN e)
def okM (e : Nat) : Bool := (FP.f2d (uM (e + 1)) == FP.dmul (FP.i2d (-(nI (e + 1)))) 4593671619917905920) && decide (¬ Op.cmpValue (FP.fcmp (uM (e + 1)) 3296329728) .l < 0 ∧ ¬ 0 < Op.cmpValue (FP.fcmp (uM (e + 1)) 1148846080) .g) && rngB (uM (e + 1))
def okB (e : Nat) : Bool := decide (2 ^ 23 ≤ bN (e + 1) ∧ bN (e + 1) < 151 * 2 ^ 23 ∧ bN e < bN (e + 1))
theorem bN_all : allB okB 8002 = true := by decide +kernel
