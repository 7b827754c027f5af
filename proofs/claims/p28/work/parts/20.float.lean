/-! floats: what the walks need of them -/
abbrev Fin32 (x : UInt32) : Prop := FP.Core.FFin x
theorem n32_of {a : UInt32} (h : FP.Core.fIsNaN a = false) : vf_n32 a := by
  have h1 : ¬ (2139095040 < a.toNat % 2 ^ 31) := fun z => by rw [(FP.Core.isNaN_bits32 a).mpr z] at h; cases h
  show a &&& 0x7fffffff ≤ 0x7f800000
  rw [UInt32.le_iff_toNat_le, FP.Core.mask_toNat32]
  show _ ≤ 2139095040
  omega
theorem n64_of {a : UInt64} (h : FP.Core.dIsNaN a = false) : vf_n64 a := by
  have h1 : ¬ (9218868437227405312 < a.toNat % 2 ^ 63) := fun z => by rw [(FP.Core.isNaN_bits a).mpr z] at h; cases h
  show a &&& 0x7fffffffffffffff ≤ 0x7ff0000000000000
  rw [UInt64.le_iff_toNat_le, FP.Core.mask_toNat]
  show _ ≤ 9218868437227405312
  omega
theorem mul_n {a b : UInt32} (ha : Fin32 a) (hb : Fin32 b) : FP.Core.fIsNaN (FP.fmul a b) = false := FP.Core.fmul_out ha hb
theorem madd_n {v a b : UInt32} (hv : Fin32 v) (ha : Fin32 a) (hb : Fin32 b) : FP.Core.fIsNaN (FP.fadd (FP.fmul v a) b) = false := FP.Core.fadd_out (mul_n hv ha) hb
/-- from minus to plus a thousand million -/
def rngB (x : UInt32) : Bool := decide (¬ Op.cmpValue (FP.fcmp x 3463342888) .l < 0 ∧ ¬ 0 < Op.cmpValue (FP.fcmp x 1315859240) .g)
theorem rngB_iff {x : UInt32} : rngB x = true ↔ ¬ Op.cmpValue (FP.fcmp x 3463342888) .l < 0 ∧ ¬ 0 < Op.cmpValue (FP.fcmp x 1315859240) .g := by unfold rngB; exact decide_eq_true_iff
theorem rng_fin {x : UInt32} (h : rngB x = true) : Fin32 x := by
  obtain ⟨h1, h2⟩ := rngB_iff.mp h
  cases hv : FP.Core.val32 x with
  | nan =>
    exfalso
    have e : FP.fcmp x 3463342888 = none := (FP.Core.fcmp_none _ _).mpr (Or.inl hv)
    rw [e] at h1
    exact h1 (by decide)
  | inf s =>
    exfalso
    have hx : x = (if s then 4286578688 else 2139095040) := FP.Core.val32_inj (by rw [hv]; intro z; cases z) (by rw [hv, FP.Core.val32_inf])
    cases s with
    | true =>
      subst hx
      exact h1 (by decide +kernel)
    | false =>
      subst hx
      exact h2 (by decide +kernel)
  | fin s c q => exact ⟨s, c, q, hv⟩
theorem fin_0 : Fin32 0 := ⟨false, 0, _, FP.Core.val32_zero⟩
