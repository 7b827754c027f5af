/-! floats and doubles: the same order; a difference taken the other way round -/
theorem order_in {s t : Bool} {c d : Nat} {q r e : Int} (hq : e ≤ q) (hr : e ≤ r) : FP.Core.order (.fin s c q) (.fin t d r) = some (compare (FP.Core.signed s (FP.Core.inUnits c q e)) (FP.Core.signed t (FP.Core.inUnits d r e))) := by
  show some (compare (FP.Core.signed s (FP.Core.inUnits c q (min q r))) (FP.Core.signed t (FP.Core.inUnits d r (min q r)))) = _
  congr 1
  rw [FP.Core.inUnits_move c (q := q) (e := e) (r := min q r) (by omega) (by omega), FP.Core.inUnits_move d (q := r) (e := e) (r := min q r) (by omega) (by omega), FP.Core.signed_mul, FP.Core.signed_mul]
  refine (FP.Core.compare_mul_pos _ _ _ ?_).symm
  have := Nat.two_pow_pos (min q r - e).toNat
  omega
theorem units_same {c c' : Nat} {q q' e : Int} (hq : e ≤ q) (hq' : e ≤ q') (h : c * 2 ^ (q - q').toNat = c' * 1 * 2 ^ (q' - q).toNat) : FP.Core.inUnits c q e = FP.Core.inUnits c' q' e := by
  unfold FP.Core.inUnits
  rw [Nat.mul_one] at h
  by_cases hle : q ≤ q'
  · rw [show (q - q').toNat = 0 by omega, Nat.pow_zero, Nat.mul_one] at h
    rw [h, Nat.mul_assoc, ← Nat.pow_add, show (q' - q).toNat + (q - e).toNat = (q' - e).toNat by omega]
  · rw [show (q' - q).toNat = 0 by omega, Nat.pow_zero, Nat.mul_one] at h
    rw [← h, Nat.mul_assoc, ← Nat.pow_add, show (q - q').toNat + (q' - e).toNat = (q - e).toNat by omega]
theorem dcmp_f2d {a b : UInt32} (ha : Fin32 a) (hb : Fin32 b) : FP.dcmp (FP.f2d a) (FP.f2d b) = FP.fcmp a b := by
  rw [FP.f2d_core (FP.Core.FFin.notNaN ha), FP.f2d_core (FP.Core.FFin.notNaN hb)]
  show FP.Core.order (FP.Core.val64 (FP.Core.f2d a)) (FP.Core.val64 (FP.Core.f2d b)) = FP.Core.order (FP.Core.val32 a) (FP.Core.val32 b)
  rw [FP.Core.val64_f2d, FP.Core.val64_f2d]
  have fa := FP.Core.val32_fits a
  have fb := FP.Core.val32_fits b
  obtain ⟨s, c, q, ea⟩ := ha
  obtain ⟨t, d, r, eb⟩ := hb
  rw [ea] at fa ⊢
  rw [eb] at fb ⊢
  obtain ⟨c', q', g1, -, g2⟩ := FP.Core.within_fit FP.Core.good_b64 FP.Core.within_32_64 fa
  obtain ⟨d', r', k1, -, k2⟩ := FP.Core.within_fit FP.Core.good_b64 FP.Core.within_32_64 fb
  have e1 : FP.Core.round FP.Core.b64 (.fin s c q) = .fin s c' q' := FP.Core.roundRatio_exact FP.Core.good_b64 (by decide) g1 g2
  have e2 : FP.Core.round FP.Core.b64 (.fin t d r) = .fin t d' r' := FP.Core.roundRatio_exact FP.Core.good_b64 (by decide) k1 k2
  rw [e1, e2]
  obtain ⟨e, h1, h2, h3, h4⟩ : ∃ e : Int, e ≤ q ∧ e ≤ q' ∧ e ≤ r ∧ e ≤ r' := ⟨min (min q q') (min r r'), by omega, by omega, by omega, by omega⟩
  rw [order_in h2 h4, order_in h1 h3, units_same h1 h2 g2, units_same h3 h4 k2]
theorem zmag_neg (f : FP.Core.Fmt) (d : FP.Core.Datum) : FP.Core.zmag f (FP.Core.negate d) = FP.Core.zmag f d := by cases d <;> rfl
theorem zmag_sign (f : FP.Core.Fmt) (s t : Bool) (n : Nat) (e : Int) : FP.Core.zmag f (FP.Core.round f (.fin s n e)) = FP.Core.zmag f (FP.Core.round f (.fin t n e)) := by
  by_cases h : s = t
  · rw [h]
  · have : FP.Core.round f (.fin t n e) = FP.Core.negate (FP.Core.round f (.fin s n e)) := by
      rw [FP.Core.negate_round]
      show _ = FP.Core.round f (.fin (!s) n e)
      rw [show (!s) = t by cases s <;> cases t <;> simp_all]
    rw [this, zmag_neg]
theorem sub_fin_val {x y : UInt32} {s t : Bool} {c d : Nat} {q r : Int} (hx : FP.Core.val32 x = .fin s c q) (hy : FP.Core.val32 y = .fin t d r) : ∃ u, FP.Core.val32 (FP.fsub x y) = FP.Core.round FP.Core.b32 (.fin u (FP.Core.sumUnits s c q (!t) d r (min q r)).natAbs (min q r)) := by
  refine ⟨FP.Core.sumSign s (!t) (FP.Core.sumUnits s c q (!t) d r (min q r)), ?_⟩
  show FP.Core.val32 (FP.Core.fsub x y) = _
  rw [FP.Core.val32_fsub, hx, hy]
  rfl
theorem zmag_swap {x y : UInt32} (hx : Fin32 x) (hy : Fin32 y) : FP.Core.zmag FP.Core.b32 (FP.Core.val32 (FP.fsub x y)) = FP.Core.zmag FP.Core.b32 (FP.Core.val32 (FP.fsub y x)) := by
  obtain ⟨s, c, q, ea⟩ := hx
  obtain ⟨t, d, r, eb⟩ := hy
  obtain ⟨u, h1⟩ := sub_fin_val ea eb
  obtain ⟨u', h2⟩ := sub_fin_val eb ea
  rw [h1, h2]
  have e : (FP.Core.sumUnits t d r (!s) c q (min r q)).natAbs = (FP.Core.sumUnits s c q (!t) d r (min q r)).natAbs := by
    unfold FP.Core.sumUnits
    rw [FP.Core.signed_not, FP.Core.signed_not, show min r q = min q r by omega]
    omega
  rw [e, show min r q = min q r by omega]
  exact zmag_sign _ _ _ _ _
theorem cmp_0 {d : UInt32} (h : FP.Core.fIsNaN d = false) : FP.fcmp d FP.fconst0 = some (compare (FP.Core.zval FP.Core.b32 (FP.Core.val32 d)) 0) := by
  have e : FP.fconst0 = 0 := rfl
  rw [e]
  show FP.Core.fcmp d 0 = _
  rw [FP.Core.fcmp_zval ((FP.Core.notNaN_iff32 d).mp h) (by rw [FP.Core.val32_zero]; intro z; cases z), FP.Core.zval32_zero]
theorem absF_n {d : UInt32} (h : FP.Core.fIsNaN d = false) : FP.Core.fIsNaN (absF d) = false := by
  unfold absF
  split
  · exact h
  · exact (FP.fneg_nan d).trans h
theorem zval_abs {d : UInt32} (h : FP.Core.fIsNaN d = false) : FP.Core.zval FP.Core.b32 (FP.Core.val32 (absF d)) = (FP.Core.zmag FP.Core.b32 (FP.Core.val32 d) : Int) := by
  have hz : (FP.Core.zval FP.Core.b32 (FP.Core.val32 d)).natAbs = FP.Core.zmag FP.Core.b32 (FP.Core.val32 d) := FP.Core.natAbs_signed _ _
  by_cases hc : 0 ≤ Op.cmpValue (FP.fcmp d FP.fconst0) .g
  · rw [absF_t hc]
    rw [cmp_0 h] at hc
    have : ¬ FP.Core.zval FP.Core.b32 (FP.Core.val32 d) < 0 := fun z => by
      rw [(FP.Core.compare_lt_iff _ _).mpr z] at hc
      exact absurd hc (by decide)
    omega
  · rw [absF_f hc, FP.val32_fneg, FP.Core.zval_negate]
    rw [cmp_0 h] at hc
    have : FP.Core.zval FP.Core.b32 (FP.Core.val32 d) < 0 := by
      rcases Int.lt_trichotomy (FP.Core.zval FP.Core.b32 (FP.Core.val32 d)) 0 with z | z | z
      · exact z
      · rw [(FP.Core.compare_eq_iff _ _).mpr z] at hc; exact absurd (by decide) hc
      · rw [(FP.Core.compare_gt_iff _ _).mpr z] at hc; exact absurd (by decide) hc
    omega
theorem sub_n {x y : UInt32} (hx : Fin32 x) (hy : Fin32 y) : FP.Core.fIsNaN (FP.fsub x y) = false := FP.Core.fsub_out (FP.Core.FFin.notNaN hx) hy
/-- how far: the other way round -/
theorem far_swap {x y t : UInt32} (hx : Fin32 x) (hy : Fin32 y) (ht : Fin32 t) : FP.fcmp (absF (FP.fsub x y)) t = FP.fcmp (absF (FP.fsub y x)) t := by
  have nt := (FP.Core.notNaN_iff32 t).mp (FP.Core.FFin.notNaN ht)
  show FP.Core.fcmp _ t = FP.Core.fcmp _ t
  rw [FP.Core.fcmp_zval ((FP.Core.notNaN_iff32 _).mp (absF_n (sub_n hx hy))) nt, FP.Core.fcmp_zval ((FP.Core.notNaN_iff32 _).mp (absF_n (sub_n hy hx))) nt, zval_abs (sub_n hx hy), zval_abs (sub_n hy hx), zmag_swap hx hy]
