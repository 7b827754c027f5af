/-! how large strengths grow: bits without the sign, at most K times 2^23 -/
abbrev Mg (K : Nat) (x : UInt32) : Prop := x.toNat % 2 ^ 31 ≤ K * 2 ^ 23
theorem Mg_fin {K : Nat} {x : UInt32} (h : Mg K x) (hK : K ≤ 254) : Fin32 x := by
  have h : x.toNat % 2 ^ 31 ≤ K * 2 ^ 23 := h
  exact (FP.Core.fin_bits32 x).mpr (by omega)
theorem Mg_up {K K' : Nat} {x : UInt32} (h : Mg K x) (hK : K ≤ K') : Mg K' x := Nat.le_trans h (Nat.mul_le_mul_right _ hK)
theorem Mg_un {K a : Nat} (hK : 1 ≤ K) (h : a ≤ K * 2 ^ 23) : FP.Core.unitsOf FP.Core.b32 a ≤ 2 ^ 23 * 2 ^ (K - 1) := by
  rw [← FP.Core.tails_b32, ← FP.Core.unitsOf_start (f := FP.Core.b32) hK]
  exact FP.Core.unitsOf_le_iff.mpr (by rw [FP.Core.tails_b32]; exact h)
theorem Mg_two (k : Nat) : 2 ^ 23 * 2 ^ (k + 1) = 2 ^ 23 * 2 ^ k + 2 ^ 23 * 2 ^ k := by
  rw [show 2 ^ (k + 1) = 2 ^ k * 2 from rfl]
  generalize 2 ^ k = X
  omega
theorem Mg_sum {x y : FP.Core.Datum} {n a b K : Nat} (hn : FP.Core.decode FP.Core.b32 n = FP.Core.round FP.Core.b32 (FP.Core.exactSum x y)) (hx : ∃ s c q, x = .fin s c q) (hy : ∃ s c q, y = .fin s c q) (fx : FP.Core.fits FP.Core.b32 x) (fy : FP.Core.fits FP.Core.b32 y)
    (zx : FP.Core.zmag FP.Core.b32 x = FP.Core.unitsOf FP.Core.b32 a) (zy : FP.Core.zmag FP.Core.b32 y = FP.Core.unitsOf FP.Core.b32 b) (hK : 1 ≤ K) (ha : a ≤ K * 2 ^ 23) (hb : b ≤ K * 2 ^ 23) : FP.Core.mag FP.Core.b32 n ≤ (K + 1) * 2 ^ 23 := by
  have l1 := Mg_un hK ha
  have l2 := Mg_un hK hb
  rw [← zx] at l1
  rw [← zy] at l2
  obtain ⟨s, c, q, rfl⟩ := hx
  obtain ⟨t, d, r, rfl⟩ := hy
  obtain ⟨sg, v, e, p1, p2, p3⟩ := FP.Core.sum_units fx fy
  rw [p1] at hn
  rw [← FP.Core.tails_b32]
  refine FP.Core.mag_le (s := sg) (A := v) (B := 1) (e := e) FP.Core.good_b32 hn (by decide) (e0 := FP.Core.b32.qmin) (Int.le_refl _) p2 ?_
  rw [FP.Core.unitsOf_start (by omega), Int.sub_self, Int.toNat_zero, Nat.pow_zero, Nat.mul_one, Nat.mul_one, FP.Core.tails_b32, show K + 1 - 1 = (K - 1) + 1 by omega, Mg_two]
  generalize 2 ^ 23 * 2 ^ (K - 1) = S at l1 l2 ⊢
  have h1 := congrArg Int.natAbs p3
  rw [FP.Core.natAbs_signed] at h1
  rw [h1]
  have h2 := Int.natAbs_add_le (FP.Core.zval FP.Core.b32 (.fin s c q)) (FP.Core.zval FP.Core.b32 (.fin t d r))
  have h3 : (FP.Core.zval FP.Core.b32 (.fin s c q)).natAbs = FP.Core.zmag FP.Core.b32 (.fin s c q) := by unfold FP.Core.zval; rw [FP.Core.natAbs_signed]
  have h4 : (FP.Core.zval FP.Core.b32 (.fin t d r)).natAbs = FP.Core.zmag FP.Core.b32 (.fin t d r) := by unfold FP.Core.zval; rw [FP.Core.natAbs_signed]
  omega
theorem Mg_add {K : Nat} {a b : UInt32} (ha : Mg K a) (hb : Mg K b) (h1 : 1 ≤ K) (hK : K ≤ 254) : Mg (K + 1) (FP.fadd a b) := by
  have fa := Mg_fin ha hK
  have fb := Mg_fin hb hK
  have za := FP.Core.zmag_toNat32 (a := a) (FP.Core.FFin.ne_nan fa)
  have zb := FP.Core.zmag_toNat32 (a := b) (FP.Core.FFin.ne_nan fb)
  have := Mg_sum (n := (FP.fadd a b).toNat) (FP.Core.val32_fadd a b) fa fb (FP.Core.val32_fits a) (FP.Core.val32_fits b) za zb h1 ha hb
  rwa [FP.Core.mag_toNat32] at this
theorem Mg_sub {K : Nat} {a b : UInt32} (ha : Mg K a) (hb : Mg K b) (h1 : 1 ≤ K) (hK : K ≤ 254) : Mg (K + 1) (FP.fsub a b) := by
  have fa := Mg_fin ha hK
  have fb := Mg_fin hb hK
  have za := FP.Core.zmag_toNat32 (a := a) (FP.Core.FFin.ne_nan fa)
  have zb := FP.Core.zmag_toNat32 (a := b) (FP.Core.FFin.ne_nan fb)
  have zb' : FP.Core.zmag FP.Core.b32 (FP.Core.negate (FP.Core.val32 b)) = FP.Core.unitsOf FP.Core.b32 (b.toNat % 2 ^ 31) := by
    rw [← zb]; cases FP.Core.val32 b <;> rfl
  have fb' : ∃ s c q, FP.Core.negate (FP.Core.val32 b) = .fin s c q := by
    obtain ⟨s, c, q, h⟩ := fb; exact ⟨!s, c, q, by rw [h]; rfl⟩
  have := Mg_sum (n := (FP.fsub a b).toNat) (FP.Core.val32_fsub a b) fa fb' (FP.Core.val32_fits a) (FP.Core.negate_fits (FP.Core.val32_fits b)) za zb' h1 ha hb
  rwa [FP.Core.mag_toNat32] at this
theorem half_val : FP.Core.val32 1056964608 = .fin false 8388608 (-24) := by decide +kernel
theorem Mg_half {K : Nat} {a : UInt32} (ha : Mg K a) (h1 : 1 ≤ K) (hK : K ≤ 254) : Mg K (FP.fmul a 1056964608) := by
  have fa := Mg_fin ha hK
  have za := FP.Core.zmag_toNat32 (a := a) (FP.Core.FFin.ne_nan fa)
  obtain ⟨s, c, q, hv⟩ := fa
  have fx := FP.Core.val32_fits a
  have fy := FP.Core.val32_fits 1056964608
  rw [hv] at fx za
  rw [half_val] at fy
  obtain ⟨p1, p2, p3⟩ := FP.Core.product_units fx fy
  have hd : FP.Core.decode FP.Core.b32 (FP.fmul a 1056964608).toNat = FP.Core.roundRatio FP.Core.b32 (s != false) (c * 8388608) 1 (q + -24) := by
    have h2 : FP.Core.val32 (FP.fmul a 1056964608) = FP.Core.round FP.Core.b32 (FP.Core.exactProduct (FP.Core.val32 a) (FP.Core.val32 1056964608)) := FP.Core.val32_fmul a _
    rw [hv, half_val, p1] at h2
    exact h2
  have l1 := Mg_un h1 ha
  rw [← za] at l1
  have hz : FP.Core.zmag FP.Core.b32 (.fin false 8388608 (-24)) = 2 ^ 148 := by decide +kernel
  show (FP.fmul a 1056964608).toNat % 2 ^ 31 ≤ K * 2 ^ 23
  rw [← FP.Core.mag_toNat32, ← FP.Core.tails_b32]
  refine FP.Core.mag_le (s := s != false) (A := c * 8388608) (B := 1) (e := q + -24) FP.Core.good_b32 hd (by decide) (e0 := 2 * FP.Core.b32.qmin) (by decide) p2 ?_
  rw [p3, hz, FP.Core.unitsOf_start h1, FP.Core.tails_b32, show (FP.Core.b32.qmin - 2 * FP.Core.b32.qmin).toNat = 149 by decide, Nat.mul_one]
  exact Nat.mul_le_mul l1 (Nat.pow_le_pow_right (by decide) (by decide))
/-- the hammer's new strength -/
theorem Mg_ham {K : Nat} {x : UInt32} (hx : Mg K x) (h1 : 132 ≤ K) (hK : K ≤ 252) : Mg (K + 2) (FP.fadd x (FP.fmul (FP.fsub 1092616192 x) 1056964608)) := by
  have h10 : Mg K 1092616192 := by
    show (1092616192 : UInt32).toNat % 2 ^ 31 ≤ K * 2 ^ 23
    rw [show (1092616192 : UInt32).toNat = 1092616192 from rfl]
    omega
  exact Mg_add (Mg_up hx (by omega)) (Mg_half (Mg_sub h10 hx (by omega) (by omega)) (by omega) (by omega)) (by omega) (by omega)
theorem uN_mg {e : Nat} (h : e ≤ 80) : Mg 131 (tfl (nI (bN e))) := by
  rw [tfl_u (by omega)]
  show (UInt32.ofNat (bN e)).toNat % 2 ^ 31 ≤ 131 * 2 ^ 23
  have hb : bN e < 131 * 2 ^ 23 := Nat.lt_of_le_of_lt (by
    by_cases q : e = 80
    · rw [q]; exact Nat.le_refl (bN 80)
    · exact Nat.le_of_lt (bN_mono (by omega) (show e < 80 by omega))) (show bN 80 < 131 * 2 ^ 23 by decide +kernel)
  rw [UInt32.toNat_ofNat']
  omega
/-- what a storm leaves -/
theorem Mg_st {K : Nat} {M : MT} {e k : Nat} (hx : Mg K (mH M k)) (hN : mN M ≤ 40) (h0 : 0 < e) (he : e ≤ 80) (h1 : 133 ≤ K) (hK : K ≤ 253) : Mg (K + 1) (stF M (tfl (nI (bN e))) k) := by
  have hf := uN_mg he
  have hc := cR_le (hfB M (mW M k)) (k + 1) (mN M - (k + 1))
  have hi : nI (1 + cR (hfB M (mW M k)) (k + 1) (mN M - (k + 1))) ≠ 0 := fun z => by
    have := Option.some.inj ((lk_eq (x := some (1 + cR (hfB M (mW M k)) (k + 1) (mN M - (k + 1)))) (k := 0) (by decide) (fun j hj => by cases hj; omega)).mp z)
    omega
  obtain ⟨hb, hb2⟩ := FP.Core.i2f_big (FP.Core.int32_ne hi)
  have hd := FP.Core.fdiv_mag (a := tfl (nI (bN e))) (K := 132) (L := 127) (by have : (tfl (nI (bN e))).toNat % 2 ^ 31 ≤ 131 * 2 ^ 23 := hf; omega) hb hb2 (by decide) (by decide)
  refine Mg_sub (Mg_up hx (Nat.le_refl _)) ?_ (by omega) (by omega)
  exact Nat.le_trans (Nat.le_of_lt hd) (Nat.mul_le_mul_right _ (show 132 + (149 - 23 - 1) - 127 + 3 ≤ K by omega))
/-! what the law's steps keep -/
def SInv (K : Nat) (M : MT) : Prop := WB M ∧ WF M ∧ (∀ k, rngB (mU M k) = true) ∧ (∃ e0, e0 ≤ 800 ∧ mT M = uN e0 ∧ mB M = nI (bN e0)) ∧ 0 < mP M ∧ mN M ≤ 15 ∧ ∀ k, Mg K (mH M k)
theorem up_all {α : Type} {P : α → Prop} {f : Nat → α} {k : Nat} {v : α} (hf : ∀ j, P (f j)) (hv : P v) (j : Nat) : P (va_up f k v j) := by
  unfold va_up
  split
  · exact hv
  · exact hf j
theorem SInv_up {K : Nat} {M : MT} (h : SInv K M) : SInv (K + 2) M := by
  obtain ⟨h1, h2, h3, h4, h5, h6, h7⟩ := h
  exact ⟨h1, h2, h3, h4, h5, h6, fun k => Mg_up (h7 k) (by omega)⟩
theorem SInv_torn {K : Nat} {M : MT} (h : SInv K M) (k : Nat) : SInv (K + 2) (torn M k) := by
  obtain ⟨h1, h2, h3, h4, h5, h6, h7⟩ := h
  exact ⟨WB_F h1 k 3 (by decide), h2, h3, h4, h5, h6, fun k => Mg_up (h7 k) (by omega)⟩
theorem SInv_ham {K : Nat} {M : MT} (h : SInv K M) (k : Nat) (hK : 132 ≤ K) (hK2 : K ≤ 252) : SInv (K + 2) (mP M, mN M, mS M, mB M, mT M, mR M, mO M, mW M, mL M, mF M, mA M, mU M, va_up (mH M) k (FP.fadd (mH M k) (FP.fmul (FP.fsub 1092616192 (mH M k)) 1056964608))) := by
  obtain ⟨h1, h2, h3, h4, h5, h6, h7⟩ := h
  exact ⟨WB_H h1 _, h2, h3, h4, h5, h6, fun j => up_all (P := Mg (K + 2)) (fun j => Mg_up (h7 j) (by omega)) (Mg_ham (h7 k) hK hK2) j⟩
theorem SInv_st {K : Nat} {M : MT} (h : SInv K M) {e : Nat} (h0 : 0 < e) (he : e ≤ 80) (hK : 133 ≤ K) (hK2 : K ≤ 252) : SInv (K + 2) (stM M (tfl (nI (bN e)))) := by
  obtain ⟨h1, h2, h3, h4, h5, h6, h7⟩ := h
  refine ⟨WB_st h1 _, h2, h3, h4, h5, h6, fun k => ?_⟩
  show Mg (K + 2) (blH M (tfl (nI (bN e))) 0 k)
  unfold blH
  split
  · exact Mg_up (Mg_st (h7 k) (by omega) h0 he hK (by omega)) (by omega)
  · exact Mg_up (h7 k) (by omega)
theorem SInv_added {K : Nat} {M : MT} (h : SInv K M) {u : Nat} (hu : u ≤ 5) (hp : mP M < 6) : SInv (K + 2) (added M u) := by
  obtain ⟨h1, h2, h3, h4, h5, h6, h7⟩ := h
  exact ⟨WB_added h1 hu hp, h2, h3, h4, Nat.succ_pos _, h6, fun k => Mg_up (h7 k) (by omega)⟩
theorem SInv_ranked {K : Nat} {M : MT} (h : SInv K M) (k : Nat) {u : Nat} (hu : u ≤ 5) : SInv (K + 2) (ranked M k u) := by
  obtain ⟨h1, h2, h3, h4, h5, h6, h7⟩ := h
  exact ⟨WB_ranked h1 k hu, h2, h3, h4, h5, h6, fun k => Mg_up (h7 k) (by omega)⟩
theorem SInv_told {K : Nat} {M : MT} (h : SInv K M) {e1 : Nat} (he : e1 ≤ 800) : SInv (K + 2) (told M (nI (bN e1)) (tfl (nI (bN e1)))) := by
  obtain ⟨h1, h2, h3, h4, h5, h6, h7⟩ := h
  exact ⟨h1, h2, h3, ⟨e1, he, tfl_u (by omega), rfl⟩, h5, h6, fun k => Mg_up (h7 k) (by omega)⟩
theorem SInv_hung {K : Nat} {M : MT} (h : SInv K M) {j w stt : Nat} {lo : Option Nat} {fa nu : UInt32} (hj : j < mP M) (hw : w < 16) (hlo : ∀ o, lo = some o → o < 16) (hfa : Fin32 fa) (hnu : rngB nu = true) (hs : stt ≤ 80) (hn : ¬ mN M = 15) (hK : 132 ≤ K) : SInv (K + 2) (hung M j w lo fa nu (tfl (nI (bN stt)))) := by
  obtain ⟨⟨b1, b2, b3, b4, b5, b6, b7⟩, ⟨f1, f2⟩, h3, h4, h5, h6, h7⟩ := h
  refine ⟨⟨b1, (by show mN M + 1 ≤ 40; omega), b3, fun k => up_all (P := fun v => v < 6) b4 (by omega) k, fun k => up_all (P := fun v => v < 16) b5 hw k, fun k => up_all (P := fun (v : Option Nat) => ∀ w, v = some w → w < 16) b6 hlo k, fun k => up_all (P := fun v => v < 4) b7 (by decide) k⟩, ⟨fun k => up_all (P := Fin32) f1 hfa k, fun k => up_all (P := Fin32) f2 (rng_fin hnu) k⟩, fun k => up_all (P := fun v => rngB v = true) h3 hnu k, h4, h5, (by show mN M + 1 ≤ 15; omega), fun k => up_all (P := Mg (K + 2)) (fun j => Mg_up (h7 j) (by omega)) (Mg_up (uN_mg hs) (by omega)) k⟩
theorem fin_1 : Fin32 FP.fconst1 := ⟨false, 8388608, -23, by decide +kernel⟩
theorem SInv_0 {u0 u1 : Nat} (h0 : u0 ≤ 5) (h1 : u1 ≤ 5) : SInv 138 (added (added MZ u0) u1) := by
  refine ⟨WB_added (WB_added WB_Z h0 (show 0 < 6 by decide)) h1 (show 0 + 1 < 6 by decide), ⟨fun _ => fin_0, fun _ => fin_0⟩, fun _ => (show rngB 0 = true by decide +kernel), ⟨0, Nat.zero_le _, (show (0 : UInt32) = uN 0 by decide +kernel), (show (0 : Int32) = nI (bN 0) by decide +kernel)⟩, Nat.succ_pos _, Nat.zero_le _, fun _ => ?_⟩
  show (0 : UInt32).toNat % 2 ^ 31 ≤ 138 * 2 ^ 23
  decide
