theorem uN_key {e : Nat} (h : e ≤ 8002) : FP.Core.fkey (uN e) = (bN e : Int) := by
  have hb := bN_lt h
  have ht : (uN e).toNat = bN e := by
    show (UInt32.ofNat (bN e)).toNat = bN e
    rw [UInt32.toNat_ofNat']
    omega
  unfold FP.Core.fkey
  rw [ht, if_neg (by omega)]
theorem uN_fin {e : Nat} (h : e ≤ 8000) : Fin32 (uN e) := by
  have h1 := rng_fin (z_all (s := false) h (fun z => by cases z)).2.2
  rwa [show zF false e = uN e from tfl_u (by omega)] at h1
theorem uN_dbl {e : Nat} (h : e ≤ 8000) : FP.dmul (FP.i2d (nI e)) 4593671619917905920 = FP.f2d (uN e) := by
  have h1 := (z_all (s := false) h (fun z => by cases z)).1
  rw [show zF false e = uN e from tfl_u (by omega)] at h1
  exact h1.symm
theorem cmp_eq0 {o : Ordering} : Op.cmpValue (some o) .l = 0 ↔ o = .eq := by cases o <;> decide
/-- two tolerances are one as doubles if they are one as eighths -/
theorem tol_eq {a b : Nat} (ha : a ≤ 8000) (hb : b ≤ 8000) : Op.cmpValue (FP.dcmp (FP.f2d (uN a)) (FP.dmul (FP.i2d (nI b)) 4593671619917905920)) .l = 0 ↔ a = b := by
  rw [uN_dbl hb, dcmp_f2d (uN_fin ha) (uN_fin hb), show FP.fcmp (uN a) (uN b) = FP.Core.fcmp (uN a) (uN b) from rfl, FP.Core.fcmp_key (FP.Core.FFin.ne_nan (uN_fin ha)) (FP.Core.FFin.ne_nan (uN_fin hb)), uN_key (by omega), uN_key (by omega), cmp_eq0]
  constructor
  · intro h
    have h : (bN a : Int) = (bN b : Int) := Int.compare_eq_eq.mp h
    by_cases q : a < b
    · have := bN_mono (by omega) q
      omega
    · by_cases q2 : b < a
      · have := bN_mono (by omega) q2
        omega
      · omega
  · intro h
    rw [h]
    exact Int.compare_eq_eq.mpr rfl
theorem frc_all : allB (fun e => FP.fmul (FP.i2f (nI (e + 1))) 1040187392 == uN (e + 1)) 80 = true := by decide +kernel
/-- the law's force is the float of its bits -/
theorem frc_eq {e : Nat} (h0 : 0 < e) (h : e ≤ 80) : FP.fmul (FP.i2f (nI e)) 1040187392 = tfl (nI (bN e)) := by
  obtain ⟨k, rfl⟩ : ∃ k, e = k + 1 := ⟨e - 1, by omega⟩
  rw [tfl_u (by omega)]
  exact eq_of_beq (allB_lt frc_all k (by omega))
theorem fr_frc {e : Nat} (h0 : 0 < e) (h : e ≤ 80) : frB (nI (bN e)) 1036831949 1092616192 = true := by
  obtain ⟨k, rfl⟩ : ∃ k, e = k + 1 := ⟨e - 1, by omega⟩
  exact allB_lt fr_str k (by omega)
/-- a strength as the law's double is above 0 if it is as the class's float -/
theorem st_cmp {x : UInt32} (hx : Fin32 x) : 0 < Op.cmpValue (FP.dcmp (FP.f2d x) FP.dconst0) .g ↔ 0 < Op.cmpValue (FP.fcmp x FP.fconst0) .l := by
  have e0 : FP.dconst0 = FP.f2d FP.fconst0 := by decide +kernel
  have f0 : Fin32 FP.fconst0 := fin_0
  rw [e0, dcmp_f2d hx f0]
  cases h : FP.fcmp x FP.fconst0 with
  | none =>
    have := (FP.Core.fcmp_none _ _).mp h
    rcases this with z | z
    · exact absurd z (FP.Core.FFin.ne_nan hx)
    · exact absurd z (FP.Core.FFin.ne_nan f0)
  | some o => cases o <;> exact Iff.rfl
