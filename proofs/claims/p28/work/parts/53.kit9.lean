/-! a storm: what it leaves -/
abbrev wWe (cy : Nat → ClassId) (x : Nat → Nat) (ov : Nat → Nat) : va_W := [(x 0, .inr (5, [.ref (x 1), .ref (x 2)])), (x 2, eI cy 16 (fun w => nI (ov w)))]
theorem cR_head (p : Nat → Bool) (f : Nat) : ∀ n, cR p f (n + 1) = (if p f = true then 1 else 0) + cR p (f + 1) n
  | 0 => by
    show 0 + (if p (f + 0) = true then 1 else 0) = (if p f = true then 1 else 0) + 0
    rw [Nat.add_zero, Nat.add_zero, Nat.zero_add]
  | n + 1 => by
    show cR p f (n + 1) + (if p (f + (n + 1)) = true then 1 else 0) = (if p f = true then 1 else 0) + (cR p (f + 1) n + (if p (f + 1 + n) = true then 1 else 0))
    rw [cR_head p f n, show f + (n + 1) = f + 1 + n by omega, Nat.add_assoc]
theorem cR_ht {p : Nat → Bool} {j n : Nat} (hj : j < n) (h : p j = true) : cR p j (n - j) = cR p (j + 1) (n - (j + 1)) + 1 := by
  rw [show n - j = (n - (j + 1)) + 1 by omega, cR_head, if_pos h, Nat.add_comm]
theorem cR_hf {p : Nat → Bool} {j n : Nat} (hj : j < n) (h : ¬ p j = true) : cR p j (n - j) = cR p (j + 1) (n - (j + 1)) := by
  rw [show n - j = (n - (j + 1)) + 1 by omega, cR_head, if_neg h, Nat.zero_add]
/-- the strength that a storm of force f leaves to a hanging order -/
def stF (M : MT) (f : UInt32) (k : Nat) : UInt32 := FP.fsub (mH M k) (FP.fdiv f (FP.i2f (nI (1 + cR (hfB M (mW M k)) (k + 1) (mN M - (k + 1))))))
/-- the order falls -/
def flB (M : MT) (f : UInt32) (k : Nat) : Bool := decide (mF M k = 1 ∧ ¬ 0 < Op.cmpValue (FP.fcmp (stF M f k) FP.fconst0) .l)
theorem flB_iff {M : MT} {f : UInt32} {k : Nat} : flB M f k = true ↔ mF M k = 1 ∧ ¬ 0 < Op.cmpValue (FP.fcmp (stF M f k) FP.fconst0) .l := by unfold flB; exact decide_eq_true_iff
def blH (M : MT) (f : UInt32) (i k : Nat) : UInt32 := if i ≤ k ∧ k < mN M ∧ mF M k = 1 then stF M f k else mH M k
def blF (M : MT) (f : UInt32) (i k : Nat) : Nat := if i ≤ k ∧ k < mN M ∧ flB M f k = true then 2 else mF M k
def ovz (ov : Nat → Nat) (i w : Nat) : Nat := if w < i then 0 else ov w
def ovc (ov : Nat → Nat) (M : MT) (i w : Nat) : Nat := ovz ov 16 w + cR (hfB M w) i (mN M - i)
theorem ovz_0 (ov : Nat → Nat) : ovz ov 0 = ov := by
  funext w
  unfold ovz
  rw [if_neg (Nat.not_lt_zero w)]
theorem ovz_s (ov : Nat → Nat) (i : Nat) : va_up (ovz ov i) i 0 = ovz ov (i + 1) := by
  funext w
  unfold va_up ovz
  by_cases h : w = i
  · rw [if_pos h, if_pos (by omega)]
  · rw [if_neg h]
    by_cases h2 : w < i
    · rw [if_pos h2, if_pos (by omega)]
    · rw [if_neg h2, if_neg (by omega)]
theorem ovc_n (ov : Nat → Nat) (M : MT) : ovc ov M (mN M) = ovz ov 16 := by
  funext w
  unfold ovc
  rw [Nat.sub_self]
  rfl
theorem ovc_w {ov : Nat → Nat} {M : MT} {i w : Nat} (hw : w < 16) : ovc ov M i w = cR (hfB M w) i (mN M - i) := by
  unfold ovc ovz
  rw [if_pos hw, Nat.zero_add]
theorem ovc_u {ov : Nat → Nat} {M : MT} {j : Nat} (hj : j < mN M) (h : mF M j = 1) : va_up (ovc ov M (j + 1)) (mW M j) (ovc ov M (j + 1) (mW M j) + 1) = ovc ov M j := by
  funext w
  unfold va_up
  by_cases q : w = mW M j
  · rw [if_pos q, q]
    show ovz ov 16 (mW M j) + cR (hfB M (mW M j)) (j + 1) (mN M - (j + 1)) + 1 = ovz ov 16 (mW M j) + cR (hfB M (mW M j)) j (mN M - j)
    rw [cR_ht hj (hfB_iff.mpr ⟨h, rfl⟩), Nat.add_assoc]
  · rw [if_neg q]
    show ovz ov 16 w + cR (hfB M w) (j + 1) (mN M - (j + 1)) = ovz ov 16 w + cR (hfB M w) j (mN M - j)
    rw [cR_hf hj (fun z => q (hfB_iff.mp z).2.symm)]
theorem ovc_f {ov : Nat → Nat} {M : MT} {j : Nat} (hj : j < mN M) (h : ¬ mF M j = 1) : ovc ov M (j + 1) = ovc ov M j := by
  funext w
  show ovz ov 16 w + cR (hfB M w) (j + 1) (mN M - (j + 1)) = ovz ov 16 w + cR (hfB M w) j (mN M - j)
  rw [cR_hf hj (fun z => h (hfB_iff.mp z).1)]
theorem blH_n (M : MT) (f : UInt32) : blH M f (mN M) = mH M := by
  funext k
  unfold blH
  rw [if_neg (fun z => by omega)]
theorem blF_n (M : MT) (f : UInt32) : blF M f (mN M) = mF M := by
  funext k
  unfold blF
  rw [if_neg (fun z => by omega)]
theorem blH_at (M : MT) (f : UInt32) (j : Nat) : blH M f (j + 1) j = mH M j := by
  unfold blH
  rw [if_neg (fun z => by omega)]
theorem blF_at (M : MT) (f : UInt32) (j : Nat) : blF M f (j + 1) j = mF M j := by
  unfold blF
  rw [if_neg (fun z => by omega)]
theorem blH_u {M : MT} {f : UInt32} {j : Nat} (hj : j < mN M) (h : mF M j = 1) : va_up (blH M f (j + 1)) j (stF M f j) = blH M f j := by
  funext k
  unfold va_up blH
  by_cases q : k = j
  · subst q
    rw [if_pos rfl, if_pos ⟨Nat.le_refl _, hj, h⟩]
  · rw [if_neg q]
    by_cases q2 : j + 1 ≤ k ∧ k < mN M ∧ mF M k = 1
    · rw [if_pos q2, if_pos ⟨by omega, q2.2⟩]
    · rw [if_neg q2, if_neg (fun z => q2 ⟨by omega, z.2⟩)]
theorem blH_f {M : MT} {f : UInt32} {j : Nat} (h : ¬ mF M j = 1) : blH M f (j + 1) = blH M f j := by
  funext k
  unfold blH
  by_cases q2 : j + 1 ≤ k ∧ k < mN M ∧ mF M k = 1
  · rw [if_pos q2, if_pos ⟨by omega, q2.2⟩]
  · rw [if_neg q2, if_neg (fun z => q2 ⟨by
      have : k ≠ j := fun e => h (e ▸ z.2.2)
      omega, z.2⟩)]
theorem blF_u {M : MT} {f : UInt32} {j : Nat} (hj : j < mN M) (h : flB M f j = true) : va_up (blF M f (j + 1)) j 2 = blF M f j := by
  funext k
  unfold va_up blF
  by_cases q : k = j
  · subst q
    rw [if_pos rfl, if_pos ⟨Nat.le_refl _, hj, h⟩]
  · rw [if_neg q]
    by_cases q2 : j + 1 ≤ k ∧ k < mN M ∧ flB M f k = true
    · rw [if_pos q2, if_pos ⟨by omega, q2.2⟩]
    · rw [if_neg q2, if_neg (fun z => q2 ⟨by omega, z.2⟩)]
theorem blF_f {M : MT} {f : UInt32} {j : Nat} (h : ¬ flB M f j = true) : blF M f (j + 1) = blF M f j := by
  funext k
  unfold blF
  by_cases q2 : j + 1 ≤ k ∧ k < mN M ∧ flB M f k = true
  · rw [if_pos q2, if_pos ⟨by omega, q2.2⟩]
  · rw [if_neg q2, if_neg (fun z => q2 ⟨by
      have : k ≠ j := fun e => h (e ▸ z.2.2)
      omega, z.2⟩)]
/-- the door behind a storm -/
def stM (M : MT) (f : UInt32) : MT := (mP M, mN M, mS M + 1, mB M, mT M, mR M, mO M, mW M, mL M, blF M f 0, mA M, mU M, blH M f 0)
/-- the door within a storm, the orders from i on done -/
abbrev blM (M : MT) (f : UInt32) (i : Nat) : MT := (mP M, mN M, mS M, mB M, mT M, mR M, mO M, mW M, mL M, blF M f i, mA M, mU M, blH M f i)
theorem blM_n (M : MT) (f : UInt32) : blM M f (mN M) = M := by
  show (mP M, mN M, mS M, mB M, mT M, mR M, mO M, mW M, mL M, blF M f (mN M), mA M, mU M, blH M f (mN M)) = M
  rw [blF_n, blH_n]
theorem blM_f {M : MT} {f : UInt32} {j : Nat} (h : ¬ mF M j = 1) : blM M f (j + 1) = blM M f j := by
  show (mP M, mN M, mS M, mB M, mT M, mR M, mO M, mW M, mL M, blF M f (j + 1), mA M, mU M, blH M f (j + 1)) = _
  rw [blF_f (fun z => h (flB_iff.mp z).1), blH_f h]
theorem WB_bl {M : MT} (hW : WB M) (f : UInt32) (i : Nat) : WB (blM M f i) := by
  obtain ⟨h1, h2, h3, h4, h5, h6, h7⟩ := hW
  refine ⟨h1, h2, h3, h4, h5, h6, fun k => ?_⟩
  show blF M f i k < 4
  unfold blF
  split
  · decide
  · exact h7 k
theorem WB_st {M : MT} (hW : WB M) (f : UInt32) : WB (stM M f) := WB_bl hW f 0
theorem div_n {f : UInt32} (hf : Fin32 f) (c : Nat) (hc : c < 100) : FP.Core.fIsNaN (FP.fdiv f (FP.i2f (nI (1 + c)))) = false := by
  refine FP.Core.fdiv_out (FP.Core.FFin.notNaN hf) (FP.Core.i2f_fin _) (fun z => ?_)
  exact FP.Core.i2f_ne_zero (v := nI (1 + c)) (fun e => by
    have := Option.some.inj ((lk_eq (x := some (1 + c)) (k := 0) (by decide) (fun j hj => by cases hj; omega)).mp e)
    omega) ((FP.Core.zero_bits232 _).mp z)
