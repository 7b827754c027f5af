/-- the door, an order more -/
abbrev hung (M : MT) (j w : Nat) (lo : Option Nat) (fa nu st : UInt32) : MT := (mP M, mN M + 1, mS M, mB M, mT M, mR M, va_up (mO M) (mN M) j, va_up (mW M) (mN M) w, va_up (mL M) (mN M) lo, va_up (mF M) (mN M) 1, va_up (mA M) (mN M) fa, va_up (mU M) (mN M) nu, va_up (mH M) (mN M) st)
theorem aI_h (M : MT) (j w : Nat) (lo : Option Nat) (fa nu st : UInt32) : upd (upd (upd (upd (aI M) (4 * mN M) (nI j)) (4 * mN M + 1) (nI w)) (4 * mN M + 2) (lkI lo)) (4 * mN M + 3) (nI 1) = aI (hung M j w lo fa nu st) := by
  funext i
  show (if i = 4 * mN M + 3 then nI 1 else if i = 4 * mN M + 2 then lkI lo else if i = 4 * mN M + 1 then nI w else if i = 4 * mN M then nI j else (if i % 4 = 0 then nI (mO M (i / 4)) else if i % 4 = 1 then nI (mW M (i / 4)) else if i % 4 = 2 then lkI (mL M (i / 4)) else bI (mF M (i / 4) = 1))) = (if i % 4 = 0 then nI (if i / 4 = mN M then j else mO M (i / 4)) else if i % 4 = 1 then nI (if i / 4 = mN M then w else mW M (i / 4)) else if i % 4 = 2 then lkI (if i / 4 = mN M then lo else mL M (i / 4)) else bI ((if i / 4 = mN M then 1 else mF M (i / 4)) = 1))
  generalize hn : mN M = n
  by_cases q : i / 4 = n
  · have hi : i = 4 * n + i % 4 := by omega
    rw [if_pos q, if_pos q, if_pos q, if_pos q]
    by_cases r0 : i % 4 = 0
    · rw [if_neg (by omega), if_neg (by omega), if_neg (by omega), if_pos (by omega), if_pos r0]
    · by_cases r1 : i % 4 = 1
      · rw [if_neg (by omega), if_neg (by omega), if_pos (by omega), if_neg r0, if_pos r1]
      · by_cases r2 : i % 4 = 2
        · rw [if_neg (by omega), if_pos (by omega), if_neg r0, if_neg r1, if_pos r2]
        · rw [if_pos (by omega), if_neg r0, if_neg r1, if_neg r2]
          exact (bI_t rfl).symm
  · rw [if_neg q, if_neg q, if_neg q, if_neg q, if_neg (by omega), if_neg (by omega), if_neg (by omega), if_neg (by omega)]
theorem vD_h (M : MT) (j w : Nat) (lo : Option Nat) (fa nu st : UInt32) : vf_upd (vf_upd (vD M) (2 * mN M) (FP.f2d fa)) (2 * mN M + 1) (FP.f2d nu) = vD (hung M j w lo fa nu st) := by
  funext i
  show (if i = 2 * mN M + 1 then FP.f2d nu else if i = 2 * mN M then FP.f2d fa else (if i % 2 = 0 then FP.f2d (mA M (i / 2)) else FP.f2d (mU M (i / 2)))) = (if i % 2 = 0 then FP.f2d (if i / 2 = mN M then fa else mA M (i / 2)) else FP.f2d (if i / 2 = mN M then nu else mU M (i / 2)))
  generalize hn : mN M = n
  by_cases q : i / 2 = n
  · rw [if_pos q, if_pos q]
    by_cases r0 : i % 2 = 0
    · rw [if_neg (by omega), if_pos (by omega), if_pos r0]
    · rw [if_pos (by omega), if_neg r0]
  · rw [if_neg q, if_neg q, if_neg (by omega), if_neg (by omega)]
theorem tD_h (M : MT) (j w : Nat) (lo : Option Nat) (fa nu st : UInt32) (hn : mN M ≠ 24) : vf_upd (tD M) (mN M) (FP.f2d st) = tD (hung M j w lo fa nu st) := tD_up M hn st
theorem gI_h (M : MT) (j w : Nat) (lo : Option Nat) (fa nu st : UInt32) : va_up (gI M) 1 (mN M + 1) = gI (hung M j w lo fa nu st) := by
  have e : ∀ f, f ≠ 1 → cR (ftB (hung M j w lo fa nu st) f) 0 (mN M + 1) = cR (ftB M f) 0 (mN M) := fun f hf => by
    rw [cZ_f (fun z => hf (by
      have h9 : va_up (mF M) (mN M) 1 (mN M) = f := ftB_iff.mp z
      rw [va_us] at h9
      exact h9.symm))]
    exact cR_congr (fun i hi => by
      unfold ftB
      show decide (va_up (mF M) (mN M) 1 (0 + i) = f) = decide (mF M (0 + i) = f)
      rw [va_un (by omega)])
  funext i
  match i with
  | 0 => rfl
  | 1 => rfl
  | 2 => exact (e 2 (by decide)).symm
  | 3 => exact (e 3 (by decide)).symm
  | n + 4 => rfl
