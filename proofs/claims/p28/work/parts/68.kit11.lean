theorem cR_one {p r : Nat → Bool} {k : Nat} (h : ∀ j, j ≠ k → p j = r j) (hp : p k = true) (hr : r k = false) : ∀ n, cR p 0 n = cR r 0 n + (if k < n then 1 else 0)
  | 0 => rfl
  | n + 1 => by
    show cR p 0 n + (if p (0 + n) = true then 1 else 0) = cR r 0 n + (if r (0 + n) = true then 1 else 0) + (if k < n + 1 then 1 else 0)
    rw [cR_one h hp hr n, Nat.zero_add]
    by_cases q : n = k
    · subst q
      rw [hp, hr, if_neg (Nat.lt_irrefl _), if_pos (Nat.lt_succ_self _), if_pos rfl, if_neg (by decide)]
    · rw [h n q]
      by_cases q2 : k < n
      · rw [if_pos q2, if_pos (show k < n + 1 by omega)]
        omega
      · rw [if_neg q2, if_neg (show ¬ k < n + 1 by omega)]
        omega
/-- the door, an order torn -/
abbrev torn (M : MT) (k : Nat) : MT := (mP M, mN M, mS M, mB M, mT M, mR M, mO M, mW M, mL M, va_up (mF M) k 3, mA M, mU M, mH M)
theorem gI_t (M : MT) {k : Nat} (hk : k < mN M) (hh : mF M k = 1) : va_up (gI M) 3 (cR (ftB M 3) 0 (mN M) + 1) = gI (torn M k) := by
  have e2 : cR (ftB (torn M k) 2) 0 (mN M) = cR (ftB M 2) 0 (mN M) := cR_congr (fun i _ => by
    unfold ftB
    show decide (va_up (mF M) k 3 (0 + i) = 2) = decide (mF M (0 + i) = 2)
    by_cases q : 0 + i = k
    · rw [q, va_us, hh]
      rfl
    · rw [va_un q])
  have e3 : cR (ftB (torn M k) 3) 0 (mN M) = cR (ftB M 3) 0 (mN M) + 1 := by
    rw [cR_one (p := ftB (torn M k) 3) (r := ftB M 3) (k := k) (fun j hj => by
      unfold ftB
      show decide (va_up (mF M) k 3 j = 3) = decide (mF M j = 3)
      rw [va_un hj]) (ftB_iff.mpr (va_us _ _ _)) (by unfold ftB; rw [hh]; rfl), if_pos hk]
  funext i
  match i with
  | 0 => rfl
  | 1 => rfl
  | 2 => exact e2.symm
  | 3 => exact e3.symm
  | n + 4 => rfl
