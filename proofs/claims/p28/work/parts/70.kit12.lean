/-- the door, a person more; a rank changed -/
abbrev added (M : MT) (u : Nat) : MT := (mP M + 1, mN M, mS M, mB M, mT M, va_up (mR M) (mP M) u, mO M, mW M, mL M, mF M, mA M, mU M, mH M)
abbrev ranked (M : MT) (k u : Nat) : MT := (mP M, mN M, mS M, mB M, mT M, va_up (mR M) k u, mO M, mW M, mL M, mF M, mA M, mU M, mH M)
theorem gI_a (M : MT) (u : Nat) : va_up (gI M) 0 (mP M + 1) = gI (added M u) := by
  funext i
  match i with
  | 0 => rfl
  | 1 => rfl
  | 2 => rfl
  | 3 => rfl
  | n + 4 => rfl
theorem va_same {f : Nat → Nat} {k u : Nat} (h : f k = u) : va_up f k u = f := by
  funext j
  unfold va_up
  by_cases q : j = k
  · rw [if_pos q, q, h]
  · rw [if_neg q]
theorem ranked_same {M : MT} {k u : Nat} (h : mR M k = u) : ranked M k u = M := by
  show (mP M, mN M, mS M, mB M, mT M, va_up (mR M) k u, mO M, mW M, mL M, mF M, mA M, mU M, mH M) = M
  rw [va_same h]
theorem WB_added {M : MT} (hW : WB M) {u : Nat} (hu : u ≤ 5) (hp : mP M < 6) : WB (added M u) := by
  obtain ⟨h1, h2, h3, h4⟩ := hW
  refine ⟨(by show mP M + 1 ≤ 6; omega), h2, fun j => ?_, h4⟩
  show va_up (mR M) (mP M) u j ≤ 5
  unfold va_up
  split
  · exact hu
  · exact h3 j
theorem WB_ranked {M : MT} (hW : WB M) (k : Nat) {u : Nat} (hu : u ≤ 5) : WB (ranked M k u) := by
  obtain ⟨h1, h2, h3, h4⟩ := hW
  refine ⟨h1, h2, fun j => ?_, h4⟩
  show va_up (mR M) k u j ≤ 5
  unfold va_up
  split
  · exact hu
  · exact h3 j
