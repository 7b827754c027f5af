theorem gI_r (M : MT) (k u : Nat) : gI M = gI (ranked M k u) := by
  funext i
  match i with
  | 0 => rfl
  | 1 => rfl
  | 2 => rfl
  | 3 => rfl
  | n + 4 => rfl
