theorem zI_int {sg : Bool} {ei : Nat} (he : ei < 2 ^ 31) : (zI sg ei).toInt = if sg = true then -(ei : Int) else (ei : Int) := by
  cases sg with
  | false => exact nI_toInt he
  | true =>
    show (-(nI ei)).toInt = -(ei : Int)
    rw [Int32.toInt_neg, nI_toInt he]
    exact Int.bmod_eq_of_le (by omega) (by omega)
/-- a number of at most 8000 eighths -/
def m8 (ei : Nat) : Nat := if ei ≤ 8000 then ei else 8000
theorem m8_le (ei : Nat) : m8 ei ≤ 8000 := by unfold m8; split <;> omega
theorem m8_t {sg : Bool} {ei : Nat} (he : ei ≤ 8001) (h : sg = true → ei ≤ 8000) (c : zI sg ei ≤ nI 8000) : zI sg (m8 ei) = zI sg ei := by
  unfold m8
  by_cases q : ei ≤ 8000
  · rw [if_pos q]
  · exfalso
    have hs : sg = false := by
      cases sg with
      | false => rfl
      | true => exact absurd (h rfl) q
    rw [Int32.le_iff_toInt_le, zI_int (by omega), hs, nI_toInt (by decide), if_neg (by decide)] at c
    omega
theorem m8_f {sg : Bool} {ei : Nat} (he : ei ≤ 8001) (h : sg = true → ei ≤ 8000) (c : ¬ zI sg ei ≤ nI 8000) : zI sg (m8 ei) = nI 8000 := by
  rw [Int32.le_iff_toInt_le, zI_int (by omega), nI_toInt (by decide)] at c
  cases sg with
  | true =>
    rw [if_pos rfl] at c
    omega
  | false =>
    rw [if_neg (by decide)] at c
    unfold m8
    rw [if_neg (by omega)]
    rfl
