set_option maxHeartbeats 8000000 in
set_option maxRecDepth 100000 in
/-- the law's loop -/
theorem law_loop {p : Program} {e : Env} {s : State} {m : MethodId} {below : List Frame} {meth : Method} {c : Code} (l : Launch) {G : va_G} {cy : Nat → ClassId} {b Ln : Nat} {xs : Nat → Int32} (hLn : Ln ≤ 260) (C0 : lw_At p s m meth c b Ln xs) (hK : oK G cy s) {z : Nat} {q h x r y L : Nat → Nat} {A : Nat → Prop} (hA : ∀ q, s.heap.size ≤ q → A q) (hbA : ¬ A b) (hAs : ∀ q, A q → s.heap.size ≤ q) : ∀ (n i : Nat), i ≤ 46 → 46 ≤ i + n → K215 88 [(7, .int (nI i)), (0, .ref b), (1, .ref z), (2, .ref (L 0)), (3, .ref (L 1)), (4, .ref (L 2)), (5, .ref (L 3)), (6, .ref (L 4))] p l e s m below meth c G cy b z q h x r y L A (200 + 10 * i) (5000 + 10 * i) (134 + 2 * i) := by
  intro n
  induction n with
  | zero =>
    intro i h1 h2 ov kh d E ru kn va M H locs ls hk4 hI hP hD hS hl
    exact law_88 l hLn C0 hK hA hbA (by omega) (by omega) hk4 hI (by omega) (by omega) hP hD hS hAs h1 (by omega) (fun hi => absurd hi (by omega)) hl
  | succ n ih =>
    intro i h1 h2 ov kh d E ru kn va M H locs ls hk4 hI hP hD hS hl
    refine law_88 l hLn C0 hK hA hbA (by omega) (by omega) hk4 hI (by omega) (by omega) hP hD hS hAs h1 (by omega) (fun hi => ?_) hl
    have h9 := ih (i + 1) hi (by omega)
    rw [show 200 + 10 * (i + 1) = 200 + 10 * i + 10 by omega, show 5000 + 10 * (i + 1) = 5000 + 10 * i + 10 by omega, show 134 + 2 * (i + 1) = 134 + 2 * i + 2 by omega] at h9
    exact h9
