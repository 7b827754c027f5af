/-! a reckoning: rulers, known, values -/
abbrev wRe (cy : Nat → ClassId) (r : Nat → Nat) (d : Nat) (ru : Nat → Option Nat) (kn : Nat → Bool) (va : Nat → UInt32) : va_W := [(r 0, .inr (3, [.ref d, .ref (r 1), .ref (r 2), .ref (r 3)])), (r 1, eI cy 16 (fun w => lkI (ru w))), (r 2, eZ cy 16 (fun w => bI (kn w = true))), (r 3, eF cy 16 va)]
/-- the numbers and factors of all orders are numbers -/
def WF (M : MT) : Prop := (∀ k, Fin32 (mA M k)) ∧ ∀ k, Fin32 (mU M k)
def oVal (M : MT) (va : Nat → UInt32) (k : Nat) : UInt32 := match mL M k with
  | none => mU M k
  | some w => FP.fadd (FP.fmul (va w) (mA M k)) (mU M k)
def oHas (M : MT) (kn : Nat → Bool) (va : Nat → UInt32) (k : Nat) : Bool := (match mL M k with
  | none => true
  | some w => kn w) && rngB (oVal M va k)
theorem oVal_n {M : MT} {va : Nat → UInt32} {k : Nat} (h : mL M k = none) : oVal M va k = mU M k := by unfold oVal; rw [h]
theorem oVal_s {M : MT} {va : Nat → UInt32} {k w : Nat} (h : mL M k = some w) : oVal M va k = FP.fadd (FP.fmul (va w) (mA M k)) (mU M k) := by unfold oVal; rw [h]
theorem oHas_n {M : MT} {kn : Nat → Bool} {va : Nat → UInt32} {k : Nat} (h : mL M k = none) : oHas M kn va k = true ↔ rngB (oVal M va k) = true := by unfold oHas; rw [h]; simp
theorem oHas_s {M : MT} {kn : Nat → Bool} {va : Nat → UInt32} {k w : Nat} (h : mL M k = some w) : oHas M kn va k = true ↔ kn w = true ∧ rngB (oVal M va k) = true := by unfold oHas; rw [h]; simp
theorem oHas_rng {M : MT} {kn : Nat → Bool} {va : Nat → UInt32} {k : Nat} (h : oHas M kn va k = true) : rngB (oVal M va k) = true := by unfold oHas at h; simp only [Bool.and_eq_true] at h; exact h.2
/-- how far two values are apart, against the tolerance -/
def absF (d : UInt32) : UInt32 := if 0 ≤ Op.cmpValue (FP.fcmp d FP.fconst0) .g then d else FP.fneg d
def farB (tol x y : UInt32) : Bool := decide (¬ Op.cmpValue (FP.fcmp (absF (FP.fsub x y)) tol) .l ≤ 0)
theorem absF_t {d : UInt32} (h : 0 ≤ Op.cmpValue (FP.fcmp d FP.fconst0) .g) : absF d = d := if_pos h
theorem absF_f {d : UInt32} (h : ¬ 0 ≤ Op.cmpValue (FP.fcmp d FP.fconst0) .g) : absF d = FP.fneg d := if_neg h
theorem farB_iff {t x y : UInt32} : farB t x y = true ↔ ¬ Op.cmpValue (FP.fcmp (absF (FP.fsub x y)) t) .l ≤ 0 := by unfold farB; exact decide_eq_true_iff
/-- whether two orders are in conflict -/
def rivB (M : MT) (kn : Nat → Bool) (va : Nat → UInt32) (j o : Nat) : Bool := decide (mO M j ≠ mO M o ∧ mR M (mO M j) = mR M (mO M o)) && ((oHas M kn va j != oHas M kn va o) || (oHas M kn va j && farB (mT M) (oVal M va j) (oVal M va o)))
/-- the topmost order below n that hangs for w and is in conflict with o -/
def topR (M : MT) (kn : Nat → Bool) (va : Nat → UInt32) (w o : Nat) : Nat → Option Nat
  | 0 => none
  | j + 1 => if hfB M w j && rivB M kn va j o then some j else topR M kn va w o j
theorem topR_t {M : MT} {kn : Nat → Bool} {va : Nat → UInt32} {w o j : Nat} (h1 : hfB M w j = true) (h2 : rivB M kn va j o = true) : topR M kn va w o (j + 1) = some j := by show (if hfB M w j && rivB M kn va j o then some j else topR M kn va w o j) = _; rw [h1, h2]; rfl
theorem topR_f {M : MT} {kn : Nat → Bool} {va : Nat → UInt32} {w o j : Nat} (h : ¬ (hfB M w j = true ∧ rivB M kn va j o = true)) : topR M kn va w o (j + 1) = topR M kn va w o j := by
  show (if hfB M w j && rivB M kn va j o then some j else topR M kn va w o j) = _
  rw [if_neg]
  intro z
  simp only [Bool.and_eq_true] at z
  exact h z
def rivOf (M : MT) (ru : Nat → Option Nat) (kn : Nat → Bool) (va : Nat → UInt32) (w : Nat) : Option Nat := match ru w with
  | none => none
  | some o => topR M kn va w o (mN M)
theorem topR_lt {M : MT} {kn : Nat → Bool} {va : Nat → UInt32} {w o : Nat} : ∀ {n j : Nat}, topR M kn va w o n = some j → j < n
  | 0, j, h => by cases h
  | n + 1, j, h => by
    by_cases z : hfB M w n = true ∧ rivB M kn va n o = true
    · rw [topR_t z.1 z.2] at h
      cases h
      omega
    · rw [topR_f z] at h
      have := topR_lt h
      omega
theorem rivOf_lt {M : MT} {ru : Nat → Option Nat} {kn : Nat → Bool} {va : Nat → UInt32} {w j : Nat} (h : rivOf M ru kn va w = some j) : j < mN M := by
  unfold rivOf at h
  split at h
  · cases h
  · exact topR_lt h
/-- the rulers after i orders -/
def rlN (M : MT) : Nat → Nat → Option Nat
  | 0 => fun _ => none
  | i + 1 => if mF M i = 1 then (match rlN M i (mW M i) with
      | none => va_up (rlN M i) (mW M i) (some i)
      | some b => if mR M (mO M b) ≤ mR M (mO M i) then va_up (rlN M i) (mW M i) (some i) else rlN M i) else rlN M i
theorem rlN_u {M : MT} {i : Nat} (h : ¬ mF M i = 1) : rlN M (i + 1) = rlN M i := if_neg h
theorem rlN_n {M : MT} {i : Nat} (h : mF M i = 1) (h1 : rlN M i (mW M i) = none) : rlN M (i + 1) = va_up (rlN M i) (mW M i) (some i) := by
  show (if mF M i = 1 then _ else _) = _
  rw [if_pos h, h1]
theorem rlN_t {M : MT} {i b : Nat} (h : mF M i = 1) (h1 : rlN M i (mW M i) = some b) (h2 : mR M (mO M b) ≤ mR M (mO M i)) : rlN M (i + 1) = va_up (rlN M i) (mW M i) (some i) := by
  show (if mF M i = 1 then _ else _) = _
  rw [if_pos h, h1]
  exact if_pos h2
theorem rlN_f {M : MT} {i b : Nat} (h : mF M i = 1) (h1 : rlN M i (mW M i) = some b) (h2 : ¬ mR M (mO M b) ≤ mR M (mO M i)) : rlN M (i + 1) = rlN M i := by
  show (if mF M i = 1 then _ else _) = _
  rw [if_pos h, h1]
  exact if_neg h2
theorem rlN_lt {M : MT} : ∀ (i : Nat) {w o : Nat}, rlN M i w = some o → o < i
  | 0, w, o, h => by cases h
  | i + 1, w, o, h => by
    have ih := @rlN_lt M i
    have up : ∀ {w o}, va_up (rlN M i) (mW M i) (some i) w = some o → o < i + 1 := by
      intro w o h
      unfold va_up at h
      split at h
      · cases h; omega
      · have := ih h; omega
    by_cases h1 : mF M i = 1
    · cases h2 : rlN M i (mW M i) with
      | none => rw [rlN_n h1 h2] at h; exact up h
      | some b =>
        by_cases h3 : mR M (mO M b) ≤ mR M (mO M i)
        · rw [rlN_t h1 h2 h3] at h; exact up h
        · rw [rlN_f h1 h2 h3] at h; have := ih h; omega
    · rw [rlN_u h1] at h; have := ih h; omega
section OK7
variable {p : Program} {l : Launch} {e : Env} {R : Room} {s : State} {m : MethodId} {args : Array Value} {below : List Frame} {meth : Method} {c : Code} {H : Heap} {locs : List Loc} {cells slots : Nat} {Q : State → Prop}
variable {pc : Nat} {ls : Array Slot} {rest : List Value} {cc : ByteArray}
/-- branches on what may be none (-5) -/
theorem o_lk_ge {x : Option Nat} (hx : p.tables.exec = Jvm.exec) (hb : c.code = cc) {off : Int} {tgt : Nat} (hdg : decode cc pc = .ok (.ifCond .ge off, 3)) (ht : (pc : Int) + off = (tgt : Int)) (h1 : ∀ j, x = some j → j < 2 ^ 31)
    (kt : (∃ j, x = some j) → W p l e R s m args below meth c H locs cells slots Q (F0 m tgt ls rest)) (kf : x = none → W p l e R s m args below meth c H locs cells slots Q (F0 m (pc + 3) ls rest)) : W p l e R s m args below meth c H locs cells slots Q (F0 m pc ls (.int (lkI x) :: rest)) := by
  cases x with
  | none => exact lv_if_ge hx hb hdg ht (fun h => absurd h (by decide)) (fun _ => kf rfl)
  | some j => exact lv_if_ge hx hb hdg ht (fun _ => kt ⟨j, rfl⟩) (fun h => absurd (nI_pos' (n := j) (h1 j rfl)) h)
theorem o_lk_lt {x : Option Nat} (hx : p.tables.exec = Jvm.exec) (hb : c.code = cc) {off : Int} {tgt : Nat} (hdg : decode cc pc = .ok (.ifCond .lt off, 3)) (ht : (pc : Int) + off = (tgt : Int)) (h1 : ∀ j, x = some j → j < 2 ^ 31)
    (kt : x = none → W p l e R s m args below meth c H locs cells slots Q (F0 m tgt ls rest)) (kf : (∃ j, x = some j) → W p l e R s m args below meth c H locs cells slots Q (F0 m (pc + 3) ls rest)) : W p l e R s m args below meth c H locs cells slots Q (F0 m pc ls (.int (lkI x) :: rest)) := by
  cases x with
  | none => exact lv_if_lt hx hb hdg ht (fun _ => kt rfl) (fun h => absurd (by decide) h)
  | some j => exact lv_if_lt hx hb hdg ht (fun h => absurd h (nI_pos (n := j) (h1 j rfl))) (fun _ => kf ⟨j, rfl⟩)
/-- two truth values against each other -/
theorem o_icmpb_eq {P R' : Prop} [Decidable P] [Decidable R'] (hx : p.tables.exec = Jvm.exec) (hb : c.code = cc) {off : Int} {tgt : Nat} (hdg : decode cc pc = .ok (.if_icmp .eq off, 3)) (ht : (pc : Int) + off = (tgt : Int))
    (kt : (P ↔ R') → W p l e R s m args below meth c H locs cells slots Q (F0 m tgt ls rest)) (kf : ¬ (P ↔ R') → W p l e R s m args below meth c H locs cells slots Q (F0 m (pc + 3) ls rest)) : W p l e R s m args below meth c H locs cells slots Q (F0 m pc ls (.int (bI R') :: .int (bI P) :: rest)) :=
  lv_icmp_eq hx hb hdg ht (fun h => kt (by
    by_cases a : P
    · by_cases b : R'
      · exact ⟨fun _ => b, fun _ => a⟩
      · rw [bI_t a, bI_f b] at h; exact absurd h (by decide)
    · by_cases b : R'
      · rw [bI_f a, bI_t b] at h; exact absurd h (by decide)
      · exact ⟨fun z => absurd z a, fun z => absurd z b⟩)) (fun h => kf (fun z => h (bI_congr z)))
end OK7
theorem rivB_o {M : MT} {kn : Nat → Bool} {va : Nat → UInt32} {j o : Nat} (h : mO M j = mO M o) : ¬ rivB M kn va j o = true := fun z => by
  unfold rivB at z
  simp only [Bool.and_eq_true, decide_eq_true_eq] at z
  exact z.1.1 h
theorem rivB_r {M : MT} {kn : Nat → Bool} {va : Nat → UInt32} {j o : Nat} (h : mR M (mO M j) ≠ mR M (mO M o)) : ¬ rivB M kn va j o = true := fun z => by
  unfold rivB at z
  simp only [Bool.and_eq_true, decide_eq_true_eq] at z
  exact h z.1.2
theorem rivB_d {M : MT} {kn : Nat → Bool} {va : Nat → UInt32} {j o : Nat} (h1 : mO M j ≠ mO M o) (h2 : mR M (mO M j) = mR M (mO M o)) (h3 : ¬ (oHas M kn va j = true ↔ oHas M kn va o = true)) : rivB M kn va j o = true := by
  unfold rivB
  simp only [Bool.and_eq_true, decide_eq_true_eq, Bool.or_eq_true]
  refine ⟨⟨h1, h2⟩, Or.inl ?_⟩
  cases hj : oHas M kn va j <;> cases ho : oHas M kn va o <;> simp_all
theorem rivB_e {M : MT} {kn : Nat → Bool} {va : Nat → UInt32} {j o : Nat} (h1 : mO M j ≠ mO M o) (h2 : mR M (mO M j) = mR M (mO M o)) (h3 : oHas M kn va j = true ↔ oHas M kn va o = true) : rivB M kn va j o = true ↔ oHas M kn va j = true ∧ farB (mT M) (oVal M va j) (oVal M va o) = true := by
  have e : (oHas M kn va j != oHas M kn va o) = false := by
    cases hj : oHas M kn va j <;> cases ho : oHas M kn va o <;> simp_all
  unfold rivB
  rw [e]
  simp only [Bool.and_eq_true, decide_eq_true_eq, Bool.false_or]
  exact ⟨fun z => z.2, fun z => ⟨⟨h1, h2⟩, z⟩⟩
theorem rivOf_s {M : MT} {ru : Nat → Option Nat} {kn : Nat → Bool} {va : Nat → UInt32} {w o : Nat} (h : ru w = some o) : rivOf M ru kn va w = topR M kn va w o (mN M) := by unfold rivOf; rw [h]
theorem rivOf_n {M : MT} {ru : Nat → Option Nat} {kn : Nat → Bool} {va : Nat → UInt32} {w : Nat} (h : ru w = none) : rivOf M ru kn va w = none := by unfold rivOf; rw [h]
def rwB (ru : Nat → Option Nat) (kn : Nat → Bool) (w : Nat) : Bool := decide (ru w ≠ none ∧ ¬ kn w = true)
theorem rwB_iff {ru : Nat → Option Nat} {kn : Nat → Bool} {w : Nat} : rwB ru kn w = true ↔ ru w ≠ none ∧ ¬ kn w = true := by unfold rwB; exact decide_eq_true_iff
def cfB (M : MT) (ru : Nat → Option Nat) (kn : Nat → Bool) (va : Nat → UInt32) (w : Nat) : Bool := decide (rivOf M ru kn va w ≠ none)
theorem cfB_iff {M : MT} {ru : Nat → Option Nat} {kn : Nat → Bool} {va : Nat → UInt32} {w : Nat} : cfB M ru kn va w = true ↔ rivOf M ru kn va w ≠ none := by unfold cfB; exact decide_eq_true_iff
