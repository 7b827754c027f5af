/-! the state of a door, in whole numbers: persons, orders, storms, tolerance (bits, float), ranks, owners, words, links, fates, factors, numbers, strengths -/
abbrev MT : Type := Nat × Nat × Nat × Int32 × UInt32 × (Nat → Nat) × (Nat → Nat) × (Nat → Nat) × (Nat → Option Nat) × (Nat → Nat) × (Nat → UInt32) × (Nat → UInt32) × (Nat → UInt32)
abbrev mP (M : MT) : Nat := M.1
abbrev mN (M : MT) : Nat := M.2.1
abbrev mS (M : MT) : Nat := M.2.2.1
abbrev mB (M : MT) : Int32 := M.2.2.2.1
abbrev mT (M : MT) : UInt32 := M.2.2.2.2.1
abbrev mR (M : MT) : Nat → Nat := M.2.2.2.2.2.1
abbrev mO (M : MT) : Nat → Nat := M.2.2.2.2.2.2.1
abbrev mW (M : MT) : Nat → Nat := M.2.2.2.2.2.2.2.1
abbrev mL (M : MT) : Nat → Option Nat := M.2.2.2.2.2.2.2.2.1
abbrev mF (M : MT) : Nat → Nat := M.2.2.2.2.2.2.2.2.2.1
abbrev mA (M : MT) : Nat → UInt32 := M.2.2.2.2.2.2.2.2.2.2.1
abbrev mU (M : MT) : Nat → UInt32 := M.2.2.2.2.2.2.2.2.2.2.2.1
abbrev mH (M : MT) : Nat → UInt32 := M.2.2.2.2.2.2.2.2.2.2.2.2
/-- a link as the door keeps it: -5 for none -/
def lkI (x : Option Nat) : Int32 := match x with
  | none => -5
  | some w => nI w
abbrev oDo (q : Nat → Nat) (M : MT) : va_E := .inr (0, [.int (nI (mP M)), .ref (q 1), .int (mB M), .float (mT M), .int (nI (mS M)), .int (nI (mN M)), .ref (q 6), .ref (q 7), .ref (q 8), .ref (q 9), .ref (q 10), .ref (q 11), .ref (q 12)])
abbrev wDo (cy : Nat → ClassId) (q : Nat → Nat) (M : MT) : va_W := [(q 0, oDo q M), (q 1, eI cy 6 (fun k => nI (mR M k))), (q 6, eI cy 40 (fun k => nI (mO M k))), (q 7, eI cy 40 (fun k => nI (mW M k))), (q 8, eI cy 40 (fun k => lkI (mL M k))), (q 9, eF cy 40 (mA M)), (q 10, eF cy 40 (mU M)), (q 11, eF cy 40 (mH M)), (q 12, eI cy 40 (fun k => nI (mF M k)))]
/-- the bounds that every state of a door keeps -/
def WB (M : MT) : Prop := mP M ≤ 6 ∧ mN M ≤ 40 ∧ (∀ k, mR M k ≤ 5) ∧ (∀ k, mO M k < 6) ∧ (∀ k, mW M k < 16) ∧ (∀ k w, mL M k = some w → w < 16) ∧ (∀ k, mF M k < 4)
/-- how many of the n numbers from f on have p -/
def cR (p : Nat → Bool) (f : Nat) : Nat → Nat
  | 0 => 0
  | j + 1 => cR p f j + (if p (f + j) then 1 else 0)
theorem cR_le (p : Nat → Bool) (f : Nat) : ∀ j, cR p f j ≤ j
  | 0 => Nat.le_refl 0
  | j + 1 => by
    have := cR_le p f j
    show cR p f j + _ ≤ j + 1
    split <;> omega
theorem cR_t {p : Nat → Bool} {f j : Nat} (h : p (f + j) = true) : cR p f (j + 1) = cR p f j + 1 := by show cR p f j + (if p (f + j) then 1 else 0) = _; rw [if_pos h]
theorem cR_f {p : Nat → Bool} {f j : Nat} (h : ¬ p (f + j) = true) : cR p f (j + 1) = cR p f j := by show cR p f j + (if p (f + j) then 1 else 0) = _; rw [if_neg h]; rfl
theorem cR_congr {p r : Nat → Bool} {f : Nat} : ∀ {j : Nat}, (∀ i, i < j → p (f + i) = r (f + i)) → cR p f j = cR r f j
  | 0, _ => rfl
  | j + 1, h => by
    show cR p f j + (if p (f + j) then 1 else 0) = cR r f j + (if r (f + j) then 1 else 0)
    rw [cR_congr (fun i hi => h i (Nat.lt_succ_of_lt hi)), h j (Nat.lt_succ_self j)]
def hfB (M : MT) (w k : Nat) : Bool := decide (mF M k = 1 ∧ mW M k = w)
theorem hfB_iff {M : MT} {w k : Nat} : hfB M w k = true ↔ mF M k = 1 ∧ mW M k = w := by unfold hfB; simp
/-- the number at a place, counted from the top down, of those below n that have p; -5 if there is none -/
def hAt (p : Nat → Bool) : Nat → Nat → Int32
  | 0, _ => -5
  | n + 1, pl => if p n then (if pl = 0 then nI n else hAt p n (pl - 1)) else hAt p n pl
/-- the words of a person's hanging orders, a bit each -/
def wBt (M : MT) (x : Nat) : Nat → Int32
  | 0 => 0
  | k + 1 => if mF M k = 1 ∧ mO M k = x then wBt M x k ||| (nI 1 <<< (nI (mW M k) &&& 31)) else wBt M x k
theorem cZ_t {p : Nat → Bool} {j : Nat} (h : p j = true) : cR p 0 (j + 1) = cR p 0 j + 1 := cR_t (by rw [Nat.zero_add]; exact h)
theorem cZ_f {p : Nat → Bool} {j : Nat} (h : ¬ p j = true) : cR p 0 (j + 1) = cR p 0 j := cR_f (by rw [Nat.zero_add]; exact h)
/-- fate f; nailed by x; nailed by x and hanging -/
def ftB (M : MT) (f k : Nat) : Bool := decide (mF M k = f)
def owB (M : MT) (x k : Nat) : Bool := decide (mO M k = x)
def hoB (M : MT) (x k : Nat) : Bool := decide (mF M k = 1 ∧ mO M k = x)
theorem ftB_iff {M : MT} {f k : Nat} : ftB M f k = true ↔ mF M k = f := by unfold ftB; simp
theorem owB_iff {M : MT} {x k : Nat} : owB M x k = true ↔ mO M k = x := by unfold owB; simp
theorem hoB_iff {M : MT} {x k : Nat} : hoB M x k = true ↔ mF M k = 1 ∧ mO M k = x := by unfold hoB; simp
theorem hAt_0 {p : Nat → Bool} {j : Nat} (h : p j = true) : hAt p (j + 1) 0 = nI j := by
  show (if p j then (if 0 = 0 then nI j else hAt p j (0 - 1)) else hAt p j 0) = nI j
  rw [if_pos h, if_pos rfl]
theorem hAt_s {p : Nat → Bool} {j r : Nat} (h : p j = true) (hr : 0 < r) : hAt p (j + 1) r = hAt p j (r - 1) := by
  show (if p j then (if r = 0 then nI j else hAt p j (r - 1)) else hAt p j r) = _
  rw [if_pos h, if_neg (by omega)]
theorem hAt_n {p : Nat → Bool} {j r : Nat} (h : ¬ p j = true) : hAt p (j + 1) r = hAt p j r := by
  show (if p j then (if r = 0 then nI j else hAt p j (r - 1)) else hAt p j r) = _
  rw [if_neg h]
theorem wBt_t {M : MT} {x j : Nat} (h : mF M j = 1 ∧ mO M j = x) : wBt M x (j + 1) = wBt M x j ||| (nI 1 <<< (nI (mW M j) &&& 31)) := if_pos h
theorem wBt_f {M : MT} {x j : Nat} (h : ¬ (mF M j = 1 ∧ mO M j = x)) : wBt M x (j + 1) = wBt M x j := if_neg h
/-- a number that goes down: one less than i, -1 at the end -/
def dI (i : Nat) : Int32 := nI i - 1
theorem dI_succ (j : Nat) : dI (j + 1) = nI j := nI_pred j
theorem dI_dec (j : Nat) : nI j + Int32.ofInt (-1) = dI j := by
  show nI j + (-1) = nI j - 1
  rw [Int32.sub_eq_add_neg]
theorem dI_0 : dI 0 = -1 := by decide +kernel
section OK3
variable {p : Program} {l : Launch} {e : Env} {R : Room} {s : State} {m : MethodId} {args : Array Value} {below : List Frame} {meth : Method} {c : Code} {H : Heap} {locs : List Loc} {cells slots : Nat} {Q : State → Prop}
variable {pc : Nat} {ls : Array Slot} {rest : List Value} {cc : ByteArray}
theorem o_ifd_lt {i : Nat} (hx : p.tables.exec = Jvm.exec) (hb : c.code = cc) {off : Int} {tgt : Nat} (hdg : decode cc pc = .ok (.ifCond .lt off, 3)) (ht : (pc : Int) + off = (tgt : Int)) (h1 : i < 2 ^ 31)
    (kt : i = 0 → W p l e R s m args below meth c H locs cells slots Q (F0 m tgt ls rest)) (kf : (∃ j, i = j + 1) → W p l e R s m args below meth c H locs cells slots Q (F0 m (pc + 3) ls rest)) : W p l e R s m args below meth c H locs cells slots Q (F0 m pc ls (.int (dI i) :: rest)) := by
  cases i with
  | zero => exact lv_if_lt hx hb hdg ht (fun _ => kt rfl) (fun h => absurd (by rw [dI_0]; decide) h)
  | succ j => exact lv_if_lt hx hb hdg ht (fun h => absurd (by rw [dI_succ] at h; exact h) (nI_pos (n := j) (by omega))) (fun _ => kf ⟨j, rfl⟩)
end OK3
