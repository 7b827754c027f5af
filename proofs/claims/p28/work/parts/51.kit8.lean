theorem f100 : Fin32 1120403456 := ⟨false, 13107200, -17, by decide +kernel⟩
theorem lk_b {M : MT} (hW : WB M) {w : Nat} : ∀ j, rl M w = some j → j < 2 ^ 31 := fun j hj => by
  have := rl_lt w j hj
  have := hW.2.1
  omega
theorem nI_lt40 {k : Nat} (h : k < 40) : k < 2 ^ 31 := by omega
theorem or0 (x : Int32) : x ||| nI 0 = x := by
  rw [show nI 0 = 0 from rfl]
  exact Int32.or_zero
/-- sums -/
def sm (f : Nat → Nat) : Nat → Nat
  | 0 => 0
  | n + 1 => sm f n + f n
theorem sm_congr {f g : Nat → Nat} : ∀ {n : Nat}, (∀ j, j < n → f j = g j) → sm f n = sm g n
  | 0, _ => rfl
  | n + 1, h => by
    show sm f n + f n = sm g n + g n
    rw [sm_congr (fun j hj => h j (by omega)), h n (Nat.lt_succ_self n)]
theorem sm_add (f g : Nat → Nat) : ∀ n, sm (fun j => f j + g j) n = sm f n + sm g n
  | 0 => rfl
  | n + 1 => by
    show sm (fun j => f j + g j) n + (f n + g n) = (sm f n + f n) + (sm g n + g n)
    rw [sm_add f g n]
    omega
theorem sm_0 : ∀ n, sm (fun _ => 0) n = 0
  | 0 => rfl
  | n + 1 => by show sm (fun _ => 0) n + 0 = 0; rw [sm_0 n]
theorem sm_swap (f : Nat → Nat → Nat) (m : Nat) : ∀ n, sm (fun i => sm (fun j => f i j) m) n = sm (fun j => sm (fun i => f i j) n) m
  | 0 => by
    show 0 = sm (fun _ => 0) m
    rw [sm_0]
  | n + 1 => by
    show sm (fun i => sm (fun j => f i j) m) n + sm (fun j => f n j) m = sm (fun j => sm (fun i => f i j) n + f n j) m
    rw [sm_swap f m n, sm_add]
theorem sm_one {a c : Nat} {f : Nat → Nat} (ha : f a = c) (h : ∀ j, j ≠ a → f j = 0) : ∀ n, sm f n = if a < n then c else 0
  | 0 => rfl
  | n + 1 => by
    show sm f n + f n = _
    rw [sm_one ha h n]
    by_cases q : n = a
    · subst q
      rw [if_neg (Nat.lt_irrefl _), if_pos (Nat.lt_succ_self _), ha]
      omega
    · rw [h n q]
      by_cases q2 : a < n
      · rw [if_pos q2, if_pos (show a < n + 1 by omega), Nat.add_zero]
      · rw [if_neg q2, if_neg (show ¬ a < n + 1 by omega), Nat.add_zero]
theorem cR_sm (p : Nat → Bool) : ∀ n, cR p 0 n = sm (fun j => if p j = true then 1 else 0) n
  | 0 => rfl
  | n + 1 => by
    show cR p 0 n + (if p (0 + n) = true then 1 else 0) = sm _ n + (if p n = true then 1 else 0)
    rw [cR_sm p n, Nat.zero_add]
/-- an order of x's that rules its word -/
def rpB (M : MT) (x k : Nat) : Bool := decide (mO M k = x ∧ rl M (mW M k) = some k)
theorem rpB_iff {M : MT} {x k : Nat} : rpB M x k = true ↔ mO M k = x ∧ rl M (mW M k) = some k := by unfold rpB; exact decide_eq_true_iff
theorem rl_word {M : MT} {w o : Nat} (h : rl M w = some o) : mW M o = w := by
  have hb : isB M w 0 (mN M) (rl M w) := isB_rlN (mN M)
  rw [h] at hb
  exact hb.2.2.1.2
/-- the words that x rules, counted by orders and by words -/
theorem rp_rb {M : MT} (hW : WB M) (x : Nat) : cR (rbB M (rl M) x) 0 16 = cR (rpB M x) 0 (mN M) := by
  rw [cR_sm, cR_sm]
  have e1 : sm (fun w => if rbB M (rl M) x w = true then 1 else 0) 16 = sm (fun w => sm (fun k => if rl M w = some k ∧ mO M k = x then 1 else 0) (mN M)) 16 := by
    refine sm_congr (fun w hw => ?_)
    show _ = sm (fun k => if rl M w = some k ∧ mO M k = x then 1 else 0) (mN M)
    cases hr : rl M w with
    | none =>
      rw [if_neg (rbB_n hr), sm_congr (g := fun _ => 0) (fun j _ => if_neg (fun z => by cases z.1)), sm_0]
    | some o =>
      have hl := rl_lt w o hr
      rw [sm_one (a := o) (c := if mO M o = x then 1 else 0) (by
        by_cases q : mO M o = x
        · rw [if_pos ⟨rfl, q⟩, if_pos q]
        · rw [if_neg (fun z => q z.2), if_neg q]) (fun j hj => if_neg (fun z => hj (Option.some.inj z.1).symm)), if_pos hl]
      by_cases q : mO M o = x
      · rw [if_pos ((rbB_s hr).mpr q), if_pos q]
      · rw [if_neg (fun z => q ((rbB_s hr).mp z)), if_neg q]
  rw [e1, sm_swap]
  refine sm_congr (fun k hk => ?_)
  show sm (fun w => if rl M w = some k ∧ mO M k = x then 1 else 0) 16 = _
  have hw := hW.2.2.2.2.1 k
  rw [sm_one (a := mW M k) (c := if rpB M x k = true then 1 else 0) (by
    by_cases q : rpB M x k = true
    · rw [if_pos q, if_pos ⟨(rpB_iff.mp q).2, (rpB_iff.mp q).1⟩]
    · rw [if_neg q, if_neg (fun z => q (rpB_iff.mpr ⟨z.2, z.1⟩))]) (fun j hj => if_neg (fun z => hj (rl_word z.1).symm)), if_pos hw]
