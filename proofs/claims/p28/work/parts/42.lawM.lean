/-! the law's own arrays, read off the same state -/
def aI (M : MT) (j : Nat) : Int32 := if j % 4 = 0 then nI (mO M (j / 4)) else if j % 4 = 1 then nI (mW M (j / 4)) else if j % 4 = 2 then lkI (mL M (j / 4)) else bI (mF M (j / 4) = 1)
theorem aI_0 (M : MT) (k : Nat) : aI M (4 * k) = nI (mO M k) := by
  unfold aI
  rw [if_pos (by omega), show 4 * k / 4 = k by omega]
theorem aI_1 (M : MT) (k : Nat) : aI M (4 * k + 1) = nI (mW M k) := by
  unfold aI
  rw [if_neg (by omega), if_pos (by omega), show (4 * k + 1) / 4 = k by omega]
theorem aI_2 (M : MT) (k : Nat) : aI M (4 * k + 2) = lkI (mL M k) := by
  unfold aI
  rw [if_neg (by omega), if_neg (by omega), if_pos (by omega), show (4 * k + 2) / 4 = k by omega]
theorem aI_3 (M : MT) (k : Nat) : aI M (4 * k + 3) = bI (mF M k = 1) := by
  unfold aI
  rw [if_neg (by omega), if_neg (by omega), if_neg (by omega), show (4 * k + 3) / 4 = k by omega]
def vD (M : MT) (j : Nat) : UInt64 := if j % 2 = 0 then FP.f2d (mA M (j / 2)) else FP.f2d (mU M (j / 2))
theorem vD_0 (M : MT) (k : Nat) : vD M (2 * k) = FP.f2d (mA M k) := by
  unfold vD
  rw [if_pos (by omega), show 2 * k / 2 = k by omega]
theorem vD_1 (M : MT) (k : Nat) : vD M (2 * k + 1) = FP.f2d (mU M k) := by
  unfold vD
  rw [if_neg (by omega), show (2 * k + 1) / 2 = k by omega]
def tD (M : MT) (j : Nat) : UInt64 := if j = 24 then FP.f2d (mT M) else FP.f2d (mH M j)
theorem tD_24 (M : MT) : tD M 24 = FP.f2d (mT M) := if_pos rfl
theorem tD_k (M : MT) {k : Nat} (h : k ≠ 24) : tD M k = FP.f2d (mH M k) := if_neg h
def gI (M : MT) (i : Nat) : Nat := match i with
  | 0 => mP M
  | 1 => mN M
  | 2 => cR (ftB M 2) 0 (mN M)
  | 3 => cR (ftB M 3) 0 (mN M)
  | _ => mS M
/-- the law's five rows: L 0 .. L 4 -/
abbrev wLa (cy : Nat → ClassId) (L : Nat → Nat) (M : MT) : va_W := [(L 0, eI cy 5 (fun i => nI (gI M i))), (L 1, eI cy 6 (fun k => nI (mR M k))), (L 2, eI cy 60 (aI M)), (L 3, eD cy 30 (vD M)), (L 4, eD cy 25 (tD M))]
theorem d2f_f2d {a : UInt32} (h : FP.Core.fIsNaN a = false) : FP.d2f (FP.f2d a) = a := by
  rw [FP.f2d_core h, FP.d2f_core (FP.Core.f2d_out h)]
  exact FP.Core.d2f_f2d ((FP.Core.notNaN_iff32 a).mp h)
theorem f2d_n {a : UInt32} (h : FP.Core.fIsNaN a = false) : vf_n64 (FP.f2d a) := by
  rw [FP.f2d_core h]
  exact n64_of (FP.Core.f2d_out h)
theorem d2f_n {a : UInt32} (h : FP.Core.fIsNaN a = false) : vf_n32 (FP.d2f (FP.f2d a)) := by
  rw [d2f_f2d h]
  exact n32_of h
/-- best is the ruler among the orders from lo to hi -/
def isB (M : MT) (w lo hi : Nat) (best : Option Nat) : Prop := match best with
  | none => ∀ j, lo ≤ j → j < hi → ¬ (mF M j = 1 ∧ mW M j = w)
  | some b => lo ≤ b ∧ b < hi ∧ (mF M b = 1 ∧ mW M b = w) ∧ ∀ j, lo ≤ j → j < hi → (mF M j = 1 ∧ mW M j = w) → mR M (mO M j) < mR M (mO M b) ∨ (mR M (mO M j) = mR M (mO M b) ∧ j ≤ b)
theorem isB_uniq {M : MT} {w lo hi : Nat} {x y : Option Nat} (hx : isB M w lo hi x) (hy : isB M w lo hi y) : x = y := by
  cases x with
  | none =>
    cases y with
    | none => rfl
    | some b => exact absurd hy.2.2.1 (hx b hy.1 hy.2.1)
  | some b =>
    cases y with
    | none => exact absurd hx.2.2.1 (hy b hx.1 hx.2.1)
    | some c =>
      have h1 := hx.2.2.2 c hy.1 hy.2.1 hy.2.2.1
      have h2 := hy.2.2.2 b hx.1 hx.2.1 hx.2.2.1
      exact congrArg some (by omega)
theorem isB_skip {M : MT} {w lo hi : Nat} {x : Option Nat} (hx : isB M w (lo + 1) hi x) (h : ¬ (mF M lo = 1 ∧ mW M lo = w)) : isB M w lo hi x := by
  cases x with
  | none =>
    intro j h1 h2
    by_cases q : j = lo
    · rw [q]; exact h
    · exact hx j (by omega) h2
  | some b =>
    refine ⟨by have := hx.1; omega, hx.2.1, hx.2.2.1, fun j h1 h2 h3 => ?_⟩
    by_cases q : j = lo
    · rw [q] at h3; exact absurd h3 h
    · exact hx.2.2.2 j (by omega) h2 h3
theorem isB_new {M : MT} {w lo hi : Nat} (hx : isB M w (lo + 1) hi none) (h : mF M lo = 1 ∧ mW M lo = w) (hl : lo < hi) : isB M w lo hi (some lo) :=
  ⟨Nat.le_refl _, hl, h, fun j h1 h2 h3 => by
    by_cases q : j = lo
    · exact Or.inr ⟨by rw [q], by omega⟩
    · exact absurd h3 (hx j (by omega) h2)⟩
theorem isB_more {M : MT} {w lo hi b : Nat} (hx : isB M w (lo + 1) hi (some b)) (h : mF M lo = 1 ∧ mW M lo = w) (hl : lo < hi) (hr : mR M (mO M b) < mR M (mO M lo)) : isB M w lo hi (some lo) :=
  ⟨Nat.le_refl _, hl, h, fun j h1 h2 h3 => by
    by_cases q : j = lo
    · exact Or.inr ⟨by rw [q], by omega⟩
    · have := hx.2.2.2 j (by omega) h2 h3
      omega⟩
theorem isB_keep {M : MT} {w lo hi b : Nat} (hx : isB M w (lo + 1) hi (some b)) (hr : mR M (mO M lo) ≤ mR M (mO M b)) : isB M w lo hi (some b) :=
  ⟨by have := hx.1; omega, hx.2.1, hx.2.2.1, fun j h1 h2 h3 => by
    by_cases q : j = lo
    · rw [q]; have := hx.1; omega
    · exact hx.2.2.2 j (by omega) h2 h3⟩
theorem isB_rlN {M : MT} {w : Nat} : ∀ n, isB M w 0 n (rlN M n w)
  | 0 => fun j _ h => absurd h (Nat.not_lt_zero j)
  | n + 1 => by
    have ih := isB_rlN (M := M) (w := w) n
    have keep : ¬ (mF M n = 1 ∧ mW M n = w) → isB M w 0 (n + 1) (rlN M n w) := by
      intro h
      cases hx : rlN M n w with
      | none =>
        rw [hx] at ih
        intro j h1 h2
        by_cases q : j = n
        · rw [q]; exact h
        · exact ih j h1 (by omega)
      | some b =>
        rw [hx] at ih
        refine ⟨ih.1, by have := ih.2.1; omega, ih.2.2.1, fun j h1 h2 h3 => ?_⟩
        by_cases q : j = n
        · rw [q] at h3; exact absurd h3 h
        · exact ih.2.2.2 j h1 (by omega) h3
    by_cases h1 : mF M n = 1
    · by_cases hw : mW M n = w
      · subst hw
        cases hx : rlN M n (mW M n) with
        | none =>
          rw [rlN_n h1 hx, va_us]
          rw [hx] at ih
          exact ⟨Nat.zero_le _, Nat.lt_succ_self _, ⟨h1, rfl⟩, fun j a b cc => by
            by_cases q : j = n
            · exact Or.inr ⟨by rw [q], by omega⟩
            · exact absurd cc (ih j a (by omega))⟩
        | some b =>
          rw [hx] at ih
          by_cases h3 : mR M (mO M b) ≤ mR M (mO M n)
          · rw [rlN_t h1 hx h3, va_us]
            exact ⟨Nat.zero_le _, Nat.lt_succ_self _, ⟨h1, rfl⟩, fun j a bb cc => by
              by_cases q : j = n
              · exact Or.inr ⟨by rw [q], by omega⟩
              · have := ih.2.2.2 j a (by omega) cc
                omega⟩
          · rw [rlN_f h1 hx h3, hx]
            exact ⟨ih.1, by have := ih.2.1; omega, ih.2.2.1, fun j a bb cc => by
              by_cases q : j = n
              · rw [q]; omega
              · exact ih.2.2.2 j a (by omega) cc⟩
      · have e : rlN M (n + 1) w = rlN M n w := by
          cases hx : rlN M n (mW M n) with
          | none => rw [rlN_n h1 hx, va_un (fun z => hw z.symm)]
          | some b =>
            by_cases h3 : mR M (mO M b) ≤ mR M (mO M n)
            · rw [rlN_t h1 hx h3, va_un (fun z => hw z.symm)]
            · rw [rlN_f h1 hx h3]
        rw [e]
        exact keep (fun z => hw z.2)
    · rw [rlN_u h1]
      exact keep (fun z => h1 z.1)
theorem isB_rl {M : MT} {w : Nat} {x : Option Nat} (h : isB M w 0 (mN M) x) : x = rl M w := isB_uniq h (isB_rlN (mN M))
/-- the low bits of a number, as the law takes them -/
def lwN (v : Int32) : Nat := v.toBitVec.toNat % 2 ^ 31
theorem lwN_lt (v : Int32) : lwN v < 2 ^ 31 := Nat.mod_lt _ (by decide)
section OKb
variable {p : Program} {l : Launch} {e : Env} {R : Room} {s : State} {m : MethodId} {args : Array Value} {below : List Frame} {meth : Method} {c : Code} {H : Heap} {locs : List Loc} {cells slots : Nat} {Q : State → Prop}
variable {pc : Nat} {ls : Array Slot} {rest : List Value} {cc : ByteArray}
/-- a truth value against 1 -/
theorem o_icmp1_ne {P : Prop} [Decidable P] (hx : p.tables.exec = Jvm.exec) (hb : c.code = cc) {off : Int} {tgt : Nat} (hdg : decode cc pc = .ok (.if_icmp .ne off, 3)) (ht : (pc : Int) + off = (tgt : Int))
    (kt : ¬ P → W p l e R s m args below meth c H locs cells slots Q (F0 m tgt ls rest)) (kf : P → W p l e R s m args below meth c H locs cells slots Q (F0 m (pc + 3) ls rest)) : W p l e R s m args below meth c H locs cells slots Q (F0 m pc ls (.int (nI 1) :: .int (bI P) :: rest)) :=
  lv_icmp_ne hx hb hdg ht (fun h => kt (fun q => h (by rw [bI_t q]; decide))) (fun h => kf (by by_cases q : P; exact q; rw [bI_f q] at h; exact absurd h (by decide)))
end OKb
