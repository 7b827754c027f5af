theorem sh_k : ∀ k, k < 31 → ((nI k &&& 31).toBitVec.smod 32).toNat = k := by decide +kernel
theorem i32_nat {x : Int32} {n : Nat} (h : x.toBitVec.toNat = n) (hn : n < 2 ^ 31) : x = nI n := by
  apply Int32.toBitVec_inj.mp
  apply BitVec.eq_of_toNat_eq
  rw [h, nI_nat hn]
theorem nI_shl {a k : Nat} (hk : k < 31) (h : a * 2 ^ k < 2 ^ 31) : nI a <<< (nI k &&& 31) = nI (a * 2 ^ k) := by
  have hp := Nat.two_pow_pos k
  have ha : a < 2 ^ 31 := Nat.lt_of_le_of_lt (Nat.le_mul_of_pos_right a hp) h
  refine i32_nat ?_ h
  rw [Int32.toBitVec_shiftLeft, BitVec.shiftLeft_eq', BitVec.toNat_shiftLeft, sh_k k hk, nI_nat ha, Nat.shiftLeft_eq]
  exact Nat.mod_eq_of_lt (by omega)
theorem nI_shr {a k : Nat} (hk : k < 31) (ha : a < 2 ^ 31) : nI a >>> (nI k &&& 31) = nI (a / 2 ^ k) := by
  refine i32_nat ?_ (Nat.lt_of_le_of_lt (Nat.div_le_self _ _) ha)
  rw [Int32.toBitVec_shiftRight, BitVec.sshiftRight_eq', sh_k k hk, BitVec.sshiftRight_eq_of_msb_false (by rw [BitVec.msb_eq_false_iff_two_mul_lt, nI_nat ha]; omega), BitVec.toNat_ushiftRight, nI_nat ha, Nat.shiftRight_eq_div_pow]
theorem nI_or {a b : Nat} (k : Nat) (hb : b < 2 ^ k) (h : a * 2 ^ k + b < 2 ^ 31) : nI (a * 2 ^ k) ||| nI b = nI (a * 2 ^ k + b) := by
  refine i32_nat ?_ h
  rw [Int32.toBitVec_or, BitVec.toNat_or, nI_nat (by omega), nI_nat (by omega), Nat.mul_comm, ← Nat.two_pow_add_eq_or_of_lt hb]
theorem okP_at {e : Nat} (h : e ≤ 8000) : okP e = true := by
  have key : ∀ i, i < 16 → ∀ r, r < 500 → okP (500 * i + r) = true := by
    intro i hi r hr
    match i, hi with
    | 0, _ => exact allB_lt okP_0 r hr
    | 1, _ => exact allB_lt okP_1 r hr
    | 2, _ => exact allB_lt okP_2 r hr
    | 3, _ => exact allB_lt okP_3 r hr
    | 4, _ => exact allB_lt okP_4 r hr
    | 5, _ => exact allB_lt okP_5 r hr
    | 6, _ => exact allB_lt okP_6 r hr
    | 7, _ => exact allB_lt okP_7 r hr
    | 8, _ => exact allB_lt okP_8 r hr
    | 9, _ => exact allB_lt okP_9 r hr
    | 10, _ => exact allB_lt okP_10 r hr
    | 11, _ => exact allB_lt okP_11 r hr
    | 12, _ => exact allB_lt okP_12 r hr
    | 13, _ => exact allB_lt okP_13 r hr
    | 14, _ => exact allB_lt okP_14 r hr
    | 15, _ => exact allB_lt okP_15 r hr
    | n + 16, hn => exact absurd hn (by omega)
  by_cases q : e = 8000
  · rw [q]
    exact okP_l
  · have := key (e / 500) (by omega) (e % 500) (Nat.mod_lt _ (by decide))
    rwa [Nat.div_add_mod] at this
theorem okM_at {e : Nat} (h : e < 8000) : okM e = true := by
  have key : ∀ i, i < 16 → ∀ r, r < 500 → okM (500 * i + r) = true := by
    intro i hi r hr
    match i, hi with
    | 0, _ => exact allB_lt okM_0 r hr
    | 1, _ => exact allB_lt okM_1 r hr
    | 2, _ => exact allB_lt okM_2 r hr
    | 3, _ => exact allB_lt okM_3 r hr
    | 4, _ => exact allB_lt okM_4 r hr
    | 5, _ => exact allB_lt okM_5 r hr
    | 6, _ => exact allB_lt okM_6 r hr
    | 7, _ => exact allB_lt okM_7 r hr
    | 8, _ => exact allB_lt okM_8 r hr
    | 9, _ => exact allB_lt okM_9 r hr
    | 10, _ => exact allB_lt okM_10 r hr
    | 11, _ => exact allB_lt okM_11 r hr
    | 12, _ => exact allB_lt okM_12 r hr
    | 13, _ => exact allB_lt okM_13 r hr
    | 14, _ => exact allB_lt okM_14 r hr
    | 15, _ => exact allB_lt okM_15 r hr
    | n + 16, hn => exact absurd hn (by omega)
  have := key (e / 500) (by omega) (e % 500) (Nat.mod_lt _ (by decide))
  rwa [Nat.div_add_mod] at this
theorem bN_bd {e : Nat} (h0 : 0 < e) (h : e ≤ 8002) : 2 ^ 23 ≤ bN e ∧ bN e < 151 * 2 ^ 23 := by
  obtain ⟨k, rfl⟩ : ∃ k, e = k + 1 := ⟨e - 1, by omega⟩
  have := of_decide_eq_true (allB_lt bN_all k (by omega))
  exact ⟨this.1, this.2.1⟩
theorem bN_step {e : Nat} (h : e ≤ 8001) : bN e < bN (e + 1) := (of_decide_eq_true (allB_lt bN_all e (by omega))).2.2
theorem bN_mono {a : Nat} : ∀ {b : Nat}, b ≤ 8002 → a < b → bN a < bN b
  | 0, _, h => absurd h (Nat.not_lt_zero _)
  | b + 1, hb, h => by
    by_cases q : a = b
    · rw [q]
      exact bN_step (by omega)
    · exact Nat.lt_trans (bN_mono (b := b) (by omega) (by omega)) (bN_step (by omega))
theorem bN_lt {e : Nat} (h : e ≤ 8002) : bN e < 2 ^ 31 := by
  by_cases q : e = 0
  · rw [q]
    decide
  · have := (bN_bd (by omega) h).2
    omega
theorem tfl_u {e : Nat} (h : e ≤ 8002) : tfl (nI (bN e)) = uN e := by
  by_cases q : e = 0
  · rw [q]
    exact tfl_z
  · obtain ⟨h1, h2⟩ := bN_bd (by omega) h
    exact tfl_p h1 h2
theorem tfl_w {e : Nat} (h0 : 0 < e) (h : e ≤ 8002) : tfl (nM (bN e)) = uM e := by
  obtain ⟨h1, h2⟩ := bN_bd h0 h
  exact tfl_m h1 h2
theorem exN_u {e : Nat} (h : e ≤ 8002) : exN (nI (bN e)) ≤ 150 := by
  unfold exN
  rw [nI_nat (bN_lt h)]
  by_cases q : e = 0
  · rw [q]
    decide
  · have := (bN_bd (by omega) h).2
    omega
theorem exN_w {e : Nat} (h0 : 0 < e) (h : e ≤ 8002) : exN (nM (bN e)) ≤ 150 := by
  unfold exN
  rw [nM_nat (bN_lt h)]
  have := (bN_bd h0 h).2
  omega
/-- so many eighths, of either sign: the whole number, the bits, the float -/
def zI (s : Bool) (e : Nat) : Int32 := if s then -(nI e) else nI e
def zB (s : Bool) (e : Nat) : Int32 := if s then nM (bN e) else nI (bN e)
abbrev zF (s : Bool) (e : Nat) : UInt32 := tfl (zB s e)
theorem z_all {s : Bool} {e : Nat} (h : e ≤ 8000) (h0 : s = true → 0 < e) : FP.f2d (zF s e) = FP.dmul (FP.i2d (zI s e)) 4593671619917905920 ∧ frB (zB s e) 3296329728 1148846080 = true ∧ rngB (zF s e) = true := by
  cases s with
  | false =>
    have hk := okP_at h
    unfold okP at hk
    rw [Bool.and_eq_true, Bool.and_eq_true] at hk
    obtain ⟨⟨h1, h2⟩, h3⟩ := hk
    have e9 : zF false e = uN e := tfl_u (by omega)
    refine ⟨by rw [e9]; exact eq_of_beq h1, ?_, by rw [e9]; exact h3⟩
    have h2 := of_decide_eq_true h2
    exact frB_iff.mpr ⟨exN_u (by omega), by rw [show tfl (zB false e) = uN e from e9]; exact h2.1, by rw [show tfl (zB false e) = uN e from e9]; exact h2.2⟩
  | true =>
    obtain ⟨k, rfl⟩ : ∃ k, e = k + 1 := ⟨e - 1, by have := h0 rfl; omega⟩
    have hk := okM_at (e := k) (by omega)
    unfold okM at hk
    rw [Bool.and_eq_true, Bool.and_eq_true] at hk
    obtain ⟨⟨h1, h2⟩, h3⟩ := hk
    have e9 : zF true (k + 1) = uM (k + 1) := tfl_w (by omega) (by omega)
    refine ⟨by rw [e9]; exact eq_of_beq h1, ?_, by rw [e9]; exact h3⟩
    have h2 := of_decide_eq_true h2
    exact frB_iff.mpr ⟨exN_w (by omega) (by omega), by rw [show tfl (zB true (k + 1)) = uM (k + 1) from e9]; exact h2.1, by rw [show tfl (zB true (k + 1)) = uM (k + 1) from e9]; exact h2.2⟩
theorem fr_8001 : frB (nI (bN 8001)) 3296329728 1148846080 = false := by decide +kernel
theorem fr_nan : frB 2143289344 3296329728 1148846080 = false := by decide +kernel
theorem fr_str : allB (fun e => frB (nI (bN (e + 1))) 1036831949 1092616192) 80 = true := by decide +kernel
theorem fr_81 : frB (nI (bN 81)) 1036831949 1092616192 = false := by decide +kernel
theorem fr_0 : frB 0 1036831949 1092616192 = false := by decide +kernel
theorem fr_801 : frB (nI (bN 801)) FP.fconst0 1120403456 = false := by decide +kernel
def okT (e : Nat) : Bool := decide (¬ Op.cmpValue (FP.fcmp (uN e) FP.fconst0) .l < 0 ∧ ¬ 0 < Op.cmpValue (FP.fcmp (uN e) 1120403456) .g)
theorem okT_all : allB okT 801 = true := by decide +kernel
theorem fr_tol {e : Nat} (h : e ≤ 800) : frB (nI (bN e)) FP.fconst0 1120403456 = true := by
  have h2 := of_decide_eq_true (allB_lt okT_all e (by omega))
  exact frB_iff.mpr ⟨exN_u (by omega), by rw [tfl_u (by omega)]; exact h2.1, by rw [tfl_u (by omega)]; exact h2.2⟩
theorem lg_lt {e : Nat} (h : e ≤ 8002) : Nat.log2 e ≤ 12 := by
  by_cases q : e = 0
  · rw [q]
    decide
  · have := (Nat.log2_lt q (k := 13)).mpr (by omega)
    omega
theorem lg_up {e u : Nat} (h : ¬ e / 2 ^ u ≤ 1) : u + 1 ≤ Nat.log2 e := by
  have hp := Nat.two_pow_pos u
  have h2 : 2 * 2 ^ u ≤ e := (Nat.le_div_iff_mul_le hp).mp (by omega)
  have q : e ≠ 0 := by omega
  refine (Nat.le_log2 q).mpr ?_
  rw [Nat.pow_succ]
  omega
theorem lg_eq {e u : Nat} (hu : u ≤ Nat.log2 e) (h : e / 2 ^ u ≤ 1) : u = Nat.log2 e := by
  by_cases q : e = 0
  · subst q
    have : Nat.log2 0 = 0 := by decide
    omega
  · have hp := Nat.two_pow_pos u
    have h2 : e < 2 * 2 ^ u := (Nat.div_lt_iff_lt_mul hp).mp (by omega)
    have := (Nat.log2_lt q (k := u + 1)).mpr (by rw [Nat.pow_succ]; omega)
    omega
theorem bN_z : bN 0 = 0 := rfl
theorem bN_s {e : Nat} (h : ¬ e = 0) : bN e = (124 + Nat.log2 e) * 2 ^ 23 + (e - 2 ^ Nat.log2 e) * 2 ^ (23 - Nat.log2 e) := if_neg h
theorem lg_le {e : Nat} (h : ¬ e = 0) : 2 ^ Nat.log2 e ≤ e := Nat.log2_self_le h
theorem lg_m {e : Nat} (h : ¬ e = 0) (h2 : e ≤ 8002) : (e - 2 ^ Nat.log2 e) * 2 ^ (23 - Nat.log2 e) < 2 ^ 23 := by
  have h3 := lg_lt h2
  have h4 : e < 2 ^ (Nat.log2 e + 1) := Nat.lt_log2_self
  have h5 := lg_le h
  rw [Nat.pow_succ] at h4
  calc (e - 2 ^ Nat.log2 e) * 2 ^ (23 - Nat.log2 e) < 2 ^ Nat.log2 e * 2 ^ (23 - Nat.log2 e) := Nat.mul_lt_mul_of_pos_right (by omega) (Nat.two_pow_pos _)
    _ = 2 ^ 23 := by rw [← Nat.pow_add]; congr 1; omega
theorem zI_neg {e : Nat} (h0 : 0 < e) (h : e < 2 ^ 31) : -(nI e) < 0 := by
  rw [Int32.lt_iff_toInt_lt, Int32.toInt_neg, nI_toInt h]
  show Int.bmod (-(e : Int)) (2 ^ 32) < 0
  rw [Int.bmod_eq_of_le (by omega) (by omega)]
  omega
