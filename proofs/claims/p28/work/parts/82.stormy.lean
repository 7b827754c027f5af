/-- the law's strengths within a storm: those of the orders below i are done; its fates: those of the orders below j -/
def upH (M : MT) (f : UInt32) (i k : Nat) : UInt32 := if k < i ∧ mF M k = 1 then stF M f k else mH M k
def upF (M : MT) (f : UInt32) (j k : Nat) : Nat := if k < j ∧ flB M f k = true then 2 else mF M k
abbrev wst (M : MT) (f : UInt32) (i : Nat) : MT := (mP M, mN M, mS M, mB M, mT M, mR M, mO M, mW M, mL M, mF M, mA M, mU M, upH M f i)
abbrev wfl (M : MT) (f : UInt32) (j : Nat) : MT := (mP M, mN M, mS M, mB M, mT M, mR M, mO M, mW M, mL M, upF M f j, mA M, mU M, mH M)
theorem upH_at (M : MT) (f : UInt32) (i : Nat) : upH M f i i = mH M i := if_neg (fun z => absurd z.1 (Nat.lt_irrefl _))
theorem upF_at (M : MT) (f : UInt32) (i : Nat) : upF M f i i = mF M i := if_neg (fun z => absurd z.1 (Nat.lt_irrefl _))
theorem upH_n {M : MT} {f : UInt32} {j n : Nat} (hj : j < n) (hh : mF M j = 1) : upH M f n j = stF M f j := if_pos ⟨hj, hh⟩
theorem upH_0 (M : MT) (f : UInt32) : upH M f 0 = mH M := funext fun k => if_neg (fun z => absurd z.1 (Nat.not_lt_zero _))
theorem upF_0 (M : MT) (f : UInt32) : upF M f 0 = mF M := funext fun k => if_neg (fun z => absurd z.1 (Nat.not_lt_zero _))
theorem wst_0 (M : MT) (f : UInt32) : wst M f 0 = M := by
  show (mP M, mN M, mS M, mB M, mT M, mR M, mO M, mW M, mL M, mF M, mA M, mU M, upH M f 0) = M
  rw [upH_0]
theorem wfl_0 (M : MT) (f : UInt32) : wfl M f 0 = M := by
  show (mP M, mN M, mS M, mB M, mT M, mR M, mO M, mW M, mL M, upF M f 0, mA M, mU M, mH M) = M
  rw [upF_0]
theorem upH_u {M : MT} {f : UInt32} {i : Nat} (hh : mF M i = 1) : va_up (upH M f i) i (stF M f i) = upH M f (i + 1) := by
  funext k
  unfold va_up upH
  by_cases q : k = i
  · subst q
    rw [if_pos rfl, if_pos ⟨Nat.lt_succ_self _, hh⟩]
  · rw [if_neg q]
    by_cases q2 : k < i ∧ mF M k = 1
    · rw [if_pos q2, if_pos ⟨by omega, q2.2⟩]
    · rw [if_neg q2, if_neg (fun z => q2 ⟨by omega, z.2⟩)]
theorem upH_f {M : MT} {f : UInt32} {i : Nat} (hh : ¬ mF M i = 1) : upH M f i = upH M f (i + 1) := by
  funext k
  unfold upH
  by_cases q2 : k < i ∧ mF M k = 1
  · rw [if_pos q2, if_pos ⟨by omega, q2.2⟩]
  · rw [if_neg q2, if_neg (fun z => q2 ⟨by
      have : k ≠ i := fun e => hh (e ▸ z.2)
      omega, z.2⟩)]
theorem upF_u {M : MT} {f : UInt32} {j : Nat} (h : flB M f j = true) : va_up (upF M f j) j 2 = upF M f (j + 1) := by
  funext k
  unfold va_up upF
  by_cases q : k = j
  · subst q
    rw [if_pos rfl, if_pos ⟨Nat.lt_succ_self _, h⟩]
  · rw [if_neg q]
    by_cases q2 : k < j ∧ flB M f k = true
    · rw [if_pos q2, if_pos ⟨by omega, q2.2⟩]
    · rw [if_neg q2, if_neg (fun z => q2 ⟨by omega, z.2⟩)]
theorem upF_f {M : MT} {f : UInt32} {j : Nat} (h : ¬ flB M f j = true) : upF M f j = upF M f (j + 1) := by
  funext k
  unfold upF
  by_cases q2 : k < j ∧ flB M f k = true
  · rw [if_pos q2, if_pos ⟨by omega, q2.2⟩]
  · rw [if_neg q2, if_neg (fun z => q2 ⟨by
      have : k ≠ j := fun e => h (e ▸ z.2)
      omega, z.2⟩)]
theorem wst_f {M : MT} {f : UInt32} {i : Nat} (hh : ¬ mF M i = 1) : wst M f i = wst M f (i + 1) := by
  show (mP M, mN M, mS M, mB M, mT M, mR M, mO M, mW M, mL M, mF M, mA M, mU M, upH M f i) = _
  rw [upH_f hh]
theorem wfl_f {M : MT} {f : UInt32} {j : Nat} (h : ¬ flB M f j = true) : wfl M f j = wfl M f (j + 1) := by
  show (mP M, mN M, mS M, mB M, mT M, mR M, mO M, mW M, mL M, upF M f j, mA M, mU M, mH M) = _
  rw [upF_f h]
theorem tD_w {M : MT} {f : UInt32} {i : Nat} (hi : i < mN M) (hh : mF M i = 1) (h24 : i ≠ 24) : vf_upd (tD (wst M f i)) i (FP.f2d (stF M f i)) = tD (wst M f (i + 1)) := by
  rw [tD_up (wst M f i) h24 (stF M f i)]
  show tD (mP M, mN M, mS M, mB M, mT M, mR M, mO M, mW M, mL M, mF M, mA M, mU M, va_up (upH M f i) i (stF M f i)) = _
  rw [upH_u hh]
theorem aI_w {M : MT} {f : UInt32} {j : Nat} (h : flB M f j = true) : upd (aI (wfl M f j)) (4 * j + 3) (nI 0) = aI (wfl M f (j + 1)) := by
  rw [aI_up (wfl M f j) j 2 (by decide)]
  show aI (mP M, mN M, mS M, mB M, mT M, mR M, mO M, mW M, mL M, va_up (upF M f j) j 2, mA M, mU M, mH M) = _
  rw [upF_u h]
theorem upH_st (M : MT) (f : UInt32) : upH M f (mN M) = blH M f 0 := by
  funext k
  unfold upH blH
  by_cases q : k < mN M ∧ mF M k = 1
  · rw [if_pos q, if_pos ⟨Nat.zero_le _, q⟩]
  · rw [if_neg q, if_neg (fun z => q z.2)]
theorem upF_st (M : MT) (f : UInt32) : upF M f (mN M) = blF M f 0 := by
  funext k
  unfold upF blF
  by_cases q : k < mN M ∧ flB M f k = true
  · rw [if_pos q, if_pos ⟨Nat.zero_le _, q⟩]
  · rw [if_neg q, if_neg (fun z => q z.2)]
theorem aI_s (M : MT) (f : UInt32) : aI (wfl M f (mN M)) = aI (stM M f) := by
  show aI (mP M, mN M, mS M, mB M, mT M, mR M, mO M, mW M, mL M, upF M f (mN M), mA M, mU M, mH M) = _
  rw [upF_st]
  rfl
theorem tD_s (M : MT) (f : UInt32) : tD (wst M f (mN M)) = tD (stM M f) := by
  show tD (mP M, mN M, mS M, mB M, mT M, mR M, mO M, mW M, mL M, mF M, mA M, mU M, upH M f (mN M)) = _
  rw [upH_st]
  rfl
theorem cR_two {p r t : Nat → Bool} : ∀ {n : Nat}, (∀ j, j < n → (p j = true ↔ (r j = true ∨ t j = true)) ∧ ¬ (r j = true ∧ t j = true)) → cR p 0 n = cR r 0 n + cR t 0 n
  | 0, _ => rfl
  | n + 1, h => by
    have ih := cR_two (p := p) (r := r) (t := t) (n := n) (fun j hj => h j (by omega))
    obtain ⟨h1, h2⟩ := h n (Nat.lt_succ_self n)
    by_cases hr : r n = true
    · rw [cZ_t (p := p) (h1.mpr (Or.inl hr)), cZ_t (p := r) hr, cZ_f (p := t) (fun z => h2 ⟨hr, z⟩), ih]
      omega
    · by_cases ht : t n = true
      · rw [cZ_t (p := p) (h1.mpr (Or.inr ht)), cZ_f (p := r) hr, cZ_t (p := t) ht, ih]
        omega
      · rw [cZ_f (p := p) (fun z => (h1.mp z).elim hr ht), cZ_f (p := r) hr, cZ_f (p := t) ht, ih]
theorem gI_s (M : MT) (f : UInt32) (i : Nat) (hi : i < 5) : va_up (va_up (gI M) 2 (cR (ftB M 2) 0 (mN M) + cR (flB M f) 0 (mN M))) 4 (mS M + 1) i = gI (stM M f) i := by
  have e2 : cR (ftB (stM M f) 2) 0 (mN M) = cR (ftB M 2) 0 (mN M) + cR (flB M f) 0 (mN M) := cR_two (fun j hj => by
    have e : ftB (stM M f) 2 j = true ↔ blF M f 0 j = 2 := ftB_iff
    rw [e, ftB_iff]
    unfold blF
    by_cases q : flB M f j = true
    · rw [if_pos ⟨Nat.zero_le _, hj, q⟩]
      exact ⟨⟨fun _ => Or.inr q, fun _ => rfl⟩, fun z => by
        have := (flB_iff.mp q).1
        omega⟩
    · rw [if_neg (fun z => q z.2.2)]
      exact ⟨⟨fun z => Or.inl z, fun z => z.elim id (fun z => absurd z q)⟩, fun z => q z.2⟩)
  have e3 : cR (ftB (stM M f) 3) 0 (mN M) = cR (ftB M 3) 0 (mN M) := cR_congr (fun j hj => by
    unfold ftB
    show decide (blF M f 0 (0 + j) = 3) = decide (mF M (0 + j) = 3)
    unfold blF
    by_cases q : flB M f (0 + j) = true
    · rw [if_pos ⟨Nat.zero_le _, by omega, q⟩, (flB_iff.mp q).1]
      rfl
    · rw [if_neg (fun z => q z.2.2)])
  match i, hi with
  | 0, _ => rfl
  | 1, _ => rfl
  | 2, _ => exact e2.symm
  | 3, _ => exact e3.symm
  | 4, _ => rfl
  | n + 5, h => exact absurd h (by omega)
set_option maxHeartbeats 4000000 in
set_option maxRecDepth 100000 in
theorem kL_isStormy (l : Launch) (G : va_G) (cy : Nat → ClassId) {H0 : Heap} {z : Nat} {q h x r y L : Nat → Nat} {kh : Nat} {d : Nat → Nat → Nat} {E : Nat → MT} {M : MT} {ov : Nat → Nat} {f : UInt32} {A0 : Nat → Prop} (hk4 : kh ≤ 4) (hW : WB M) (hN : mN M ≤ 15) (hP : va_P G vwCl (([oSy z q h x r y] ++ wWe cy x ov) ++ (wHi cy h kh d E ++ (wDo cy q M ++ wLa cy L M))) H0) (hD0 : va_D A0 (([oSy z q h x r y] ++ wWe cy x ov) ++ (wHi cy h kh d E ++ (wDo cy q M ++ wLa cy L M)))) (v : Int32) (e1 : Nat) (he1 : 1 + lwN v % (if lwN (v >>> (nI 8 &&& 31)) % 3 = 0 then 80 else 16) = e1) (hf9 : tfl (nI (bN e1)) = f) (hH : ∀ k, Fin32 (mH M k)) (hS9 : ∀ k, Fin32 (stF M f k)) : MutS l yL_isStormy wsL_isStormy 6 200 [.ref z, .ref (L 0), .ref (L 2), .ref (L 4), .int v] H0 G cy 1 h (([oSy z q h x r y] ++ wWe cy x ov) ++ (wHi cy h kh d E ++ (wDo cy q M ++ wLa cy L M))) ([oSy z q h x r y] ++ wWe cy x (ovc ov M 0)) (wDo cy q (stM M f) ++ wLa cy L (stM M f)) := by
  refine Met.ofW (cc := cL_isStormy) (maxL := 9) (ret := (some .boolean)) (by decide) rfl ?_
  intro p e s m args below meth c s₁ B hml hv
  obtain ⟨rfl, hH, hK⟩ := hv
  subst hH
  have hx := B.exec
  have hb := B.bytes
  have hr := B.returns
  have hts := atoms_spec (ws := wsL_isStormy) B.pre
  have hown : s.vm.findClass RL = some m.cls := findClass_of_methodNamed B.named
  have hlocks := B.notSynchronized
  have hl := lv_entry ([.ref z, .ref (L 0), .ref (L 2), .ref (L 4), .int v]) (n := 9) (Nat.le_of_ble_eq_true rfl)
  rw [lg_entry_eq]
  generalize (lg_sl ([.ref z, .ref (L 0), .ref (L 2), .ref (L 4), .int v]) ++ List.replicate (9 - (lg_sl ([.ref z, .ref (L 0), .ref (L 2), .ref (L 4), .int v])).length) Slot.unset).toArray = ls at hl ⊢
  have hl : lv_has ls 9 [(0, .ref z), (1, .ref (L 0)), (2, .ref (L 2)), (3, .ref (L 4)), (4, .int v)] := hl
  obtain ⟨bP, bQ, bR, bO, bW, bL, bF⟩ := id hW
  have hs1 : 1 ≤ e1 ∧ e1 ≤ 80 := by have h9 := Nat.lt_of_lt_of_le (Nat.mod_lt (lwN v) (show 0 < (if lwN (v >>> (nI 8 &&& 31)) % 3 = 0 then 80 else 16) by split <;> decide)) (show (if lwN (v >>> (nI 8 &&& 31)) % 3 = 0 then 80 else 16) ≤ 80 by split <;> decide); omega
  have hff : Fin32 f := by rw [← hf9]; exact st_fin (by omega)
  have hD := hD0.self (sz := s.heap.size)
  generalize hAe : va_A (([oSy z q h x r y] ++ wWe cy x ov) ++ (wHi cy h kh d E ++ (wDo cy q M ++ wLa cy L M))) s.heap.size = A at hD ⊢
  have hA : ∀ q : Nat, s.heap.size ≤ q → A q := fun q h => by rw [← hAe]; exact Or.inr h
  have hS : va_S A s.heap s.heap [] := va_S.rf
  refine lv_iconst (v := nI 1) hx hb dL_isStormy_0 (by decide +kernel) ?_
  refine lv_iload hx hb dL_isStormy_1 (lv_at hl 4 rfl) ?_
  refine lv_iload hx hb dL_isStormy_3 (lv_at hl 4 rfl) ?_
  refine lv_bipush (v := nI 8) hx hb dL_isStormy_5 (by decide +kernel) ?_
  refine lv_ishr hx hb dL_isStormy_7 ?_
  rw [show v >>> (nI 8 &&& 31) = v >>> (nI 8 &&& 31) from rfl]
  refine lv_iconst (v := nI 3) hx hb dL_isStormy_8 (by decide +kernel) ?_
  refine o_SI (As := [.int (v >>> (nI 8 &&& 31)), .int (nI 3)]) (rest := [.int v, .int (nI 1)]) ⟨hx, hb, hml, hown, hts⟩ (kL_low l G cy (v >>> (nI 8 &&& 31)) 3 (by decide) (by omega)) (va_cwS 2 hts gL_isStormy_L_low rfl rfl rfl (by decide +kernel) ⟨Nat.le_of_ble_eq_true rfl, Nat.le_of_ble_eq_true rfl⟩) hK rfl hl.1 rfl (Nat.le_of_ble_eq_true rfl) dL_isStormy_9 ⟨Nat.le_of_ble_eq_true rfl, Nat.le_of_ble_eq_true rfl⟩ ?_
  refine o_cut 22 [.int (nI (if lwN (v >>> (nI 8 &&& 31)) % 3 = 0 then 80 else 16)), .int v, .int (nI 1)] (fun K22 => ?_) ?_
  · refine o_if_ne (tgt := 20) hx hb dL_isStormy_12 (by decide) (by omega) (fun c12 => ?_) (fun c12 => ?_)
    · refine lv_bipush (v := nI 16) hx hb dL_isStormy_20 (by decide +kernel) ?_
      have K9 := K22
      rw [show nI (if lwN (v >>> (nI 8 &&& 31)) % 3 = 0 then 80 else 16) = nI 16 from congrArg nI (if_neg (by omega))] at K9
      exact K9
    · refine lv_bipush (v := nI 80) hx hb dL_isStormy_15 (by decide +kernel) ?_
      refine lv_goto (tgt := 22) hx hb dL_isStormy_17 (by decide) ?_
      have K9 := K22
      rw [show nI (if lwN (v >>> (nI 8 &&& 31)) % 3 = 0 then 80 else 16) = nI 80 from congrArg nI (if_pos (by omega))] at K9
      exact K9
  refine o_SI (As := [.int v, .int (nI (if lwN (v >>> (nI 8 &&& 31)) % 3 = 0 then 80 else 16))]) (rest := [.int (nI 1)]) ⟨hx, hb, hml, hown, hts⟩ (kL_low l G cy v (if lwN (v >>> (nI 8 &&& 31)) % 3 = 0 then 80 else 16) (by split <;> decide) (by split <;> decide)) (va_cwS 2 hts gL_isStormy_L_low rfl rfl rfl (by decide +kernel) ⟨Nat.le_of_ble_eq_true rfl, Nat.le_of_ble_eq_true rfl⟩) hK rfl hl.1 rfl (Nat.le_of_ble_eq_true rfl) dL_isStormy_22 ⟨Nat.le_of_ble_eq_true rfl, Nat.le_of_ble_eq_true rfl⟩ ?_
  refine lv_iadd hx hb dL_isStormy_25 ?_
  rw [nI_add, he1]
  refine lv_istore (lv' := [(5, .int (nI e1)), (0, .ref z), (1, .ref (L 0)), (2, .ref (L 2)), (3, .ref (L 4)), (4, .int v)]) hx hb dL_isStormy_26 hl (by decide) rfl (fun ls hl => ?_)
  refine lv_iload hx hb dL_isStormy_28 (lv_at hl 0 rfl) ?_
  refine lv_i2f hx hb dL_isStormy_30 ?_
  refine lv_ldcf hx hb hown (hts (.constantFloat RL 93 (1040187392)) (by decide +kernel)) dL_isStormy_31 ?_
  refine lv_fmul hx hb dL_isStormy_33 (by rw [frc_eq hs1.1 hs1.2, hf9]; exact n32_of (FP.Core.FFin.notNaN hff)) ?_
  rw [frc_eq hs1.1 hs1.2, hf9]
  refine lv_fstore (lv' := [(6, .float f), (5, .int (nI e1)), (0, .ref z), (1, .ref (L 0)), (2, .ref (L 2)), (3, .ref (L 4)), (4, .int v)]) hx hb dL_isStormy_34 hl (by decide) rfl (fun ls hl => ?_)
  refine lv_iconst (v := nI 0) hx hb dL_isStormy_36 (by decide +kernel) ?_
  refine lv_istore (lv' := [(7, .int (nI 0)), (6, .float f), (5, .int (nI e1)), (0, .ref z), (1, .ref (L 0)), (2, .ref (L 2)), (3, .ref (L 4)), (4, .int v)]) hx hb dL_isStormy_37 hl (by decide) rfl (fun ls hl => ?_)
  refine o_loopM (σ := Nat) (fun (i : Nat) (H : Heap) (locs : List Loc) => i ≤ mN M ∧ va_P G vwCl (([oSy z q h x r y] ++ wWe cy x ov) ++ (wHi cy h kh d E ++ (wDo cy q M ++ [(L 0, eI cy 5 (fun i9 => nI ((gI M) i9))), (L 1, eI cy 6 (fun k9 => nI (mR M k9))), (L 2, eI cy 60 (aI M)), (L 3, eD cy 30 (vD M)), (L 4, eD cy 25 (tD (wst M f i)))]))) H ∧ va_D A (([oSy z q h x r y] ++ wWe cy x ov) ++ (wHi cy h kh d E ++ (wDo cy q M ++ [(L 0, eI cy 5 (fun i9 => nI ((gI M) i9))), (L 1, eI cy 6 (fun k9 => nI (mR M k9))), (L 2, eI cy 60 (aI M)), (L 3, eD cy 30 (vD M)), (L 4, eD cy 25 (tD (wst M f i)))]))) ∧ va_S A s.heap H locs) (fun (i : Nat) => [(7, .int (nI i)), (6, .float f), (5, .int (nI e1)), (0, .ref z), (1, .ref (L 0)), (2, .ref (L 2)), (3, .ref (L 4)), (4, .int v)]) (fun (i : Nat) => mN M - i) 0 ⟨Nat.zero_le _, by rw [wst_0]; exact hP, by rw [wst_0]; exact hD, hS⟩ (lv_sub hl [0, 1, 2, 3, 4, 5, 6, 7] rfl) ?_
  rintro i ls H locs ⟨h1, hP, hD, hS⟩ hl ih39
  have hl : lv_has ls 9 [(7, .int (nI i)), (6, .float f), (5, .int (nI e1)), (0, .ref z), (1, .ref (L 0)), (2, .ref (L 2)), (3, .ref (L 4)), (4, .int v)] := hl
  have b1 := bW i
  refine lv_iload hx hb dL_isStormy_39 (lv_at hl 0 rfl) ?_
  refine lv_aload_n hx hb dL_isStormy_41 rfl (lv_at hl 4 rfl) ?_
  refine lv_iconst (v := nI 1) hx hb dL_isStormy_42 (by decide +kernel) ?_
  refine o_iald hx hb hK hP 50 0 rfl rfl 1 (by omega) (by decide) dL_isStormy_43 ?_
  rw [show gI M 1 = mN M from rfl]
  refine o_icmp_ge (tgt := 89) hx hb dL_isStormy_44 (by decide) (by omega) (by omega) (fun c44 => ?_) (fun c44 => ?_)
  · obtain rfl : i = mN M := by omega
    refine lv_iconst (v := nI 0) hx hb dL_isStormy_89 (by decide +kernel) ?_
    refine lv_istore (lv' := [(7, .int (nI 0)), (6, .float f), (5, .int (nI e1)), (0, .ref z), (1, .ref (L 0)), (2, .ref (L 2)), (3, .ref (L 4)), (4, .int v)]) hx hb dL_isStormy_90 hl (by decide) rfl (fun ls hl => ?_)
    refine lv_iconst (v := nI 0) hx hb dL_isStormy_92 (by decide +kernel) ?_
    refine lv_istore (lv' := [(8, .int (nI 0)), (7, .int (nI 0)), (6, .float f), (5, .int (nI e1)), (0, .ref z), (1, .ref (L 0)), (2, .ref (L 2)), (3, .ref (L 4)), (4, .int v)]) hx hb dL_isStormy_93 hl (by decide) rfl (fun ls hl => ?_)
    refine o_loopM (σ := Nat) (fun (j : Nat) (H : Heap) (locs : List Loc) => j ≤ mN M ∧ va_P G vwCl (([oSy z q h x r y] ++ wWe cy x ov) ++ (wHi cy h kh d E ++ (wDo cy q M ++ [(L 0, eI cy 5 (fun i9 => nI ((gI M) i9))), (L 1, eI cy 6 (fun k9 => nI (mR M k9))), (L 2, eI cy 60 (aI (wfl M f j))), (L 3, eD cy 30 (vD M)), (L 4, eD cy 25 (tD (wst M f (mN M))))]))) H ∧ va_D A (([oSy z q h x r y] ++ wWe cy x ov) ++ (wHi cy h kh d E ++ (wDo cy q M ++ [(L 0, eI cy 5 (fun i9 => nI ((gI M) i9))), (L 1, eI cy 6 (fun k9 => nI (mR M k9))), (L 2, eI cy 60 (aI (wfl M f j))), (L 3, eD cy 30 (vD M)), (L 4, eD cy 25 (tD (wst M f (mN M))))]))) ∧ va_S A s.heap H locs) (fun (j : Nat) => [(8, .int (nI j)), (7, .int (nI (cR (flB M f) 0 j))), (6, .float f), (5, .int (nI e1)), (0, .ref z), (1, .ref (L 0)), (2, .ref (L 2)), (3, .ref (L 4)), (4, .int v)]) (fun (j : Nat) => mN M - j) 0 ⟨Nat.zero_le _, by rw [wfl_0]; exact hP, by rw [wfl_0]; exact hD, hS⟩ (lv_sub hl [0, 1, 2, 3, 4, 5, 6, 7, 8] rfl) ?_
    rintro j ls H locs ⟨h1, hP, hD, hS⟩ hl ih95
    have hl : lv_has ls 9 [(8, .int (nI j)), (7, .int (nI (cR (flB M f) 0 j))), (6, .float f), (5, .int (nI e1)), (0, .ref z), (1, .ref (L 0)), (2, .ref (L 2)), (3, .ref (L 4)), (4, .int v)] := hl
    refine lv_iload hx hb dL_isStormy_95 (lv_at hl 0 rfl) ?_
    refine lv_aload_n hx hb dL_isStormy_97 rfl (lv_at hl 5 rfl) ?_
    refine lv_iconst (v := nI 1) hx hb dL_isStormy_98 (by decide +kernel) ?_
    refine o_iald hx hb hK hP 50 0 rfl rfl 1 (by omega) (by decide) dL_isStormy_99 ?_
    rw [show gI M 1 = mN M from rfl]
    refine o_icmp_ge (tgt := 142) hx hb dL_isStormy_100 (by decide) (by omega) (by omega) (fun c100 => ?_) (fun c100 => ?_)
    · obtain rfl : j = mN M := by omega
      refine lv_aload_n hx hb dL_isStormy_142 rfl (lv_at hl 5 rfl) ?_
      refine lv_iconst (v := nI 2) hx hb dL_isStormy_143 (by decide +kernel) ?_
      refine lv_dup2_11 hx hb dL_isStormy_144 rfl rfl ?_
      refine o_iald hx hb hK hP 50 0 rfl rfl 2 (by omega) (by decide) dL_isStormy_145 ?_
      rw [show gI M 2 = cR (ftB M 2) 0 (mN M) from rfl]
      refine lv_iload hx hb dL_isStormy_146 (lv_at hl 1 rfl) ?_
      refine lv_iadd hx hb dL_isStormy_148 ?_
      rw [nI_add]
      refine o_iast hx hb hK hP hD hS 50 0 rfl rfl 2 (by omega) (by decide) (upd_nI (gI M) 2 (cR (ftB M 2) 0 (mN M) + cR (flB M f) 0 (mN M))) dL_isStormy_149 (fun H locs hP hD hS => ?_)
      have hP : va_P G vwCl ([oSy z q h x r y] ++ wWe cy x ov ++ [(h 0, .inr (1, [.ref (h 1), .int (nI kh)])), (h 1, eR cy 4 (fun i => some (d i 0)))] ++ wDo cy (d 0) (E 0) ++ wDo cy (d 1) (E 1) ++ wDo cy (d 2) (E 2) ++ wDo cy (d 3) (E 3) ++ wDo cy q M ++ [(L 0, eI cy 5 (fun i9 => nI ((va_up (gI M) 2 (cR (ftB M 2) 0 (mN M) + cR (flB M f) 0 (mN M))) i9))), (L 1, eI cy 6 (fun k9 => nI (mR M k9))), (L 2, eI cy 60 (aI (wfl M f (mN M)))), (L 3, eD cy 30 (vD M)), (L 4, eD cy 25 (tD (wst M f (mN M))))]) H := hP
      have hD : va_D A ([oSy z q h x r y] ++ wWe cy x ov ++ [(h 0, .inr (1, [.ref (h 1), .int (nI kh)])), (h 1, eR cy 4 (fun i => some (d i 0)))] ++ wDo cy (d 0) (E 0) ++ wDo cy (d 1) (E 1) ++ wDo cy (d 2) (E 2) ++ wDo cy (d 3) (E 3) ++ wDo cy q M ++ [(L 0, eI cy 5 (fun i9 => nI ((va_up (gI M) 2 (cR (ftB M 2) 0 (mN M) + cR (flB M f) 0 (mN M))) i9))), (L 1, eI cy 6 (fun k9 => nI (mR M k9))), (L 2, eI cy 60 (aI (wfl M f (mN M)))), (L 3, eD cy 30 (vD M)), (L 4, eD cy 25 (tD (wst M f (mN M))))]) := hD
      refine lv_aload_n hx hb dL_isStormy_150 rfl (lv_at hl 5 rfl) ?_
      refine lv_iconst (v := nI 4) hx hb dL_isStormy_151 (by decide +kernel) ?_
      refine lv_dup2_11 hx hb dL_isStormy_152 rfl rfl ?_
      refine o_iald hx hb hK hP 50 0 rfl rfl 4 (by omega) (by decide) dL_isStormy_153 ?_
      rw [show (va_up (gI M) 2 (cR (ftB M 2) 0 (mN M) + cR (flB M f) 0 (mN M))) 4 = mS M from rfl]
      refine lv_iconst (v := nI 1) hx hb dL_isStormy_154 (by decide +kernel) ?_
      refine lv_iadd hx hb dL_isStormy_155 ?_
      rw [nI_add]
      refine o_iast hx hb hK hP hD hS 50 0 rfl rfl 4 (by omega) (by decide) (upd_nI (va_up (gI M) 2 (cR (ftB M 2) 0 (mN M) + cR (flB M f) 0 (mN M))) 4 (mS M + 1)) dL_isStormy_156 (fun H locs hP hD hS => ?_)
      have hP : va_P G vwCl ([oSy z q h x r y] ++ wWe cy x ov ++ [(h 0, .inr (1, [.ref (h 1), .int (nI kh)])), (h 1, eR cy 4 (fun i => some (d i 0)))] ++ wDo cy (d 0) (E 0) ++ wDo cy (d 1) (E 1) ++ wDo cy (d 2) (E 2) ++ wDo cy (d 3) (E 3) ++ wDo cy q M ++ [(L 0, eI cy 5 (fun i9 => nI ((va_up (va_up (gI M) 2 (cR (ftB M 2) 0 (mN M) + cR (flB M f) 0 (mN M))) 4 (mS M + 1)) i9))), (L 1, eI cy 6 (fun k9 => nI (mR M k9))), (L 2, eI cy 60 (aI (wfl M f (mN M)))), (L 3, eD cy 30 (vD M)), (L 4, eD cy 25 (tD (wst M f (mN M))))]) H := hP
      have hD : va_D A ([oSy z q h x r y] ++ wWe cy x ov ++ [(h 0, .inr (1, [.ref (h 1), .int (nI kh)])), (h 1, eR cy 4 (fun i => some (d i 0)))] ++ wDo cy (d 0) (E 0) ++ wDo cy (d 1) (E 1) ++ wDo cy (d 2) (E 2) ++ wDo cy (d 3) (E 3) ++ wDo cy q M ++ [(L 0, eI cy 5 (fun i9 => nI ((va_up (va_up (gI M) 2 (cR (ftB M 2) 0 (mN M) + cR (flB M f) 0 (mN M))) 4 (mS M + 1)) i9))), (L 1, eI cy 6 (fun k9 => nI (mR M k9))), (L 2, eI cy 60 (aI (wfl M f (mN M)))), (L 3, eD cy 30 (vD M)), (L 4, eD cy 25 (tD (wst M f (mN M))))]) := hD
      rw [aI_s, tD_s] at hP hD
      have hP : va_P G vwCl (([oSy z q h x r y] ++ wWe cy x ov) ++ (wHi cy h kh d E ++ (wDo cy q M ++ wLa cy L (stM M f)))) H := o_set (ws := ([oSy z q h x r y] ++ wWe cy x ov) ++ (wHi cy h kh d E ++ (wDo cy q M ++ [(L 0, eI cy 5 (fun i9 => nI ((va_up (va_up (gI M) 2 (cR (ftB M 2) 0 (mN M) + cR (flB M f) 0 (mN M))) 4 (mS M + 1)) i9))), (L 1, eI cy 6 (fun k9 => nI (mR M k9))), (L 2, eI cy 60 (aI ((stM M f)))), (L 3, eD cy 30 (vD M)), (L 4, eD cy 25 (tD ((stM M f))))]))) (p := 50) (x := (L 0, eI cy 5 (fun i9 => nI ((va_up (va_up (gI M) 2 (cR (ftB M 2) 0 (mN M) + cR (flB M f) 0 (mN M))) 4 (mS M + 1)) i9)))) (y := (L 0, eI cy 5 (fun i9 => nI (gI (stM M f) i9)))) hP (o_cellI (fun j hj => congrArg nI (gI_s M f j hj)))
      have hD : va_D A (([oSy z q h x r y] ++ wWe cy x ov) ++ (wHi cy h kh d E ++ (wDo cy q M ++ wLa cy L (stM M f)))) := vd_same hD rfl
      refine lv_aload_n hx hb dL_isStormy_157 rfl (lv_at hl 4 rfl) ?_
      refine lv_iload hx hb dL_isStormy_158 (lv_at hl 3 rfl) ?_
      refine o_SI (As := [.int (nI e1)]) (rest := [.ref z]) ⟨hx, hb, hml, hown, hts⟩ (kL_bits_p l G cy e1 (by omega)) (va_cwS 1 hts gL_isStormy_L_bits rfl rfl rfl (by decide +kernel) ⟨Nat.le_of_ble_eq_true rfl, Nat.le_of_ble_eq_true rfl⟩) hK rfl hl.1 rfl (Nat.le_of_ble_eq_true rfl) dL_isStormy_160 ⟨Nat.le_of_ble_eq_true rfl, Nat.le_of_ble_eq_true rfl⟩ ?_
      have hPc := hP.sub (ws' := ([oSy z q h x r y] ++ wWe cy x ov) ++ (wHi cy h kh d E ++ wDo cy q M)) [0, 1, 2, 3, 4, 5, 6, 7, 8, 9, 10, 11, 12, 13, 14, 15, 16, 17, 18, 19, 20, 21, 22, 23, 24, 25, 26, 27, 28, 29, 30, 31, 32, 33, 34, 35, 36, 37, 38, 39, 40, 41, 42, 43, 44, 45, 46, 47, 48, 49] rfl
      have hDc := hD.sub (ws' := ([oSy z q h x r y] ++ wWe cy x ov) ++ (wHi cy h kh d E ++ wDo cy q M)) [0, 1, 2, 3, 4, 5, 6, 7, 8, 9, 10, 11, 12, 13, 14, 15, 16, 17, 18, 19, 20, 21, 22, 23, 24, 25, 26, 27, 28, 29, 30, 31, 32, 33, 34, 35, 36, 37, 38, 39, 40, 41, 42, 43, 44, 45, 46, 47, 48, 49] (by decide) rfl
      have hFc := va_free (wc := ([oSy z q h x r y] ++ wWe cy x ov) ++ (wHi cy h kh d E ++ wDo cy q M)) hD hS hA [0, 1, 2, 3, 4, 5, 6, 7, 8, 9, 10, 11, 12, 13, 14, 15, 16, 17, 18, 19, 20, 21, 22, 23, 24, 25, 26, 27, 28, 29, 30, 31, 32, 33, 34, 35, 36, 37, 38, 39, 40, 41, 42, 43, 44, 45, 46, 47, 48, 49] rfl
      have hCal := kX7_storm l G cy hk4 hW hPc hDc (nI (bN e1)) (fr_frc hs1.1 hs1.2) (by rw [hf9]; exact hff) hH
      rw [hf9] at hCal
      refine va_calli (va_runV (As := [.int (nI (bN e1))]) (rest := []) ⟨hx, hb, hml, hown, hts⟩ hCal (cwV 1 hts gL_isStormy_X7_storm rfl rfl rfl (by decide +kernel) ⟨Nat.le_of_ble_eq_true rfl, Nat.le_of_ble_eq_true rfl⟩) ⟨pR_blind, va_recv hK hP (ci := 6) (q0 := 0) rfl rfl, pR_at hK⟩ rfl rfl hl.1 rfl (lv_room (Nat.le_of_ble_eq_true rfl)) dL_isStormy_163 ⟨Nat.zero_le _, Nat.zero_le _⟩) hS (fun q _ h => hFc q h) hFc (fun r_ u_ t_ H locs ht hvm hw_ hB hz1 hk1 hS => ?_)
      obtain ⟨k1, d1, E1⟩ := u_
      obtain ⟨hr_, hk5⟩ := hw_
      have hk5 : k1 ≤ 4 := hk5
      have hr_ : r_ = nI (cR (flB M f) 0 (mN M)) := hr_
      subst hr_
      have hB : va_P G vwCl (([oSy z q h x r y] ++ wWe cy x (ovc ov M 0)) ++ (wHi cy h k1 d1 E1 ++ wDo cy q (stM M f))) t_.heap ∧ va_D (va_A (([oSy z q h x r y] ++ wWe cy x ov) ++ (wHi cy h kh d E ++ wDo cy q M)) _) (([oSy z q h x r y] ++ wWe cy x (ovc ov M 0)) ++ (wHi cy h k1 d1 E1 ++ wDo cy q (stM M f))) := hB
      rw [ht] at hB
      obtain ⟨hP1, hD1⟩ := hB
      obtain ⟨hP, hD⟩ := va_join (wr := wLa cy L (stM M f)) hP hD [0, 1, 2, 3, 4, 5, 6, 7, 8, 9, 10, 11, 12, 13, 14, 15, 16, 17, 18, 19, 20, 21, 22, 23, 24, 25, 26, 27, 28, 29, 30, 31, 32, 33, 34, 35, 36, 37, 38, 39, 40, 41, 42, 43, 44, 45, 46, 47, 48, 49] [50, 51, 52, 53, 54] rfl rfl (by decide) (by decide) hk1 hFc hP1 hD1
      have hP : va_P G vwCl (([oSy z q h x r y] ++ wWe cy x (ovc ov M 0)) ++ (wHi cy h k1 d1 E1 ++ (wDo cy q ((stM M f)) ++ wLa cy L (stM M f)))) H := hP.sub [5, 6, 7, 8, 9, 10, 11, 12, 13, 14, 15, 16, 17, 18, 19, 20, 21, 22, 23, 24, 25, 26, 27, 28, 29, 30, 31, 32, 33, 34, 35, 36, 37, 38, 39, 40, 41, 42, 43, 44, 45, 46, 47, 48, 49, 50, 51, 52, 53, 54, 0, 1, 2, 3, 4] rfl
      have hD : va_D A (([oSy z q h x r y] ++ wWe cy x (ovc ov M 0)) ++ (wHi cy h k1 d1 E1 ++ (wDo cy q ((stM M f)) ++ wLa cy L (stM M f)))) := hD.sub [5, 6, 7, 8, 9, 10, 11, 12, 13, 14, 15, 16, 17, 18, 19, 20, 21, 22, 23, 24, 25, 26, 27, 28, 29, 30, 31, 32, 33, 34, 35, 36, 37, 38, 39, 40, 41, 42, 43, 44, 45, 46, 47, 48, 49, 50, 51, 52, 53, 54, 0, 1, 2, 3, 4] (by decide) rfl
      refine lv_iload hx hb dL_isStormy_166 (lv_at hl 1 rfl) ?_
      refine lv_icmp_ne (tgt := 199) hx hb dL_isStormy_168 (by decide) (fun c168 => ?_) (fun c168 => ?_)
      · exact absurd rfl c168
      · refine lv_aload_n hx hb dL_isStormy_171 rfl (lv_at hl 4 rfl) ?_
        refine lv_bipush (v := nI 81) hx hb dL_isStormy_172 (by decide +kernel) ?_
        refine o_SI (As := [.int (nI 81)]) (rest := [.ref z]) ⟨hx, hb, hml, hown, hts⟩ (kL_bits_p l G cy 81 (by decide)) (va_cwS 1 hts gL_isStormy_L_bits rfl rfl rfl (by decide +kernel) ⟨Nat.le_of_ble_eq_true rfl, Nat.le_of_ble_eq_true rfl⟩) hK rfl hl.1 rfl (Nat.le_of_ble_eq_true rfl) dL_isStormy_174 ⟨Nat.le_of_ble_eq_true rfl, Nat.le_of_ble_eq_true rfl⟩ ?_
        have hPs := hP.sub (ws' := [oSy z q h x r y] ++ wDo cy q (stM M f)) [0, 41, 42, 43, 44, 45, 46, 47, 48, 49] rfl
        refine o_VI (As := [.int (nI (bN 81))]) (rest := []) ⟨hx, hb, hml, hown, hts⟩ (kX7_storm_b l G cy (WB_st hW f) hPs _ (fun z => absurd z (by rw [fr_81]; decide))) (cwV 1 hts gL_isStormy_X7_storm rfl rfl rfl (by decide +kernel) ⟨Nat.le_of_ble_eq_true rfl, Nat.le_of_ble_eq_true rfl⟩) hK (va_recv hK hP (ci := 6) (q0 := 0) rfl rfl) rfl hl.1 rfl (Nat.le_of_ble_eq_true rfl) dL_isStormy_177 ⟨Nat.le_of_ble_eq_true rfl, Nat.le_of_ble_eq_true rfl⟩ ?_
        refine lv_bipush (v := (-2)) hx hb dL_isStormy_180 (by decide +kernel) ?_
        refine lv_icmp_ne (tgt := 199) hx hb dL_isStormy_182 (by decide) (fun c182 => ?_) (fun c182 => ?_)
        · exact absurd rfl c182
        · refine lv_aload_n hx hb dL_isStormy_185 rfl (lv_at hl 4 rfl) ?_
          refine lv_iconst (v := nI 0) hx hb dL_isStormy_186 (by decide +kernel) ?_
          have hPs := hP.sub (ws' := [oSy z q h x r y] ++ wDo cy q (stM M f)) [0, 41, 42, 43, 44, 45, 46, 47, 48, 49] rfl
          refine o_VI (As := [.int (nI 0)]) (rest := []) ⟨hx, hb, hml, hown, hts⟩ (kX7_storm_b l G cy (WB_st hW f) hPs _ (fun z => absurd z (by decide +kernel))) (cwV 1 hts gL_isStormy_X7_storm rfl rfl rfl (by decide +kernel) ⟨Nat.le_of_ble_eq_true rfl, Nat.le_of_ble_eq_true rfl⟩) hK (va_recv hK hP (ci := 6) (q0 := 0) rfl rfl) rfl hl.1 rfl (Nat.le_of_ble_eq_true rfl) dL_isStormy_187 ⟨Nat.le_of_ble_eq_true rfl, Nat.le_of_ble_eq_true rfl⟩ ?_
          refine lv_bipush (v := (-2)) hx hb dL_isStormy_190 (by decide +kernel) ?_
          refine lv_icmp_ne (tgt := 199) hx hb dL_isStormy_192 (by decide) (fun c192 => ?_) (fun c192 => ?_)
          · exact absurd rfl c192
          · refine lv_iconst (v := nI 1) hx hb dL_isStormy_195 (by decide +kernel) ?_
            refine lv_goto (tgt := 200) hx hb dL_isStormy_196 (by decide) ?_
            exact o_endSz (k := k1) (d := d1) (E := E1) hx hb hr hlocks dL_isStormy_200 (by decide) hk5 hP hD hS rfl
    · refine lv_aload_n hx hb dL_isStormy_103 rfl (lv_at hl 6 rfl) ?_
      refine lv_iconst (v := nI 4) hx hb dL_isStormy_104 (by decide +kernel) ?_
      refine lv_iload hx hb dL_isStormy_105 (lv_at hl 0 rfl) ?_
      refine lv_imul hx hb dL_isStormy_107 ?_
      rw [pk_mul]
      refine lv_iconst (v := nI 3) hx hb dL_isStormy_108 (by decide +kernel) ?_
      refine lv_iadd hx hb dL_isStormy_109 ?_
      rw [nI_add]
      refine o_iald hx hb hK hP 52 0 rfl rfl ((4 * j) + 3) (by omega) (by decide) dL_isStormy_110 ?_
      rw [aI_3]
      rw [show mF (wfl M f j) j = mF M j from upF_at M f j]
      refine lv_iconst (v := nI 1) hx hb dL_isStormy_111 (by decide +kernel) ?_
      refine o_icmp1_ne (tgt := 136) hx hb dL_isStormy_112 (by decide) (fun c112 => ?_) (fun c112 => ?_)
      · have hfl : ¬ flB M f j = true := fun z => c112 (flB_iff.mp z).1
        refine lv_iinc (v := nI (j + 1)) (lv' := [(8, .int (nI (j + 1))), (7, .int (nI (cR (flB M f) 0 j))), (6, .float f), (5, .int (nI e1)), (0, .ref z), (1, .ref (L 0)), (2, .ref (L 2)), (3, .ref (L 4)), (4, .int v)]) hx hb dL_isStormy_136 hl (k := 0) rfl (nI_1 j) (by decide) rfl (fun ls hl => ?_)
        refine lv_goto (tgt := 95) hx hb dL_isStormy_139 (by decide) ?_
        refine ih95 (j + 1) ls H locs ?_ ?_ ?_
        · exact ⟨by omega, by rw [← wfl_f hfl]; exact hP, by rw [← wfl_f hfl]; exact hD, hS⟩
        · show lv_has ls 9 [(8, .int (nI (j + 1))), (7, .int (nI (cR (flB M f) 0 (j + 1)))), (6, .float f), (5, .int (nI e1)), (0, .ref z), (1, .ref (L 0)), (2, .ref (L 2)), (3, .ref (L 4)), (4, .int v)]
          rw [cZ_f (p := flB M f) hfl]
          exact lv_sub hl [0, 1, 2, 3, 4, 5, 6, 7, 8] rfl
        · omega
      · refine lv_aload_n hx hb dL_isStormy_115 rfl (lv_at hl 7 rfl) ?_
        refine lv_iload hx hb dL_isStormy_116 (lv_at hl 0 rfl) ?_
        refine o_dald hx hb hK hP 54 3 rfl rfl j (by omega) (by decide) dL_isStormy_118 ?_
        rw [tD_k _ (by omega)]
        rw [show mH (wst M f (mN M)) j = stF M f j from upH_n c100 c112]
        refine lv_dconst0 hx hb dL_isStormy_119 ?_
        refine lv_dcmp hx hb dL_isStormy_120 ?_
        refine lv_if_gt (tgt := 136) hx hb dL_isStormy_121 (by decide) (fun c121 => ?_) (fun c121 => ?_)
        · have hfl : ¬ flB M f j = true := fun z => (flB_iff.mp z).2 ((st_cmp (hS9 j)).mp c121)
          refine lv_iinc (v := nI (j + 1)) (lv' := [(8, .int (nI (j + 1))), (7, .int (nI (cR (flB M f) 0 j))), (6, .float f), (5, .int (nI e1)), (0, .ref z), (1, .ref (L 0)), (2, .ref (L 2)), (3, .ref (L 4)), (4, .int v)]) hx hb dL_isStormy_136 hl (k := 0) rfl (nI_1 j) (by decide) rfl (fun ls hl => ?_)
          refine lv_goto (tgt := 95) hx hb dL_isStormy_139 (by decide) ?_
          refine ih95 (j + 1) ls H locs ?_ ?_ ?_
          · exact ⟨by omega, by rw [← wfl_f hfl]; exact hP, by rw [← wfl_f hfl]; exact hD, hS⟩
          · show lv_has ls 9 [(8, .int (nI (j + 1))), (7, .int (nI (cR (flB M f) 0 (j + 1)))), (6, .float f), (5, .int (nI e1)), (0, .ref z), (1, .ref (L 0)), (2, .ref (L 2)), (3, .ref (L 4)), (4, .int v)]
            rw [cZ_f (p := flB M f) hfl]
            exact lv_sub hl [0, 1, 2, 3, 4, 5, 6, 7, 8] rfl
          · omega
        · have hfl : flB M f j = true := flB_iff.mpr ⟨c112, fun z => c121 ((st_cmp (hS9 j)).mpr z)⟩
          refine lv_aload_n hx hb dL_isStormy_124 rfl (lv_at hl 6 rfl) ?_
          refine lv_iconst (v := nI 4) hx hb dL_isStormy_125 (by decide +kernel) ?_
          refine lv_iload hx hb dL_isStormy_126 (lv_at hl 0 rfl) ?_
          refine lv_imul hx hb dL_isStormy_128 ?_
          rw [pk_mul]
          refine lv_iconst (v := nI 3) hx hb dL_isStormy_129 (by decide +kernel) ?_
          refine lv_iadd hx hb dL_isStormy_130 ?_
          rw [nI_add]
          refine lv_iconst (v := nI 0) hx hb dL_isStormy_131 (by decide +kernel) ?_
          refine o_iast hx hb hK hP hD hS 52 0 rfl rfl ((4 * j) + 3) (by omega) (by decide) (aI_w hfl) dL_isStormy_132 (fun H locs hP hD hS => ?_)
          have hP : va_P G vwCl ([oSy z q h x r y] ++ wWe cy x ov ++ [(h 0, .inr (1, [.ref (h 1), .int (nI kh)])), (h 1, eR cy 4 (fun i => some (d i 0)))] ++ wDo cy (d 0) (E 0) ++ wDo cy (d 1) (E 1) ++ wDo cy (d 2) (E 2) ++ wDo cy (d 3) (E 3) ++ wDo cy q M ++ [(L 0, eI cy 5 (fun i9 => nI ((gI M) i9))), (L 1, eI cy 6 (fun k9 => nI (mR M k9))), (L 2, eI cy 60 (aI (wfl M f (j + 1)))), (L 3, eD cy 30 (vD M)), (L 4, eD cy 25 (tD (wst M f (mN M))))]) H := hP
          have hD : va_D A ([oSy z q h x r y] ++ wWe cy x ov ++ [(h 0, .inr (1, [.ref (h 1), .int (nI kh)])), (h 1, eR cy 4 (fun i => some (d i 0)))] ++ wDo cy (d 0) (E 0) ++ wDo cy (d 1) (E 1) ++ wDo cy (d 2) (E 2) ++ wDo cy (d 3) (E 3) ++ wDo cy q M ++ [(L 0, eI cy 5 (fun i9 => nI ((gI M) i9))), (L 1, eI cy 6 (fun k9 => nI (mR M k9))), (L 2, eI cy 60 (aI (wfl M f (j + 1)))), (L 3, eD cy 30 (vD M)), (L 4, eD cy 25 (tD (wst M f (mN M))))]) := hD
          refine lv_iinc (v := nI (cR (flB M f) 0 j + 1)) (lv' := [(7, .int (nI (cR (flB M f) 0 j + 1))), (8, .int (nI j)), (6, .float f), (5, .int (nI e1)), (0, .ref z), (1, .ref (L 0)), (2, .ref (L 2)), (3, .ref (L 4)), (4, .int v)]) hx hb dL_isStormy_133 hl (k := 1) rfl (nI_1 (cR (flB M f) 0 j)) (by decide) rfl (fun ls hl => ?_)
          refine lv_iinc (v := nI (j + 1)) (lv' := [(8, .int (nI (j + 1))), (7, .int (nI (cR (flB M f) 0 j + 1))), (6, .float f), (5, .int (nI e1)), (0, .ref z), (1, .ref (L 0)), (2, .ref (L 2)), (3, .ref (L 4)), (4, .int v)]) hx hb dL_isStormy_136 hl (k := 1) rfl (nI_1 j) (by decide) rfl (fun ls hl => ?_)
          refine lv_goto (tgt := 95) hx hb dL_isStormy_139 (by decide) ?_
          refine ih95 (j + 1) ls H locs ?_ ?_ ?_
          · exact ⟨by omega, hP, hD, hS⟩
          · show lv_has ls 9 [(8, .int (nI (j + 1))), (7, .int (nI (cR (flB M f) 0 (j + 1)))), (6, .float f), (5, .int (nI e1)), (0, .ref z), (1, .ref (L 0)), (2, .ref (L 2)), (3, .ref (L 4)), (4, .int v)]
            rw [cZ_t (p := flB M f) hfl]
            exact lv_sub hl [0, 1, 2, 3, 4, 5, 6, 7, 8] rfl
          · omega
  · refine lv_aload_n hx hb dL_isStormy_47 rfl (lv_at hl 5 rfl) ?_
    refine lv_iconst (v := nI 4) hx hb dL_isStormy_48 (by decide +kernel) ?_
    refine lv_iload hx hb dL_isStormy_49 (lv_at hl 0 rfl) ?_
    refine lv_imul hx hb dL_isStormy_51 ?_
    rw [pk_mul]
    refine lv_iconst (v := nI 3) hx hb dL_isStormy_52 (by decide +kernel) ?_
    refine lv_iadd hx hb dL_isStormy_53 ?_
    rw [nI_add]
    refine o_iald hx hb hK hP 52 0 rfl rfl ((4 * i) + 3) (by omega) (by decide) dL_isStormy_54 ?_
    rw [aI_3]
    refine lv_iconst (v := nI 1) hx hb dL_isStormy_55 (by decide +kernel) ?_
    refine o_icmp1_ne (tgt := 83) hx hb dL_isStormy_56 (by decide) (fun c56 => ?_) (fun c56 => ?_)
    · refine lv_iinc (v := nI (i + 1)) (lv' := [(7, .int (nI (i + 1))), (6, .float f), (5, .int (nI e1)), (0, .ref z), (1, .ref (L 0)), (2, .ref (L 2)), (3, .ref (L 4)), (4, .int v)]) hx hb dL_isStormy_83 hl (k := 0) rfl (nI_1 i) (by decide) rfl (fun ls hl => ?_)
      refine lv_goto (tgt := 39) hx hb dL_isStormy_86 (by decide) ?_
      refine ih39 (i + 1) ls H locs ?_ ?_ ?_
      · exact ⟨by omega, by rw [← wst_f c56]; exact hP, by rw [← wst_f c56]; exact hD, hS⟩
      · show lv_has ls 9 [(7, .int (nI (i + 1))), (6, .float f), (5, .int (nI e1)), (0, .ref z), (1, .ref (L 0)), (2, .ref (L 2)), (3, .ref (L 4)), (4, .int v)]
        exact lv_sub hl [0, 1, 2, 3, 4, 5, 6, 7] rfl
      · omega
    · refine lv_aload_n hx hb dL_isStormy_59 rfl (lv_at hl 6 rfl) ?_
      refine lv_iload hx hb dL_isStormy_60 (lv_at hl 0 rfl) ?_
      refine lv_aload_n hx hb dL_isStormy_62 rfl (lv_at hl 6 rfl) ?_
      refine lv_iload hx hb dL_isStormy_63 (lv_at hl 0 rfl) ?_
      refine o_dald hx hb hK hP 54 3 rfl rfl i (by omega) (by decide) dL_isStormy_65 ?_
      rw [tD_k _ (by omega)]
      rw [show mH (wst M f i) i = mH M i from upH_at M f i]
      refine lv_d2f hx hb dL_isStormy_66 (d2f_n (FP.Core.FFin.notNaN (hH i))) ?_
      rw [d2f_f2d (FP.Core.FFin.notNaN (hH i))]
      refine lv_fload hx hb dL_isStormy_67 (lv_at hl 1 rfl) ?_
      refine lv_iconst (v := nI 1) hx hb dL_isStormy_69 (by decide +kernel) ?_
      refine lv_aload_n hx hb dL_isStormy_70 rfl (lv_at hl 4 rfl) ?_
      refine lv_aload_n hx hb dL_isStormy_71 rfl (lv_at hl 5 rfl) ?_
      refine lv_iload hx hb dL_isStormy_72 (lv_at hl 0 rfl) ?_
      have hPl : va_P G vwCl (wLa cy L (wst M f i)) H := hP.sub (ws' := wLa cy L (wst M f i)) [50, 51, 52, 53, 54] rfl
      have b9 := cR_le (hfB M (mW M i)) (i + 1) (mN M - (i + 1))
      refine o_SI (As := [.ref (L 0), .ref (L 2), .int (nI i)]) (rest := [.int (nI 1), .float f, .float (mH M i), .int (nI i), .ref (L 4)]) ⟨hx, hb, hml, hown, hts⟩ ((show MetI l yL_over wsL_over 0 0 [.ref (L 0), .ref (L 2), .int (nI i)] _ G cy (nI (cR (hfB M (mW M i)) (i + 1) (mN M - (i + 1)))) from kL_over l G cy (show WB (wst M f i) from hW) hN hPl i c44)) (va_cwS 3 hts gL_isStormy_L_over rfl rfl rfl (by decide +kernel) ⟨Nat.le_of_ble_eq_true rfl, Nat.le_of_ble_eq_true rfl⟩) hK rfl hl.1 rfl (Nat.le_of_ble_eq_true rfl) dL_isStormy_74 ⟨Nat.le_of_ble_eq_true rfl, Nat.le_of_ble_eq_true rfl⟩ ?_
      refine lv_iadd hx hb dL_isStormy_77 ?_
      rw [nI_add]
      refine lv_i2f hx hb dL_isStormy_78 ?_
      refine lv_fdiv hx hb dL_isStormy_79 (n32_of (div_n hff _ (by omega))) ?_
      refine lv_fsub hx hb dL_isStormy_80 (n32_of (FP.Core.fsub_out' (hH i) (div_n hff _ (by omega)))) ?_
      rw [show FP.fsub (mH M i) (FP.fdiv f (FP.i2f (nI (1 + cR (hfB M (mW M i)) (i + 1) (mN M - (i + 1)))))) = stF M f i from rfl]
      refine lv_f2d hx hb dL_isStormy_81 (f2d_n (FP.Core.FFin.notNaN (hS9 i))) ?_
      refine o_dast hx hb hK hP hD hS 54 3 rfl rfl i (by omega) (by decide) (tD_w c44 c56 (by omega)) dL_isStormy_82 (fun H locs hP hD hS => ?_)
      have hP : va_P G vwCl ([oSy z q h x r y] ++ wWe cy x ov ++ [(h 0, .inr (1, [.ref (h 1), .int (nI kh)])), (h 1, eR cy 4 (fun i => some (d i 0)))] ++ wDo cy (d 0) (E 0) ++ wDo cy (d 1) (E 1) ++ wDo cy (d 2) (E 2) ++ wDo cy (d 3) (E 3) ++ wDo cy q M ++ [(L 0, eI cy 5 (fun i9 => nI ((gI M) i9))), (L 1, eI cy 6 (fun k9 => nI (mR M k9))), (L 2, eI cy 60 (aI M)), (L 3, eD cy 30 (vD M)), (L 4, eD cy 25 (tD (wst M f (i + 1))))]) H := hP
      have hD : va_D A ([oSy z q h x r y] ++ wWe cy x ov ++ [(h 0, .inr (1, [.ref (h 1), .int (nI kh)])), (h 1, eR cy 4 (fun i => some (d i 0)))] ++ wDo cy (d 0) (E 0) ++ wDo cy (d 1) (E 1) ++ wDo cy (d 2) (E 2) ++ wDo cy (d 3) (E 3) ++ wDo cy q M ++ [(L 0, eI cy 5 (fun i9 => nI ((gI M) i9))), (L 1, eI cy 6 (fun k9 => nI (mR M k9))), (L 2, eI cy 60 (aI M)), (L 3, eD cy 30 (vD M)), (L 4, eD cy 25 (tD (wst M f (i + 1))))]) := hD
      refine lv_iinc (v := nI (i + 1)) (lv' := [(7, .int (nI (i + 1))), (6, .float f), (5, .int (nI e1)), (0, .ref z), (1, .ref (L 0)), (2, .ref (L 2)), (3, .ref (L 4)), (4, .int v)]) hx hb dL_isStormy_83 hl (k := 0) rfl (nI_1 i) (by decide) rfl (fun ls hl => ?_)
      refine lv_goto (tgt := 39) hx hb dL_isStormy_86 (by decide) ?_
      refine ih39 (i + 1) ls H locs ?_ ?_ ?_
      · exact ⟨by omega, hP, hD, hS⟩
      · show lv_has ls 9 [(7, .int (nI (i + 1))), (6, .float f), (5, .int (nI e1)), (0, .ref z), (1, .ref (L 0)), (2, .ref (L 2)), (3, .ref (L 4)), (4, .int v)]
        exact lv_sub hl [0, 1, 2, 3, 4, 5, 6, 7] rfl
      · omega
