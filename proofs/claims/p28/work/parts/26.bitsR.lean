set_option maxHeartbeats 4000000 in
set_option maxRecDepth 100000 in
theorem kX0_exponent (l : Launch) (G : va_G) (cy : Nat → ClassId) {H0 : Heap} (b : Int32) : MetI l yX0_exponent wsX0_exponent 0 0 [.int b] H0 G cy (nI (exN b)) := by
  refine Met.ofW (cc := cX0_exponent) (maxL := 1) (ret := (some .int)) (by decide) rfl ?_
  intro p e s m args below meth c s₁ B hml hv
  obtain ⟨rfl, hH, hK⟩ := hv
  subst hH
  have hx := B.exec
  have hb := B.bytes
  have hr := B.returns
  have hts := atoms_spec (ws := wsX0_exponent) B.pre
  have hown : s.vm.findClass RX0 = some m.cls := findClass_of_methodNamed B.named
  have hlocks := B.notSynchronized
  have hl := lv_entry ([.int b]) (n := 1) (Nat.le_of_ble_eq_true rfl)
  rw [lg_entry_eq]
  generalize (lg_sl ([.int b]) ++ List.replicate (1 - (lg_sl ([.int b])).length) Slot.unset).toArray = ls at hl ⊢
  have hl : lv_has ls 1 [(0, .int b)] := hl
  refine lv_iload_n hx hb dX0_exponent_0 rfl (lv_at hl 0 rfl) ?_
  refine lv_bipush (v := nI 23) hx hb dX0_exponent_1 (by decide +kernel) ?_
  refine lv_iushr hx hb dX0_exponent_3 rfl ?_
  refine lv_sipush (v := nI 255) hx hb dX0_exponent_4 (by decide +kernel) ?_
  refine lv_iand hx hb dX0_exponent_7 ?_
  refine lv_topi (fun f1 ef1 => ?_)
  exact o_endI hx hb hr hlocks dX0_exponent_8 ((by rw [ef1, pk_and _ (m := nI 255) 8 (by decide +kernel), pk_ushr b (nI 23) 23 (by decide +kernel)]; rfl))

set_option maxHeartbeats 4000000 in
set_option maxRecDepth 100000 in
theorem kX0_toFloat (l : Launch) (G : va_G) (cy : Nat → ClassId) {H0 : Heap} (b : Int32) : MetF l yX0_toFloat wsX0_toFloat 1 20 [.int b] H0 G cy (tfl b) := by
  refine Met.ofW (cc := cX0_toFloat) (maxL := 5) (ret := (some .float)) (by decide) rfl ?_
  intro p e s m args below meth c s₁ B hml hv
  obtain ⟨rfl, hH, hK⟩ := hv
  subst hH
  have hx := B.exec
  have hb := B.bytes
  have hr := B.returns
  have hts := atoms_spec (ws := wsX0_toFloat) B.pre
  have hown : s.vm.findClass RX0 = some m.cls := findClass_of_methodNamed B.named
  have hlocks := B.notSynchronized
  have hl := lv_entry ([.int b]) (n := 5) (Nat.le_of_ble_eq_true rfl)
  rw [lg_entry_eq]
  generalize (lg_sl ([.int b]) ++ List.replicate (5 - (lg_sl ([.int b])).length) Slot.unset).toArray = ls at hl ⊢
  have hl : lv_has ls 5 [(0, .int b)] := hl
  have b1 := exN_lt b
  have b2 := tN_lt b
  refine lv_iload_n hx hb dX0_toFloat_0 rfl (lv_at hl 0 rfl) ?_
  refine o_SI (As := [.int b]) (rest := []) ⟨hx, hb, hml, hown, hts⟩ (kX0_exponent l G cy b) (va_cwS 1 hts gX0_toFloat_X0_exponent rfl rfl rfl (by decide +kernel) ⟨Nat.le_of_ble_eq_true rfl, Nat.le_of_ble_eq_true rfl⟩) hK rfl hl.1 rfl (Nat.le_of_ble_eq_true rfl) dX0_toFloat_1 ⟨Nat.zero_le _, Nat.zero_le _⟩ ?_
  refine lv_istore_n (lv' := [(1, .int (nI (exN b))), (0, .int b)]) hx hb dX0_toFloat_4 rfl hl (by decide) rfl (fun ls hl => ?_)
  refine lv_iload_n hx hb dX0_toFloat_5 rfl (lv_at hl 1 rfl) ?_
  refine lv_ldc (v := (8388607)) hx hb hown (hts (.constant RX0 26 (8388607)) (by decide +kernel)) dX0_toFloat_6 ?_
  rw [show ((8388607) : Int32) = nI 8388607 by decide +kernel]
  refine lv_iand hx hb dX0_toFloat_8 ?_
  rw [pk_and b (m := nI 8388607) 23 (by decide +kernel)]
  refine lv_istore_n (lv' := [(2, .int (nI (tN b))), (1, .int (nI (exN b))), (0, .int b)]) hx hb dX0_toFloat_9 rfl hl (by decide) rfl (fun ls hl => ?_)
  refine lv_iload_n hx hb dX0_toFloat_10 rfl (lv_at hl 1 rfl) ?_
  refine o_if_le (tgt := 22) hx hb dX0_toFloat_11 (by decide) (by omega) (fun c11 => ?_) (fun c11 => ?_)
  · refine lv_iconst (v := nI 1) hx hb dX0_toFloat_22 (by decide +kernel) ?_
    refine lv_istore_n (lv' := [(1, .int (nI 1)), (2, .int (nI (tN b))), (0, .int b)]) hx hb dX0_toFloat_23 rfl hl (by decide) rfl (fun ls hl => ?_)
    refine lv_iload_n hx hb dX0_toFloat_24 rfl (lv_at hl 1 rfl) ?_
    refine lv_i2f hx hb dX0_toFloat_25 ?_
    refine lv_fstore_n (lv' := [(3, .float (FP.i2f (nI (tN b)))), (1, .int (nI 1)), (2, .int (nI (tN b))), (0, .int b)]) hx hb dX0_toFloat_26 rfl hl (by decide) rfl (fun ls hl => ?_)
    refine lv_iload_n hx hb dX0_toFloat_27 rfl (lv_at hl 1 rfl) ?_
    refine lv_istore (lv' := [(4, .int (nI 1)), (3, .float (FP.i2f (nI (tN b)))), (1, .int (nI 1)), (2, .int (nI (tN b))), (0, .int b)]) hx hb dX0_toFloat_28 hl (by decide) rfl (fun ls hl => ?_)
    refine o_loop (σ := Nat) (fun (k : Nat) => k ≤ 150 - 1) (fun (k : Nat) => [(4, .int (nI (1 + k))), (3, .float (hvN (FP.i2f (nI (tN b))) k)), (0, .int b)]) (fun (k : Nat) => 150 - 1 - k) 0 (Nat.zero_le _) (lv_sub hl [0, 1, 4] rfl) ?_
    rintro k ls h1 hl ih30
    have hl : lv_has ls 5 [(4, .int (nI (1 + k))), (3, .float (hvN (FP.i2f (nI (tN b))) k)), (0, .int b)] := hl
    refine lv_iload hx hb dX0_toFloat_30 (lv_at hl 0 rfl) ?_
    refine lv_sipush (v := nI 150) hx hb dX0_toFloat_32 (by decide +kernel) ?_
    refine o_icmp_ge (tgt := 49) hx hb dX0_toFloat_35 (by decide) (by omega) (by omega) (fun c35 => ?_) (fun c35 => ?_)
    · refine lv_iload_n hx hb dX0_toFloat_49 rfl (lv_at hl 2 rfl) ?_
      refine lv_if_ge (tgt := 58) hx hb dX0_toFloat_50 (by decide) (fun c50 => ?_) (fun c50 => ?_)
      · refine lv_fload_n hx hb dX0_toFloat_58 rfl (lv_at hl 1 rfl) ?_
        exact o_endF hx hb hr hlocks dX0_toFloat_59 ((by obtain rfl : k = 150 - 1 := (by omega); rw [← tfl_0 c50, exE_0 c11, dgE_0 c11]))
      · refine lv_fload_n hx hb dX0_toFloat_53 rfl (lv_at hl 1 rfl) ?_
        refine lv_fneg hx hb dX0_toFloat_54 ?_
        refine lv_goto (tgt := 59) hx hb dX0_toFloat_55 (by decide) ?_
        exact o_endF hx hb hr hlocks dX0_toFloat_59 ((by obtain rfl : k = 150 - 1 := (by omega); rw [← tfl_1 c50, exE_0 c11, dgE_0 c11]))
    · refine lv_fload_n hx hb dX0_toFloat_38 rfl (lv_at hl 1 rfl) ?_
      refine lv_ldcf hx hb hown (hts (.constantFloat RX0 28 (1056964608)) (by decide +kernel)) dX0_toFloat_39 ?_
      refine lv_fmul hx hb dX0_toFloat_41 (n32_of (hvN_n (FP.Core.FFin.notNaN (FP.Core.i2f_fin _)) (k + 1))) ?_
      refine lv_fstore_n (lv' := [(3, .float (FP.fmul (hvN (FP.i2f (nI (tN b))) k) 1056964608)), (4, .int (nI (1 + k))), (0, .int b)]) hx hb dX0_toFloat_42 rfl hl (by decide) rfl (fun ls hl => ?_)
      refine lv_iinc (v := nI (1 + k + 1)) (lv' := [(4, .int (nI (1 + k + 1))), (3, .float (FP.fmul (hvN (FP.i2f (nI (tN b))) k) 1056964608)), (0, .int b)]) hx hb dX0_toFloat_43 hl (k := 1) rfl (nI_1 (1 + k)) (by decide) rfl (fun ls hl => ?_)
      refine lv_goto (tgt := 30) hx hb dX0_toFloat_46 (by decide) ?_
      refine ih30 (k + 1) ls ?_ ?_ ?_
      · omega
      · show lv_has ls 5 [(4, .int (nI (1 + (k + 1)))), (3, .float (hvN (FP.i2f (nI (tN b))) (k + 1))), (0, .int b)]
        exact lv_sub hl [0, 1, 2] rfl
      · omega
  · refine lv_iload_n hx hb dX0_toFloat_14 rfl (lv_at hl 0 rfl) ?_
    refine lv_ldc (v := (8388608)) hx hb hown (hts (.constant RX0 27 (8388608)) (by decide +kernel)) dX0_toFloat_15 ?_
    rw [show ((8388608) : Int32) = nI 8388608 by decide +kernel]
    refine lv_iadd hx hb dX0_toFloat_17 ?_
    rw [nI_add]
    refine lv_istore_n (lv' := [(2, .int (nI ((tN b) + 8388608))), (1, .int (nI (exN b))), (0, .int b)]) hx hb dX0_toFloat_18 rfl hl (by decide) rfl (fun ls hl => ?_)
    refine lv_goto (tgt := 24) hx hb dX0_toFloat_19 (by decide) ?_
    refine lv_iload_n hx hb dX0_toFloat_24 rfl (lv_at hl 0 rfl) ?_
    refine lv_i2f hx hb dX0_toFloat_25 ?_
    refine lv_fstore_n (lv' := [(3, .float (FP.i2f (nI ((tN b) + 8388608)))), (2, .int (nI ((tN b) + 8388608))), (1, .int (nI (exN b))), (0, .int b)]) hx hb dX0_toFloat_26 rfl hl (by decide) rfl (fun ls hl => ?_)
    refine lv_iload_n hx hb dX0_toFloat_27 rfl (lv_at hl 2 rfl) ?_
    refine lv_istore (lv' := [(4, .int (nI (exN b))), (3, .float (FP.i2f (nI ((tN b) + 8388608)))), (2, .int (nI ((tN b) + 8388608))), (1, .int (nI (exN b))), (0, .int b)]) hx hb dX0_toFloat_28 hl (by decide) rfl (fun ls hl => ?_)
    refine o_loop (σ := Nat) (fun (k : Nat) => k ≤ 150 - (exN b)) (fun (k : Nat) => [(4, .int (nI ((exN b) + k))), (3, .float (hvN (FP.i2f (nI ((tN b) + 8388608))) k)), (0, .int b)]) (fun (k : Nat) => 150 - (exN b) - k) 0 (Nat.zero_le _) (lv_sub hl [0, 1, 4] rfl) ?_
    rintro k ls h1 hl ih30
    have hl : lv_has ls 5 [(4, .int (nI ((exN b) + k))), (3, .float (hvN (FP.i2f (nI ((tN b) + 8388608))) k)), (0, .int b)] := hl
    refine lv_iload hx hb dX0_toFloat_30 (lv_at hl 0 rfl) ?_
    refine lv_sipush (v := nI 150) hx hb dX0_toFloat_32 (by decide +kernel) ?_
    refine o_icmp_ge (tgt := 49) hx hb dX0_toFloat_35 (by decide) (by omega) (by omega) (fun c35 => ?_) (fun c35 => ?_)
    · refine lv_iload_n hx hb dX0_toFloat_49 rfl (lv_at hl 2 rfl) ?_
      refine lv_if_ge (tgt := 58) hx hb dX0_toFloat_50 (by decide) (fun c50 => ?_) (fun c50 => ?_)
      · refine lv_fload_n hx hb dX0_toFloat_58 rfl (lv_at hl 1 rfl) ?_
        exact o_endF hx hb hr hlocks dX0_toFloat_59 ((by obtain rfl : k = 150 - (exN b) := (by omega); rw [← tfl_0 c50, exE_s c11, dgE_s c11]))
      · refine lv_fload_n hx hb dX0_toFloat_53 rfl (lv_at hl 1 rfl) ?_
        refine lv_fneg hx hb dX0_toFloat_54 ?_
        refine lv_goto (tgt := 59) hx hb dX0_toFloat_55 (by decide) ?_
        exact o_endF hx hb hr hlocks dX0_toFloat_59 ((by obtain rfl : k = 150 - (exN b) := (by omega); rw [← tfl_1 c50, exE_s c11, dgE_s c11]))
    · refine lv_fload_n hx hb dX0_toFloat_38 rfl (lv_at hl 1 rfl) ?_
      refine lv_ldcf hx hb hown (hts (.constantFloat RX0 28 (1056964608)) (by decide +kernel)) dX0_toFloat_39 ?_
      refine lv_fmul hx hb dX0_toFloat_41 (n32_of (hvN_n (FP.Core.FFin.notNaN (FP.Core.i2f_fin _)) (k + 1))) ?_
      refine lv_fstore_n (lv' := [(3, .float (FP.fmul (hvN (FP.i2f (nI ((tN b) + 8388608))) k) 1056964608)), (4, .int (nI ((exN b) + k))), (0, .int b)]) hx hb dX0_toFloat_42 rfl hl (by decide) rfl (fun ls hl => ?_)
      refine lv_iinc (v := nI ((exN b) + k + 1)) (lv' := [(4, .int (nI ((exN b) + k + 1))), (3, .float (FP.fmul (hvN (FP.i2f (nI ((tN b) + 8388608))) k) 1056964608)), (0, .int b)]) hx hb dX0_toFloat_43 hl (k := 1) rfl (nI_1 ((exN b) + k)) (by decide) rfl (fun ls hl => ?_)
      refine lv_goto (tgt := 30) hx hb dX0_toFloat_46 (by decide) ?_
      refine ih30 (k + 1) ls ?_ ?_ ?_
      · omega
      · show lv_has ls 5 [(4, .int (nI ((exN b) + (k + 1)))), (3, .float (hvN (FP.i2f (nI ((tN b) + 8388608))) (k + 1))), (0, .int b)]
        exact lv_sub hl [0, 1, 2] rfl
      · omega

set_option maxHeartbeats 4000000 in
set_option maxRecDepth 100000 in
theorem kX0_areFrom (l : Launch) (G : va_G) (cy : Nat → ClassId) {H0 : Heap} (b : Int32) (lo hi : UInt32) : MetI l yX0_areFrom wsX0_areFrom 2 44 [.int b, .float lo, .float hi] H0 G cy (bI (frB b lo hi = true)) := by
  refine Met.ofW (cc := cX0_areFrom) (maxL := 4) (ret := (some .boolean)) (by decide) rfl ?_
  intro p e s m args below meth c s₁ B hml hv
  obtain ⟨rfl, hH, hK⟩ := hv
  subst hH
  have hx := B.exec
  have hb := B.bytes
  have hr := B.returns
  have hts := atoms_spec (ws := wsX0_areFrom) B.pre
  have hown : s.vm.findClass RX0 = some m.cls := findClass_of_methodNamed B.named
  have hlocks := B.notSynchronized
  have hl := lv_entry ([.int b, .float lo, .float hi]) (n := 4) (Nat.le_of_ble_eq_true rfl)
  rw [lg_entry_eq]
  generalize (lg_sl ([.int b, .float lo, .float hi]) ++ List.replicate (4 - (lg_sl ([.int b, .float lo, .float hi])).length) Slot.unset).toArray = ls at hl ⊢
  have hl : lv_has ls 4 [(0, .int b), (1, .float lo), (2, .float hi)] := hl
  have b1 := exN_lt b
  refine lv_iload_n hx hb dX0_areFrom_0 rfl (lv_at hl 0 rfl) ?_
  refine o_SI (As := [.int b]) (rest := []) ⟨hx, hb, hml, hown, hts⟩ (kX0_exponent l G cy b) (va_cwS 1 hts gX0_areFrom_X0_exponent rfl rfl rfl (by decide +kernel) ⟨Nat.le_of_ble_eq_true rfl, Nat.le_of_ble_eq_true rfl⟩) hK rfl hl.1 rfl (Nat.le_of_ble_eq_true rfl) dX0_areFrom_1 ⟨Nat.zero_le _, Nat.zero_le _⟩ ?_
  refine lv_sipush (v := nI 150) hx hb dX0_areFrom_4 (by decide +kernel) ?_
  refine o_icmp_le (tgt := 12) hx hb dX0_areFrom_7 (by decide) (by omega) (by omega) (fun c7 => ?_) (fun c7 => ?_)
  · refine lv_iload_n hx hb dX0_areFrom_12 rfl (lv_at hl 0 rfl) ?_
    refine o_SF (As := [.int b]) (rest := []) ⟨hx, hb, hml, hown, hts⟩ (kX0_toFloat l G cy b) (va_cwS 1 hts gX0_areFrom_X0_toFloat rfl rfl rfl (by decide +kernel) ⟨Nat.le_of_ble_eq_true rfl, Nat.le_of_ble_eq_true rfl⟩) hK rfl hl.1 rfl (Nat.le_of_ble_eq_true rfl) dX0_areFrom_13 ⟨Nat.zero_le _, Nat.zero_le _⟩ ?_
    refine lv_fstore_n (lv' := [(3, .float (tfl b)), (0, .int b), (1, .float lo), (2, .float hi)]) hx hb dX0_areFrom_16 rfl hl (by decide) rfl (fun ls hl => ?_)
    refine lv_fload_n hx hb dX0_areFrom_17 rfl (lv_at hl 0 rfl) ?_
    refine lv_fload_n hx hb dX0_areFrom_18 rfl (lv_at hl 2 rfl) ?_
    refine lv_fcmp hx hb dX0_areFrom_19 ?_
    refine lv_if_lt (tgt := 33) hx hb dX0_areFrom_20 (by decide) (fun c20 => ?_) (fun c20 => ?_)
    · refine lv_iconst (v := nI 0) hx hb dX0_areFrom_33 (by decide +kernel) ?_
      exact o_endZ hx hb hr hlocks dX0_areFrom_34 (by decide) ((by rw [bI_f (fun z => (frB_iff.mp z).2.1 c20)]; decide))
    · refine lv_fload_n hx hb dX0_areFrom_23 rfl (lv_at hl 0 rfl) ?_
      refine lv_fload_n hx hb dX0_areFrom_24 rfl (lv_at hl 3 rfl) ?_
      refine lv_fcmp hx hb dX0_areFrom_25 ?_
      refine lv_if_gt (tgt := 33) hx hb dX0_areFrom_26 (by decide) (fun c26 => ?_) (fun c26 => ?_)
      · refine lv_iconst (v := nI 0) hx hb dX0_areFrom_33 (by decide +kernel) ?_
        exact o_endZ hx hb hr hlocks dX0_areFrom_34 (by decide) ((by rw [bI_f (fun z => (frB_iff.mp z).2.2 c26)]; decide))
      · refine lv_iconst (v := nI 1) hx hb dX0_areFrom_29 (by decide +kernel) ?_
        refine lv_goto (tgt := 34) hx hb dX0_areFrom_30 (by decide) ?_
        exact o_endZ hx hb hr hlocks dX0_areFrom_34 (by decide) ((by rw [bI_t (frB_iff.mpr ⟨c7, c20, c26⟩)]; decide))
  · refine lv_iconst (v := nI 0) hx hb dX0_areFrom_10 (by decide +kernel) ?_
    exact o_endZ hx hb hr hlocks dX0_areFrom_11 (by decide) ((by rw [bI_f (fun z => absurd (frB_iff.mp z).1 (by omega))]; decide))

set_option maxHeartbeats 4000000 in
set_option maxRecDepth 100000 in
theorem kX0_areNumber (l : Launch) (G : va_G) (cy : Nat → ClassId) {H0 : Heap} (b : Int32) : MetI l yX0_areNumber wsX0_areNumber 3 67 [.int b] H0 G cy (bI (frB b 3296329728 1148846080 = true)) := by
  refine Met.ofW (cc := cX0_areNumber) (maxL := 1) (ret := (some .boolean)) (by decide) rfl ?_
  intro p e s m args below meth c s₁ B hml hv
  obtain ⟨rfl, hH, hK⟩ := hv
  subst hH
  have hx := B.exec
  have hb := B.bytes
  have hr := B.returns
  have hts := atoms_spec (ws := wsX0_areNumber) B.pre
  have hown : s.vm.findClass RX0 = some m.cls := findClass_of_methodNamed B.named
  have hlocks := B.notSynchronized
  have hl := lv_entry ([.int b]) (n := 1) (Nat.le_of_ble_eq_true rfl)
  rw [lg_entry_eq]
  generalize (lg_sl ([.int b]) ++ List.replicate (1 - (lg_sl ([.int b])).length) Slot.unset).toArray = ls at hl ⊢
  have hl : lv_has ls 1 [(0, .int b)] := hl
  refine lv_iload_n hx hb dX0_areNumber_0 rfl (lv_at hl 0 rfl) ?_
  refine lv_ldcf hx hb hown (hts (.constantFloat RX0 7 (3296329728)) (by decide +kernel)) dX0_areNumber_1 ?_
  refine lv_ldcf hx hb hown (hts (.constantFloat RX0 8 (1148846080)) (by decide +kernel)) dX0_areNumber_3 ?_
  refine o_SI (As := [.int b, .float 3296329728, .float 1148846080]) (rest := []) ⟨hx, hb, hml, hown, hts⟩ (kX0_areFrom l G cy b 3296329728 1148846080) (va_cwS 3 hts gX0_areNumber_X0_areFrom rfl rfl rfl (by decide +kernel) ⟨Nat.le_of_ble_eq_true rfl, Nat.le_of_ble_eq_true rfl⟩) hK rfl hl.1 rfl (Nat.le_of_ble_eq_true rfl) dX0_areNumber_5 ⟨Nat.zero_le _, Nat.zero_le _⟩ ?_
  exact o_endZ hx hb hr hlocks dX0_areNumber_8 bI_narrow rfl

set_option maxHeartbeats 4000000 in
set_option maxRecDepth 100000 in
theorem kX0_areStrength (l : Launch) (G : va_G) (cy : Nat → ClassId) {H0 : Heap} (b : Int32) : MetI l yX0_areStrength wsX0_areStrength 3 67 [.int b] H0 G cy (bI (frB b 1036831949 1092616192 = true)) := by
  refine Met.ofW (cc := cX0_areStrength) (maxL := 1) (ret := (some .boolean)) (by decide) rfl ?_
  intro p e s m args below meth c s₁ B hml hv
  obtain ⟨rfl, hH, hK⟩ := hv
  subst hH
  have hx := B.exec
  have hb := B.bytes
  have hr := B.returns
  have hts := atoms_spec (ws := wsX0_areStrength) B.pre
  have hown : s.vm.findClass RX0 = some m.cls := findClass_of_methodNamed B.named
  have hlocks := B.notSynchronized
  have hl := lv_entry ([.int b]) (n := 1) (Nat.le_of_ble_eq_true rfl)
  rw [lg_entry_eq]
  generalize (lg_sl ([.int b]) ++ List.replicate (1 - (lg_sl ([.int b])).length) Slot.unset).toArray = ls at hl ⊢
  have hl : lv_has ls 1 [(0, .int b)] := hl
  refine lv_iload_n hx hb dX0_areStrength_0 rfl (lv_at hl 0 rfl) ?_
  refine lv_ldcf hx hb hown (hts (.constantFloat RX0 15 (1036831949)) (by decide +kernel)) dX0_areStrength_1 ?_
  refine lv_ldcf hx hb hown (hts (.constantFloat RX0 16 (1092616192)) (by decide +kernel)) dX0_areStrength_3 ?_
  refine o_SI (As := [.int b, .float 1036831949, .float 1092616192]) (rest := []) ⟨hx, hb, hml, hown, hts⟩ (kX0_areFrom l G cy b 1036831949 1092616192) (va_cwS 3 hts gX0_areStrength_X0_areFrom rfl rfl rfl (by decide +kernel) ⟨Nat.le_of_ble_eq_true rfl, Nat.le_of_ble_eq_true rfl⟩) hK rfl hl.1 rfl (Nat.le_of_ble_eq_true rfl) dX0_areStrength_5 ⟨Nat.zero_le _, Nat.zero_le _⟩ ?_
  exact o_endZ hx hb hr hlocks dX0_areStrength_8 bI_narrow rfl

set_option maxHeartbeats 4000000 in
set_option maxRecDepth 100000 in
theorem kX0_areForce (l : Launch) (G : va_G) (cy : Nat → ClassId) {H0 : Heap} (b : Int32) : MetI l yX0_areForce wsX0_areForce 3 67 [.int b] H0 G cy (bI (frB b 1036831949 1092616192 = true)) := by
  refine Met.ofW (cc := cX0_areForce) (maxL := 1) (ret := (some .boolean)) (by decide) rfl ?_
  intro p e s m args below meth c s₁ B hml hv
  obtain ⟨rfl, hH, hK⟩ := hv
  subst hH
  have hx := B.exec
  have hb := B.bytes
  have hr := B.returns
  have hts := atoms_spec (ws := wsX0_areForce) B.pre
  have hown : s.vm.findClass RX0 = some m.cls := findClass_of_methodNamed B.named
  have hlocks := B.notSynchronized
  have hl := lv_entry ([.int b]) (n := 1) (Nat.le_of_ble_eq_true rfl)
  rw [lg_entry_eq]
  generalize (lg_sl ([.int b]) ++ List.replicate (1 - (lg_sl ([.int b])).length) Slot.unset).toArray = ls at hl ⊢
  have hl : lv_has ls 1 [(0, .int b)] := hl
  refine lv_iload_n hx hb dX0_areForce_0 rfl (lv_at hl 0 rfl) ?_
  refine lv_ldcf hx hb hown (hts (.constantFloat RX0 15 (1036831949)) (by decide +kernel)) dX0_areForce_1 ?_
  refine lv_ldcf hx hb hown (hts (.constantFloat RX0 16 (1092616192)) (by decide +kernel)) dX0_areForce_3 ?_
  refine o_SI (As := [.int b, .float 1036831949, .float 1092616192]) (rest := []) ⟨hx, hb, hml, hown, hts⟩ (kX0_areFrom l G cy b 1036831949 1092616192) (va_cwS 3 hts gX0_areForce_X0_areFrom rfl rfl rfl (by decide +kernel) ⟨Nat.le_of_ble_eq_true rfl, Nat.le_of_ble_eq_true rfl⟩) hK rfl hl.1 rfl (Nat.le_of_ble_eq_true rfl) dX0_areForce_5 ⟨Nat.zero_le _, Nat.zero_le _⟩ ?_
  exact o_endZ hx hb hr hlocks dX0_areForce_8 bI_narrow rfl

set_option maxHeartbeats 4000000 in
set_option maxRecDepth 100000 in
theorem kX0_areTolerance (l : Launch) (G : va_G) (cy : Nat → ClassId) {H0 : Heap} (b : Int32) : MetI l yX0_areTolerance wsX0_areTolerance 3 67 [.int b] H0 G cy (bI (¬ b < 0 ∧ frB b FP.fconst0 1120403456 = true)) := by
  refine Met.ofW (cc := cX0_areTolerance) (maxL := 1) (ret := (some .boolean)) (by decide) rfl ?_
  intro p e s m args below meth c s₁ B hml hv
  obtain ⟨rfl, hH, hK⟩ := hv
  subst hH
  have hx := B.exec
  have hb := B.bytes
  have hr := B.returns
  have hts := atoms_spec (ws := wsX0_areTolerance) B.pre
  have hown : s.vm.findClass RX0 = some m.cls := findClass_of_methodNamed B.named
  have hlocks := B.notSynchronized
  have hl := lv_entry ([.int b]) (n := 1) (Nat.le_of_ble_eq_true rfl)
  rw [lg_entry_eq]
  generalize (lg_sl ([.int b]) ++ List.replicate (1 - (lg_sl ([.int b])).length) Slot.unset).toArray = ls at hl ⊢
  have hl : lv_has ls 1 [(0, .int b)] := hl
  refine lv_iload_n hx hb dX0_areTolerance_0 rfl (lv_at hl 0 rfl) ?_
  refine lv_if_lt (tgt := 18) hx hb dX0_areTolerance_1 (by decide) (fun c1 => ?_) (fun c1 => ?_)
  · refine lv_iconst (v := nI 0) hx hb dX0_areTolerance_18 (by decide +kernel) ?_
    exact o_endZ hx hb hr hlocks dX0_areTolerance_19 (by decide) ((by rw [bI_f (fun z => z.1 c1)]; decide))
  · refine lv_iload_n hx hb dX0_areTolerance_4 rfl (lv_at hl 0 rfl) ?_
    refine lv_fconst0 hx hb dX0_areTolerance_5 ?_
    refine lv_ldcf hx hb hown (hts (.constantFloat RX0 17 (1120403456)) (by decide +kernel)) dX0_areTolerance_6 ?_
    refine o_SI (As := [.int b, .float FP.fconst0, .float 1120403456]) (rest := []) ⟨hx, hb, hml, hown, hts⟩ (kX0_areFrom l G cy b FP.fconst0 1120403456) (va_cwS 3 hts gX0_areTolerance_X0_areFrom rfl rfl rfl (by decide +kernel) ⟨Nat.le_of_ble_eq_true rfl, Nat.le_of_ble_eq_true rfl⟩) hK rfl hl.1 rfl (Nat.le_of_ble_eq_true rfl) dX0_areTolerance_8 ⟨Nat.zero_le _, Nat.zero_le _⟩ ?_
    refine o_ifb_eq (tgt := 18) hx hb dX0_areTolerance_11 (by decide) (fun c11 => ?_) (fun c11 => ?_)
    · refine lv_iconst (v := nI 0) hx hb dX0_areTolerance_18 (by decide +kernel) ?_
      exact o_endZ hx hb hr hlocks dX0_areTolerance_19 (by decide) ((by rw [bI_f (fun z => c11 z.2)]; decide))
    · refine lv_iconst (v := nI 1) hx hb dX0_areTolerance_14 (by decide +kernel) ?_
      refine lv_goto (tgt := 19) hx hb dX0_areTolerance_15 (by decide) ?_
      exact o_endZ hx hb hr hlocks dX0_areTolerance_19 (by decide) ((by rw [bI_t ⟨c1, c11⟩]; decide))

set_option maxHeartbeats 4000000 in
set_option maxRecDepth 100000 in
theorem kX7_isRank (l : Launch) (G : va_G) (cy : Nat → ClassId) {H0 : Heap} (r : Nat) (hr3 : r < 2 ^ 31) : MetI l yX7_isRank wsX7_isRank 0 0 [.int (nI r)] H0 G cy (bI (1 ≤ r ∧ r ≤ 5)) := by
  refine Met.ofW (cc := cX7_isRank) (maxL := 1) (ret := (some .boolean)) (by decide) rfl ?_
  intro p e s m args below meth c s₁ B hml hv
  obtain ⟨rfl, hH, hK⟩ := hv
  subst hH
  have hx := B.exec
  have hb := B.bytes
  have hr := B.returns
  have hts := atoms_spec (ws := wsX7_isRank) B.pre
  have hown : s.vm.findClass RX7 = some m.cls := findClass_of_methodNamed B.named
  have hlocks := B.notSynchronized
  have hl := lv_entry ([.int (nI r)]) (n := 1) (Nat.le_of_ble_eq_true rfl)
  rw [lg_entry_eq]
  generalize (lg_sl ([.int (nI r)]) ++ List.replicate (1 - (lg_sl ([.int (nI r)])).length) Slot.unset).toArray = ls at hl ⊢
  have hl : lv_has ls 1 [(0, .int (nI r))] := hl
  refine lv_iload_n hx hb dX7_isRank_0 rfl (lv_at hl 0 rfl) ?_
  refine lv_iconst (v := nI 1) hx hb dX7_isRank_1 (by decide +kernel) ?_
  refine o_icmp_lt (tgt := 14) hx hb dX7_isRank_2 (by decide) (by omega) (by omega) (fun c2 => ?_) (fun c2 => ?_)
  · refine lv_iconst (v := nI 0) hx hb dX7_isRank_14 (by decide +kernel) ?_
    exact o_endZ hx hb hr hlocks dX7_isRank_15 (by decide) ((by rw [bI_f (by omega)]; decide))
  · refine lv_iload_n hx hb dX7_isRank_5 rfl (lv_at hl 0 rfl) ?_
    refine lv_iconst (v := nI 5) hx hb dX7_isRank_6 (by decide +kernel) ?_
    refine o_icmp_gt (tgt := 14) hx hb dX7_isRank_7 (by decide) (by omega) (by omega) (fun c7 => ?_) (fun c7 => ?_)
    · refine lv_iconst (v := nI 0) hx hb dX7_isRank_14 (by decide +kernel) ?_
      exact o_endZ hx hb hr hlocks dX7_isRank_15 (by decide) ((by rw [bI_f (by omega)]; decide))
    · refine lv_iconst (v := nI 1) hx hb dX7_isRank_10 (by decide +kernel) ?_
      refine lv_goto (tgt := 15) hx hb dX7_isRank_11 (by decide) ?_
      exact o_endZ hx hb hr hlocks dX7_isRank_15 (by decide) ((by rw [bI_t (by omega)]; decide))

set_option maxHeartbeats 4000000 in
set_option maxRecDepth 100000 in
theorem kX7_isWord (l : Launch) (G : va_G) (cy : Nat → ClassId) {H0 : Heap} (w : Nat) (hw3 : w < 2 ^ 31) : MetI l yX7_isWord wsX7_isWord 0 0 [.int (nI w)] H0 G cy (bI (w < 16)) := by
  refine Met.ofW (cc := cX7_isWord) (maxL := 1) (ret := (some .boolean)) (by decide) rfl ?_
  intro p e s m args below meth c s₁ B hml hv
  obtain ⟨rfl, hH, hK⟩ := hv
  subst hH
  have hx := B.exec
  have hb := B.bytes
  have hr := B.returns
  have hts := atoms_spec (ws := wsX7_isWord) B.pre
  have hown : s.vm.findClass RX7 = some m.cls := findClass_of_methodNamed B.named
  have hlocks := B.notSynchronized
  have hl := lv_entry ([.int (nI w)]) (n := 1) (Nat.le_of_ble_eq_true rfl)
  rw [lg_entry_eq]
  generalize (lg_sl ([.int (nI w)]) ++ List.replicate (1 - (lg_sl ([.int (nI w)])).length) Slot.unset).toArray = ls at hl ⊢
  have hl : lv_has ls 1 [(0, .int (nI w))] := hl
  refine lv_iload_n hx hb dX7_isWord_0 rfl (lv_at hl 0 rfl) ?_
  refine o_if_lt (tgt := 14) hx hb dX7_isWord_1 (by decide) (by omega) ?_
  refine lv_iload_n hx hb dX7_isWord_4 rfl (lv_at hl 0 rfl) ?_
  refine lv_bipush (v := nI 16) hx hb dX7_isWord_5 (by decide +kernel) ?_
  refine o_icmp_ge (tgt := 14) hx hb dX7_isWord_7 (by decide) (by omega) (by omega) (fun c7 => ?_) (fun c7 => ?_)
  · refine lv_iconst (v := nI 0) hx hb dX7_isWord_14 (by decide +kernel) ?_
    exact o_endZ hx hb hr hlocks dX7_isWord_15 (by decide) ((by rw [bI_f (by omega)]; decide))
  · refine lv_iconst (v := nI 1) hx hb dX7_isWord_10 (by decide +kernel) ?_
    refine lv_goto (tgt := 15) hx hb dX7_isWord_11 (by decide) ?_
    exact o_endZ hx hb hr hlocks dX7_isWord_15 (by decide) ((by rw [bI_t (by omega)]; decide))

set_option maxHeartbeats 4000000 in
set_option maxRecDepth 100000 in
theorem kX7_oneIf (l : Launch) (G : va_G) (cy : Nat → ClassId) {H0 : Heap} (P : Prop) [Decidable P] : MetI l yX7_oneIf wsX7_oneIf 0 0 [.int (bI (P))] H0 G cy (bI P) := by
  refine Met.ofW (cc := cX7_oneIf) (maxL := 1) (ret := (some .int)) (by decide) rfl ?_
  intro p e s m args below meth c s₁ B hml hv
  obtain ⟨rfl, hH, hK⟩ := hv
  subst hH
  have hx := B.exec
  have hb := B.bytes
  have hr := B.returns
  have hts := atoms_spec (ws := wsX7_oneIf) B.pre
  have hown : s.vm.findClass RX7 = some m.cls := findClass_of_methodNamed B.named
  have hlocks := B.notSynchronized
  have hl := lv_entry ([.int (bI (P))]) (n := 1) (Nat.le_of_ble_eq_true rfl)
  rw [lg_entry_eq]
  generalize (lg_sl ([.int (bI (P))]) ++ List.replicate (1 - (lg_sl ([.int (bI (P))])).length) Slot.unset).toArray = ls at hl ⊢
  have hl : lv_has ls 1 [(0, .int (bI (P)))] := hl
  refine lv_iload_n hx hb dX7_oneIf_0 rfl (lv_at hl 0 rfl) ?_
  refine o_ifb_eq (tgt := 8) hx hb dX7_oneIf_1 (by decide) (fun c1 => ?_) (fun c1 => ?_)
  · refine lv_iconst (v := nI 0) hx hb dX7_oneIf_8 (by decide +kernel) ?_
    exact o_endI hx hb hr hlocks dX7_oneIf_9 ((by rw [bI_f c1]; decide))
  · refine lv_iconst (v := nI 1) hx hb dX7_oneIf_4 (by decide +kernel) ?_
    refine lv_goto (tgt := 9) hx hb dX7_oneIf_5 (by decide) ?_
    exact o_endI hx hb hr hlocks dX7_oneIf_9 ((by rw [bI_t c1]; decide))

set_option maxHeartbeats 4000000 in
set_option maxRecDepth 100000 in
theorem kX7_noFloat (l : Launch) (G : va_G) (cy : Nat → ClassId) {H0 : Heap}  : MetF l yX7_noFloat wsX7_noFloat 0 0 [] H0 G cy 2143289344 := by
  refine Met.ofW (cc := cX7_noFloat) (maxL := 0) (ret := (some .float)) (by decide) rfl ?_
  intro p e s m args below meth c s₁ B hml hv
  obtain ⟨rfl, hH, hK⟩ := hv
  subst hH
  have hx := B.exec
  have hb := B.bytes
  have hr := B.returns
  have hts := atoms_spec (ws := wsX7_noFloat) B.pre
  have hown : s.vm.findClass RX7 = some m.cls := findClass_of_methodNamed B.named
  have hlocks := B.notSynchronized
  have hl := lv_entry ([]) (n := 0) (Nat.le_of_ble_eq_true rfl)
  rw [lg_entry_eq]
  generalize (lg_sl ([]) ++ List.replicate (0 - (lg_sl ([])).length) Slot.unset).toArray = ls at hl ⊢
  have hl : lv_has ls 0 [] := hl
  refine o_ldcwf hx hb hown (hts (.constantFloat RX7 293 (2143289344)) (by decide +kernel)) dX7_noFloat_0 ?_
  exact o_endF hx hb hr hlocks dX7_noFloat_3 rfl
