set_option maxHeartbeats 4000000 in
set_option maxRecDepth 100000 in
theorem kL_bits_p (l : Launch) (G : va_G) (cy : Nat → ClassId) {H0 : Heap} (ei : Nat) (he : ei ≤ 8002) : MetI l yL_bits wsL_bits 0 0 [.int (nI ei)] H0 G cy (nI (bN ei)) := by
  refine Met.ofW (cc := cL_bits) (maxL := 4) (ret := (some .int)) (by decide) rfl ?_
  intro p e s m args below meth c s₁ B hml hv
  obtain ⟨rfl, hH, hK⟩ := hv
  subst hH
  have hx := B.exec
  have hb := B.bytes
  have hr := B.returns
  have hts := atoms_spec (ws := wsL_bits) B.pre
  have hown : s.vm.findClass RL = some m.cls := findClass_of_methodNamed B.named
  have hlocks := B.notSynchronized
  have hl := lv_entry ([.int (nI ei)]) (n := 4) (Nat.le_of_ble_eq_true rfl)
  rw [lg_entry_eq]
  generalize (lg_sl ([.int (nI ei)]) ++ List.replicate (4 - (lg_sl ([.int (nI ei)])).length) Slot.unset).toArray = ls at hl ⊢
  have hl : lv_has ls 4 [(0, .int (nI ei))] := hl
  have h12 := lg_lt he
  refine lv_iload_n hx hb dL_bits_0 rfl (lv_at hl 0 rfl) ?_
  refine o_if_ge (tgt := 9) hx hb dL_bits_1 (by decide) (by omega) ?_
  refine lv_iload_n hx hb dL_bits_9 rfl (lv_at hl 0 rfl) ?_
  refine lv_istore_n (lv' := [(1, .int (nI ei)), (0, .int (nI ei))]) hx hb dL_bits_10 rfl hl (by decide) rfl (fun ls hl => ?_)
  refine lv_iconst (v := nI 0) hx hb dL_bits_11 (by decide +kernel) ?_
  refine lv_istore_n (lv' := [(2, .int (nI 0)), (1, .int (nI ei)), (0, .int (nI ei))]) hx hb dL_bits_12 rfl hl (by decide) rfl (fun ls hl => ?_)
  refine o_loop (σ := Nat) (fun (u : Nat) => u ≤ Nat.log2 ei) (fun (u : Nat) => [(2, .int (nI u)), (1, .int (nI ei)), (0, .int (nI ei))]) (fun (u : Nat) => Nat.log2 ei - u) 0 (Nat.zero_le _) (lv_sub hl [0, 1, 2] rfl) ?_
  rintro u ls h1 hl ih13
  have hl : lv_has ls 4 [(2, .int (nI u)), (1, .int (nI ei)), (0, .int (nI ei))] := hl
  refine lv_iload_n hx hb dL_bits_13 rfl (lv_at hl 1 rfl) ?_
  refine lv_iload_n hx hb dL_bits_14 rfl (lv_at hl 0 rfl) ?_
  refine lv_ishr hx hb dL_bits_15 ?_
  rw [nI_shr (by omega) (by omega)]
  refine lv_iconst (v := nI 1) hx hb dL_bits_16 (by decide +kernel) ?_
  refine o_icmp_le (tgt := 26) hx hb dL_bits_17 (by decide) (Nat.lt_of_le_of_lt (Nat.div_le_self _ _) (by omega)) (by decide) (fun c17 => ?_) (fun c17 => ?_)
  · obtain rfl : u = Nat.log2 ei := lg_eq h1 c17
    refine lv_iload_n hx hb dL_bits_26 rfl (lv_at hl 1 rfl) ?_
    refine o_if_ne (tgt := 34) hx hb dL_bits_27 (by decide) (by omega) (fun c27 => ?_) (fun c27 => ?_)
    · have hk : ¬ ei = 0 := Nat.ne_of_gt c27
      have hl2 := lg_le hk
      have hm := lg_m hk he
      have hs := bN_s hk
      have hlt := bN_lt he
      refine lv_bipush (v := nI 124) hx hb dL_bits_34 (by decide +kernel) ?_
      refine lv_iload_n hx hb dL_bits_36 rfl (lv_at hl 0 rfl) ?_
      refine lv_iadd hx hb dL_bits_37 ?_
      rw [nI_add]
      refine lv_bipush (v := nI 23) hx hb dL_bits_38 (by decide +kernel) ?_
      refine lv_ishl hx hb dL_bits_40 ?_
      rw [nI_shl (k := 23) (by decide) (by omega)]
      refine lv_iload_n hx hb dL_bits_41 rfl (lv_at hl 1 rfl) ?_
      refine lv_iconst (v := nI 1) hx hb dL_bits_42 (by decide +kernel) ?_
      refine lv_iload_n hx hb dL_bits_43 rfl (lv_at hl 0 rfl) ?_
      refine lv_ishl hx hb dL_bits_44 ?_
      rw [nI_shl (a := 1) (k := Nat.log2 ei) (by omega) (by omega)]
      refine lv_isub hx hb dL_bits_45 ?_
      rw [pk_sub (a := ei) (b := 1 * 2 ^ Nat.log2 ei) (by omega)]
      refine lv_bipush (v := nI 23) hx hb dL_bits_46 (by decide +kernel) ?_
      refine lv_iload_n hx hb dL_bits_48 rfl (lv_at hl 0 rfl) ?_
      refine lv_isub hx hb dL_bits_49 ?_
      rw [pk_sub (a := 23) (b := Nat.log2 ei) (by omega)]
      refine lv_ishl hx hb dL_bits_50 ?_
      rw [nI_shl (k := 23 - Nat.log2 ei) (by omega) (by rw [Nat.one_mul]; omega)]
      refine lv_ior hx hb dL_bits_51 ?_
      rw [nI_or 23 (by rw [Nat.one_mul]; exact hm) (by rw [Nat.one_mul]; omega), show (124 + Nat.log2 ei) * 2 ^ 23 + (ei - 1 * 2 ^ Nat.log2 ei) * 2 ^ (23 - Nat.log2 ei) = bN ei by rw [Nat.one_mul]; exact hs.symm]
      refine lv_istore_n (lv' := [(3, .int (nI (bN ei))), (2, .int (nI (Nat.log2 ei))), (1, .int (nI ei)), (0, .int (nI ei))]) hx hb dL_bits_52 rfl hl (by decide) rfl (fun ls hl => ?_)
      refine lv_iload_n hx hb dL_bits_53 rfl (lv_at hl 3 rfl) ?_
      refine o_if_ge (tgt := 64) hx hb dL_bits_54 (by decide) (by omega) ?_
      refine lv_iload_n hx hb dL_bits_64 rfl (lv_at hl 0 rfl) ?_
      exact o_endI hx hb hr hlocks dL_bits_65 rfl
    · have hz : nI 0 = nI (bN ei) := by rw [c27]; rfl
      refine lv_iconst (v := nI 0) hx hb dL_bits_30 (by decide +kernel) ?_
      refine lv_goto (tgt := 52) hx hb dL_bits_31 (by decide) ?_
      refine lv_istore_n (lv' := [(3, .int (nI 0)), (2, .int (nI (Nat.log2 ei))), (1, .int (nI ei)), (0, .int (nI ei))]) hx hb dL_bits_52 rfl hl (by decide) rfl (fun ls hl => ?_)
      refine lv_iload_n hx hb dL_bits_53 rfl (lv_at hl 3 rfl) ?_
      refine o_if_ge (tgt := 64) hx hb dL_bits_54 (by decide) (by omega) ?_
      refine lv_iload_n hx hb dL_bits_64 rfl (lv_at hl 0 rfl) ?_
      exact o_endI hx hb hr hlocks dL_bits_65 hz
  · refine lv_iinc (v := nI (u + 1)) (lv' := [(2, .int (nI (u + 1))), (1, .int (nI ei)), (0, .int (nI ei))]) hx hb dL_bits_20 hl (k := 0) rfl (nI_1 u) (by decide) rfl (fun ls hl => ?_)
    refine lv_goto (tgt := 13) hx hb dL_bits_23 (by decide) ?_
    refine ih13 (u + 1) ls ?_ ?_ ?_
    · exact lg_up (Nat.not_le.mpr c17)
    · show lv_has ls 4 [(2, .int (nI (u + 1))), (1, .int (nI ei)), (0, .int (nI ei))]
      exact lv_sub hl [0, 1, 2] rfl
    · have := lg_up (Nat.not_le.mpr c17); omega

set_option maxHeartbeats 4000000 in
set_option maxRecDepth 100000 in
theorem kL_bits_m (l : Launch) (G : va_G) (cy : Nat → ClassId) {H0 : Heap} (ei : Nat) (h0 : 0 < ei) (he : ei ≤ 8002) : MetI l yL_bits wsL_bits 0 0 [.int (-(nI ei))] H0 G cy (nM (bN ei)) := by
  refine Met.ofW (cc := cL_bits) (maxL := 4) (ret := (some .int)) (by decide) rfl ?_
  intro p e s m args below meth c s₁ B hml hv
  obtain ⟨rfl, hH, hK⟩ := hv
  subst hH
  have hx := B.exec
  have hb := B.bytes
  have hr := B.returns
  have hts := atoms_spec (ws := wsL_bits) B.pre
  have hown : s.vm.findClass RL = some m.cls := findClass_of_methodNamed B.named
  have hlocks := B.notSynchronized
  have hl := lv_entry ([.int (-(nI ei))]) (n := 4) (Nat.le_of_ble_eq_true rfl)
  rw [lg_entry_eq]
  generalize (lg_sl ([.int (-(nI ei))]) ++ List.replicate (4 - (lg_sl ([.int (-(nI ei))])).length) Slot.unset).toArray = ls at hl ⊢
  have hl : lv_has ls 4 [(0, .int (-(nI ei)))] := hl
  have h12 := lg_lt he
  refine lv_iload_n hx hb dL_bits_0 rfl (lv_at hl 0 rfl) ?_
  refine lv_if_ge (tgt := 9) hx hb dL_bits_1 (by decide) (fun c1 => ?_) (fun c1 => ?_)
  · exact absurd c1 (Int32.not_le.mpr (zI_neg h0 (by omega)))
  · refine lv_iload_n hx hb dL_bits_4 rfl (lv_at hl 0 rfl) ?_
    refine lv_ineg hx hb dL_bits_5 ?_
    rw [Int32.neg_neg]
    refine lv_goto (tgt := 10) hx hb dL_bits_6 (by decide) ?_
    refine lv_istore_n (lv' := [(1, .int (nI ei)), (0, .int (-(nI ei)))]) hx hb dL_bits_10 rfl hl (by decide) rfl (fun ls hl => ?_)
    refine lv_iconst (v := nI 0) hx hb dL_bits_11 (by decide +kernel) ?_
    refine lv_istore_n (lv' := [(2, .int (nI 0)), (1, .int (nI ei)), (0, .int (-(nI ei)))]) hx hb dL_bits_12 rfl hl (by decide) rfl (fun ls hl => ?_)
    refine o_loop (σ := Nat) (fun (u : Nat) => u ≤ Nat.log2 ei) (fun (u : Nat) => [(2, .int (nI u)), (1, .int (nI ei)), (0, .int (-(nI ei)))]) (fun (u : Nat) => Nat.log2 ei - u) 0 (Nat.zero_le _) (lv_sub hl [0, 1, 2] rfl) ?_
    rintro u ls h1 hl ih13
    have hl : lv_has ls 4 [(2, .int (nI u)), (1, .int (nI ei)), (0, .int (-(nI ei)))] := hl
    refine lv_iload_n hx hb dL_bits_13 rfl (lv_at hl 1 rfl) ?_
    refine lv_iload_n hx hb dL_bits_14 rfl (lv_at hl 0 rfl) ?_
    refine lv_ishr hx hb dL_bits_15 ?_
    rw [nI_shr (by omega) (by omega)]
    refine lv_iconst (v := nI 1) hx hb dL_bits_16 (by decide +kernel) ?_
    refine o_icmp_le (tgt := 26) hx hb dL_bits_17 (by decide) (Nat.lt_of_le_of_lt (Nat.div_le_self _ _) (by omega)) (by decide) (fun c17 => ?_) (fun c17 => ?_)
    · obtain rfl : u = Nat.log2 ei := lg_eq h1 c17
      refine lv_iload_n hx hb dL_bits_26 rfl (lv_at hl 1 rfl) ?_
      refine o_if_ne (tgt := 34) hx hb dL_bits_27 (by decide) (by omega) (fun c27 => ?_) (fun c27 => ?_)
      · have hk : ¬ ei = 0 := Nat.ne_of_gt c27
        have hl2 := lg_le hk
        have hm := lg_m hk he
        have hs := bN_s hk
        have hlt := bN_lt he
        refine lv_bipush (v := nI 124) hx hb dL_bits_34 (by decide +kernel) ?_
        refine lv_iload_n hx hb dL_bits_36 rfl (lv_at hl 0 rfl) ?_
        refine lv_iadd hx hb dL_bits_37 ?_
        rw [nI_add]
        refine lv_bipush (v := nI 23) hx hb dL_bits_38 (by decide +kernel) ?_
        refine lv_ishl hx hb dL_bits_40 ?_
        rw [nI_shl (k := 23) (by decide) (by omega)]
        refine lv_iload_n hx hb dL_bits_41 rfl (lv_at hl 1 rfl) ?_
        refine lv_iconst (v := nI 1) hx hb dL_bits_42 (by decide +kernel) ?_
        refine lv_iload_n hx hb dL_bits_43 rfl (lv_at hl 0 rfl) ?_
        refine lv_ishl hx hb dL_bits_44 ?_
        rw [nI_shl (a := 1) (k := Nat.log2 ei) (by omega) (by omega)]
        refine lv_isub hx hb dL_bits_45 ?_
        rw [pk_sub (a := ei) (b := 1 * 2 ^ Nat.log2 ei) (by omega)]
        refine lv_bipush (v := nI 23) hx hb dL_bits_46 (by decide +kernel) ?_
        refine lv_iload_n hx hb dL_bits_48 rfl (lv_at hl 0 rfl) ?_
        refine lv_isub hx hb dL_bits_49 ?_
        rw [pk_sub (a := 23) (b := Nat.log2 ei) (by omega)]
        refine lv_ishl hx hb dL_bits_50 ?_
        rw [nI_shl (k := 23 - Nat.log2 ei) (by omega) (by rw [Nat.one_mul]; omega)]
        refine lv_ior hx hb dL_bits_51 ?_
        rw [nI_or 23 (by rw [Nat.one_mul]; exact hm) (by rw [Nat.one_mul]; omega), show (124 + Nat.log2 ei) * 2 ^ 23 + (ei - 1 * 2 ^ Nat.log2 ei) * 2 ^ (23 - Nat.log2 ei) = bN ei by rw [Nat.one_mul]; exact hs.symm]
        refine lv_istore_n (lv' := [(3, .int (nI (bN ei))), (2, .int (nI (Nat.log2 ei))), (1, .int (nI ei)), (0, .int (-(nI ei)))]) hx hb dL_bits_52 rfl hl (by decide) rfl (fun ls hl => ?_)
        refine lv_iload_n hx hb dL_bits_53 rfl (lv_at hl 3 rfl) ?_
        refine lv_if_ge (tgt := 64) hx hb dL_bits_54 (by decide) (fun c54 => ?_) (fun c54 => ?_)
        · exact absurd c54 (Int32.not_le.mpr (zI_neg h0 (by omega)))
        · refine lv_iload_n hx hb dL_bits_57 rfl (lv_at hl 0 rfl) ?_
          refine lv_ldc (v := (-2147483648)) hx hb hown (hts (.constant RL 9 (-2147483648)) (by decide +kernel)) dL_bits_58 ?_
          refine lv_ior hx hb dL_bits_60 ?_
          rw [show nI (bN ei) ||| -2147483648 = nM (bN ei) from rfl]
          refine lv_goto (tgt := 65) hx hb dL_bits_61 (by decide) ?_
          exact o_endI hx hb hr hlocks dL_bits_65 rfl
      · omega
    · refine lv_iinc (v := nI (u + 1)) (lv' := [(2, .int (nI (u + 1))), (1, .int (nI ei)), (0, .int (-(nI ei)))]) hx hb dL_bits_20 hl (k := 0) rfl (nI_1 u) (by decide) rfl (fun ls hl => ?_)
      refine lv_goto (tgt := 13) hx hb dL_bits_23 (by decide) ?_
      refine ih13 (u + 1) ls ?_ ?_ ?_
      · exact lg_up (Nat.not_le.mpr c17)
      · show lv_has ls 4 [(2, .int (nI (u + 1))), (1, .int (nI ei)), (0, .int (-(nI ei)))]
        exact lv_sub hl [0, 1, 2] rfl
      · have := lg_up (Nat.not_le.mpr c17); omega
