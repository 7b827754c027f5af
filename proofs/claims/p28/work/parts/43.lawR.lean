set_option maxHeartbeats 4000000 in
set_option maxRecDepth 100000 in
theorem kL_low (l : Launch) (G : va_G) (cy : Nat → ClassId) {H0 : Heap} (v : Int32) (n : Nat) (hn : 0 < n) (hn2 : n < 2 ^ 31) : MetI l yL_low wsL_low 0 0 [.int v, .int (nI n)] H0 G cy (nI (lwN v % n)) := by
  refine Met.ofW (cc := cL_low) (maxL := 2) (ret := (some .int)) (by decide) rfl ?_
  intro p e s m args below meth c s₁ B hml hv
  obtain ⟨rfl, hH, hK⟩ := hv
  subst hH
  have hx := B.exec
  have hb := B.bytes
  have hr := B.returns
  have hts := atoms_spec (ws := wsL_low) B.pre
  have hown : s.vm.findClass RL = some m.cls := findClass_of_methodNamed B.named
  have hlocks := B.notSynchronized
  have hl := lv_entry ([.int v, .int (nI n)]) (n := 2) (Nat.le_of_ble_eq_true rfl)
  rw [lg_entry_eq]
  generalize (lg_sl ([.int v, .int (nI n)]) ++ List.replicate (2 - (lg_sl ([.int v, .int (nI n)])).length) Slot.unset).toArray = ls at hl ⊢
  have hl : lv_has ls 2 [(0, .int v), (1, .int (nI n))] := hl
  have b1 := lwN_lt v
  refine lv_iload_n hx hb dL_low_0 rfl (lv_at hl 0 rfl) ?_
  refine lv_ldc (v := (2147483647)) hx hb hown (hts (.constant RL 8 (2147483647)) (by decide +kernel)) dL_low_1 ?_
  rw [show ((2147483647) : Int32) = nI 2147483647 by decide +kernel]
  refine lv_iand hx hb dL_low_3 ?_
  rw [pk_and v (m := nI 2147483647) 31 (by decide +kernel), show nI (v.toBitVec.toNat % 2 ^ 31) = nI (lwN v) from rfl]
  refine lv_iload_n hx hb dL_low_4 rfl (lv_at hl 1 rfl) ?_
  refine lv_irem hx hb dL_low_5 (nI_ne0 hn hn2) ?_
  rw [pk_rem b1 hn hn2]
  exact o_endI hx hb hr hlocks dL_low_6 rfl

set_option maxHeartbeats 4000000 in
set_option maxRecDepth 100000 in
theorem kL_over (l : Launch) (G : va_G) (cy : Nat → ClassId) {H0 : Heap} {L : Nat → Nat} {M : MT} (hW : WB M) (hN : mN M ≤ 15) (hP : va_P G vwCl (wLa cy L M) H0) (o : Nat) (ho : o < mN M) : MetI l yL_over wsL_over 0 0 [.ref (L 0), .ref (L 2), .int (nI o)] H0 G cy (nI (cR (hfB M (mW M o)) (o + 1) (mN M - (o + 1)))) := by
  refine Met.ofW (cc := cL_over) (maxL := 5) (ret := (some .int)) (by decide) rfl ?_
  intro p e s m args below meth c s₁ B hml hv
  obtain ⟨rfl, hH, hK⟩ := hv
  subst hH
  have hx := B.exec
  have hb := B.bytes
  have hr := B.returns
  have hts := atoms_spec (ws := wsL_over) B.pre
  have hown : s.vm.findClass RL = some m.cls := findClass_of_methodNamed B.named
  have hlocks := B.notSynchronized
  have hl := lv_entry ([.ref (L 0), .ref (L 2), .int (nI o)]) (n := 5) (Nat.le_of_ble_eq_true rfl)
  rw [lg_entry_eq]
  generalize (lg_sl ([.ref (L 0), .ref (L 2), .int (nI o)]) ++ List.replicate (5 - (lg_sl ([.ref (L 0), .ref (L 2), .int (nI o)])).length) Slot.unset).toArray = ls at hl ⊢
  have hl : lv_has ls 5 [(0, .ref (L 0)), (1, .ref (L 2)), (2, .int (nI o))] := hl
  obtain ⟨bP, bN, bR, bO, bW, bL, bF⟩ := id hW
  refine lv_iconst (v := nI 0) hx hb dL_over_0 (by decide +kernel) ?_
  refine lv_istore_n (lv' := [(3, .int (nI 0)), (0, .ref (L 0)), (1, .ref (L 2)), (2, .int (nI o))]) hx hb dL_over_1 rfl hl (by decide) rfl (fun ls hl => ?_)
  refine lv_iload_n hx hb dL_over_2 rfl (lv_at hl 3 rfl) ?_
  refine lv_iconst (v := nI 1) hx hb dL_over_3 (by decide +kernel) ?_
  refine lv_iadd hx hb dL_over_4 ?_
  rw [nI_add]
  refine lv_istore (lv' := [(4, .int (nI (o + 1))), (3, .int (nI 0)), (0, .ref (L 0)), (1, .ref (L 2)), (2, .int (nI o))]) hx hb dL_over_5 hl (by decide) rfl (fun ls hl => ?_)
  refine o_loop (σ := Nat) (fun (j : Nat) => o + 1 + j ≤ mN M) (fun (j : Nat) => [(3, .int (nI (cR (hfB M (mW M o)) (o + 1) j))), (4, .int (nI (o + 1 + j))), (0, .ref (L 0)), (1, .ref (L 2)), (2, .int (nI o))]) (fun (j : Nat) => mN M - j) 0 (by omega) (lv_sub hl [1, 0, 2, 3, 4] rfl) ?_
  rintro j ls h1 hl ih7
  have hl : lv_has ls 5 [(3, .int (nI (cR (hfB M (mW M o)) (o + 1) j))), (4, .int (nI (o + 1 + j))), (0, .ref (L 0)), (1, .ref (L 2)), (2, .int (nI o))] := hl
  have b1 := bW (o + 1 + j)
  have b2 := bW o
  refine lv_iload hx hb dL_over_7 (lv_at hl 1 rfl) ?_
  refine lv_aload_n hx hb dL_over_9 rfl (lv_at hl 2 rfl) ?_
  refine lv_iconst (v := nI 1) hx hb dL_over_10 (by decide +kernel) ?_
  refine o_iald hx hb hK hP 0 0 rfl rfl 1 (by omega) (by decide) dL_over_11 ?_
  rw [show gI M 1 = mN M from rfl]
  refine o_icmp_ge (tgt := 59) hx hb dL_over_12 (by decide) (by omega) (by omega) (fun c12 => ?_) (fun c12 => ?_)
  · obtain rfl : j = mN M - (o + 1) := by omega
    refine lv_iload_n hx hb dL_over_59 rfl (lv_at hl 0 rfl) ?_
    exact o_endI hx hb hr hlocks dL_over_60 rfl
  · refine lv_iload_n hx hb dL_over_15 rfl (lv_at hl 0 rfl) ?_
    refine lv_aload_n hx hb dL_over_16 rfl (lv_at hl 3 rfl) ?_
    refine lv_iconst (v := nI 4) hx hb dL_over_17 (by decide +kernel) ?_
    refine lv_iload hx hb dL_over_18 (lv_at hl 1 rfl) ?_
    refine lv_imul hx hb dL_over_20 ?_
    rw [pk_mul]
    refine lv_iconst (v := nI 3) hx hb dL_over_21 (by decide +kernel) ?_
    refine lv_iadd hx hb dL_over_22 ?_
    rw [nI_add]
    refine o_iald hx hb hK hP 2 0 rfl rfl ((4 * (o + 1 + j)) + 3) (by omega) (by decide) dL_over_23 ?_
    rw [aI_3]
    refine lv_iconst (v := nI 1) hx hb dL_over_24 (by decide +kernel) ?_
    refine o_icmp1_ne (tgt := 50) hx hb dL_over_25 (by decide) (fun c25 => ?_) (fun c25 => ?_)
    · refine lv_iconst (v := nI 0) hx hb dL_over_50 (by decide +kernel) ?_
      refine lv_iadd hx hb dL_over_51 ?_
      rw [nI_add]
      refine lv_istore_n (lv' := [(3, .int (nI ((cR (hfB M (mW M o)) (o + 1) j) + 0))), (4, .int (nI (o + 1 + j))), (0, .ref (L 0)), (1, .ref (L 2)), (2, .int (nI o))]) hx hb dL_over_52 rfl hl (by decide) rfl (fun ls hl => ?_)
      refine lv_iinc (v := nI (o + 1 + j + 1)) (lv' := [(4, .int (nI (o + 1 + j + 1))), (3, .int (nI ((cR (hfB M (mW M o)) (o + 1) j) + 0))), (0, .ref (L 0)), (1, .ref (L 2)), (2, .int (nI o))]) hx hb dL_over_53 hl (k := 1) rfl (nI_1 (o + 1 + j)) (by decide) rfl (fun ls hl => ?_)
      refine lv_goto (tgt := 7) hx hb dL_over_56 (by decide) ?_
      refine ih7 (j + 1) ls ?_ ?_ ?_
      · omega
      · show lv_has ls 5 [(3, .int (nI (cR (hfB M (mW M o)) (o + 1) (j + 1)))), (4, .int (nI (o + 1 + (j + 1)))), (0, .ref (L 0)), (1, .ref (L 2)), (2, .int (nI o))]
        rw [cR_f (p := (hfB M (mW M o))) (f := o + 1) (j := j) (fun z => c25 (hfB_iff.mp z).1)]
        exact lv_sub hl [1, 0, 2, 3, 4] rfl
      · omega
    · refine lv_aload_n hx hb dL_over_28 rfl (lv_at hl 3 rfl) ?_
      refine lv_iconst (v := nI 4) hx hb dL_over_29 (by decide +kernel) ?_
      refine lv_iload hx hb dL_over_30 (lv_at hl 1 rfl) ?_
      refine lv_imul hx hb dL_over_32 ?_
      rw [pk_mul]
      refine lv_iconst (v := nI 1) hx hb dL_over_33 (by decide +kernel) ?_
      refine lv_iadd hx hb dL_over_34 ?_
      rw [nI_add]
      refine o_iald hx hb hK hP 2 0 rfl rfl ((4 * (o + 1 + j)) + 1) (by omega) (by decide) dL_over_35 ?_
      rw [aI_1]
      refine lv_aload_n hx hb dL_over_36 rfl (lv_at hl 3 rfl) ?_
      refine lv_iconst (v := nI 4) hx hb dL_over_37 (by decide +kernel) ?_
      refine lv_iload_n hx hb dL_over_38 rfl (lv_at hl 4 rfl) ?_
      refine lv_imul hx hb dL_over_39 ?_
      rw [pk_mul]
      refine lv_iconst (v := nI 1) hx hb dL_over_40 (by decide +kernel) ?_
      refine lv_iadd hx hb dL_over_41 ?_
      rw [nI_add]
      refine o_iald hx hb hK hP 2 0 rfl rfl ((4 * o) + 1) (by omega) (by decide) dL_over_42 ?_
      rw [aI_1]
      refine o_icmp_ne (tgt := 50) hx hb dL_over_43 (by decide) (by omega) (by omega) (fun c43 => ?_) (fun c43 => ?_)
      · refine lv_iconst (v := nI 0) hx hb dL_over_50 (by decide +kernel) ?_
        refine lv_iadd hx hb dL_over_51 ?_
        rw [nI_add]
        refine lv_istore_n (lv' := [(3, .int (nI ((cR (hfB M (mW M o)) (o + 1) j) + 0))), (4, .int (nI (o + 1 + j))), (0, .ref (L 0)), (1, .ref (L 2)), (2, .int (nI o))]) hx hb dL_over_52 rfl hl (by decide) rfl (fun ls hl => ?_)
        refine lv_iinc (v := nI (o + 1 + j + 1)) (lv' := [(4, .int (nI (o + 1 + j + 1))), (3, .int (nI ((cR (hfB M (mW M o)) (o + 1) j) + 0))), (0, .ref (L 0)), (1, .ref (L 2)), (2, .int (nI o))]) hx hb dL_over_53 hl (k := 1) rfl (nI_1 (o + 1 + j)) (by decide) rfl (fun ls hl => ?_)
        refine lv_goto (tgt := 7) hx hb dL_over_56 (by decide) ?_
        refine ih7 (j + 1) ls ?_ ?_ ?_
        · omega
        · show lv_has ls 5 [(3, .int (nI (cR (hfB M (mW M o)) (o + 1) (j + 1)))), (4, .int (nI (o + 1 + (j + 1)))), (0, .ref (L 0)), (1, .ref (L 2)), (2, .int (nI o))]
          rw [cR_f (p := (hfB M (mW M o))) (f := o + 1) (j := j) (fun z => c43 (hfB_iff.mp z).2)]
          exact lv_sub hl [1, 0, 2, 3, 4] rfl
        · omega
      · refine lv_iconst (v := nI 1) hx hb dL_over_46 (by decide +kernel) ?_
        refine lv_goto (tgt := 51) hx hb dL_over_47 (by decide) ?_
        refine lv_iadd hx hb dL_over_51 ?_
        rw [nI_add]
        refine lv_istore_n (lv' := [(3, .int (nI ((cR (hfB M (mW M o)) (o + 1) j) + 1))), (4, .int (nI (o + 1 + j))), (0, .ref (L 0)), (1, .ref (L 2)), (2, .int (nI o))]) hx hb dL_over_52 rfl hl (by decide) rfl (fun ls hl => ?_)
        refine lv_iinc (v := nI (o + 1 + j + 1)) (lv' := [(4, .int (nI (o + 1 + j + 1))), (3, .int (nI ((cR (hfB M (mW M o)) (o + 1) j) + 1))), (0, .ref (L 0)), (1, .ref (L 2)), (2, .int (nI o))]) hx hb dL_over_53 hl (k := 1) rfl (nI_1 (o + 1 + j)) (by decide) rfl (fun ls hl => ?_)
        refine lv_goto (tgt := 7) hx hb dL_over_56 (by decide) ?_
        refine ih7 (j + 1) ls ?_ ?_ ?_
        · omega
        · show lv_has ls 5 [(3, .int (nI (cR (hfB M (mW M o)) (o + 1) (j + 1)))), (4, .int (nI (o + 1 + (j + 1)))), (0, .ref (L 0)), (1, .ref (L 2)), (2, .int (nI o))]
          rw [cR_t (p := (hfB M (mW M o))) (f := o + 1) (j := j) (hfB_iff.mpr ⟨c25, c43⟩)]
          exact lv_sub hl [1, 0, 2, 3, 4] rfl
        · omega

set_option maxHeartbeats 4000000 in
set_option maxRecDepth 100000 in
theorem kL_ruling (l : Launch) (G : va_G) (cy : Nat → ClassId) {H0 : Heap} {L : Nat → Nat} {M : MT} (hW : WB M) (hN : mN M ≤ 15) (hP : va_P G vwCl (wLa cy L M) H0) (w : Nat) (hw : w < 16) : MetI l yL_ruling wsL_ruling 0 0 [.ref (L 0), .ref (L 1), .ref (L 2), .int (nI w)] H0 G cy (lkI (rl M w)) := by
  refine Met.ofW (cc := cL_ruling) (maxL := 7) (ret := (some .int)) (by decide) rfl ?_
  intro p e s m args below meth c s₁ B hml hv
  obtain ⟨rfl, hH, hK⟩ := hv
  subst hH
  have hx := B.exec
  have hb := B.bytes
  have hr := B.returns
  have hts := atoms_spec (ws := wsL_ruling) B.pre
  have hown : s.vm.findClass RL = some m.cls := findClass_of_methodNamed B.named
  have hlocks := B.notSynchronized
  have hl := lv_entry ([.ref (L 0), .ref (L 1), .ref (L 2), .int (nI w)]) (n := 7) (Nat.le_of_ble_eq_true rfl)
  rw [lg_entry_eq]
  generalize (lg_sl ([.ref (L 0), .ref (L 1), .ref (L 2), .int (nI w)]) ++ List.replicate (7 - (lg_sl ([.ref (L 0), .ref (L 1), .ref (L 2), .int (nI w)])).length) Slot.unset).toArray = ls at hl ⊢
  have hl : lv_has ls 7 [(0, .ref (L 0)), (1, .ref (L 1)), (2, .ref (L 2)), (3, .int (nI w))] := hl
  obtain ⟨bP, bN, bR, bO, bW, bL, bF⟩ := id hW
  refine lv_bipush (v := (-5)) hx hb dL_ruling_0 (by decide +kernel) ?_
  refine lv_istore (lv' := [(4, .int ((-5))), (0, .ref (L 0)), (1, .ref (L 1)), (2, .ref (L 2)), (3, .int (nI w))]) hx hb dL_ruling_2 hl (by decide) rfl (fun ls hl => ?_)
  refine lv_aload_n hx hb dL_ruling_4 rfl (lv_at hl 1 rfl) ?_
  refine lv_iconst (v := nI 1) hx hb dL_ruling_5 (by decide +kernel) ?_
  refine o_iald hx hb hK hP 0 0 rfl rfl 1 (by omega) (by decide) dL_ruling_6 ?_
  rw [show gI M 1 = mN M from rfl]
  refine lv_iconst (v := nI 1) hx hb dL_ruling_7 (by decide +kernel) ?_
  refine lv_isub hx hb dL_ruling_8 ?_
  rw [show nI (mN M) - nI 1 = dI (mN M) from rfl]
  refine lv_istore (lv' := [(5, .int (dI (mN M))), (4, .int ((-5))), (0, .ref (L 0)), (1, .ref (L 1)), (2, .ref (L 2)), (3, .int (nI w))]) hx hb dL_ruling_9 hl (by decide) rfl (fun ls hl => ?_)
  refine o_loop (σ := Nat × Option Nat) (fun (x_ : Nat × Option Nat) => match x_ with | (i, b) => i ≤ mN M ∧ isB M w i (mN M) b) (fun (x_ : Nat × Option Nat) => match x_ with | (i, b) => [(4, .int (lkI b)), (5, .int (dI i)), (0, .ref (L 0)), (1, .ref (L 1)), (2, .ref (L 2)), (3, .int (nI w))]) (fun (x_ : Nat × Option Nat) => match x_ with | (i, b) => i) (mN M, none) ⟨Nat.le_refl _, fun j a b => absurd a (by omega)⟩ (lv_sub hl [1, 0, 2, 3, 4, 5] rfl) ?_
  rintro ⟨i, b⟩ ls ⟨h1, h2⟩ hl ih11
  have hl : lv_has ls 7 [(4, .int (lkI b)), (5, .int (dI i)), (0, .ref (L 0)), (1, .ref (L 1)), (2, .ref (L 2)), (3, .int (nI w))] := hl
  refine lv_iload hx hb dL_ruling_11 (lv_at hl 1 rfl) ?_
  refine o_ifd_lt (tgt := 91) hx hb dL_ruling_13 (by decide) (by omega) (fun c13 => ?_) (fun c13 => ?_)
  · subst c13
    refine lv_iload hx hb dL_ruling_91 (lv_at hl 0 rfl) ?_
    exact o_endI hx hb hr hlocks dL_ruling_93 (congrArg lkI (isB_rl h2))
  · obtain ⟨i, rfl⟩ := c13
    rw [dI_succ] at hl
    have b1 := bW i
    have b2 := bO i
    have b3 := bR (mO M i)
    refine lv_aload_n hx hb dL_ruling_16 rfl (lv_at hl 4 rfl) ?_
    refine lv_iconst (v := nI 4) hx hb dL_ruling_17 (by decide +kernel) ?_
    refine lv_iload hx hb dL_ruling_18 (lv_at hl 1 rfl) ?_
    refine lv_imul hx hb dL_ruling_20 ?_
    rw [pk_mul]
    refine lv_iconst (v := nI 3) hx hb dL_ruling_21 (by decide +kernel) ?_
    refine lv_iadd hx hb dL_ruling_22 ?_
    rw [nI_add]
    refine o_iald hx hb hK hP 2 0 rfl rfl ((4 * i) + 3) (by omega) (by decide) dL_ruling_23 ?_
    rw [aI_3]
    refine lv_iconst (v := nI 1) hx hb dL_ruling_24 (by decide +kernel) ?_
    refine o_icmp1_ne (tgt := 44) hx hb dL_ruling_25 (by decide) (fun c25 => ?_) (fun c25 => ?_)
    · refine lv_iconst (v := nI 0) hx hb dL_ruling_44 (by decide +kernel) ?_
      refine lv_istore (lv' := [(6, .int (nI 0)), (4, .int (lkI b)), (5, .int (nI i)), (0, .ref (L 0)), (1, .ref (L 1)), (2, .ref (L 2)), (3, .int (nI w))]) hx hb dL_ruling_45 hl (by decide) rfl (fun ls hl => ?_)
      refine lv_iload hx hb dL_ruling_47 (lv_at hl 0 rfl) ?_
      refine o_if_eq (tgt := 81) hx hb dL_ruling_49 (by decide) (by omega) (fun c49 => ?_) (fun c49 => ?_)
      · refine lv_iload hx hb dL_ruling_81 (lv_at hl 1 rfl) ?_
        refine lv_istore (lv' := [(4, .int (lkI b)), (6, .int (nI 0)), (5, .int (nI i)), (0, .ref (L 0)), (1, .ref (L 1)), (2, .ref (L 2)), (3, .int (nI w))]) hx hb dL_ruling_83 hl (by decide) rfl (fun ls hl => ?_)
        refine lv_iinc (v := dI i) (lv' := [(5, .int (dI i)), (4, .int (lkI b)), (6, .int (nI 0)), (0, .ref (L 0)), (1, .ref (L 1)), (2, .ref (L 2)), (3, .int (nI w))]) hx hb dL_ruling_85 hl (k := 2) rfl (dI_dec i) (by decide) rfl (fun ls hl => ?_)
        refine lv_goto (tgt := 11) hx hb dL_ruling_88 (by decide) ?_
        refine ih11 (i, b) ls ?_ ?_ ?_
        · exact ⟨by omega, isB_skip h2 (fun z => c25 z.1)⟩
        · show lv_has ls 7 [(4, .int (lkI b)), (5, .int (dI i)), (0, .ref (L 0)), (1, .ref (L 1)), (2, .ref (L 2)), (3, .int (nI w))]
          exact lv_sub hl [1, 0, 3, 4, 5, 6] rfl
        · show i < i + 1; omega
      · exact absurd c49 (by decide)
    · refine lv_aload_n hx hb dL_ruling_28 rfl (lv_at hl 4 rfl) ?_
      refine lv_iconst (v := nI 4) hx hb dL_ruling_29 (by decide +kernel) ?_
      refine lv_iload hx hb dL_ruling_30 (lv_at hl 1 rfl) ?_
      refine lv_imul hx hb dL_ruling_32 ?_
      rw [pk_mul]
      refine lv_iconst (v := nI 1) hx hb dL_ruling_33 (by decide +kernel) ?_
      refine lv_iadd hx hb dL_ruling_34 ?_
      rw [nI_add]
      refine o_iald hx hb hK hP 2 0 rfl rfl ((4 * i) + 1) (by omega) (by decide) dL_ruling_35 ?_
      rw [aI_1]
      refine lv_iload_n hx hb dL_ruling_36 rfl (lv_at hl 5 rfl) ?_
      refine o_icmp_ne (tgt := 44) hx hb dL_ruling_37 (by decide) (by omega) (by omega) (fun c37 => ?_) (fun c37 => ?_)
      · refine lv_iconst (v := nI 0) hx hb dL_ruling_44 (by decide +kernel) ?_
        refine lv_istore (lv' := [(6, .int (nI 0)), (4, .int (lkI b)), (5, .int (nI i)), (0, .ref (L 0)), (1, .ref (L 1)), (2, .ref (L 2)), (3, .int (nI w))]) hx hb dL_ruling_45 hl (by decide) rfl (fun ls hl => ?_)
        refine lv_iload hx hb dL_ruling_47 (lv_at hl 0 rfl) ?_
        refine o_if_eq (tgt := 81) hx hb dL_ruling_49 (by decide) (by omega) (fun c49 => ?_) (fun c49 => ?_)
        · refine lv_iload hx hb dL_ruling_81 (lv_at hl 1 rfl) ?_
          refine lv_istore (lv' := [(4, .int (lkI b)), (6, .int (nI 0)), (5, .int (nI i)), (0, .ref (L 0)), (1, .ref (L 1)), (2, .ref (L 2)), (3, .int (nI w))]) hx hb dL_ruling_83 hl (by decide) rfl (fun ls hl => ?_)
          refine lv_iinc (v := dI i) (lv' := [(5, .int (dI i)), (4, .int (lkI b)), (6, .int (nI 0)), (0, .ref (L 0)), (1, .ref (L 1)), (2, .ref (L 2)), (3, .int (nI w))]) hx hb dL_ruling_85 hl (k := 2) rfl (dI_dec i) (by decide) rfl (fun ls hl => ?_)
          refine lv_goto (tgt := 11) hx hb dL_ruling_88 (by decide) ?_
          refine ih11 (i, b) ls ?_ ?_ ?_
          · exact ⟨by omega, isB_skip h2 (fun z => c37 z.2)⟩
          · show lv_has ls 7 [(4, .int (lkI b)), (5, .int (dI i)), (0, .ref (L 0)), (1, .ref (L 1)), (2, .ref (L 2)), (3, .int (nI w))]
            exact lv_sub hl [1, 0, 3, 4, 5, 6] rfl
          · show i < i + 1; omega
        · exact absurd c49 (by decide)
      · refine lv_iconst (v := nI 1) hx hb dL_ruling_40 (by decide +kernel) ?_
        refine lv_goto (tgt := 45) hx hb dL_ruling_41 (by decide) ?_
        refine lv_istore (lv' := [(6, .int (nI 1)), (4, .int (lkI b)), (5, .int (nI i)), (0, .ref (L 0)), (1, .ref (L 1)), (2, .ref (L 2)), (3, .int (nI w))]) hx hb dL_ruling_45 hl (by decide) rfl (fun ls hl => ?_)
        refine lv_iload hx hb dL_ruling_47 (lv_at hl 0 rfl) ?_
        refine o_if_eq (tgt := 81) hx hb dL_ruling_49 (by decide) (by omega) (fun c49 => ?_) (fun c49 => ?_)
        · exact absurd c49 (by decide)
        · refine lv_iload hx hb dL_ruling_52 (lv_at hl 1 rfl) ?_
          refine o_lk_lt (tgt := 76) hx hb dL_ruling_54 (by decide) (fun j hj => by subst hj; have := h2.2.1; omega) (fun c54 => ?_) (fun c54 => ?_)
          · refine lv_iload hx hb dL_ruling_76 (lv_at hl 2 rfl) ?_
            refine lv_goto (tgt := 83) hx hb dL_ruling_78 (by decide) ?_
            refine lv_istore (lv' := [(4, .int (nI i)), (6, .int (nI 1)), (5, .int (nI i)), (0, .ref (L 0)), (1, .ref (L 1)), (2, .ref (L 2)), (3, .int (nI w))]) hx hb dL_ruling_83 hl (by decide) rfl (fun ls hl => ?_)
            refine lv_iinc (v := dI i) (lv' := [(5, .int (dI i)), (4, .int (nI i)), (6, .int (nI 1)), (0, .ref (L 0)), (1, .ref (L 1)), (2, .ref (L 2)), (3, .int (nI w))]) hx hb dL_ruling_85 hl (k := 2) rfl (dI_dec i) (by decide) rfl (fun ls hl => ?_)
            refine lv_goto (tgt := 11) hx hb dL_ruling_88 (by decide) ?_
            refine ih11 (i, some i) ls ?_ ?_ ?_
            · exact ⟨by omega, (by subst c54; exact isB_new h2 ⟨c25, c37⟩ (by omega))⟩
            · show lv_has ls 7 [(4, .int (lkI (some i))), (5, .int (dI i)), (0, .ref (L 0)), (1, .ref (L 1)), (2, .ref (L 2)), (3, .int (nI w))]
              exact lv_sub hl [1, 0, 3, 4, 5, 6] rfl
            · show i < i + 1; omega
          · obtain ⟨bb, hbb⟩ := c54
            rw [hbb] at hl
            have hl : lv_has ls 7 [(6, .int (nI 1)), (4, .int (nI bb)), (5, .int (nI i)), (0, .ref (L 0)), (1, .ref (L 1)), (2, .ref (L 2)), (3, .int (nI w))] := hl
            have b4 := bO bb
            have b5 := bR (mO M bb)
            have b6 : bb < mN M := by subst hbb; exact h2.2.1
            refine lv_aload_n hx hb dL_ruling_57 rfl (lv_at hl 4 rfl) ?_
            refine lv_aload_n hx hb dL_ruling_58 rfl (lv_at hl 5 rfl) ?_
            refine lv_iconst (v := nI 4) hx hb dL_ruling_59 (by decide +kernel) ?_
            refine lv_iload hx hb dL_ruling_60 (lv_at hl 2 rfl) ?_
            refine lv_imul hx hb dL_ruling_62 ?_
            rw [pk_mul]
            refine o_iald hx hb hK hP 2 0 rfl rfl (4 * i) (by omega) (by decide) dL_ruling_63 ?_
            rw [aI_0]
            refine o_iald hx hb hK hP 1 0 rfl rfl (mO M i) (by omega) (by decide) dL_ruling_64 ?_
            refine lv_aload_n hx hb dL_ruling_65 rfl (lv_at hl 4 rfl) ?_
            refine lv_aload_n hx hb dL_ruling_66 rfl (lv_at hl 5 rfl) ?_
            refine lv_iconst (v := nI 4) hx hb dL_ruling_67 (by decide +kernel) ?_
            refine lv_iload hx hb dL_ruling_68 (lv_at hl 1 rfl) ?_
            refine lv_imul hx hb dL_ruling_70 ?_
            rw [pk_mul]
            refine o_iald hx hb hK hP 2 0 rfl rfl (4 * bb) (by omega) (by decide) dL_ruling_71 ?_
            rw [aI_0]
            refine o_iald hx hb hK hP 1 0 rfl rfl (mO M bb) (by omega) (by decide) dL_ruling_72 ?_
            refine o_icmp_le (tgt := 81) hx hb dL_ruling_73 (by decide) (by omega) (by omega) (fun c73 => ?_) (fun c73 => ?_)
            · refine lv_iload hx hb dL_ruling_81 (lv_at hl 1 rfl) ?_
              refine lv_istore (lv' := [(4, .int (nI bb)), (6, .int (nI 1)), (5, .int (nI i)), (0, .ref (L 0)), (1, .ref (L 1)), (2, .ref (L 2)), (3, .int (nI w))]) hx hb dL_ruling_83 hl (by decide) rfl (fun ls hl => ?_)
              refine lv_iinc (v := dI i) (lv' := [(5, .int (dI i)), (4, .int (nI bb)), (6, .int (nI 1)), (0, .ref (L 0)), (1, .ref (L 1)), (2, .ref (L 2)), (3, .int (nI w))]) hx hb dL_ruling_85 hl (k := 2) rfl (dI_dec i) (by decide) rfl (fun ls hl => ?_)
              refine lv_goto (tgt := 11) hx hb dL_ruling_88 (by decide) ?_
              refine ih11 (i, some bb) ls ?_ ?_ ?_
              · exact ⟨by omega, (by subst hbb; exact isB_keep h2 c73)⟩
              · show lv_has ls 7 [(4, .int (lkI (some bb))), (5, .int (dI i)), (0, .ref (L 0)), (1, .ref (L 1)), (2, .ref (L 2)), (3, .int (nI w))]
                exact lv_sub hl [1, 0, 3, 4, 5, 6] rfl
              · show i < i + 1; omega
            · refine lv_iload hx hb dL_ruling_76 (lv_at hl 2 rfl) ?_
              refine lv_goto (tgt := 83) hx hb dL_ruling_78 (by decide) ?_
              refine lv_istore (lv' := [(4, .int (nI i)), (6, .int (nI 1)), (5, .int (nI i)), (0, .ref (L 0)), (1, .ref (L 1)), (2, .ref (L 2)), (3, .int (nI w))]) hx hb dL_ruling_83 hl (by decide) rfl (fun ls hl => ?_)
              refine lv_iinc (v := dI i) (lv' := [(5, .int (dI i)), (4, .int (nI i)), (6, .int (nI 1)), (0, .ref (L 0)), (1, .ref (L 1)), (2, .ref (L 2)), (3, .int (nI w))]) hx hb dL_ruling_85 hl (k := 2) rfl (dI_dec i) (by decide) rfl (fun ls hl => ?_)
              refine lv_goto (tgt := 11) hx hb dL_ruling_88 (by decide) ?_
              refine ih11 (i, some i) ls ?_ ?_ ?_
              · exact ⟨by omega, (by subst hbb; exact isB_more h2 ⟨c25, c37⟩ (by omega) c73)⟩
              · show lv_has ls 7 [(4, .int (lkI (some i))), (5, .int (dI i)), (0, .ref (L 0)), (1, .ref (L 1)), (2, .ref (L 2)), (3, .int (nI w))]
                exact lv_sub hl [1, 0, 3, 4, 5, 6] rfl
              · show i < i + 1; omega
