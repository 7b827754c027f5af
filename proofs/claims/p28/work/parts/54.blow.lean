set_option maxRecDepth 100000 in
theorem iX6_blow_X6 : ∀ w ∈ u_ws RX6 TX6 2, w ∈ wsX6_blow := by decide +kernel
set_option maxRecDepth 100000 in
theorem iX6_blow_X1 : ∀ w ∈ u_ws RX1 TX1 13, w ∈ wsX6_blow := by decide +kernel
set_option maxHeartbeats 4000000 in
set_option maxRecDepth 100000 in
theorem kX6_blow (l : Launch) (G : va_G) (cy : Nat → ClassId) {H0 : Heap} {q x : Nat → Nat} {M : MT} {ov : Nat → Nat} {f : UInt32} {A0 : Nat → Prop} (hW : WB M) (hf : Fin32 f) (hH : ∀ k, Fin32 (mH M k)) (hP : va_P G vwCl (wWe cy x ov ++ wDo cy q M) H0) (hD0 : va_D A0 (wWe cy x ov ++ wDo cy q M)) : MutI l yX6_blow wsX6_blow 1 21 [.ref (x 0), .ref (q 0), .float f] H0 G cy (nI (cR (flB M f) 0 (mN M))) (wWe cy x ov ++ wDo cy q M) (wWe cy x (ovc ov M 0) ++ wDo cy q (stM M f)) := by
  refine Met.ofW (cc := cX6_blow) (maxL := 6) (ret := (some .int)) (by decide) rfl ?_
  intro p e s m args below meth c s₁ B hml hv
  obtain ⟨rfl, hH, hK⟩ := hv
  subst hH
  have hx := B.exec
  have hb := B.bytes
  have hr := B.returns
  have hts := atoms_spec (ws := wsX6_blow) B.pre
  have hown : s.vm.findClass RX6 = some m.cls := findClass_of_methodNamed B.named
  have hlocks := B.notSynchronized
  have hl := lv_entry ([.ref (x 0), .ref (q 0), .float f]) (n := 6) (Nat.le_of_ble_eq_true rfl)
  rw [lg_entry_eq]
  generalize (lg_sl ([.ref (x 0), .ref (q 0), .float f]) ++ List.replicate (6 - (lg_sl ([.ref (x 0), .ref (q 0), .float f])).length) Slot.unset).toArray = ls at hl ⊢
  have hl : lv_has ls 6 [(0, .ref (x 0)), (1, .ref (q 0)), (2, .float f)] := hl
  obtain ⟨bP, bN, bR, bO, bW, bL, bF⟩ := id hW
  have hD := hD0.self (sz := s.heap.size)
  generalize hAe : va_A (wWe cy x ov ++ wDo cy q M) s.heap.size = A at hD ⊢
  have hA : ∀ q : Nat, s.heap.size ≤ q → A q := fun q h => by rw [← hAe]; exact Or.inr h
  have hS : va_S A s.heap s.heap [] := va_S.rf
  refine lv_iconst (v := nI 0) hx hb dX6_blow_0 (by decide +kernel) ?_
  refine lv_istore_n (lv' := [(3, .int (nI 0)), (0, .ref (x 0)), (1, .ref (q 0)), (2, .float f)]) hx hb dX6_blow_1 rfl hl (by decide) rfl (fun ls hl => ?_)
  refine lv_iconst (v := nI 0) hx hb dX6_blow_2 (by decide +kernel) ?_
  refine lv_istore (lv' := [(4, .int (nI 0)), (3, .int (nI 0)), (0, .ref (x 0)), (1, .ref (q 0)), (2, .float f)]) hx hb dX6_blow_3 hl (by decide) rfl (fun ls hl => ?_)
  refine o_loopM (σ := Nat) (fun (i : Nat) (H : Heap) (locs : List Loc) => i ≤ 16 ∧ va_P G vwCl (wWe cy x (ovz ov i) ++ wDo cy q M) H ∧ va_D A (wWe cy x (ovz ov i) ++ wDo cy q M) ∧ va_S A s.heap H locs) (fun (i : Nat) => [(4, .int (nI i)), (3, .int (nI 0)), (0, .ref (x 0)), (1, .ref (q 0)), (2, .float f)]) (fun (i : Nat) => 16 - i) 0 ⟨Nat.zero_le _, by rw [ovz_0]; exact hP, by rw [ovz_0]; exact hD, hS⟩ (lv_sub hl [0, 1, 2, 3, 4] rfl) ?_
  rintro i ls H locs ⟨h1, hP, hD, hS⟩ hl ih5
  have hl : lv_has ls 6 [(4, .int (nI i)), (3, .int (nI 0)), (0, .ref (x 0)), (1, .ref (q 0)), (2, .float f)] := hl
  refine lv_iload hx hb dX6_blow_5 (lv_at hl 0 rfl) ?_
  refine lv_bipush (v := nI 16) hx hb dX6_blow_7 (by decide +kernel) ?_
  refine o_icmp_ge (tgt := 26) hx hb dX6_blow_9 (by decide) (by omega) (by omega) (fun c9 => ?_) (fun c9 => ?_)
  · obtain rfl : i = 16 := by omega
    refine lv_aload_n hx hb dX6_blow_26 rfl (lv_at hl 3 rfl) ?_
    refine va_get (D := G) (ci := 0) (v := .int (nI (mN M))) (C := RX1) (T := TX1) (N := 13) hx hb hts iX6_blow_X1 hown hK hP 2 rfl rfl 5 (by decide) (hts (.fieldLink RX6 22 "NailedOrders$Door" "orders" "I") (by decide +kernel)) (fun _ h9 => h9) rfl dX6_blow_27 ?_
    refine lv_iconst (v := nI 1) hx hb dX6_blow_30 (by decide +kernel) ?_
    refine lv_isub hx hb dX6_blow_31 ?_
    rw [show nI (mN M) - nI 1 = dI (mN M) from rfl]
    refine lv_istore (lv' := [(4, .int (dI (mN M))), (3, .int (nI 0)), (0, .ref (x 0)), (1, .ref (q 0)), (2, .float f)]) hx hb dX6_blow_32 hl (by decide) rfl (fun ls hl => ?_)
    refine o_loopM (σ := Nat) (fun (i : Nat) (H : Heap) (locs : List Loc) => i ≤ mN M ∧ va_P G vwCl (wWe cy x (ovc ov M i) ++ wDo cy q (blM M f i)) H ∧ va_D A (wWe cy x (ovc ov M i) ++ wDo cy q (blM M f i)) ∧ va_S A s.heap H locs) (fun (i : Nat) => [(4, .int (dI i)), (3, .int (nI (cR (flB M f) i (mN M - i)))), (0, .ref (x 0)), (1, .ref (q 0)), (2, .float f)]) (fun (i : Nat) => i) (mN M) ⟨Nat.le_refl _, by rw [ovc_n]; rw [blM_n]; exact hP, by rw [ovc_n]; rw [blM_n]; exact hD, hS⟩ (by show lv_has _ _ [(4, .int (dI (mN M))), (3, .int (nI (cR (flB M f) (mN M) (mN M - mN M)))), (0, .ref (x 0)), (1, .ref (q 0)), (2, .float f)]; rw [Nat.sub_self]; exact lv_sub hl [0, 1, 2, 3, 4] rfl) ?_
    rintro i ls H locs ⟨h1, hP, hD, hS⟩ hl ih34
    have hl : lv_has ls 6 [(4, .int (dI i)), (3, .int (nI (cR (flB M f) i (mN M - i)))), (0, .ref (x 0)), (1, .ref (q 0)), (2, .float f)] := hl
    refine lv_iload hx hb dX6_blow_34 (lv_at hl 0 rfl) ?_
    refine o_ifd_lt (tgt := 124) hx hb dX6_blow_36 (by decide) (by omega) (fun c36 => ?_) (fun c36 => ?_)
    · subst c36
      refine lv_aload_n hx hb dX6_blow_124 rfl (lv_at hl 3 rfl) ?_
      refine lv_dup hx hb dX6_blow_125 rfl ?_
      refine va_get (D := G) (ci := 0) (v := .int (nI (mS M))) (C := RX1) (T := TX1) (N := 13) hx hb hts iX6_blow_X1 hown hK hP 2 rfl rfl 4 (by decide) (hts (.fieldLink RX6 40 "NailedOrders$Door" "storms" "I") (by decide +kernel)) (fun _ h9 => h9) rfl dX6_blow_126 ?_
      refine lv_iconst (v := nI 1) hx hb dX6_blow_129 (by decide +kernel) ?_
      refine lv_iadd hx hb dX6_blow_130 ?_
      rw [nI_add]
      refine va_put (D := G) (ci := 0) (v := .int (nI ((mS M) + 1))) (ty := .int) (C := RX1) (T := TX1) (N := 13) hx hb hts iX6_blow_X1 tyX1 tyX1_ok nmX1 hown hK hP hD hS 2 rfl rfl 4 (by decide) (hts (.fieldLink RX6 40 "NailedOrders$Door" "storms" "I") (by decide +kernel)) (fun _ h9 => h9) rfl (by decide +kernel) rfl rfl (Nat.le_of_ble_eq_true rfl) dX6_blow_131 (fun H locs hP hD hS => ?_)
      have hP : va_P G vwCl (wWe cy x (ovc ov M 0) ++ wDo cy q (mP M, mN M, (mS M) + 1, mB M, mT M, mR M, mO M, mW M, mL M, blF M f 0, mA M, mU M, blH M f 0)) H := hP
      have hD : va_D A (wWe cy x (ovc ov M 0) ++ wDo cy q (mP M, mN M, (mS M) + 1, mB M, mT M, mR M, mO M, mW M, mL M, blF M f 0, mA M, mU M, blH M f 0)) := hD
      refine lv_iload_n hx hb dX6_blow_134 rfl (lv_at hl 1 rfl) ?_
      exact o_endIm hx hb hr hlocks dX6_blow_135 hP hS rfl
    · obtain ⟨j, rfl⟩ := c36
      rw [dI_succ] at hl
      have hjn : j < mN M := by omega
      have b1 := bW j
      have hPd := hP.sub (ws' := wDo cy q (blM M f (j + 1))) [2, 3, 4, 5, 6, 7, 8, 9, 10] rfl
      have eF : mF (blM M f (j + 1)) j = mF M j := blF_at M f j
      refine lv_aload_n hx hb dX6_blow_39 rfl (lv_at hl 3 rfl) ?_
      refine lv_iload hx hb dX6_blow_40 (lv_at hl 0 rfl) ?_
      refine o_VI (As := [.int (nI j)]) (rest := []) ⟨hx, hb, hml, hown, hts⟩ (kX1_hangs l G cy (WB_bl hW f (j + 1)) hPd j (by omega)) (cwV 1 hts gX6_blow_X1_hangs rfl rfl rfl (by decide +kernel) ⟨Nat.le_of_ble_eq_true rfl, Nat.le_of_ble_eq_true rfl⟩) hK (va_recv hK hP (ci := 0) (q0 := 2) rfl rfl) rfl hl.1 rfl (Nat.le_of_ble_eq_true rfl) dX6_blow_42 ⟨Nat.zero_le _, Nat.zero_le _⟩ ?_
      refine o_ifb_eq (tgt := 118) hx hb dX6_blow_45 (by decide) (fun c45 => ?_) (fun c45 => ?_)
      · rw [eF] at c45
        have hfl : ¬ flB M f j = true := fun z => c45 (flB_iff.mp z).1
        refine lv_iinc (v := dI j) (lv' := [(4, .int (dI j)), (3, .int (nI (cR (flB M f) (j + 1) (mN M - (j + 1))))), (0, .ref (x 0)), (1, .ref (q 0)), (2, .float f)]) hx hb dX6_blow_118 hl (k := 0) rfl (dI_dec j) (by decide) rfl (fun ls hl => ?_)
        refine lv_goto (tgt := 34) hx hb dX6_blow_121 (by decide) ?_
        refine ih34 j ls H locs ?_ ?_ ?_
        · exact ⟨by omega, by rw [← blM_f (f := f) c45, ← ovc_f (ov := ov) hjn c45]; exact ⟨hP, hD, hS⟩⟩
        · show lv_has ls 6 [(4, .int (dI j)), (3, .int (nI (cR (flB M f) j (mN M - j)))), (0, .ref (x 0)), (1, .ref (q 0)), (2, .float f)]
          rw [cR_hf hjn hfl]
          exact lv_sub hl [0, 1, 2, 3, 4] rfl
        · exact Nat.lt_succ_self j
      · rw [eF] at c45
        have eO : ovc ov M (j + 1) (mW M j) = cR (hfB M (mW M j)) (j + 1) (mN M - (j + 1)) := ovc_w b1
        have b9 := cR_le (hfB M (mW M j)) (j + 1) (mN M - (j + 1))
        have eS : (FP.fsub (blH M f (j + 1) j) (FP.fdiv f (FP.i2f (nI (1 + ovc ov M (j + 1) (mW M j)))))) = stF M f j := by rw [blH_at, eO]; rfl
        have eU : mH (mP M, mN M, mS M, mB M, mT M, mR M, mO M, mW M, mL M, blF M f (j + 1), mA M, mU M, va_up (blH M f (j + 1)) j (FP.fsub (blH M f (j + 1) j) (FP.fdiv f (FP.i2f (nI (1 + ovc ov M (j + 1) (mW M j))))))) j = stF M f j := (va_us _ _ _).trans eS
        refine lv_aload_n hx hb dX6_blow_48 rfl (lv_at hl 3 rfl) ?_
        refine va_get (D := G) (ci := 0) (v := .ref (q 7)) (C := RX1) (T := TX1) (N := 13) hx hb hts iX6_blow_X1 hown hK hP 2 rfl rfl 7 (by decide) (hts (.fieldLink RX6 30 "NailedOrders$Door" "words" "[I") (by decide +kernel)) (fun _ h9 => h9) rfl dX6_blow_49 ?_
        refine lv_iload hx hb dX6_blow_52 (lv_at hl 0 rfl) ?_
        refine o_iald hx hb hK hP 5 0 rfl rfl j (by omega) (by decide) dX6_blow_54 ?_
        refine lv_istore (lv' := [(5, .int (nI (mW M j))), (4, .int (nI j)), (3, .int (nI (cR (flB M f) (j + 1) (mN M - (j + 1))))), (0, .ref (x 0)), (1, .ref (q 0)), (2, .float f)]) hx hb dX6_blow_55 hl (by decide) rfl (fun ls hl => ?_)
        refine lv_aload_n hx hb dX6_blow_57 rfl (lv_at hl 4 rfl) ?_
        refine va_get (D := G) (ci := 0) (v := .ref (q 11)) (C := RX1) (T := TX1) (N := 13) hx hb hts iX6_blow_X1 hown hK hP 2 rfl rfl 11 (by decide) (hts (.fieldLink RX6 33 "NailedOrders$Door" "strengths" "[F") (by decide +kernel)) (fun _ h9 => h9) rfl dX6_blow_58 ?_
        refine lv_iload hx hb dX6_blow_61 (lv_at hl 1 rfl) ?_
        refine lv_aload_n hx hb dX6_blow_63 rfl (lv_at hl 4 rfl) ?_
        refine va_get (D := G) (ci := 0) (v := .ref (q 11)) (C := RX1) (T := TX1) (N := 13) hx hb hts iX6_blow_X1 hown hK hP 2 rfl rfl 11 (by decide) (hts (.fieldLink RX6 33 "NailedOrders$Door" "strengths" "[F") (by decide +kernel)) (fun _ h9 => h9) rfl dX6_blow_64 ?_
        refine lv_iload hx hb dX6_blow_67 (lv_at hl 1 rfl) ?_
        refine o_fald hx hb hK hP 9 1 rfl rfl j (by omega) (by decide) dX6_blow_69 ?_
        refine lv_fload_n hx hb dX6_blow_70 rfl (lv_at hl 5 rfl) ?_
        refine lv_iconst (v := nI 1) hx hb dX6_blow_71 (by decide +kernel) ?_
        refine lv_aload_n hx hb dX6_blow_72 rfl (lv_at hl 3 rfl) ?_
        refine va_get (D := G) (ci := 5) (v := .ref (x 2)) (C := RX6) (T := TX6) (N := 2) hx hb hts iX6_blow_X6 hown hK hP 0 rfl rfl 1 (by decide) (hts (.fieldLink RX6 18 "NailedOrders$Weather" "over" "[I") (by decide +kernel)) (fun _ h9 => h9) rfl dX6_blow_73 ?_
        refine lv_iload hx hb dX6_blow_76 (lv_at hl 0 rfl) ?_
        refine o_iald hx hb hK hP 1 0 rfl rfl (mW M j) (by omega) (by decide) dX6_blow_78 ?_
        refine lv_iadd hx hb dX6_blow_79 ?_
        rw [nI_add]
        refine lv_i2f hx hb dX6_blow_80 ?_
        refine lv_fdiv hx hb dX6_blow_81 (n32_of (div_n hf _ (by rw [eO]; omega))) ?_
        refine lv_fsub hx hb dX6_blow_82 (n32_of (FP.Core.fsub_out' (show Fin32 (blH M f (j + 1) j) by rw [blH_at]; exact hH j) (div_n hf _ (by rw [eO]; omega)))) ?_
        refine o_fast hx hb hK hP hD hS 9 1 rfl rfl j (by omega) (by decide) rfl dX6_blow_83 (fun H locs hP hD hS => ?_)
        have hP : va_P G vwCl (wWe cy x (ovc ov M (j + 1)) ++ wDo cy q (mP M, mN M, mS M, mB M, mT M, mR M, mO M, mW M, mL M, blF M f ((j + 1)), mA M, mU M, va_up (blH M f ((j + 1))) j (FP.fsub ((blH M f ((j + 1))) j) (FP.fdiv f (FP.i2f (nI (1 + ((ovc ov M (j + 1)) (mW M j))))))))) H := hP
        have hD : va_D A (wWe cy x (ovc ov M (j + 1)) ++ wDo cy q (mP M, mN M, mS M, mB M, mT M, mR M, mO M, mW M, mL M, blF M f ((j + 1)), mA M, mU M, va_up (blH M f ((j + 1))) j (FP.fsub ((blH M f ((j + 1))) j) (FP.fdiv f (FP.i2f (nI (1 + ((ovc ov M (j + 1)) (mW M j))))))))) := hD
        refine lv_aload_n hx hb dX6_blow_84 rfl (lv_at hl 3 rfl) ?_
        refine va_get (D := G) (ci := 5) (v := .ref (x 2)) (C := RX6) (T := TX6) (N := 2) hx hb hts iX6_blow_X6 hown hK hP 0 rfl rfl 1 (by decide) (hts (.fieldLink RX6 18 "NailedOrders$Weather" "over" "[I") (by decide +kernel)) (fun _ h9 => h9) rfl dX6_blow_85 ?_
        refine lv_iload hx hb dX6_blow_88 (lv_at hl 0 rfl) ?_
        refine lv_dup2_11 hx hb dX6_blow_90 rfl rfl ?_
        refine o_iald hx hb hK hP 1 0 rfl rfl (mW M j) (by omega) (by decide) dX6_blow_91 ?_
        refine lv_iconst (v := nI 1) hx hb dX6_blow_92 (by decide +kernel) ?_
        refine lv_iadd hx hb dX6_blow_93 ?_
        rw [nI_add]
        refine o_iast hx hb hK hP hD hS 1 0 rfl rfl (mW M j) (by omega) (by decide) (upd_nI (ovc ov M (j + 1)) (mW M j) (((ovc ov M (j + 1)) (mW M j)) + 1)) dX6_blow_94 (fun H locs hP hD hS => ?_)
        have hP : va_P G vwCl (wWe cy x (va_up (ovc ov M (j + 1)) (mW M j) (((ovc ov M (j + 1)) (mW M j)) + 1)) ++ wDo cy q (mP M, mN M, mS M, mB M, mT M, mR M, mO M, mW M, mL M, blF M f ((j + 1)), mA M, mU M, va_up (blH M f ((j + 1))) j (FP.fsub ((blH M f ((j + 1))) j) (FP.fdiv f (FP.i2f (nI (1 + ((ovc ov M (j + 1)) (mW M j))))))))) H := hP
        have hD : va_D A (wWe cy x (va_up (ovc ov M (j + 1)) (mW M j) (((ovc ov M (j + 1)) (mW M j)) + 1)) ++ wDo cy q (mP M, mN M, mS M, mB M, mT M, mR M, mO M, mW M, mL M, blF M f ((j + 1)), mA M, mU M, va_up (blH M f ((j + 1))) j (FP.fsub ((blH M f ((j + 1))) j) (FP.fdiv f (FP.i2f (nI (1 + ((ovc ov M (j + 1)) (mW M j))))))))) := hD
        refine lv_aload_n hx hb dX6_blow_95 rfl (lv_at hl 4 rfl) ?_
        refine va_get (D := G) (ci := 0) (v := .ref (q 11)) (C := RX1) (T := TX1) (N := 13) hx hb hts iX6_blow_X1 hown hK hP 2 rfl rfl 11 (by decide) (hts (.fieldLink RX6 33 "NailedOrders$Door" "strengths" "[F") (by decide +kernel)) (fun _ h9 => h9) rfl dX6_blow_96 ?_
        refine lv_iload hx hb dX6_blow_99 (lv_at hl 1 rfl) ?_
        refine o_fald hx hb hK hP 9 1 rfl rfl j (by omega) (by decide) dX6_blow_101 ?_
        rw [eU]
        refine lv_fconst0 hx hb dX6_blow_102 ?_
        refine lv_fcmp hx hb dX6_blow_103 ?_
        refine lv_if_gt (tgt := 118) hx hb dX6_blow_104 (by decide) (fun c104 => ?_) (fun c104 => ?_)
        · have hfl : ¬ flB M f j = true := fun z => (flB_iff.mp z).2 c104
          refine lv_iinc (v := dI j) (lv' := [(4, .int (dI j)), (5, .int (nI (mW M j))), (3, .int (nI (cR (flB M f) (j + 1) (mN M - (j + 1))))), (0, .ref (x 0)), (1, .ref (q 0)), (2, .float f)]) hx hb dX6_blow_118 hl (k := 1) rfl (dI_dec j) (by decide) rfl (fun ls hl => ?_)
          refine lv_goto (tgt := 34) hx hb dX6_blow_121 (by decide) ?_
          refine ih34 j ls H locs ?_ ?_ ?_
          · exact ⟨by omega, by show va_P _ _ (wWe cy x (ovc ov M j) ++ wDo cy q (mP M, mN M, mS M, mB M, mT M, mR M, mO M, mW M, mL M, blF M f j, mA M, mU M, blH M f j)) _ ∧ va_D _ (wWe cy x (ovc ov M j) ++ wDo cy q (mP M, mN M, mS M, mB M, mT M, mR M, mO M, mW M, mL M, blF M f j, mA M, mU M, blH M f j)) ∧ _; rw [← ovc_u (ov := ov) hjn c45, ← blF_f (f := f) hfl, ← blH_u (f := f) hjn c45, ← eS]; exact ⟨hP, hD, hS⟩⟩
          · show lv_has ls 6 [(4, .int (dI j)), (3, .int (nI (cR (flB M f) j (mN M - j)))), (0, .ref (x 0)), (1, .ref (q 0)), (2, .float f)]
            rw [cR_hf hjn hfl]
            exact lv_sub hl [0, 2, 3, 4, 5] rfl
          · exact Nat.lt_succ_self j
        · have hfl : flB M f j = true := flB_iff.mpr ⟨c45, c104⟩
          refine lv_aload_n hx hb dX6_blow_107 rfl (lv_at hl 4 rfl) ?_
          refine va_get (D := G) (ci := 0) (v := .ref (q 12)) (C := RX1) (T := TX1) (N := 13) hx hb hts iX6_blow_X1 hown hK hP 2 rfl rfl 12 (by decide) (hts (.fieldLink RX6 37 "NailedOrders$Door" "fates" "[I") (by decide +kernel)) (fun _ h9 => h9) rfl dX6_blow_108 ?_
          refine lv_iload hx hb dX6_blow_111 (lv_at hl 1 rfl) ?_
          refine lv_iconst (v := nI 2) hx hb dX6_blow_113 (by decide +kernel) ?_
          refine o_iast hx hb hK hP hD hS 10 0 rfl rfl j (by omega) (by decide) (upd_nI (blF M f ((j + 1))) j 2) dX6_blow_114 (fun H locs hP hD hS => ?_)
          have hP : va_P G vwCl (wWe cy x (va_up (ovc ov M (j + 1)) (mW M j) (((ovc ov M (j + 1)) (mW M j)) + 1)) ++ wDo cy q (mP M, mN M, mS M, mB M, mT M, mR M, mO M, mW M, mL M, va_up (blF M f ((j + 1))) j 2, mA M, mU M, va_up (blH M f ((j + 1))) j (FP.fsub ((blH M f ((j + 1))) j) (FP.fdiv f (FP.i2f (nI (1 + ((ovc ov M (j + 1)) (mW M j))))))))) H := hP
          have hD : va_D A (wWe cy x (va_up (ovc ov M (j + 1)) (mW M j) (((ovc ov M (j + 1)) (mW M j)) + 1)) ++ wDo cy q (mP M, mN M, mS M, mB M, mT M, mR M, mO M, mW M, mL M, va_up (blF M f ((j + 1))) j 2, mA M, mU M, va_up (blH M f ((j + 1))) j (FP.fsub ((blH M f ((j + 1))) j) (FP.fdiv f (FP.i2f (nI (1 + ((ovc ov M (j + 1)) (mW M j))))))))) := hD
          refine lv_iinc (v := nI (cR (flB M f) (j + 1) (mN M - (j + 1)) + 1)) (lv' := [(3, .int (nI (cR (flB M f) (j + 1) (mN M - (j + 1)) + 1))), (5, .int (nI (mW M j))), (4, .int (nI j)), (0, .ref (x 0)), (1, .ref (q 0)), (2, .float f)]) hx hb dX6_blow_115 hl (k := 2) rfl (nI_1 (cR (flB M f) (j + 1) (mN M - (j + 1)))) (by decide) rfl (fun ls hl => ?_)
          refine lv_iinc (v := dI j) (lv' := [(4, .int (dI j)), (3, .int (nI (cR (flB M f) (j + 1) (mN M - (j + 1)) + 1))), (5, .int (nI (mW M j))), (0, .ref (x 0)), (1, .ref (q 0)), (2, .float f)]) hx hb dX6_blow_118 hl (k := 2) rfl (dI_dec j) (by decide) rfl (fun ls hl => ?_)
          refine lv_goto (tgt := 34) hx hb dX6_blow_121 (by decide) ?_
          refine ih34 j ls H locs ?_ ?_ ?_
          · exact ⟨by omega, by show va_P _ _ (wWe cy x (ovc ov M j) ++ wDo cy q (mP M, mN M, mS M, mB M, mT M, mR M, mO M, mW M, mL M, blF M f j, mA M, mU M, blH M f j)) _ ∧ va_D _ (wWe cy x (ovc ov M j) ++ wDo cy q (mP M, mN M, mS M, mB M, mT M, mR M, mO M, mW M, mL M, blF M f j, mA M, mU M, blH M f j)) ∧ _; rw [← ovc_u (ov := ov) hjn c45, ← blF_u (f := f) hjn hfl, ← blH_u (f := f) hjn c45, ← eS]; exact ⟨hP, hD, hS⟩⟩
          · show lv_has ls 6 [(4, .int (dI j)), (3, .int (nI (cR (flB M f) j (mN M - j)))), (0, .ref (x 0)), (1, .ref (q 0)), (2, .float f)]
            rw [cR_ht hjn hfl]
            exact lv_sub hl [0, 1, 3, 4, 5] rfl
          · exact Nat.lt_succ_self j
  · refine lv_aload_n hx hb dX6_blow_12 rfl (lv_at hl 2 rfl) ?_
    refine va_get (D := G) (ci := 5) (v := .ref (x 2)) (C := RX6) (T := TX6) (N := 2) hx hb hts iX6_blow_X6 hown hK hP 0 rfl rfl 1 (by decide) (hts (.fieldLink RX6 18 "NailedOrders$Weather" "over" "[I") (by decide +kernel)) (fun _ h9 => h9) rfl dX6_blow_13 ?_
    refine lv_iload hx hb dX6_blow_16 (lv_at hl 0 rfl) ?_
    refine lv_iconst (v := nI 0) hx hb dX6_blow_18 (by decide +kernel) ?_
    refine o_iast hx hb hK hP hD hS 1 0 rfl rfl i (by omega) (by decide) (upd_nI (ovz ov i) i 0) dX6_blow_19 (fun H locs hP hD hS => ?_)
    have hP : va_P G vwCl (wWe cy x (va_up (ovz ov i) i 0) ++ wDo cy q M) H := hP
    have hD : va_D A (wWe cy x (va_up (ovz ov i) i 0) ++ wDo cy q M) := hD
    refine lv_iinc (v := nI (i + 1)) (lv' := [(4, .int (nI (i + 1))), (3, .int (nI 0)), (0, .ref (x 0)), (1, .ref (q 0)), (2, .float f)]) hx hb dX6_blow_20 hl (k := 0) rfl (nI_1 i) (by decide) rfl (fun ls hl => ?_)
    refine lv_goto (tgt := 5) hx hb dX6_blow_23 (by decide) ?_
    refine ih5 (i + 1) ls H locs ?_ ?_ ?_
    · exact ⟨by omega, by rw [← ovz_s ov i]; exact ⟨hP, hD, hS⟩⟩
    · show lv_has ls 6 [(4, .int (nI (i + 1))), (3, .int (nI 0)), (0, .ref (x 0)), (1, .ref (q 0)), (2, .float f)]
      exact lv_sub hl [0, 1, 2, 3, 4] rfl
    · omega
