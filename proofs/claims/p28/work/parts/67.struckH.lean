set_option maxHeartbeats 4000000 in
set_option maxRecDepth 100000 in
theorem kL_isStruck_h (l : Launch) (G : va_G) (cy : Nat → ClassId) {H0 : Heap} {z : Nat} {q h x r y L : Nat → Nat} {kh : Nat} {d : Nat → Nat → Nat} {E : Nat → MT} {M : MT} {A0 : Nat → Prop} (hk4 : kh ≤ 4) (hW : WB M) (hN : mN M ≤ 15) (hP : va_P G vwCl ([oSy z q h x r y] ++ (wHi cy h kh d E ++ (wDo cy q M ++ wLa cy L M))) H0) (hD0 : va_D A0 ([oSy z q h x r y] ++ (wHi cy h kh d E ++ (wDo cy q M ++ wLa cy L M)))) (k : Nat) (v : Int32) (hn : 0 < mN M) (hkv : lwN v % mN M = k) (hh : mF M k = 1) (hl4 : 0 < lwN (v >>> (nI 6 &&& 31)) % 4) (hHk : Fin32 (mH M k)) (hNS : Fin32 (FP.fadd (mH M k) (FP.fmul (FP.fsub 1092616192 (mH M k)) 1056964608))) : MutS l yL_isStruck wsL_isStruck 4 160 [.ref z, .ref (L 0), .ref (L 2), .ref (L 4), .int v] H0 G cy 1 h ([oSy z q h x r y] ++ (wHi cy h kh d E ++ (wDo cy q M ++ wLa cy L M))) [oSy z q h x r y] (wDo cy q (mP M, mN M, mS M, mB M, mT M, mR M, mO M, mW M, mL M, mF M, mA M, mU M, va_up (mH M) k (FP.fadd (mH M k) (FP.fmul (FP.fsub 1092616192 (mH M k)) 1056964608))) ++ wLa cy L (mP M, mN M, mS M, mB M, mT M, mR M, mO M, mW M, mL M, mF M, mA M, mU M, va_up (mH M) k (FP.fadd (mH M k) (FP.fmul (FP.fsub 1092616192 (mH M k)) 1056964608)))) := by
  refine Met.ofW (cc := cL_isStruck) (maxL := 8) (ret := (some .boolean)) (by decide) rfl ?_
  intro p e s m args below meth c s₁ B hml hv
  obtain ⟨rfl, hH, hK⟩ := hv
  subst hH
  have hx := B.exec
  have hb := B.bytes
  have hr := B.returns
  have hts := atoms_spec (ws := wsL_isStruck) B.pre
  have hown : s.vm.findClass RL = some m.cls := findClass_of_methodNamed B.named
  have hlocks := B.notSynchronized
  have hl := lv_entry ([.ref z, .ref (L 0), .ref (L 2), .ref (L 4), .int v]) (n := 8) (Nat.le_of_ble_eq_true rfl)
  rw [lg_entry_eq]
  generalize (lg_sl ([.ref z, .ref (L 0), .ref (L 2), .ref (L 4), .int v]) ++ List.replicate (8 - (lg_sl ([.ref z, .ref (L 0), .ref (L 2), .ref (L 4), .int v])).length) Slot.unset).toArray = ls at hl ⊢
  have hl : lv_has ls 8 [(0, .ref z), (1, .ref (L 0)), (2, .ref (L 2)), (3, .ref (L 4)), (4, .int v)] := hl
  obtain ⟨bP, bN, bR, bO, bW, bL, bF⟩ := id hW
  have hPl := hP.sub (ws' := wLa cy L M) [48, 49, 50, 51, 52] rfl
  have hPs := hP.sub (ws' := [oSy z q h x r y] ++ wDo cy q M) [0, 39, 40, 41, 42, 43, 44, 45, 46, 47] rfl
  have hk : k < mN M := hkv ▸ Nat.mod_lt _ hn
  have hD := hD0.self (sz := s.heap.size)
  generalize hAe : va_A ([oSy z q h x r y] ++ (wHi cy h kh d E ++ (wDo cy q M ++ wLa cy L M))) s.heap.size = A at hD ⊢
  have hA : ∀ q : Nat, s.heap.size ≤ q → A q := fun q h => by rw [← hAe]; exact Or.inr h
  have hS : va_S A s.heap s.heap [] := va_S.rf
  refine lv_aload_n hx hb dL_isStruck_0 rfl (lv_at hl 1 rfl) ?_
  refine lv_iconst (v := nI 1) hx hb dL_isStruck_1 (by decide +kernel) ?_
  refine o_iald hx hb hK hP 48 0 rfl rfl 1 (by omega) (by decide) dL_isStruck_2 ?_
  rw [show gI M 1 = mN M from rfl]
  refine o_if_ne (tgt := 30) hx hb dL_isStruck_3 (by decide) (by omega) (fun c3 => ?_) (fun c3 => ?_)
  · refine lv_iload hx hb dL_isStruck_30 (lv_at hl 4 rfl) ?_
    refine lv_aload_n hx hb dL_isStruck_32 rfl (lv_at hl 1 rfl) ?_
    refine lv_iconst (v := nI 1) hx hb dL_isStruck_33 (by decide +kernel) ?_
    refine o_iald hx hb hK hP 48 0 rfl rfl 1 (by omega) (by decide) dL_isStruck_34 ?_
    rw [show gI M 1 = mN M from rfl]
    refine o_SI (As := [.int v, .int (nI (mN M))]) (rest := []) ⟨hx, hb, hml, hown, hts⟩ (kL_low l G cy v (mN M) hn (by omega)) (va_cwS 2 hts gL_isStruck_L_low rfl rfl rfl (by decide +kernel) ⟨Nat.le_of_ble_eq_true rfl, Nat.le_of_ble_eq_true rfl⟩) hK rfl hl.1 rfl (Nat.le_of_ble_eq_true rfl) dL_isStruck_35 ⟨Nat.le_of_ble_eq_true rfl, Nat.le_of_ble_eq_true rfl⟩ ?_
    rw [hkv]
    refine lv_istore (lv' := [(5, .int (nI k)), (0, .ref z), (1, .ref (L 0)), (2, .ref (L 2)), (3, .ref (L 4)), (4, .int v)]) hx hb dL_isStruck_38 hl (by decide) rfl (fun ls hl => ?_)
    refine lv_aload_n hx hb dL_isStruck_40 rfl (lv_at hl 3 rfl) ?_
    refine lv_iconst (v := nI 4) hx hb dL_isStruck_41 (by decide +kernel) ?_
    refine lv_iload hx hb dL_isStruck_42 (lv_at hl 0 rfl) ?_
    refine lv_imul hx hb dL_isStruck_44 ?_
    rw [pk_mul]
    refine lv_iconst (v := nI 3) hx hb dL_isStruck_45 (by decide +kernel) ?_
    refine lv_iadd hx hb dL_isStruck_46 ?_
    rw [nI_add]
    refine o_iald hx hb hK hP 50 0 rfl rfl ((4 * k) + 3) (by omega) (by decide) dL_isStruck_47 ?_
    rw [aI_3]
    refine o_ifb_ne (tgt := 79) hx hb dL_isStruck_48 (by decide) (fun c48 => ?_) (fun c48 => ?_)
    · refine lv_iload hx hb dL_isStruck_79 (lv_at hl 5 rfl) ?_
      refine lv_bipush (v := nI 6) hx hb dL_isStruck_81 (by decide +kernel) ?_
      refine lv_ishr hx hb dL_isStruck_83 ?_
      rw [show v >>> (nI 6 &&& 31) = v >>> (nI 6 &&& 31) from rfl]
      refine lv_iconst (v := nI 4) hx hb dL_isStruck_84 (by decide +kernel) ?_
      refine o_SI (As := [.int (v >>> (nI 6 &&& 31)), .int (nI 4)]) (rest := []) ⟨hx, hb, hml, hown, hts⟩ (kL_low l G cy (v >>> (nI 6 &&& 31)) 4 (by decide) (by omega)) (va_cwS 2 hts gL_isStruck_L_low rfl rfl rfl (by decide +kernel) ⟨Nat.le_of_ble_eq_true rfl, Nat.le_of_ble_eq_true rfl⟩) hK rfl hl.1 rfl (Nat.le_of_ble_eq_true rfl) dL_isStruck_85 ⟨Nat.le_of_ble_eq_true rfl, Nat.le_of_ble_eq_true rfl⟩ ?_
      refine o_if_le (tgt := 139) hx hb dL_isStruck_88 (by decide) (by omega) (fun c88 => ?_) (fun c88 => ?_)
      · exact absurd c88 (by omega)
      · refine lv_aload_n hx hb dL_isStruck_91 rfl (lv_at hl 4 rfl) ?_
        refine lv_iload hx hb dL_isStruck_92 (lv_at hl 0 rfl) ?_
        refine o_dald hx hb hK hP 52 3 rfl rfl k (by omega) (by decide) dL_isStruck_94 ?_
        rw [tD_k _ (by omega)]
        refine lv_d2f hx hb dL_isStruck_95 (d2f_n (FP.Core.FFin.notNaN (hHk))) ?_
        rw [d2f_f2d (FP.Core.FFin.notNaN (hHk))]
        refine lv_fstore (lv' := [(6, .float (mH M k)), (5, .int (nI k)), (0, .ref z), (1, .ref (L 0)), (2, .ref (L 2)), (3, .ref (L 4)), (4, .int v)]) hx hb dL_isStruck_96 hl (by decide) rfl (fun ls hl => ?_)
        refine lv_fload hx hb dL_isStruck_98 (lv_at hl 0 rfl) ?_
        refine lv_ldcf hx hb hown (hts (.constantFloat RL 91 (1092616192)) (by decide +kernel)) dL_isStruck_100 ?_
        refine lv_fload hx hb dL_isStruck_102 (lv_at hl 0 rfl) ?_
        refine lv_fsub hx hb dL_isStruck_104 (n32_of (sub_n ten_fin hHk)) ?_
        refine lv_ldcf hx hb hown (hts (.constantFloat RL 92 (1056964608)) (by decide +kernel)) dL_isStruck_105 ?_
        refine lv_fmul hx hb dL_isStruck_107 (n32_of (ham_n2 hHk)) ?_
        refine lv_fadd hx hb dL_isStruck_108 (n32_of (FP.Core.FFin.notNaN hNS)) ?_
        refine lv_fstore (lv' := [(6, .float (FP.fadd (mH M k) (FP.fmul (FP.fsub 1092616192 (mH M k)) 1056964608))), (5, .int (nI k)), (0, .ref z), (1, .ref (L 0)), (2, .ref (L 2)), (3, .ref (L 4)), (4, .int v)]) hx hb dL_isStruck_109 hl (by decide) rfl (fun ls hl => ?_)
        refine lv_aload_n hx hb dL_isStruck_111 rfl (lv_at hl 5 rfl) ?_
        refine lv_iload hx hb dL_isStruck_112 (lv_at hl 1 rfl) ?_
        refine lv_fload hx hb dL_isStruck_114 (lv_at hl 0 rfl) ?_
        refine lv_f2d hx hb dL_isStruck_116 (f2d_n (FP.Core.FFin.notNaN hNS)) ?_
        refine o_dast hx hb hK hP hD hS 52 3 rfl rfl k (by omega) (by decide) (tD_up M (by omega) (FP.fadd (mH M k) (FP.fmul (FP.fsub 1092616192 (mH M k)) 1056964608))) dL_isStruck_117 (fun H locs hP hD hS => ?_)
        have hP : va_P G vwCl ([oSy z q h x r y] ++ [(h 0, .inr (1, [.ref (h 1), .int (nI kh)])), (h 1, eR cy 4 (fun i => some (d i 0)))] ++ wDo cy (d 0) (E 0) ++ wDo cy (d 1) (E 1) ++ wDo cy (d 2) (E 2) ++ wDo cy (d 3) (E 3) ++ wDo cy q M ++ wLa cy L ((mP M, mN M, mS M, mB M, mT M, mR M, mO M, mW M, mL M, mF M, mA M, mU M, va_up (mH M) k (FP.fadd (mH M k) (FP.fmul (FP.fsub 1092616192 (mH M k)) 1056964608))))) H := hP
        have hD : va_D A ([oSy z q h x r y] ++ [(h 0, .inr (1, [.ref (h 1), .int (nI kh)])), (h 1, eR cy 4 (fun i => some (d i 0)))] ++ wDo cy (d 0) (E 0) ++ wDo cy (d 1) (E 1) ++ wDo cy (d 2) (E 2) ++ wDo cy (d 3) (E 3) ++ wDo cy q M ++ wLa cy L ((mP M, mN M, mS M, mB M, mT M, mR M, mO M, mW M, mL M, mF M, mA M, mU M, va_up (mH M) k (FP.fadd (mH M k) (FP.fmul (FP.fsub 1092616192 (mH M k)) 1056964608))))) := hD
        refine lv_aload_n hx hb dL_isStruck_118 rfl (lv_at hl 2 rfl) ?_
        refine lv_iload hx hb dL_isStruck_119 (lv_at hl 1 rfl) ?_
        have hPc := hP.sub (ws' := [oSy z q h x r y] ++ (wHi cy h kh d E ++ wDo cy q M)) [0, 1, 2, 3, 4, 5, 6, 7, 8, 9, 10, 11, 12, 13, 14, 15, 16, 17, 18, 19, 20, 21, 22, 23, 24, 25, 26, 27, 28, 29, 30, 31, 32, 33, 34, 35, 36, 37, 38, 39, 40, 41, 42, 43, 44, 45, 46, 47] rfl
        have hDc := hD.sub (ws' := [oSy z q h x r y] ++ (wHi cy h kh d E ++ wDo cy q M)) [0, 1, 2, 3, 4, 5, 6, 7, 8, 9, 10, 11, 12, 13, 14, 15, 16, 17, 18, 19, 20, 21, 22, 23, 24, 25, 26, 27, 28, 29, 30, 31, 32, 33, 34, 35, 36, 37, 38, 39, 40, 41, 42, 43, 44, 45, 46, 47] (by decide) rfl
        have hFc := va_free (wc := [oSy z q h x r y] ++ (wHi cy h kh d E ++ wDo cy q M)) hD hS hA [0, 1, 2, 3, 4, 5, 6, 7, 8, 9, 10, 11, 12, 13, 14, 15, 16, 17, 18, 19, 20, 21, 22, 23, 24, 25, 26, 27, 28, 29, 30, 31, 32, 33, 34, 35, 36, 37, 38, 39, 40, 41, 42, 43, 44, 45, 46, 47] rfl
        refine va_calli (va_runV (As := [.int (nI k)]) (rest := []) ⟨hx, hb, hml, hown, hts⟩ (kX7_hammer l G cy hk4 hW hPc hDc k hk hh (n32_of (sub_n ten_fin hHk)) (n32_of (ham_n2 hHk)) (n32_of (FP.Core.FFin.notNaN hNS)) (n32_of (mul_n hNS f100))) (cwV 1 hts gL_isStruck_X7_hammer rfl rfl rfl (by decide +kernel) ⟨Nat.le_of_ble_eq_true rfl, Nat.le_of_ble_eq_true rfl⟩) ⟨pR_blind, va_recv hK hP (ci := 6) (q0 := 0) rfl rfl, pR_at hK⟩ rfl rfl hl.1 rfl (lv_room (Nat.le_of_ble_eq_true rfl)) dL_isStruck_121 ⟨Nat.zero_le _, Nat.zero_le _⟩) hS (fun q _ h => hFc q h) hFc (fun r_ u_ t_ H locs ht hvm hw_ hB hz1 hk1 hS => ?_)
        obtain ⟨k1, d1, E1⟩ := u_
        obtain ⟨hr_, hk5⟩ := hw_
        have hk5 : k1 ≤ 4 := hk5
        have hr_ : r_ = FP.f2i (FP.fmul (FP.fadd (mH M k) (FP.fmul (FP.fsub 1092616192 (mH M k)) 1056964608)) 1120403456) := hr_
        subst hr_
        have hB : va_P G vwCl ([oSy z q h x r y] ++ (wHi cy h k1 d1 E1 ++ wDo cy q (mP M, mN M, mS M, mB M, mT M, mR M, mO M, mW M, mL M, mF M, mA M, mU M, va_up (mH M) k (FP.fadd (mH M k) (FP.fmul (FP.fsub 1092616192 (mH M k)) 1056964608))))) t_.heap ∧ va_D (va_A ([oSy z q h x r y] ++ (wHi cy h kh d E ++ wDo cy q M)) _) ([oSy z q h x r y] ++ (wHi cy h k1 d1 E1 ++ wDo cy q (mP M, mN M, mS M, mB M, mT M, mR M, mO M, mW M, mL M, mF M, mA M, mU M, va_up (mH M) k (FP.fadd (mH M k) (FP.fmul (FP.fsub 1092616192 (mH M k)) 1056964608))))) := hB
        rw [ht] at hB
        obtain ⟨hP1, hD1⟩ := hB
        obtain ⟨hP, hD⟩ := va_join (wr := wLa cy L (mP M, mN M, mS M, mB M, mT M, mR M, mO M, mW M, mL M, mF M, mA M, mU M, va_up (mH M) k (FP.fadd (mH M k) (FP.fmul (FP.fsub 1092616192 (mH M k)) 1056964608)))) hP hD [0, 1, 2, 3, 4, 5, 6, 7, 8, 9, 10, 11, 12, 13, 14, 15, 16, 17, 18, 19, 20, 21, 22, 23, 24, 25, 26, 27, 28, 29, 30, 31, 32, 33, 34, 35, 36, 37, 38, 39, 40, 41, 42, 43, 44, 45, 46, 47] [48, 49, 50, 51, 52] rfl rfl (by decide) (by decide) hk1 hFc hP1 hD1
        have hP : va_P G vwCl ([oSy z q h x r y] ++ (wHi cy h k1 d1 E1 ++ (wDo cy q (mP M, mN M, mS M, mB M, mT M, mR M, mO M, mW M, mL M, mF M, mA M, mU M, va_up (mH M) k (FP.fadd (mH M k) (FP.fmul (FP.fsub 1092616192 (mH M k)) 1056964608))) ++ wLa cy L (mP M, mN M, mS M, mB M, mT M, mR M, mO M, mW M, mL M, mF M, mA M, mU M, va_up (mH M) k (FP.fadd (mH M k) (FP.fmul (FP.fsub 1092616192 (mH M k)) 1056964608)))))) H := hP.sub [5, 6, 7, 8, 9, 10, 11, 12, 13, 14, 15, 16, 17, 18, 19, 20, 21, 22, 23, 24, 25, 26, 27, 28, 29, 30, 31, 32, 33, 34, 35, 36, 37, 38, 39, 40, 41, 42, 43, 44, 45, 46, 47, 48, 49, 50, 51, 52, 0, 1, 2, 3, 4] rfl
        have hD : va_D A ([oSy z q h x r y] ++ (wHi cy h k1 d1 E1 ++ (wDo cy q (mP M, mN M, mS M, mB M, mT M, mR M, mO M, mW M, mL M, mF M, mA M, mU M, va_up (mH M) k (FP.fadd (mH M k) (FP.fmul (FP.fsub 1092616192 (mH M k)) 1056964608))) ++ wLa cy L (mP M, mN M, mS M, mB M, mT M, mR M, mO M, mW M, mL M, mF M, mA M, mU M, va_up (mH M) k (FP.fadd (mH M k) (FP.fmul (FP.fsub 1092616192 (mH M k)) 1056964608)))))) := hD.sub [5, 6, 7, 8, 9, 10, 11, 12, 13, 14, 15, 16, 17, 18, 19, 20, 21, 22, 23, 24, 25, 26, 27, 28, 29, 30, 31, 32, 33, 34, 35, 36, 37, 38, 39, 40, 41, 42, 43, 44, 45, 46, 47, 48, 49, 50, 51, 52, 0, 1, 2, 3, 4] (by decide) rfl
        refine lv_fload hx hb dL_isStruck_124 (lv_at hl 0 rfl) ?_
        refine lv_ldcf hx hb hown (hts (.constantFloat RL 57 (1120403456)) (by decide +kernel)) dL_isStruck_126 ?_
        refine lv_fmul hx hb dL_isStruck_128 (n32_of (mul_n hNS f100)) ?_
        refine lv_f2i hx hb dL_isStruck_129 ?_
        refine lv_icmp_ne (tgt := 137) hx hb dL_isStruck_130 (by decide) (fun c130 => ?_) (fun c130 => ?_)
        · exact absurd rfl c130
        · refine lv_iconst (v := nI 1) hx hb dL_isStruck_133 (by decide +kernel) ?_
          refine lv_goto (tgt := 138) hx hb dL_isStruck_134 (by decide) ?_
          exact o_endSz (k := k1) (d := d1) (E := E1) hx hb hr hlocks dL_isStruck_138 (by decide) hk5 hP hD hS rfl
    · exact absurd hh c48
  · exact absurd c3 (by omega)
