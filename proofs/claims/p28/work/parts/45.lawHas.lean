set_option maxHeartbeats 4000000 in
set_option maxRecDepth 100000 in
theorem kL_has (l : Launch) (G : va_G) (cy : Nat → ClassId) {H0 : Heap} {L : Nat → Nat} {ua : Nat} {uu : Nat → UInt64} {M : MT} {A0 : Nat → Prop} (hW : WB M) (hF : WF M) (hU : ∀ k, rngB (mU M k) = true) (hN : mN M ≤ 15) (hP : va_P G vwCl (wLa cy L M ++ [(ua, eD cy 1 uu)]) H0) (hD0 : va_D A0 (wLa cy L M ++ [(ua, eD cy 1 uu)])) (w : Nat) (hw : w < 16) : MutU l yL_has wsL_has 1 26 [.ref (L 0), .ref (L 1), .ref (L 2), .ref (L 3), .int (nI w), .ref ua] H0 G cy (kF M w = true) (vF M w) (wLa cy L M ++ [(ua, eD cy 1 uu)]) (wLa cy L M) ua := by
  refine Met.ofW (cc := cL_has) (maxL := 13) (ret := (some .boolean)) (by decide) rfl ?_
  intro p e s m args below meth c s₁ B hml hv
  obtain ⟨rfl, hH, hK⟩ := hv
  subst hH
  have hx := B.exec
  have hb := B.bytes
  have hr := B.returns
  have hts := atoms_spec (ws := wsL_has) B.pre
  have hown : s.vm.findClass RL = some m.cls := findClass_of_methodNamed B.named
  have hlocks := B.notSynchronized
  have hl := lv_entry ([.ref (L 0), .ref (L 1), .ref (L 2), .ref (L 3), .int (nI w), .ref ua]) (n := 13) (Nat.le_of_ble_eq_true rfl)
  rw [lg_entry_eq]
  generalize (lg_sl ([.ref (L 0), .ref (L 1), .ref (L 2), .ref (L 3), .int (nI w), .ref ua]) ++ List.replicate (13 - (lg_sl ([.ref (L 0), .ref (L 1), .ref (L 2), .ref (L 3), .int (nI w), .ref ua])).length) Slot.unset).toArray = ls at hl ⊢
  have hl : lv_has ls 13 [(0, .ref (L 0)), (1, .ref (L 1)), (2, .ref (L 2)), (3, .ref (L 3)), (4, .int (nI w)), (5, .ref ua)] := hl
  obtain ⟨bP, bN, bR, bO, bW, bL, bF⟩ := id hW
  have hPl := hP.sub (ws' := wLa cy L M) [0, 1, 2, 3, 4] rfl
  have hD := hD0.self (sz := s.heap.size)
  generalize hAe : va_A (wLa cy L M ++ [(ua, eD cy 1 uu)]) s.heap.size = A at hD ⊢
  have hA : ∀ q : Nat, s.heap.size ≤ q → A q := fun q h => by rw [← hAe]; exact Or.inr h
  have hS : va_S A s.heap s.heap [] := va_S.rf
  refine lv_iload hx hb dL_has_0 (lv_at hl 4 rfl) ?_
  refine lv_istore (lv' := [(6, .int (nI w)), (0, .ref (L 0)), (1, .ref (L 1)), (2, .ref (L 2)), (3, .ref (L 3)), (4, .int (nI w)), (5, .ref ua)]) hx hb dL_has_2 hl (by decide) rfl (fun ls hl => ?_)
  refine lv_aload_n hx hb dL_has_4 rfl (lv_at hl 1 rfl) ?_
  refine lv_aload_n hx hb dL_has_5 rfl (lv_at hl 2 rfl) ?_
  refine lv_aload_n hx hb dL_has_6 rfl (lv_at hl 3 rfl) ?_
  refine lv_iload hx hb dL_has_7 (lv_at hl 0 rfl) ?_
  refine o_SI (As := [.ref (L 0), .ref (L 1), .ref (L 2), .int (nI w)]) (rest := []) ⟨hx, hb, hml, hown, hts⟩ (kL_ruling l G cy hW hN hPl w hw) (va_cwS 4 hts gL_has_L_ruling rfl rfl rfl (by decide +kernel) ⟨Nat.le_of_ble_eq_true rfl, Nat.le_of_ble_eq_true rfl⟩) hK rfl hl.1 rfl (Nat.le_of_ble_eq_true rfl) dL_has_9 ⟨Nat.zero_le _, Nat.zero_le _⟩ ?_
  refine lv_istore (lv' := [(7, .int (lkI (rl M w))), (6, .int (nI w)), (0, .ref (L 0)), (1, .ref (L 1)), (2, .ref (L 2)), (3, .ref (L 3)), (4, .int (nI w)), (5, .ref ua)]) hx hb dL_has_12 hl (by decide) rfl (fun ls hl => ?_)
  refine lv_iconst (v := nI 0) hx hb dL_has_14 (by decide +kernel) ?_
  refine lv_istore (lv' := [(8, .int (nI 0)), (7, .int (lkI (rl M w))), (6, .int (nI w)), (0, .ref (L 0)), (1, .ref (L 1)), (2, .ref (L 2)), (3, .ref (L 3)), (4, .int (nI w)), (5, .ref ua)]) hx hb dL_has_15 hl (by decide) rfl (fun ls hl => ?_)
  refine o_loop (σ := Nat × Nat) (fun (x_ : Nat × Nat) => match x_ with | (n, x) => n ≤ 17 ∧ ch M w n = some x ∧ x < 16) (fun (x_ : Nat × Nat) => match x_ with | (n, x) => [(8, .int (nI n)), (7, .int (lkI (rl M x))), (6, .int (nI x)), (4, .int (nI w)), (0, .ref (L 0)), (1, .ref (L 1)), (2, .ref (L 2)), (3, .ref (L 3)), (5, .ref ua)]) (fun (x_ : Nat × Nat) => match x_ with | (n, x) => 17 - n) (0, w) ⟨Nat.zero_le _, rfl, hw⟩ (lv_sub hl [0, 1, 2, 7, 3, 4, 5, 6, 8] rfl) ?_
  rintro ⟨n, x⟩ ls ⟨h1, h2, h3⟩ hl ih17
  have hl : lv_has ls 13 [(8, .int (nI n)), (7, .int (lkI (rl M x))), (6, .int (nI x)), (4, .int (nI w)), (0, .ref (L 0)), (1, .ref (L 1)), (2, .ref (L 2)), (3, .ref (L 3)), (5, .ref ua)] := hl
  refine lv_iload hx hb dL_has_17 (lv_at hl 1 rfl) ?_
  refine o_lk_lt (tgt := 66) hx hb dL_has_19 (by decide) (fun j hj => by have := rl_lt _ j hj; omega) (fun c19 => ?_) (fun c19 => ?_)
  · refine lv_iload hx hb dL_has_66 (lv_at hl 1 rfl) ?_
    refine o_lk_lt (tgt := 78) hx hb dL_has_68 (by decide) (fun j hj => by have := rl_lt _ j hj; omega) (fun c68 => ?_) (fun c68 => ?_)
    · refine lv_iconst (v := nI 0) hx hb dL_has_78 (by decide +kernel) ?_
      exact o_endU (uu := uu) hx hb hr hlocks dL_has_79 (by decide) hP hS (by rw [bI_f (not_kF (ch_none hW hw h2 (EV_n c19)))]; decide) (fun z => absurd z (not_kF (ch_none hW hw h2 (EV_n c19))))
    · obtain ⟨_, z⟩ := c68; rw [c19] at z; cases z
  · obtain ⟨o, ho⟩ := c19
    rw [ho] at hl
    have hl : lv_has ls 13 [(8, .int (nI n)), (7, .int (nI o)), (6, .int (nI x)), (4, .int (nI w)), (0, .ref (L 0)), (1, .ref (L 1)), (2, .ref (L 2)), (3, .ref (L 3)), (5, .ref ua)] := hl
    have b3 := rl_lt _ _ ho
    refine lv_aload_n hx hb dL_has_22 rfl (lv_at hl 6 rfl) ?_
    refine lv_iconst (v := nI 4) hx hb dL_has_23 (by decide +kernel) ?_
    refine lv_iload hx hb dL_has_24 (lv_at hl 1 rfl) ?_
    refine lv_imul hx hb dL_has_26 ?_
    rw [pk_mul]
    refine lv_iconst (v := nI 2) hx hb dL_has_27 (by decide +kernel) ?_
    refine lv_iadd hx hb dL_has_28 ?_
    rw [nI_add]
    refine o_iald hx hb hK hP 2 0 rfl rfl ((4 * o) + 2) (by omega) (by decide) dL_has_29 ?_
    rw [aI_2]
    refine o_lk_lt (tgt := 66) hx hb dL_has_30 (by decide) (fun j hj => by have := bL o j hj; omega) (fun c30 => ?_) (fun c30 => ?_)
    · refine lv_iload hx hb dL_has_66 (lv_at hl 1 rfl) ?_
      refine o_if_lt (tgt := 78) hx hb dL_has_68 (by decide) (by omega) ?_
      refine lv_iload hx hb dL_has_71 (lv_at hl 0 rfl) ?_
      refine lv_bipush (v := nI 17) hx hb dL_has_73 (by decide +kernel) ?_
      refine o_icmp_ne (tgt := 80) hx hb dL_has_75 (by decide) (by omega) (by omega) (fun c75 => ?_) (fun c75 => ?_)
      · refine lv_aload_n hx hb dL_has_80 rfl (lv_at hl 7 rfl) ?_
        refine lv_iconst (v := nI 2) hx hb dL_has_81 (by decide +kernel) ?_
        refine lv_iload hx hb dL_has_82 (lv_at hl 1 rfl) ?_
        refine lv_imul hx hb dL_has_84 ?_
        rw [pk_mul]
        refine lv_iconst (v := nI 1) hx hb dL_has_85 (by decide +kernel) ?_
        refine lv_iadd hx hb dL_has_86 ?_
        rw [nI_add]
        refine o_dald hx hb hK hP 3 3 rfl rfl ((2 * o) + 1) (by omega) (by decide) dL_has_87 ?_
        rw [vD_1]
        refine lv_d2f hx hb dL_has_88 (d2f_n (FP.Core.FFin.notNaN (hF.2 o))) ?_
        rw [d2f_f2d (FP.Core.FFin.notNaN (hF.2 o))]
        refine lv_fstore (lv' := [(9, .float (mU M o)), (8, .int (nI n)), (7, .int (nI o)), (6, .int (nI x)), (4, .int (nI w)), (0, .ref (L 0)), (1, .ref (L 1)), (2, .ref (L 2)), (3, .ref (L 3)), (5, .ref ua)]) hx hb dL_has_89 hl (by decide) rfl (fun ls hl => ?_)
        refine lv_iconst (v := nI 1) hx hb dL_has_91 (by decide +kernel) ?_
        refine lv_istore (lv' := [(10, .int (nI 1)), (9, .float (mU M o)), (8, .int (nI n)), (7, .int (nI o)), (6, .int (nI x)), (4, .int (nI w)), (0, .ref (L 0)), (1, .ref (L 1)), (2, .ref (L 2)), (3, .ref (L 3)), (5, .ref ua)]) hx hb dL_has_92 hl (by decide) rfl (fun ls hl => ?_)
        refine lv_iload hx hb dL_has_94 (lv_at hl 2 rfl) ?_
        refine lv_iconst (v := nI 1) hx hb dL_has_96 (by decide +kernel) ?_
        refine lv_isub hx hb dL_has_97 ?_
        rw [show nI n - nI 1 = dI n from rfl]
        refine lv_istore (lv' := [(11, .int (dI n)), (10, .int (nI 1)), (9, .float (mU M o)), (8, .int (nI n)), (7, .int (nI o)), (6, .int (nI x)), (4, .int (nI w)), (0, .ref (L 0)), (1, .ref (L 1)), (2, .ref (L 2)), (3, .ref (L 3)), (5, .ref ua)]) hx hb dL_has_98 hl (by decide) rfl (fun ls hl => ?_)
        refine o_loop (σ := Nat × UInt32 × Bool) (fun (x_ : Nat × UInt32 × Bool) => match x_ with | (kk, f, bb) => kk ≤ n ∧ (bb = true → ∃ y, ch M w kk = some y ∧ EV M y = some f) ∧ (bb = false → EV M w = none) ∧ FP.Core.fIsNaN f = false) (fun (x_ : Nat × UInt32 × Bool) => match x_ with | (kk, f, bb) => [(11, .int (dI kk)), (9, .float f), (10, .int (bI (bb = true))), (4, .int (nI w)), (0, .ref (L 0)), (1, .ref (L 1)), (2, .ref (L 2)), (3, .ref (L 3)), (5, .ref ua)]) (fun (x_ : Nat × UInt32 × Bool) => match x_ with | (kk, f, bb) => kk) (n, mU M o, true) ⟨Nat.le_refl _, fun _ => ⟨x, h2, by rw [EV_s hW h3 ho, evo_n c30]; exact chk_t (hU o)⟩, fun z => (by cases z), FP.Core.FFin.notNaN (hF.2 o)⟩ (lv_sub hl [0, 2, 1, 6, 7, 8, 9, 10, 11] rfl) ?_
        rintro ⟨kk, f, bb⟩ ls ⟨hi1, hi2, hi3, hi4⟩ hl ih100
        have hl : lv_has ls 13 [(11, .int (dI kk)), (9, .float f), (10, .int (bI (bb = true))), (4, .int (nI w)), (0, .ref (L 0)), (1, .ref (L 1)), (2, .ref (L 2)), (3, .ref (L 3)), (5, .ref ua)] := hl
        refine lv_iload hx hb dL_has_100 (lv_at hl 0 rfl) ?_
        refine o_ifd_lt (tgt := 207) hx hb dL_has_102 (by decide) (by omega) (fun c102 => ?_) (fun c102 => ?_)
        · subst c102
          refine lv_aload hx hb dL_has_207 (lv_at hl 8 rfl) ?_
          refine lv_iconst (v := nI 0) hx hb dL_has_209 (by decide +kernel) ?_
          refine lv_fload hx hb dL_has_210 (lv_at hl 1 rfl) ?_
          refine lv_f2d hx hb dL_has_212 (f2d_n hi4) ?_
          refine o_dast hx hb hK hP hD hS 5 3 rfl rfl 0 (by omega) (by decide) rfl dL_has_213 (fun H locs hP hD hS => ?_)
          have hP : va_P G vwCl (wLa cy L M ++ [(ua, eD cy 1 (va_up uu 0 (FP.f2d f)))]) H := hP
          have hD : va_D A (wLa cy L M ++ [(ua, eD cy 1 (va_up uu 0 (FP.f2d f)))]) := hD
          refine lv_iload hx hb dL_has_214 (lv_at hl 2 rfl) ?_
          exact o_endU (uu := va_up uu 0 (FP.f2d f)) hx hb hr hlocks dL_has_216 bI_narrow hP hS (bI_congr (has_end (f := f) hi2 hi3).1) (fun z => by rw [va_us]; exact (has_end (f := f) hi2 hi3).2 z)
        · obtain ⟨k, rfl⟩ := c102
          rw [dI_succ] at hl
          refine lv_iload hx hb dL_has_105 (lv_at hl 2 rfl) ?_
          refine o_ifb_eq (tgt := 207) hx hb dL_has_107 (by decide) (fun c107 => ?_) (fun c107 => ?_)
          · refine lv_aload hx hb dL_has_207 (lv_at hl 8 rfl) ?_
            refine lv_iconst (v := nI 0) hx hb dL_has_209 (by decide +kernel) ?_
            refine lv_fload hx hb dL_has_210 (lv_at hl 1 rfl) ?_
            refine lv_f2d hx hb dL_has_212 (f2d_n hi4) ?_
            refine o_dast hx hb hK hP hD hS 5 3 rfl rfl 0 (by omega) (by decide) rfl dL_has_213 (fun H locs hP hD hS => ?_)
            have hP : va_P G vwCl (wLa cy L M ++ [(ua, eD cy 1 (va_up uu 0 (FP.f2d f)))]) H := hP
            have hD : va_D A (wLa cy L M ++ [(ua, eD cy 1 (va_up uu 0 (FP.f2d f)))]) := hD
            refine lv_iload hx hb dL_has_214 (lv_at hl 2 rfl) ?_
            exact o_endU (uu := va_up uu 0 (FP.f2d f)) hx hb hr hlocks dL_has_216 bI_narrow hP hS (bI_congr (has_end2 (f := f) c107 hi3).1) (fun z => by rw [va_us]; exact (has_end2 (f := f) c107 hi3).2 z)
          · obtain ⟨y, hz, hv⟩ := hi2 c107
            refine lv_iload hx hb dL_has_110 (lv_at hl 3 rfl) ?_
            refine lv_istore (lv' := [(6, .int (nI w)), (11, .int (nI k)), (9, .float f), (10, .int (bI (bb = true))), (4, .int (nI w)), (0, .ref (L 0)), (1, .ref (L 1)), (2, .ref (L 2)), (3, .ref (L 3)), (5, .ref ua)]) hx hb dL_has_112 hl (by decide) rfl (fun ls hl => ?_)
            refine lv_iconst (v := nI 0) hx hb dL_has_114 (by decide +kernel) ?_
            refine lv_istore (lv' := [(12, .int (nI 0)), (6, .int (nI w)), (11, .int (nI k)), (9, .float f), (10, .int (bI (bb = true))), (4, .int (nI w)), (0, .ref (L 0)), (1, .ref (L 1)), (2, .ref (L 2)), (3, .ref (L 3)), (5, .ref ua)]) hx hb dL_has_115 hl (by decide) rfl (fun ls hl => ?_)
            refine o_loop (σ := Nat × Nat) (fun (x_ : Nat × Nat) => match x_ with | (i, x2) => i ≤ k ∧ ch M w i = some x2 ∧ x2 < 16) (fun (x_ : Nat × Nat) => match x_ with | (i, x2) => [(12, .int (nI i)), (6, .int (nI x2)), (11, .int (nI k)), (9, .float f), (10, .int (bI (bb = true))), (4, .int (nI w)), (0, .ref (L 0)), (1, .ref (L 1)), (2, .ref (L 2)), (3, .ref (L 3)), (5, .ref ua)]) (fun (x_ : Nat × Nat) => match x_ with | (i, x2) => k - i) (0, w) ⟨Nat.zero_le _, rfl, hw⟩ (lv_sub hl [0, 1, 2, 3, 4, 5, 6, 7, 8, 9, 10] rfl) ?_
            rintro ⟨i, x2⟩ ls ⟨h4, h5, h6⟩ hl ih117
            have hl : lv_has ls 13 [(12, .int (nI i)), (6, .int (nI x2)), (11, .int (nI k)), (9, .float f), (10, .int (bI (bb = true))), (4, .int (nI w)), (0, .ref (L 0)), (1, .ref (L 1)), (2, .ref (L 2)), (3, .ref (L 3)), (5, .ref ua)] := hl
            refine lv_iload hx hb dL_has_117 (lv_at hl 0 rfl) ?_
            refine lv_iload hx hb dL_has_119 (lv_at hl 2 rfl) ?_
            refine o_icmp_ge (tgt := 146) hx hb dL_has_121 (by decide) (by omega) (by omega) (fun c121 => ?_) (fun c121 => ?_)
            · have h7 : ch M w k = some x2 := by rw [show k = i by omega]; exact h5
              obtain ⟨x3, o2, g1, g2, g3⟩ := ch_suc hz
              obtain rfl : x2 = x3 := Option.some.inj (h7.symm.trans g1)
              have b7 := rl_lt x2 o2 g2
              refine lv_aload_n hx hb dL_has_146 rfl (lv_at hl 6 rfl) ?_
              refine lv_aload_n hx hb dL_has_147 rfl (lv_at hl 7 rfl) ?_
              refine lv_aload_n hx hb dL_has_148 rfl (lv_at hl 8 rfl) ?_
              refine lv_iload hx hb dL_has_149 (lv_at hl 1 rfl) ?_
              refine o_SI (As := [.ref (L 0), .ref (L 1), .ref (L 2), .int (nI x2)]) (rest := []) ⟨hx, hb, hml, hown, hts⟩ (kL_ruling l G cy hW hN hPl x2 h6) (va_cwS 4 hts gL_has_L_ruling rfl rfl rfl (by decide +kernel) ⟨Nat.le_of_ble_eq_true rfl, Nat.le_of_ble_eq_true rfl⟩) hK rfl hl.1 rfl (Nat.le_of_ble_eq_true rfl) dL_has_151 ⟨Nat.zero_le _, Nat.zero_le _⟩ ?_
              rw [g2]
              refine lv_istore (lv' := [(7, .int (nI o2)), (12, .int (nI i)), (6, .int (nI x2)), (11, .int (nI k)), (9, .float f), (10, .int (bI (bb = true))), (4, .int (nI w)), (0, .ref (L 0)), (1, .ref (L 1)), (2, .ref (L 2)), (3, .ref (L 3)), (5, .ref ua)]) hx hb dL_has_154 hl (by decide) rfl (fun ls hl => ?_)
              refine lv_fload hx hb dL_has_156 (lv_at hl 4 rfl) ?_
              refine lv_aload_n hx hb dL_has_158 rfl (lv_at hl 10 rfl) ?_
              refine lv_iconst (v := nI 2) hx hb dL_has_159 (by decide +kernel) ?_
              refine lv_iload hx hb dL_has_160 (lv_at hl 0 rfl) ?_
              refine lv_imul hx hb dL_has_162 ?_
              rw [pk_mul]
              refine o_dald hx hb hK hP 3 3 rfl rfl (2 * o2) (by omega) (by decide) dL_has_163 ?_
              rw [vD_0]
              refine lv_d2f hx hb dL_has_164 (d2f_n (FP.Core.FFin.notNaN (hF.1 o2))) ?_
              rw [d2f_f2d (FP.Core.FFin.notNaN (hF.1 o2))]
              refine lv_fmul hx hb dL_has_165 (n32_of (mul_n (rng_fin (ev_fin hv)) (hF.1 o2))) ?_
              refine lv_aload_n hx hb dL_has_166 rfl (lv_at hl 10 rfl) ?_
              refine lv_iconst (v := nI 2) hx hb dL_has_167 (by decide +kernel) ?_
              refine lv_iload hx hb dL_has_168 (lv_at hl 0 rfl) ?_
              refine lv_imul hx hb dL_has_170 ?_
              rw [pk_mul]
              refine lv_iconst (v := nI 1) hx hb dL_has_171 (by decide +kernel) ?_
              refine lv_iadd hx hb dL_has_172 ?_
              rw [nI_add]
              refine o_dald hx hb hK hP 3 3 rfl rfl ((2 * o2) + 1) (by omega) (by decide) dL_has_173 ?_
              rw [vD_1]
              refine lv_d2f hx hb dL_has_174 (d2f_n (FP.Core.FFin.notNaN (hF.2 o2))) ?_
              rw [d2f_f2d (FP.Core.FFin.notNaN (hF.2 o2))]
              refine lv_fadd hx hb dL_has_175 (n32_of (madd_n (rng_fin (ev_fin hv)) (hF.1 o2) (hF.2 o2))) ?_
              refine lv_fstore (lv' := [(9, .float (FP.fadd (FP.fmul f (mA M o2)) (mU M o2))), (7, .int (nI o2)), (12, .int (nI i)), (6, .int (nI x2)), (11, .int (nI k)), (10, .int (bI (bb = true))), (4, .int (nI w)), (0, .ref (L 0)), (1, .ref (L 1)), (2, .ref (L 2)), (3, .ref (L 3)), (5, .ref ua)]) hx hb dL_has_176 hl (by decide) rfl (fun ls hl => ?_)
              refine lv_fload hx hb dL_has_178 (lv_at hl 0 rfl) ?_
              refine lv_ldcf hx hb hown (hts (.constantFloat RL 16 (3463342888)) (by decide +kernel)) dL_has_180 ?_
              refine lv_fcmp hx hb dL_has_182 ?_
              refine lv_if_lt (tgt := 198) hx hb dL_has_183 (by decide) (fun c183 => ?_) (fun c183 => ?_)
              · refine lv_iconst (v := nI 0) hx hb dL_has_198 (by decide +kernel) ?_
                refine lv_istore (lv' := [(10, .int (nI 0)), (9, .float (FP.fadd (FP.fmul f (mA M o2)) (mU M o2))), (7, .int (nI o2)), (12, .int (nI i)), (6, .int (nI x2)), (11, .int (nI k)), (4, .int (nI w)), (0, .ref (L 0)), (1, .ref (L 1)), (2, .ref (L 2)), (3, .ref (L 3)), (5, .ref ua)]) hx hb dL_has_199 hl (by decide) rfl (fun ls hl => ?_)
                refine lv_iinc (v := dI k) (lv' := [(11, .int (dI k)), (10, .int (nI 0)), (9, .float (FP.fadd (FP.fmul f (mA M o2)) (mU M o2))), (7, .int (nI o2)), (12, .int (nI i)), (6, .int (nI x2)), (4, .int (nI w)), (0, .ref (L 0)), (1, .ref (L 1)), (2, .ref (L 2)), (3, .ref (L 3)), (5, .ref ua)]) hx hb dL_has_201 hl (k := 5) rfl (dI_dec k) (by decide) rfl (fun ls hl => ?_)
                refine lv_goto (tgt := 100) hx hb dL_has_204 (by decide) ?_
                refine ih100 (k, FP.fadd (FP.fmul f (mA M o2)) (mU M o2), false) ls ?_ ?_ ?_
                · exact ⟨by omega, fun z => (by cases z), fun _ => ch_none hW hw h7 (by rw [EV_s hW h6 g2, evo_s g3 hv]; exact chk_f (fun z => (rngB_iff.mp z).1 c183)), madd_n (rng_fin (ev_fin hv)) (hF.1 o2) (hF.2 o2)⟩
                · show lv_has ls 13 [(11, .int (dI k)), (9, .float (FP.fadd (FP.fmul f (mA M o2)) (mU M o2))), (10, .int (bI (false = true))), (4, .int (nI w)), (0, .ref (L 0)), (1, .ref (L 1)), (2, .ref (L 2)), (3, .ref (L 3)), (5, .ref ua)]
                  exact lv_sub hl [0, 2, 1, 6, 7, 8, 9, 10, 11] rfl
                · show k < k + 1; omega
              · refine lv_fload hx hb dL_has_186 (lv_at hl 0 rfl) ?_
                refine lv_ldcf hx hb hown (hts (.constantFloat RL 17 (1315859240)) (by decide +kernel)) dL_has_188 ?_
                refine lv_fcmp hx hb dL_has_190 ?_
                refine lv_if_gt (tgt := 198) hx hb dL_has_191 (by decide) (fun c191 => ?_) (fun c191 => ?_)
                · refine lv_iconst (v := nI 0) hx hb dL_has_198 (by decide +kernel) ?_
                  refine lv_istore (lv' := [(10, .int (nI 0)), (9, .float (FP.fadd (FP.fmul f (mA M o2)) (mU M o2))), (7, .int (nI o2)), (12, .int (nI i)), (6, .int (nI x2)), (11, .int (nI k)), (4, .int (nI w)), (0, .ref (L 0)), (1, .ref (L 1)), (2, .ref (L 2)), (3, .ref (L 3)), (5, .ref ua)]) hx hb dL_has_199 hl (by decide) rfl (fun ls hl => ?_)
                  refine lv_iinc (v := dI k) (lv' := [(11, .int (dI k)), (10, .int (nI 0)), (9, .float (FP.fadd (FP.fmul f (mA M o2)) (mU M o2))), (7, .int (nI o2)), (12, .int (nI i)), (6, .int (nI x2)), (4, .int (nI w)), (0, .ref (L 0)), (1, .ref (L 1)), (2, .ref (L 2)), (3, .ref (L 3)), (5, .ref ua)]) hx hb dL_has_201 hl (k := 5) rfl (dI_dec k) (by decide) rfl (fun ls hl => ?_)
                  refine lv_goto (tgt := 100) hx hb dL_has_204 (by decide) ?_
                  refine ih100 (k, FP.fadd (FP.fmul f (mA M o2)) (mU M o2), false) ls ?_ ?_ ?_
                  · exact ⟨by omega, fun z => (by cases z), fun _ => ch_none hW hw h7 (by rw [EV_s hW h6 g2, evo_s g3 hv]; exact chk_f (fun z => (rngB_iff.mp z).2 c191)), madd_n (rng_fin (ev_fin hv)) (hF.1 o2) (hF.2 o2)⟩
                  · show lv_has ls 13 [(11, .int (dI k)), (9, .float (FP.fadd (FP.fmul f (mA M o2)) (mU M o2))), (10, .int (bI (false = true))), (4, .int (nI w)), (0, .ref (L 0)), (1, .ref (L 1)), (2, .ref (L 2)), (3, .ref (L 3)), (5, .ref ua)]
                    exact lv_sub hl [0, 2, 1, 6, 7, 8, 9, 10, 11] rfl
                  · show k < k + 1; omega
                · refine lv_iconst (v := nI 1) hx hb dL_has_194 (by decide +kernel) ?_
                  refine lv_goto (tgt := 199) hx hb dL_has_195 (by decide) ?_
                  refine lv_istore (lv' := [(10, .int (nI 1)), (9, .float (FP.fadd (FP.fmul f (mA M o2)) (mU M o2))), (7, .int (nI o2)), (12, .int (nI i)), (6, .int (nI x2)), (11, .int (nI k)), (4, .int (nI w)), (0, .ref (L 0)), (1, .ref (L 1)), (2, .ref (L 2)), (3, .ref (L 3)), (5, .ref ua)]) hx hb dL_has_199 hl (by decide) rfl (fun ls hl => ?_)
                  refine lv_iinc (v := dI k) (lv' := [(11, .int (dI k)), (10, .int (nI 1)), (9, .float (FP.fadd (FP.fmul f (mA M o2)) (mU M o2))), (7, .int (nI o2)), (12, .int (nI i)), (6, .int (nI x2)), (4, .int (nI w)), (0, .ref (L 0)), (1, .ref (L 1)), (2, .ref (L 2)), (3, .ref (L 3)), (5, .ref ua)]) hx hb dL_has_201 hl (k := 5) rfl (dI_dec k) (by decide) rfl (fun ls hl => ?_)
                  refine lv_goto (tgt := 100) hx hb dL_has_204 (by decide) ?_
                  refine ih100 (k, FP.fadd (FP.fmul f (mA M o2)) (mU M o2), true) ls ?_ ?_ ?_
                  · exact ⟨by omega, fun _ => ⟨x2, h7, by rw [EV_s hW h6 g2, evo_s g3 hv]; exact chk_t (rngB_iff.mpr ⟨c183, c191⟩)⟩, fun z => (by cases z), madd_n (rng_fin (ev_fin hv)) (hF.1 o2) (hF.2 o2)⟩
                  · show lv_has ls 13 [(11, .int (dI k)), (9, .float (FP.fadd (FP.fmul f (mA M o2)) (mU M o2))), (10, .int (bI (true = true))), (4, .int (nI w)), (0, .ref (L 0)), (1, .ref (L 1)), (2, .ref (L 2)), (3, .ref (L 3)), (5, .ref ua)]
                    exact lv_sub hl [0, 2, 1, 6, 7, 8, 9, 10, 11] rfl
                  · show k < k + 1; omega
            · refine lv_aload_n hx hb dL_has_124 rfl (lv_at hl 8 rfl) ?_
              refine lv_iconst (v := nI 4) hx hb dL_has_125 (by decide +kernel) ?_
              refine lv_aload_n hx hb dL_has_126 rfl (lv_at hl 6 rfl) ?_
              refine lv_aload_n hx hb dL_has_127 rfl (lv_at hl 7 rfl) ?_
              refine lv_aload_n hx hb dL_has_128 rfl (lv_at hl 8 rfl) ?_
              refine lv_iload hx hb dL_has_129 (lv_at hl 1 rfl) ?_
              obtain ⟨y2, hy2⟩ := ch_le hz (show i + 1 ≤ k + 1 by omega)
              obtain ⟨x3, o2, g1, g2, g3⟩ := ch_suc hy2
              obtain rfl : x2 = x3 := Option.some.inj (h5.symm.trans g1)
              have b7 := rl_lt x2 o2 g2
              refine o_SI (As := [.ref (L 0), .ref (L 1), .ref (L 2), .int (nI x2)]) (rest := [.int (nI 4), .ref (L 2)]) ⟨hx, hb, hml, hown, hts⟩ (kL_ruling l G cy hW hN hPl x2 h6) (va_cwS 4 hts gL_has_L_ruling rfl rfl rfl (by decide +kernel) ⟨Nat.le_of_ble_eq_true rfl, Nat.le_of_ble_eq_true rfl⟩) hK rfl hl.1 rfl (Nat.le_of_ble_eq_true rfl) dL_has_131 ⟨Nat.zero_le _, Nat.zero_le _⟩ ?_
              rw [g2]
              rw [show lkI (some o2) = nI o2 from rfl]
              refine lv_imul hx hb dL_has_134 ?_
              rw [pk_mul]
              refine lv_iconst (v := nI 2) hx hb dL_has_135 (by decide +kernel) ?_
              refine lv_iadd hx hb dL_has_136 ?_
              rw [nI_add]
              refine o_iald hx hb hK hP 2 0 rfl rfl ((4 * o2) + 2) (by omega) (by decide) dL_has_137 ?_
              rw [aI_2]
              rw [g3]
              refine lv_istore (lv' := [(6, .int (nI y2)), (12, .int (nI i)), (11, .int (nI k)), (9, .float f), (10, .int (bI (bb = true))), (4, .int (nI w)), (0, .ref (L 0)), (1, .ref (L 1)), (2, .ref (L 2)), (3, .ref (L 3)), (5, .ref ua)]) hx hb dL_has_138 hl (by decide) rfl (fun ls hl => ?_)
              refine lv_iinc (v := nI (i + 1)) (lv' := [(12, .int (nI (i + 1))), (6, .int (nI y2)), (11, .int (nI k)), (9, .float f), (10, .int (bI (bb = true))), (4, .int (nI w)), (0, .ref (L 0)), (1, .ref (L 1)), (2, .ref (L 2)), (3, .ref (L 3)), (5, .ref ua)]) hx hb dL_has_140 hl (k := 1) rfl (nI_1 i) (by decide) rfl (fun ls hl => ?_)
              refine lv_goto (tgt := 117) hx hb dL_has_143 (by decide) ?_
              refine ih117 (i + 1, y2) ls ?_ ?_ ?_
              · exact ⟨by omega, hy2, ch_lt hW hw hy2⟩
              · show lv_has ls 13 [(12, .int (nI (i + 1))), (6, .int (nI y2)), (11, .int (nI k)), (9, .float f), (10, .int (bI (bb = true))), (4, .int (nI w)), (0, .ref (L 0)), (1, .ref (L 1)), (2, .ref (L 2)), (3, .ref (L 3)), (5, .ref ua)]
                exact lv_sub hl [0, 1, 2, 3, 4, 5, 6, 7, 8, 9, 10] rfl
              · show k - (i + 1) < k - i; omega
      · refine lv_iconst (v := nI 0) hx hb dL_has_78 (by decide +kernel) ?_
        exact o_endU (uu := uu) hx hb hr hlocks dL_has_79 (by decide) hP hS (by rw [bI_f (ch_17 (by rw [← c75]; exact h2))]; decide) (fun z => absurd z (ch_17 (by rw [← c75]; exact h2)))
    · obtain ⟨y, hy⟩ := c30
      have b4 := bL o y hy
      refine lv_iload hx hb dL_has_33 (lv_at hl 0 rfl) ?_
      refine lv_bipush (v := nI 17) hx hb dL_has_35 (by decide +kernel) ?_
      refine o_icmp_ge (tgt := 66) hx hb dL_has_37 (by decide) (by omega) (by omega) (fun c37 => ?_) (fun c37 => ?_)
      · refine lv_iload hx hb dL_has_66 (lv_at hl 1 rfl) ?_
        refine o_if_lt (tgt := 78) hx hb dL_has_68 (by decide) (by omega) ?_
        refine lv_iload hx hb dL_has_71 (lv_at hl 0 rfl) ?_
        refine lv_bipush (v := nI 17) hx hb dL_has_73 (by decide +kernel) ?_
        refine o_icmp_ne (tgt := 80) hx hb dL_has_75 (by decide) (by omega) (by omega) (fun c75 => ?_) (fun c75 => ?_)
        · exact absurd (by omega) c75
        · refine lv_iconst (v := nI 0) hx hb dL_has_78 (by decide +kernel) ?_
          exact o_endU (uu := uu) hx hb hr hlocks dL_has_79 (by decide) hP hS (by rw [bI_f (ch_17 (by rw [← c75]; exact h2))]; decide) (fun z => absurd z (ch_17 (by rw [← c75]; exact h2)))
      · refine lv_aload_n hx hb dL_has_40 rfl (lv_at hl 6 rfl) ?_
        refine lv_iconst (v := nI 4) hx hb dL_has_41 (by decide +kernel) ?_
        refine lv_iload hx hb dL_has_42 (lv_at hl 1 rfl) ?_
        refine lv_imul hx hb dL_has_44 ?_
        rw [pk_mul]
        refine lv_iconst (v := nI 2) hx hb dL_has_45 (by decide +kernel) ?_
        refine lv_iadd hx hb dL_has_46 ?_
        rw [nI_add]
        refine o_iald hx hb hK hP 2 0 rfl rfl ((4 * o) + 2) (by omega) (by decide) dL_has_47 ?_
        rw [aI_2]
        rw [hy]
        refine lv_istore (lv' := [(6, .int (nI y)), (8, .int (nI n)), (7, .int (nI o)), (4, .int (nI w)), (0, .ref (L 0)), (1, .ref (L 1)), (2, .ref (L 2)), (3, .ref (L 3)), (5, .ref ua)]) hx hb dL_has_48 hl (by decide) rfl (fun ls hl => ?_)
        refine lv_aload_n hx hb dL_has_50 rfl (lv_at hl 4 rfl) ?_
        refine lv_aload_n hx hb dL_has_51 rfl (lv_at hl 5 rfl) ?_
        refine lv_aload_n hx hb dL_has_52 rfl (lv_at hl 6 rfl) ?_
        refine lv_iload hx hb dL_has_53 (lv_at hl 0 rfl) ?_
        refine o_SI (As := [.ref (L 0), .ref (L 1), .ref (L 2), .int (nI y)]) (rest := []) ⟨hx, hb, hml, hown, hts⟩ (kL_ruling l G cy hW hN hPl y b4) (va_cwS 4 hts gL_has_L_ruling rfl rfl rfl (by decide +kernel) ⟨Nat.le_of_ble_eq_true rfl, Nat.le_of_ble_eq_true rfl⟩) hK rfl hl.1 rfl (Nat.le_of_ble_eq_true rfl) dL_has_55 ⟨Nat.zero_le _, Nat.zero_le _⟩ ?_
        refine lv_istore (lv' := [(7, .int (lkI (rl M y))), (6, .int (nI y)), (8, .int (nI n)), (4, .int (nI w)), (0, .ref (L 0)), (1, .ref (L 1)), (2, .ref (L 2)), (3, .ref (L 3)), (5, .ref ua)]) hx hb dL_has_58 hl (by decide) rfl (fun ls hl => ?_)
        refine lv_iinc (v := nI (n + 1)) (lv' := [(8, .int (nI (n + 1))), (7, .int (lkI (rl M y))), (6, .int (nI y)), (4, .int (nI w)), (0, .ref (L 0)), (1, .ref (L 1)), (2, .ref (L 2)), (3, .ref (L 3)), (5, .ref ua)]) hx hb dL_has_60 hl (k := 2) rfl (nI_1 n) (by decide) rfl (fun ls hl => ?_)
        refine lv_goto (tgt := 17) hx hb dL_has_63 (by decide) ?_
        refine ih17 (n + 1, y) ls ?_ ?_ ?_
        · exact ⟨by omega, by rw [ch_s h2, nxt_s ho]; exact hy, b4⟩
        · show lv_has ls 13 [(8, .int (nI (n + 1))), (7, .int (lkI (rl M y))), (6, .int (nI y)), (4, .int (nI w)), (0, .ref (L 0)), (1, .ref (L 1)), (2, .ref (L 2)), (3, .ref (L 3)), (5, .ref ua)]
          exact lv_sub hl [0, 1, 2, 3, 4, 5, 6, 7, 8] rfl
        · show 17 - (n + 1) < 17 - n; omega

set_option maxHeartbeats 4000000 in
set_option maxRecDepth 100000 in
theorem kL_hasOf (l : Launch) (G : va_G) (cy : Nat → ClassId) {H0 : Heap} {L : Nat → Nat} {ua : Nat} {uu : Nat → UInt64} {M : MT} {A0 : Nat → Prop} (hW : WB M) (hF : WF M) (hU : ∀ k, rngB (mU M k) = true) (hN : mN M ≤ 15) (hP : va_P G vwCl (wLa cy L M ++ [(ua, eD cy 1 uu)]) H0) (hD0 : va_D A0 (wLa cy L M ++ [(ua, eD cy 1 uu)])) (o : Nat) (ho : o < mN M) : MutU l yL_hasOf wsL_hasOf 2 58 [.ref (L 0), .ref (L 1), .ref (L 2), .ref (L 3), .int (nI o), .ref ua] H0 G cy (oHas M (kF M) (vF M) o = true) (oVal M (vF M) o) (wLa cy L M ++ [(ua, eD cy 1 uu)]) (wLa cy L M) ua := by
  refine Met.ofW (cc := cL_hasOf) (maxL := 7) (ret := (some .boolean)) (by decide) rfl ?_
  intro p e s m args below meth c s₁ B hml hv
  obtain ⟨rfl, hH, hK⟩ := hv
  subst hH
  have hx := B.exec
  have hb := B.bytes
  have hr := B.returns
  have hts := atoms_spec (ws := wsL_hasOf) B.pre
  have hown : s.vm.findClass RL = some m.cls := findClass_of_methodNamed B.named
  have hlocks := B.notSynchronized
  have hl := lv_entry ([.ref (L 0), .ref (L 1), .ref (L 2), .ref (L 3), .int (nI o), .ref ua]) (n := 7) (Nat.le_of_ble_eq_true rfl)
  rw [lg_entry_eq]
  generalize (lg_sl ([.ref (L 0), .ref (L 1), .ref (L 2), .ref (L 3), .int (nI o), .ref ua]) ++ List.replicate (7 - (lg_sl ([.ref (L 0), .ref (L 1), .ref (L 2), .ref (L 3), .int (nI o), .ref ua])).length) Slot.unset).toArray = ls at hl ⊢
  have hl : lv_has ls 7 [(0, .ref (L 0)), (1, .ref (L 1)), (2, .ref (L 2)), (3, .ref (L 3)), (4, .int (nI o)), (5, .ref ua)] := hl
  obtain ⟨bP, bN, bR, bO, bW, bL, bF⟩ := id hW
  have hPl := hP.sub (ws' := wLa cy L M) [0, 1, 2, 3, 4] rfl
  have hD := hD0.self (sz := s.heap.size)
  generalize hAe : va_A (wLa cy L M ++ [(ua, eD cy 1 uu)]) s.heap.size = A at hD ⊢
  have hA : ∀ q : Nat, s.heap.size ≤ q → A q := fun q h => by rw [← hAe]; exact Or.inr h
  have hS : va_S A s.heap s.heap [] := va_S.rf
  refine lv_aload_n hx hb dL_hasOf_0 rfl (lv_at hl 2 rfl) ?_
  refine lv_iconst (v := nI 4) hx hb dL_hasOf_1 (by decide +kernel) ?_
  refine lv_iload hx hb dL_hasOf_2 (lv_at hl 4 rfl) ?_
  refine lv_imul hx hb dL_hasOf_4 ?_
  rw [pk_mul]
  refine lv_iconst (v := nI 2) hx hb dL_hasOf_5 (by decide +kernel) ?_
  refine lv_iadd hx hb dL_hasOf_6 ?_
  rw [nI_add]
  refine o_iald hx hb hK hP 2 0 rfl rfl ((4 * o) + 2) (by omega) (by decide) dL_hasOf_7 ?_
  rw [aI_2]
  refine o_lk_ge (tgt := 25) hx hb dL_hasOf_8 (by decide) (fun j hj => by have := bL o j hj; omega) (fun c8 => ?_) (fun c8 => ?_)
  · obtain ⟨y, hy⟩ := c8
    have b4 := bL o y hy
    have hov : FP.Core.fIsNaN (oVal M (vF M) o) = false := by rw [oVal_s hy]; exact madd_n (vaF_fin y) (hF.1 o) (hF.2 o)
    refine lv_aload_n hx hb dL_hasOf_25 rfl (lv_at hl 0 rfl) ?_
    refine lv_aload_n hx hb dL_hasOf_26 rfl (lv_at hl 1 rfl) ?_
    refine lv_aload_n hx hb dL_hasOf_27 rfl (lv_at hl 2 rfl) ?_
    refine lv_aload_n hx hb dL_hasOf_28 rfl (lv_at hl 3 rfl) ?_
    refine lv_aload_n hx hb dL_hasOf_29 rfl (lv_at hl 2 rfl) ?_
    refine lv_iconst (v := nI 4) hx hb dL_hasOf_30 (by decide +kernel) ?_
    refine lv_iload hx hb dL_hasOf_31 (lv_at hl 4 rfl) ?_
    refine lv_imul hx hb dL_hasOf_33 ?_
    rw [pk_mul]
    refine lv_iconst (v := nI 2) hx hb dL_hasOf_34 (by decide +kernel) ?_
    refine lv_iadd hx hb dL_hasOf_35 ?_
    rw [nI_add]
    refine o_iald hx hb hK hP 2 0 rfl rfl ((4 * o) + 2) (by omega) (by decide) dL_hasOf_36 ?_
    rw [aI_2]
    rw [hy]
    refine lv_aload hx hb dL_hasOf_37 (lv_at hl 5 rfl) ?_
    have hPc := hP.sub (ws' := wLa cy L M ++ [(ua, eD cy 1 uu)]) [0, 1, 2, 3, 4, 5] rfl
    have hDc := hD.sub (ws' := wLa cy L M ++ [(ua, eD cy 1 uu)]) [0, 1, 2, 3, 4, 5] (by decide) rfl
    have hFc := va_free (wc := wLa cy L M ++ [(ua, eD cy 1 uu)]) hD hS hA [0, 1, 2, 3, 4, 5] rfl
    refine va_calli (va_runS (As := [.ref (L 0), .ref (L 1), .ref (L 2), .ref (L 3), .int (nI y), .ref ua]) (rest := []) ⟨hx, hb, hml, hown, hts⟩ (kL_has l G cy hW hF hU hN hPc hDc y b4) (va_cwS 6 hts gL_hasOf_L_has rfl rfl rfl (by decide +kernel) ⟨Nat.le_of_ble_eq_true rfl, Nat.le_of_ble_eq_true rfl⟩) ⟨pR_blind, pR_at hK⟩ rfl rfl hl.1 rfl (lv_room (Nat.le_of_ble_eq_true rfl)) dL_hasOf_39 ⟨Nat.zero_le _, Nat.zero_le _⟩) hS (fun q _ h => hFc q h) hFc (fun r_ u2 t_ H locs ht hvm hw_ hB hz1 hk1 hS => ?_)
    obtain ⟨hr_, huu2⟩ := hw_
    subst hr_
    have hP : va_P G vwCl (wLa cy L M ++ [(ua, eD cy 1 u2)]) t_.heap := hB
    rw [ht] at hP
    have hD : va_D A (wLa cy L M ++ [(ua, eD cy 1 u2)]) := vd_same hD rfl
    have hPl := hP.sub (ws' := wLa cy L M) [0, 1, 2, 3, 4] rfl
    refine o_ifb_ne (tgt := 47) hx hb dL_hasOf_42 (by decide) (fun c42 => ?_) (fun c42 => ?_)
    · refine lv_aload hx hb dL_hasOf_47 (lv_at hl 5 rfl) ?_
      refine lv_iconst (v := nI 0) hx hb dL_hasOf_49 (by decide +kernel) ?_
      refine o_dald hx hb hK hP 5 3 rfl rfl 0 (by omega) (by decide) dL_hasOf_50 ?_
      rw [huu2 c42]
      refine lv_d2f hx hb dL_hasOf_51 (d2f_n (FP.Core.FFin.notNaN (vaF_fin y))) ?_
      rw [d2f_f2d (FP.Core.FFin.notNaN (vaF_fin y))]
      refine lv_aload_n hx hb dL_hasOf_52 rfl (lv_at hl 3 rfl) ?_
      refine lv_iconst (v := nI 2) hx hb dL_hasOf_53 (by decide +kernel) ?_
      refine lv_iload hx hb dL_hasOf_54 (lv_at hl 4 rfl) ?_
      refine lv_imul hx hb dL_hasOf_56 ?_
      rw [pk_mul]
      refine o_dald hx hb hK hP 3 3 rfl rfl (2 * o) (by omega) (by decide) dL_hasOf_57 ?_
      rw [vD_0]
      refine lv_d2f hx hb dL_hasOf_58 (d2f_n (FP.Core.FFin.notNaN (hF.1 o))) ?_
      rw [d2f_f2d (FP.Core.FFin.notNaN (hF.1 o))]
      refine lv_fmul hx hb dL_hasOf_59 (n32_of (mul_n (vaF_fin y) (hF.1 o))) ?_
      refine lv_aload_n hx hb dL_hasOf_60 rfl (lv_at hl 3 rfl) ?_
      refine lv_iconst (v := nI 2) hx hb dL_hasOf_61 (by decide +kernel) ?_
      refine lv_iload hx hb dL_hasOf_62 (lv_at hl 4 rfl) ?_
      refine lv_imul hx hb dL_hasOf_64 ?_
      rw [pk_mul]
      refine lv_iconst (v := nI 1) hx hb dL_hasOf_65 (by decide +kernel) ?_
      refine lv_iadd hx hb dL_hasOf_66 ?_
      rw [nI_add]
      refine o_dald hx hb hK hP 3 3 rfl rfl ((2 * o) + 1) (by omega) (by decide) dL_hasOf_67 ?_
      rw [vD_1]
      refine lv_d2f hx hb dL_hasOf_68 (d2f_n (FP.Core.FFin.notNaN (hF.2 o))) ?_
      rw [d2f_f2d (FP.Core.FFin.notNaN (hF.2 o))]
      refine lv_fadd hx hb dL_hasOf_69 (n32_of (madd_n (vaF_fin y) (hF.1 o) (hF.2 o))) ?_
      rw [← oVal_s (va := vF M) hy]
      refine lv_fstore (lv' := [(6, .float (oVal M (vF M) o)), (0, .ref (L 0)), (1, .ref (L 1)), (2, .ref (L 2)), (3, .ref (L 3)), (4, .int (nI o)), (5, .ref ua)]) hx hb dL_hasOf_70 hl (by decide) rfl (fun ls hl => ?_)
      refine lv_aload hx hb dL_hasOf_72 (lv_at hl 6 rfl) ?_
      refine lv_iconst (v := nI 0) hx hb dL_hasOf_74 (by decide +kernel) ?_
      refine lv_fload hx hb dL_hasOf_75 (lv_at hl 0 rfl) ?_
      refine lv_f2d hx hb dL_hasOf_77 (f2d_n hov) ?_
      refine o_dast hx hb hK hP hD hS 5 3 rfl rfl 0 (by omega) (by decide) rfl dL_hasOf_78 (fun H locs hP hD hS => ?_)
      have hP : va_P G vwCl (wLa cy L M ++ [(ua, eD cy 1 (va_up u2 0 (FP.f2d (oVal M (vF M) o))))]) H := hP
      have hD : va_D A (wLa cy L M ++ [(ua, eD cy 1 (va_up u2 0 (FP.f2d (oVal M (vF M) o))))]) := hD
      refine lv_fload hx hb dL_hasOf_79 (lv_at hl 0 rfl) ?_
      refine lv_ldcf hx hb hown (hts (.constantFloat RL 16 (3463342888)) (by decide +kernel)) dL_hasOf_81 ?_
      refine lv_fcmp hx hb dL_hasOf_83 ?_
      refine lv_if_lt (tgt := 99) hx hb dL_hasOf_84 (by decide) (fun c84 => ?_) (fun c84 => ?_)
      · refine lv_iconst (v := nI 0) hx hb dL_hasOf_99 (by decide +kernel) ?_
        exact o_endU (uu := va_up u2 0 (FP.f2d (oVal M (vF M) o))) hx hb hr hlocks dL_hasOf_100 (by decide) hP hS (by rw [bI_f (fun z => (rngB_iff.mp (oHas_rng z)).1 c84)]; decide) (fun _ => by rw [va_us])
      · refine lv_fload hx hb dL_hasOf_87 (lv_at hl 0 rfl) ?_
        refine lv_ldcf hx hb hown (hts (.constantFloat RL 17 (1315859240)) (by decide +kernel)) dL_hasOf_89 ?_
        refine lv_fcmp hx hb dL_hasOf_91 ?_
        refine lv_if_gt (tgt := 99) hx hb dL_hasOf_92 (by decide) (fun c92 => ?_) (fun c92 => ?_)
        · refine lv_iconst (v := nI 0) hx hb dL_hasOf_99 (by decide +kernel) ?_
          exact o_endU (uu := va_up u2 0 (FP.f2d (oVal M (vF M) o))) hx hb hr hlocks dL_hasOf_100 (by decide) hP hS (by rw [bI_f (fun z => (rngB_iff.mp (oHas_rng z)).2 c92)]; decide) (fun _ => by rw [va_us])
        · refine lv_iconst (v := nI 1) hx hb dL_hasOf_95 (by decide +kernel) ?_
          refine lv_goto (tgt := 100) hx hb dL_hasOf_96 (by decide) ?_
          exact o_endU (uu := va_up u2 0 (FP.f2d (oVal M (vF M) o))) hx hb hr hlocks dL_hasOf_100 (by decide) hP hS (by rw [bI_t ((oHas_s hy).mpr ⟨c42, rngB_iff.mpr ⟨c84, c92⟩⟩)]; decide) (fun _ => by rw [va_us])
    · refine lv_iconst (v := nI 0) hx hb dL_hasOf_45 (by decide +kernel) ?_
      exact o_endU (uu := u2) hx hb hr hlocks dL_hasOf_46 (by decide) hP hS (by rw [bI_f (fun z => c42 ((oHas_s hy).mp z).1)]; decide) (fun z => absurd ((oHas_s hy).mp z).1 c42)
  · refine lv_aload hx hb dL_hasOf_11 (lv_at hl 5 rfl) ?_
    refine lv_iconst (v := nI 0) hx hb dL_hasOf_13 (by decide +kernel) ?_
    refine lv_aload_n hx hb dL_hasOf_14 rfl (lv_at hl 3 rfl) ?_
    refine lv_iconst (v := nI 2) hx hb dL_hasOf_15 (by decide +kernel) ?_
    refine lv_iload hx hb dL_hasOf_16 (lv_at hl 4 rfl) ?_
    refine lv_imul hx hb dL_hasOf_18 ?_
    rw [pk_mul]
    refine lv_iconst (v := nI 1) hx hb dL_hasOf_19 (by decide +kernel) ?_
    refine lv_iadd hx hb dL_hasOf_20 ?_
    rw [nI_add]
    refine o_dald hx hb hK hP 3 3 rfl rfl ((2 * o) + 1) (by omega) (by decide) dL_hasOf_21 ?_
    rw [vD_1]
    refine o_dast hx hb hK hP hD hS 5 3 rfl rfl 0 (by omega) (by decide) rfl dL_hasOf_22 (fun H locs hP hD hS => ?_)
    have hP : va_P G vwCl (wLa cy L M ++ [(ua, eD cy 1 (va_up uu 0 (FP.f2d (mU M o))))]) H := hP
    have hD : va_D A (wLa cy L M ++ [(ua, eD cy 1 (va_up uu 0 (FP.f2d (mU M o))))]) := hD
    refine lv_iconst (v := nI 1) hx hb dL_hasOf_23 (by decide +kernel) ?_
    exact o_endU (uu := va_up uu 0 (FP.f2d (mU M o))) hx hb hr hlocks dL_hasOf_24 (by decide) hP hS (by rw [bI_t ((oHas_n c8).mpr (by rw [oVal_n c8]; exact hU o))]; decide) (fun _ => by rw [va_us, oVal_n c8])
