set_option maxHeartbeats 4000000 in
set_option maxRecDepth 100000 in
theorem kL_isStruck_t (l : Launch) (G : va_G) (cy : Nat → ClassId) {H0 : Heap} {z : Nat} {q h x r y L : Nat → Nat} {kh : Nat} {d : Nat → Nat → Nat} {E : Nat → MT} {M : MT} {A0 : Nat → Prop} (hk4 : kh ≤ 4) (hW : WB M) (hN : mN M ≤ 15) (hP : va_P G vwCl ([oSy z q h x r y] ++ (wHi cy h kh d E ++ (wDo cy q M ++ wLa cy L M))) H0) (hD0 : va_D A0 ([oSy z q h x r y] ++ (wHi cy h kh d E ++ (wDo cy q M ++ wLa cy L M)))) (k : Nat) (v : Int32) (hn : 0 < mN M) (hkv : lwN v % mN M = k) (hh : mF M k = 1) (hl4 : ¬ 0 < lwN (v >>> (nI 6 &&& 31)) % 4) : MutS l yL_isStruck wsL_isStruck 5 180 [.ref z, .ref (L 0), .ref (L 2), .ref (L 4), .int v] H0 G cy 1 h ([oSy z q h x r y] ++ (wHi cy h kh d E ++ (wDo cy q M ++ wLa cy L M))) [oSy z q h x r y] (wDo cy q (torn M k) ++ wLa cy L (torn M k)) := by
  refine Met.ofW (cc := cL_isStruck) (maxL := 8) (ret := (some .boolean)) (by decide) rfl ?_
  intro p e s m args below meth c s₁ B hml hv
  obtain ⟨rfl, hH, hK⟩ := hv
  subst hH
  have hx := B.exec
  have hb := B.bytes
  have hr := B.returns
  have hts := atoms_spec (ws := wsL_isStruck) B.pre
  have hown : s.vm.findClass RL = some m.cls := findClass_of_methodNamed B.named
  have hlocks := B.notSynchronized
  have hl := lv_entry ([.ref z, .ref (L 0), .ref (L 2), .ref (L 4), .int v]) (n := 8) (Nat.le_of_ble_eq_true rfl)
  rw [lg_entry_eq]
  generalize (lg_sl ([.ref z, .ref (L 0), .ref (L 2), .ref (L 4), .int v]) ++ List.replicate (8 - (lg_sl ([.ref z, .ref (L 0), .ref (L 2), .ref (L 4), .int v])).length) Slot.unset).toArray = ls at hl ⊢
  have hl : lv_has ls 8 [(0, .ref z), (1, .ref (L 0)), (2, .ref (L 2)), (3, .ref (L 4)), (4, .int v)] := hl
  obtain ⟨bP, bN, bR, bO, bW, bL, bF⟩ := id hW
  have hPl := hP.sub (ws' := wLa cy L M) [48, 49, 50, 51, 52] rfl
  have hPs := hP.sub (ws' := [oSy z q h x r y] ++ wDo cy q M) [0, 39, 40, 41, 42, 43, 44, 45, 46, 47] rfl
  have hk : k < mN M := hkv ▸ Nat.mod_lt _ hn
  have cr3 := cR_le (ftB M 3) 0 (mN M)
  have hD := hD0.self (sz := s.heap.size)
  generalize hAe : va_A ([oSy z q h x r y] ++ (wHi cy h kh d E ++ (wDo cy q M ++ wLa cy L M))) s.heap.size = A at hD ⊢
  have hA : ∀ q : Nat, s.heap.size ≤ q → A q := fun q h => by rw [← hAe]; exact Or.inr h
  have hS : va_S A s.heap s.heap [] := va_S.rf
  refine lv_aload_n hx hb dL_isStruck_0 rfl (lv_at hl 1 rfl) ?_
  refine lv_iconst (v := nI 1) hx hb dL_isStruck_1 (by decide +kernel) ?_
  refine o_iald hx hb hK hP 48 0 rfl rfl 1 (by omega) (by decide) dL_isStruck_2 ?_
  rw [show gI M 1 = mN M from rfl]
  refine o_if_ne (tgt := 30) hx hb dL_isStruck_3 (by decide) (by omega) (fun c3 => ?_) (fun c3 => ?_)
  · refine lv_iload hx hb dL_isStruck_30 (lv_at hl 4 rfl) ?_
    refine lv_aload_n hx hb dL_isStruck_32 rfl (lv_at hl 1 rfl) ?_
    refine lv_iconst (v := nI 1) hx hb dL_isStruck_33 (by decide +kernel) ?_
    refine o_iald hx hb hK hP 48 0 rfl rfl 1 (by omega) (by decide) dL_isStruck_34 ?_
    rw [show gI M 1 = mN M from rfl]
    refine o_SI (As := [.int v, .int (nI (mN M))]) (rest := []) ⟨hx, hb, hml, hown, hts⟩ (kL_low l G cy v (mN M) hn (by omega)) (va_cwS 2 hts gL_isStruck_L_low rfl rfl rfl (by decide +kernel) ⟨Nat.le_of_ble_eq_true rfl, Nat.le_of_ble_eq_true rfl⟩) hK rfl hl.1 rfl (Nat.le_of_ble_eq_true rfl) dL_isStruck_35 ⟨Nat.le_of_ble_eq_true rfl, Nat.le_of_ble_eq_true rfl⟩ ?_
    rw [hkv]
    refine lv_istore (lv' := [(5, .int (nI k)), (0, .ref z), (1, .ref (L 0)), (2, .ref (L 2)), (3, .ref (L 4)), (4, .int v)]) hx hb dL_isStruck_38 hl (by decide) rfl (fun ls hl => ?_)
    refine lv_aload_n hx hb dL_isStruck_40 rfl (lv_at hl 3 rfl) ?_
    refine lv_iconst (v := nI 4) hx hb dL_isStruck_41 (by decide +kernel) ?_
    refine lv_iload hx hb dL_isStruck_42 (lv_at hl 0 rfl) ?_
    refine lv_imul hx hb dL_isStruck_44 ?_
    rw [pk_mul]
    refine lv_iconst (v := nI 3) hx hb dL_isStruck_45 (by decide +kernel) ?_
    refine lv_iadd hx hb dL_isStruck_46 ?_
    rw [nI_add]
    refine o_iald hx hb hK hP 50 0 rfl rfl ((4 * k) + 3) (by omega) (by decide) dL_isStruck_47 ?_
    rw [aI_3]
    refine o_ifb_ne (tgt := 79) hx hb dL_isStruck_48 (by decide) (fun c48 => ?_) (fun c48 => ?_)
    · refine lv_iload hx hb dL_isStruck_79 (lv_at hl 5 rfl) ?_
      refine lv_bipush (v := nI 6) hx hb dL_isStruck_81 (by decide +kernel) ?_
      refine lv_ishr hx hb dL_isStruck_83 ?_
      rw [show v >>> (nI 6 &&& 31) = v >>> (nI 6 &&& 31) from rfl]
      refine lv_iconst (v := nI 4) hx hb dL_isStruck_84 (by decide +kernel) ?_
      refine o_SI (As := [.int (v >>> (nI 6 &&& 31)), .int (nI 4)]) (rest := []) ⟨hx, hb, hml, hown, hts⟩ (kL_low l G cy (v >>> (nI 6 &&& 31)) 4 (by decide) (by omega)) (va_cwS 2 hts gL_isStruck_L_low rfl rfl rfl (by decide +kernel) ⟨Nat.le_of_ble_eq_true rfl, Nat.le_of_ble_eq_true rfl⟩) hK rfl hl.1 rfl (Nat.le_of_ble_eq_true rfl) dL_isStruck_85 ⟨Nat.le_of_ble_eq_true rfl, Nat.le_of_ble_eq_true rfl⟩ ?_
      refine o_if_le (tgt := 139) hx hb dL_isStruck_88 (by decide) (by omega) (fun c88 => ?_) (fun c88 => ?_)
      · refine lv_aload_n hx hb dL_isStruck_139 rfl (lv_at hl 3 rfl) ?_
        refine lv_iconst (v := nI 4) hx hb dL_isStruck_140 (by decide +kernel) ?_
        refine lv_iload hx hb dL_isStruck_141 (lv_at hl 0 rfl) ?_
        refine lv_imul hx hb dL_isStruck_143 ?_
        rw [pk_mul]
        refine lv_iconst (v := nI 3) hx hb dL_isStruck_144 (by decide +kernel) ?_
        refine lv_iadd hx hb dL_isStruck_145 ?_
        rw [nI_add]
        refine lv_iconst (v := nI 0) hx hb dL_isStruck_146 (by decide +kernel) ?_
        refine o_iast hx hb hK hP hD hS 50 0 rfl rfl ((4 * k) + 3) (by omega) (by decide) (aI_up M k 3 (by decide)) dL_isStruck_147 (fun H locs hP hD hS => ?_)
        have hP : va_P G vwCl ([oSy z q h x r y] ++ [(h 0, .inr (1, [.ref (h 1), .int (nI kh)])), (h 1, eR cy 4 (fun i => some (d i 0)))] ++ wDo cy (d 0) (E 0) ++ wDo cy (d 1) (E 1) ++ wDo cy (d 2) (E 2) ++ wDo cy (d 3) (E 3) ++ wDo cy q M ++ [(L 0, eI cy 5 (fun i => nI ((gI M) i))), (L 1, eI cy 6 (fun k => nI (mR M k))), (L 2, eI cy 60 (aI (torn M k))), (L 3, eD cy 30 (vD M)), (L 4, eD cy 25 (tD M))]) H := hP
        have hD : va_D A ([oSy z q h x r y] ++ [(h 0, .inr (1, [.ref (h 1), .int (nI kh)])), (h 1, eR cy 4 (fun i => some (d i 0)))] ++ wDo cy (d 0) (E 0) ++ wDo cy (d 1) (E 1) ++ wDo cy (d 2) (E 2) ++ wDo cy (d 3) (E 3) ++ wDo cy q M ++ [(L 0, eI cy 5 (fun i => nI ((gI M) i))), (L 1, eI cy 6 (fun k => nI (mR M k))), (L 2, eI cy 60 (aI (torn M k))), (L 3, eD cy 30 (vD M)), (L 4, eD cy 25 (tD M))]) := hD
        refine lv_aload_n hx hb dL_isStruck_148 rfl (lv_at hl 2 rfl) ?_
        refine lv_iconst (v := nI 3) hx hb dL_isStruck_149 (by decide +kernel) ?_
        refine lv_dup2_11 hx hb dL_isStruck_150 rfl rfl ?_
        refine o_iald hx hb hK hP 48 0 rfl rfl 3 (by omega) (by decide) dL_isStruck_151 ?_
        rw [show gI M 3 = cR (ftB M 3) 0 (mN M) from rfl]
        refine lv_iconst (v := nI 1) hx hb dL_isStruck_152 (by decide +kernel) ?_
        refine lv_iadd hx hb dL_isStruck_153 ?_
        rw [nI_add]
        refine o_iast hx hb hK hP hD hS 48 0 rfl rfl 3 (by omega) (by decide) (upd_nI (gI M) 3 (cR (ftB M 3) 0 (mN M) + 1)) dL_isStruck_154 (fun H locs hP hD hS => ?_)
        have hP : va_P G vwCl ([oSy z q h x r y] ++ [(h 0, .inr (1, [.ref (h 1), .int (nI kh)])), (h 1, eR cy 4 (fun i => some (d i 0)))] ++ wDo cy (d 0) (E 0) ++ wDo cy (d 1) (E 1) ++ wDo cy (d 2) (E 2) ++ wDo cy (d 3) (E 3) ++ wDo cy q M ++ [(L 0, eI cy 5 (fun i => nI ((va_up (gI M) 3 (cR (ftB M 3) 0 (mN M) + 1)) i))), (L 1, eI cy 6 (fun k => nI (mR M k))), (L 2, eI cy 60 (aI (torn M k))), (L 3, eD cy 30 (vD M)), (L 4, eD cy 25 (tD M))]) H := hP
        have hD : va_D A ([oSy z q h x r y] ++ [(h 0, .inr (1, [.ref (h 1), .int (nI kh)])), (h 1, eR cy 4 (fun i => some (d i 0)))] ++ wDo cy (d 0) (E 0) ++ wDo cy (d 1) (E 1) ++ wDo cy (d 2) (E 2) ++ wDo cy (d 3) (E 3) ++ wDo cy q M ++ [(L 0, eI cy 5 (fun i => nI ((va_up (gI M) 3 (cR (ftB M 3) 0 (mN M) + 1)) i))), (L 1, eI cy 6 (fun k => nI (mR M k))), (L 2, eI cy 60 (aI (torn M k))), (L 3, eD cy 30 (vD M)), (L 4, eD cy 25 (tD M))]) := hD
        rw [gI_t M hk hh] at hP hD
        have hP : va_P G vwCl ([oSy z q h x r y] ++ (wHi cy h kh d E ++ (wDo cy q M ++ wLa cy L (torn M k)))) H := hP
        have hD : va_D A ([oSy z q h x r y] ++ (wHi cy h kh d E ++ (wDo cy q M ++ wLa cy L (torn M k)))) := hD
        refine lv_iconst (v := nI 0) hx hb dL_isStruck_155 (by decide +kernel) ?_
        refine lv_istore (lv' := [(6, .int (nI 0)), (5, .int (nI k)), (0, .ref z), (1, .ref (L 0)), (2, .ref (L 2)), (3, .ref (L 4)), (4, .int v)]) hx hb dL_isStruck_156 hl (by decide) rfl (fun ls hl => ?_)
        refine lv_iconst (v := nI 0) hx hb dL_isStruck_158 (by decide +kernel) ?_
        refine lv_istore (lv' := [(7, .int (nI 0)), (6, .int (nI 0)), (5, .int (nI k)), (0, .ref z), (1, .ref (L 0)), (2, .ref (L 2)), (3, .ref (L 4)), (4, .int v)]) hx hb dL_isStruck_159 hl (by decide) rfl (fun ls hl => ?_)
        refine o_loop (σ := Nat) (fun (i : Nat) => i ≤ mN M) (fun (i : Nat) => [(7, .int (nI i)), (6, .int (nI (cR (hfB (torn M k) (mW M k)) 0 i))), (5, .int (nI k)), (0, .ref z), (1, .ref (L 0)), (2, .ref (L 2)), (3, .ref (L 4)), (4, .int v)]) (fun (i : Nat) => mN M - i) 0 (Nat.zero_le _) (lv_sub hl [0, 1, 2, 3, 4, 5, 6, 7] rfl) ?_
        rintro i ls h2 hl ih161
        have hl : lv_has ls 8 [(7, .int (nI i)), (6, .int (nI (cR (hfB (torn M k) (mW M k)) 0 i))), (5, .int (nI k)), (0, .ref z), (1, .ref (L 0)), (2, .ref (L 2)), (3, .ref (L 4)), (4, .int v)] := hl
        have b4 := bW i
        have b5 := bW k
        refine lv_iload hx hb dL_isStruck_161 (lv_at hl 0 rfl) ?_
        refine lv_aload_n hx hb dL_isStruck_163 rfl (lv_at hl 4 rfl) ?_
        refine lv_iconst (v := nI 1) hx hb dL_isStruck_164 (by decide +kernel) ?_
        refine o_iald hx hb hK hP 48 0 rfl rfl 1 (by omega) (by decide) dL_isStruck_165 ?_
        rw [show gI ((torn M k)) 1 = mN ((torn M k)) from rfl]
        refine o_icmp_ge (tgt := 216) hx hb dL_isStruck_166 (by decide) (show i < 2 ^ 31 by omega) (show mN M < 2 ^ 31 by omega) (fun c166 => ?_) (fun c166 => ?_)
        · have hi : i = mN M := by have c9 : mN M ≤ i := c166; omega
          rw [hi] at hl
          refine lv_aload_n hx hb dL_isStruck_216 rfl (lv_at hl 3 rfl) ?_
          refine lv_iload hx hb dL_isStruck_217 (lv_at hl 2 rfl) ?_
          have hPc := hP.sub (ws' := [oSy z q h x r y] ++ (wHi cy h kh d E ++ wDo cy q M)) [0, 1, 2, 3, 4, 5, 6, 7, 8, 9, 10, 11, 12, 13, 14, 15, 16, 17, 18, 19, 20, 21, 22, 23, 24, 25, 26, 27, 28, 29, 30, 31, 32, 33, 34, 35, 36, 37, 38, 39, 40, 41, 42, 43, 44, 45, 46, 47] rfl
          have hDc := hD.sub (ws' := [oSy z q h x r y] ++ (wHi cy h kh d E ++ wDo cy q M)) [0, 1, 2, 3, 4, 5, 6, 7, 8, 9, 10, 11, 12, 13, 14, 15, 16, 17, 18, 19, 20, 21, 22, 23, 24, 25, 26, 27, 28, 29, 30, 31, 32, 33, 34, 35, 36, 37, 38, 39, 40, 41, 42, 43, 44, 45, 46, 47] (by decide) rfl
          have hFc := va_free (wc := [oSy z q h x r y] ++ (wHi cy h kh d E ++ wDo cy q M)) hD hS hA [0, 1, 2, 3, 4, 5, 6, 7, 8, 9, 10, 11, 12, 13, 14, 15, 16, 17, 18, 19, 20, 21, 22, 23, 24, 25, 26, 27, 28, 29, 30, 31, 32, 33, 34, 35, 36, 37, 38, 39, 40, 41, 42, 43, 44, 45, 46, 47] rfl
          refine va_calli (va_runV (As := [.int (nI k)]) (rest := []) ⟨hx, hb, hml, hown, hts⟩ (kX7_tear l G cy hk4 hW hPc hDc k hk hh) (cwV 1 hts gL_isStruck_X7_tear rfl rfl rfl (by decide +kernel) ⟨Nat.le_of_ble_eq_true rfl, Nat.le_of_ble_eq_true rfl⟩) ⟨pR_blind, va_recv hK hP (ci := 6) (q0 := 0) rfl rfl, pR_at hK⟩ rfl rfl hl.1 rfl (lv_room (Nat.le_of_ble_eq_true rfl)) dL_isStruck_219 ⟨Nat.zero_le _, Nat.zero_le _⟩) hS (fun q _ h => hFc q h) hFc (fun r_ u_ t_ H locs ht hvm hw_ hB hz1 hk1 hS => ?_)
          obtain ⟨k1, d1, E1⟩ := u_
          obtain ⟨hr_, hk5⟩ := hw_
          have hk5 : k1 ≤ 4 := hk5
          have hr_ : r_ = nI (cR (hfB (torn M k) (mW M k)) 0 (mN M)) := hr_
          subst hr_
          have hB : va_P G vwCl ([oSy z q h x r y] ++ (wHi cy h k1 d1 E1 ++ wDo cy q (torn M k))) t_.heap ∧ va_D (va_A ([oSy z q h x r y] ++ (wHi cy h kh d E ++ wDo cy q M)) _) ([oSy z q h x r y] ++ (wHi cy h k1 d1 E1 ++ wDo cy q (torn M k))) := hB
          rw [ht] at hB
          obtain ⟨hP1, hD1⟩ := hB
          obtain ⟨hP, hD⟩ := va_join (wr := wLa cy L (torn M k)) hP hD [0, 1, 2, 3, 4, 5, 6, 7, 8, 9, 10, 11, 12, 13, 14, 15, 16, 17, 18, 19, 20, 21, 22, 23, 24, 25, 26, 27, 28, 29, 30, 31, 32, 33, 34, 35, 36, 37, 38, 39, 40, 41, 42, 43, 44, 45, 46, 47] [48, 49, 50, 51, 52] rfl rfl (by decide) (by decide) hk1 hFc hP1 hD1
          have hP : va_P G vwCl ([oSy z q h x r y] ++ (wHi cy h k1 d1 E1 ++ (wDo cy q (torn M k) ++ wLa cy L (torn M k)))) H := hP.sub [5, 6, 7, 8, 9, 10, 11, 12, 13, 14, 15, 16, 17, 18, 19, 20, 21, 22, 23, 24, 25, 26, 27, 28, 29, 30, 31, 32, 33, 34, 35, 36, 37, 38, 39, 40, 41, 42, 43, 44, 45, 46, 47, 48, 49, 50, 51, 52, 0, 1, 2, 3, 4] rfl
          have hD : va_D A ([oSy z q h x r y] ++ (wHi cy h k1 d1 E1 ++ (wDo cy q (torn M k) ++ wLa cy L (torn M k)))) := hD.sub [5, 6, 7, 8, 9, 10, 11, 12, 13, 14, 15, 16, 17, 18, 19, 20, 21, 22, 23, 24, 25, 26, 27, 28, 29, 30, 31, 32, 33, 34, 35, 36, 37, 38, 39, 40, 41, 42, 43, 44, 45, 46, 47, 48, 49, 50, 51, 52, 0, 1, 2, 3, 4] (by decide) rfl
          refine lv_iload hx hb dL_isStruck_222 (lv_at hl 1 rfl) ?_
          refine lv_icmp_ne (tgt := 242) hx hb dL_isStruck_224 (by decide) (fun c224 => ?_) (fun c224 => ?_)
          · exact absurd rfl c224
          · refine lv_aload_n hx hb dL_isStruck_227 rfl (lv_at hl 3 rfl) ?_
            refine lv_iload hx hb dL_isStruck_228 (lv_at hl 2 rfl) ?_
            have hPt := hP.sub (ws' := [oSy z q h x r y] ++ wDo cy q (torn M k)) [0, 39, 40, 41, 42, 43, 44, 45, 46, 47] rfl
            refine o_VI (As := [.int (nI k)]) (rest := []) ⟨hx, hb, hml, hown, hts⟩ (kX7_tear_n l G cy (WB_F hW k 3 (by decide)) hPt k hk (by show ¬ va_up (mF M) k 3 k = 1; rw [va_us]; decide)) (cwV 1 hts gL_isStruck_X7_tear rfl rfl rfl (by decide +kernel) ⟨Nat.le_of_ble_eq_true rfl, Nat.le_of_ble_eq_true rfl⟩) hK (va_recv hK hP (ci := 6) (q0 := 0) rfl rfl) rfl hl.1 rfl (Nat.le_of_ble_eq_true rfl) dL_isStruck_230 ⟨Nat.le_of_ble_eq_true rfl, Nat.le_of_ble_eq_true rfl⟩ ?_
            refine lv_bipush (v := (-5)) hx hb dL_isStruck_233 (by decide +kernel) ?_
            refine lv_icmp_ne (tgt := 242) hx hb dL_isStruck_235 (by decide) (fun c235 => ?_) (fun c235 => ?_)
            · exact absurd rfl c235
            · refine lv_iconst (v := nI 1) hx hb dL_isStruck_238 (by decide +kernel) ?_
              refine lv_goto (tgt := 243) hx hb dL_isStruck_239 (by decide) ?_
              exact o_endSz (k := k1) (d := d1) (E := E1) hx hb hr hlocks dL_isStruck_243 (by decide) hk5 hP hD hS rfl
        · have c9 : i < mN M := c166
          refine lv_iload hx hb dL_isStruck_169 (lv_at hl 1 rfl) ?_
          refine lv_aload_n hx hb dL_isStruck_171 rfl (lv_at hl 5 rfl) ?_
          refine lv_iconst (v := nI 4) hx hb dL_isStruck_172 (by decide +kernel) ?_
          refine lv_iload hx hb dL_isStruck_173 (lv_at hl 0 rfl) ?_
          refine lv_imul hx hb dL_isStruck_175 ?_
          rw [pk_mul]
          refine lv_iconst (v := nI 3) hx hb dL_isStruck_176 (by decide +kernel) ?_
          refine lv_iadd hx hb dL_isStruck_177 ?_
          rw [nI_add]
          refine o_iald hx hb hK hP 50 0 rfl rfl ((4 * i) + 3) (by omega) (by decide) dL_isStruck_178 ?_
          rw [aI_3]
          refine lv_iconst (v := nI 1) hx hb dL_isStruck_179 (by decide +kernel) ?_
          refine o_icmp1_ne (tgt := 206) hx hb dL_isStruck_180 (by decide) (fun c180 => ?_) (fun c180 => ?_)
          · refine lv_iconst (v := nI 0) hx hb dL_isStruck_206 (by decide +kernel) ?_
            refine lv_iadd hx hb dL_isStruck_207 ?_
            rw [nI_add]
            refine lv_istore (lv' := [(6, .int (nI ((cR (hfB (torn M k) (mW M k)) 0 i) + 0))), (7, .int (nI i)), (5, .int (nI k)), (0, .ref z), (1, .ref (L 0)), (2, .ref (L 2)), (3, .ref (L 4)), (4, .int v)]) hx hb dL_isStruck_208 hl (by decide) rfl (fun ls hl => ?_)
            refine lv_iinc (v := nI (i + 1)) (lv' := [(7, .int (nI (i + 1))), (6, .int (nI ((cR (hfB (torn M k) (mW M k)) 0 i) + 0))), (5, .int (nI k)), (0, .ref z), (1, .ref (L 0)), (2, .ref (L 2)), (3, .ref (L 4)), (4, .int v)]) hx hb dL_isStruck_210 hl (k := 1) rfl (nI_1 i) (by decide) rfl (fun ls hl => ?_)
            refine lv_goto (tgt := 161) hx hb dL_isStruck_213 (by decide) ?_
            refine ih161 (i + 1) ls ?_ ?_ ?_
            · exact Nat.succ_le_of_lt c166
            · show lv_has ls 8 [(7, .int (nI (i + 1))), (6, .int (nI (cR (hfB (torn M k) (mW M k)) 0 (i + 1)))), (5, .int (nI k)), (0, .ref z), (1, .ref (L 0)), (2, .ref (L 2)), (3, .ref (L 4)), (4, .int v)]
              rw [cZ_f (p := hfB (torn M k) (mW M k)) (fun z => c180 (hfB_iff.mp z).1)]
              exact lv_sub hl [0, 1, 2, 3, 4, 5, 6, 7] rfl
            · have c9 : i < mN M := c166; omega
          · refine lv_aload_n hx hb dL_isStruck_183 rfl (lv_at hl 5 rfl) ?_
            refine lv_iconst (v := nI 4) hx hb dL_isStruck_184 (by decide +kernel) ?_
            refine lv_iload hx hb dL_isStruck_185 (lv_at hl 0 rfl) ?_
            refine lv_imul hx hb dL_isStruck_187 ?_
            rw [pk_mul]
            refine lv_iconst (v := nI 1) hx hb dL_isStruck_188 (by decide +kernel) ?_
            refine lv_iadd hx hb dL_isStruck_189 ?_
            rw [nI_add]
            refine o_iald hx hb hK hP 50 0 rfl rfl ((4 * i) + 1) (by omega) (by decide) dL_isStruck_190 ?_
            rw [aI_1]
            refine lv_aload_n hx hb dL_isStruck_191 rfl (lv_at hl 5 rfl) ?_
            refine lv_iconst (v := nI 4) hx hb dL_isStruck_192 (by decide +kernel) ?_
            refine lv_iload hx hb dL_isStruck_193 (lv_at hl 2 rfl) ?_
            refine lv_imul hx hb dL_isStruck_195 ?_
            rw [pk_mul]
            refine lv_iconst (v := nI 1) hx hb dL_isStruck_196 (by decide +kernel) ?_
            refine lv_iadd hx hb dL_isStruck_197 ?_
            rw [nI_add]
            refine o_iald hx hb hK hP 50 0 rfl rfl ((4 * k) + 1) (by omega) (by decide) dL_isStruck_198 ?_
            rw [aI_1]
            refine o_icmp_ne (tgt := 206) hx hb dL_isStruck_199 (by decide) (show mW M i < 2 ^ 31 by omega) (show mW M k < 2 ^ 31 by omega) (fun c199 => ?_) (fun c199 => ?_)
            · refine lv_iconst (v := nI 0) hx hb dL_isStruck_206 (by decide +kernel) ?_
              refine lv_iadd hx hb dL_isStruck_207 ?_
              rw [nI_add]
              refine lv_istore (lv' := [(6, .int (nI ((cR (hfB (torn M k) (mW M k)) 0 i) + 0))), (7, .int (nI i)), (5, .int (nI k)), (0, .ref z), (1, .ref (L 0)), (2, .ref (L 2)), (3, .ref (L 4)), (4, .int v)]) hx hb dL_isStruck_208 hl (by decide) rfl (fun ls hl => ?_)
              refine lv_iinc (v := nI (i + 1)) (lv' := [(7, .int (nI (i + 1))), (6, .int (nI ((cR (hfB (torn M k) (mW M k)) 0 i) + 0))), (5, .int (nI k)), (0, .ref z), (1, .ref (L 0)), (2, .ref (L 2)), (3, .ref (L 4)), (4, .int v)]) hx hb dL_isStruck_210 hl (k := 1) rfl (nI_1 i) (by decide) rfl (fun ls hl => ?_)
              refine lv_goto (tgt := 161) hx hb dL_isStruck_213 (by decide) ?_
              refine ih161 (i + 1) ls ?_ ?_ ?_
              · exact Nat.succ_le_of_lt c166
              · show lv_has ls 8 [(7, .int (nI (i + 1))), (6, .int (nI (cR (hfB (torn M k) (mW M k)) 0 (i + 1)))), (5, .int (nI k)), (0, .ref z), (1, .ref (L 0)), (2, .ref (L 2)), (3, .ref (L 4)), (4, .int v)]
                rw [cZ_f (p := hfB (torn M k) (mW M k)) (fun z => c199 (hfB_iff.mp z).2)]
                exact lv_sub hl [0, 1, 2, 3, 4, 5, 6, 7] rfl
              · have c9 : i < mN M := c166; omega
            · refine lv_iconst (v := nI 1) hx hb dL_isStruck_202 (by decide +kernel) ?_
              refine lv_goto (tgt := 207) hx hb dL_isStruck_203 (by decide) ?_
              refine lv_iadd hx hb dL_isStruck_207 ?_
              rw [nI_add]
              refine lv_istore (lv' := [(6, .int (nI ((cR (hfB (torn M k) (mW M k)) 0 i) + 1))), (7, .int (nI i)), (5, .int (nI k)), (0, .ref z), (1, .ref (L 0)), (2, .ref (L 2)), (3, .ref (L 4)), (4, .int v)]) hx hb dL_isStruck_208 hl (by decide) rfl (fun ls hl => ?_)
              refine lv_iinc (v := nI (i + 1)) (lv' := [(7, .int (nI (i + 1))), (6, .int (nI ((cR (hfB (torn M k) (mW M k)) 0 i) + 1))), (5, .int (nI k)), (0, .ref z), (1, .ref (L 0)), (2, .ref (L 2)), (3, .ref (L 4)), (4, .int v)]) hx hb dL_isStruck_210 hl (k := 1) rfl (nI_1 i) (by decide) rfl (fun ls hl => ?_)
              refine lv_goto (tgt := 161) hx hb dL_isStruck_213 (by decide) ?_
              refine ih161 (i + 1) ls ?_ ?_ ?_
              · exact Nat.succ_le_of_lt c166
              · show lv_has ls 8 [(7, .int (nI (i + 1))), (6, .int (nI (cR (hfB (torn M k) (mW M k)) 0 (i + 1)))), (5, .int (nI k)), (0, .ref z), (1, .ref (L 0)), (2, .ref (L 2)), (3, .ref (L 4)), (4, .int v)]
                rw [cZ_t (p := hfB (torn M k) (mW M k)) (hfB_iff.mpr ⟨c180, c199⟩)]
                exact lv_sub hl [0, 1, 2, 3, 4, 5, 6, 7] rfl
              · have c9 : i < mN M := c166; omega
      · exact absurd c88 (by omega)
    · exact absurd hh c48
  · exact absurd c3 (by omega)
