/-- the door, another tolerance -/
abbrev told (M : MT) (b : Int32) (x : UInt32) : MT := (mP M, mN M, mS M, b, x, mR M, mO M, mW M, mL M, mF M, mA M, mU M, mH M)
theorem tD_tol (M : MT) (b : Int32) (x : UInt32) : vf_upd (tD M) 24 (FP.f2d x) = tD (told M b x) := by
  funext j
  show (if j = 24 then FP.f2d x else if j = 24 then FP.f2d (mT M) else FP.f2d (mH M j)) = (if j = 24 then FP.f2d x else FP.f2d (mH M j))
  by_cases q : j = 24
  · rw [if_pos q, if_pos q]
  · rw [if_neg q, if_neg q, if_neg q]
theorem tD_same {M : MT} {x : UInt32} (h : mT M = x) : vf_upd (tD M) 24 (FP.f2d x) = tD M := by
  rw [tD_tol M (mB M) x, ← h]
set_option maxHeartbeats 4000000 in
set_option maxRecDepth 100000 in
theorem kL_isRanked_ts (l : Launch) (G : va_G) (cy : Nat → ClassId) {H0 : Heap} {z : Nat} {q h x r y L : Nat → Nat} {kh : Nat} {d : Nat → Nat → Nat} {E : Nat → MT} {M : MT} {ru : Nat → Option Nat} {kn : Nat → Bool} {va : Nat → UInt32} {A0 : Nat → Prop} (hk4 : kh ≤ 4) (hW : WB M) (hF : WF M) (hP : va_P G vwCl ([oSy z q h x r y] ++ (wHi cy h kh d E ++ (wDo cy q M ++ (wRe cy r (q 0) ru kn va ++ wLa cy L M)))) H0) (hD0 : va_D A0 ([oSy z q h x r y] ++ (wHi cy h kh d E ++ (wDo cy q M ++ (wRe cy r (q 0) ru kn va ++ wLa cy L M))))) (v : Int32) (e0 e1 : Nat) (h12 : lwN (v >>> (nI 12 &&& 31)) % 3 = 0) (he1 : lwN v % (if lwN (v >>> (nI 16 &&& 31)) % 2 = 0 then 801 else 30) = e1) (he0 : e0 ≤ 800) (hT0 : mT M = uN e0) (hB0 : mB M = nI (bN e0)) (hs : e0 = e1) : MutS l yL_isRanked wsL_isRanked 7 200 [.ref z, .ref (L 0), .ref (L 1), .ref (L 4), .int v] H0 G cy 1 h ([oSy z q h x r y] ++ (wHi cy h kh d E ++ (wDo cy q M ++ (wRe cy r (q 0) ru kn va ++ wLa cy L M)))) [oSy z q h x r y] (wDo cy q M ++ (wRe cy r (q 0) (rl M) (kF M) (vF M) ++ wLa cy L M)) := by
  refine Met.ofW (cc := cL_isRanked) (maxL := 8) (ret := (some .boolean)) (by decide) rfl ?_
  intro p e s m args below meth c s₁ B hml hv
  obtain ⟨rfl, hH, hK⟩ := hv
  subst hH
  have hx := B.exec
  have hb := B.bytes
  have hr := B.returns
  have hts := atoms_spec (ws := wsL_isRanked) B.pre
  have hown : s.vm.findClass RL = some m.cls := findClass_of_methodNamed B.named
  have hlocks := B.notSynchronized
  have hl := lv_entry ([.ref z, .ref (L 0), .ref (L 1), .ref (L 4), .int v]) (n := 8) (Nat.le_of_ble_eq_true rfl)
  rw [lg_entry_eq]
  generalize (lg_sl ([.ref z, .ref (L 0), .ref (L 1), .ref (L 4), .int v]) ++ List.replicate (8 - (lg_sl ([.ref z, .ref (L 0), .ref (L 1), .ref (L 4), .int v])).length) Slot.unset).toArray = ls at hl ⊢
  have hl : lv_has ls 8 [(0, .ref z), (1, .ref (L 0)), (2, .ref (L 1)), (3, .ref (L 4)), (4, .int v)] := hl
  obtain ⟨bP, bQ, bR, bO, bW, bL, bF⟩ := id hW
  have hE1 : e1 ≤ 800 := by rw [← he1]; exact Nat.le_of_lt_succ (Nat.lt_of_lt_of_le (Nat.mod_lt _ (by split <;> decide)) (by split <;> decide))
  have htl : ¬ nI (bN e1) < 0 ∧ frB (nI (bN e1)) FP.fconst0 1120403456 = true := ⟨nI_pos (bN_lt (by omega)), fr_tol hE1⟩
  have hD := hD0.self (sz := s.heap.size)
  generalize hAe : va_A ([oSy z q h x r y] ++ (wHi cy h kh d E ++ (wDo cy q M ++ (wRe cy r (q 0) ru kn va ++ wLa cy L M)))) s.heap.size = A at hD ⊢
  have hA : ∀ q : Nat, s.heap.size ≤ q → A q := fun q h => by rw [← hAe]; exact Or.inr h
  have hS : va_S A s.heap s.heap [] := va_S.rf
  refine lv_iload hx hb dL_isRanked_0 (lv_at hl 4 rfl) ?_
  refine lv_bipush (v := nI 12) hx hb dL_isRanked_2 (by decide +kernel) ?_
  refine lv_ishr hx hb dL_isRanked_4 ?_
  rw [show v >>> (nI 12 &&& 31) = v >>> (nI 12 &&& 31) from rfl]
  refine lv_iconst (v := nI 3) hx hb dL_isRanked_5 (by decide +kernel) ?_
  refine o_SI (As := [.int (v >>> (nI 12 &&& 31)), .int (nI 3)]) (rest := []) ⟨hx, hb, hml, hown, hts⟩ (kL_low l G cy (v >>> (nI 12 &&& 31)) 3 (by decide) (by omega)) (va_cwS 2 hts gL_isRanked_L_low rfl rfl rfl (by decide +kernel) ⟨Nat.le_of_ble_eq_true rfl, Nat.le_of_ble_eq_true rfl⟩) hK rfl hl.1 rfl (Nat.le_of_ble_eq_true rfl) dL_isRanked_6 ⟨Nat.le_of_ble_eq_true rfl, Nat.le_of_ble_eq_true rfl⟩ ?_
  refine o_if_ne (tgt := 141) hx hb dL_isRanked_9 (by decide) (by omega) (fun c9 => ?_) (fun c9 => ?_)
  · exact absurd c9 (by omega)
  · refine lv_iload hx hb dL_isRanked_12 (lv_at hl 4 rfl) ?_
    refine lv_iload hx hb dL_isRanked_14 (lv_at hl 4 rfl) ?_
    refine lv_bipush (v := nI 16) hx hb dL_isRanked_16 (by decide +kernel) ?_
    refine lv_ishr hx hb dL_isRanked_18 ?_
    rw [show v >>> (nI 16 &&& 31) = v >>> (nI 16 &&& 31) from rfl]
    refine lv_iconst (v := nI 2) hx hb dL_isRanked_19 (by decide +kernel) ?_
    refine o_SI (As := [.int (v >>> (nI 16 &&& 31)), .int (nI 2)]) (rest := [.int v]) ⟨hx, hb, hml, hown, hts⟩ (kL_low l G cy (v >>> (nI 16 &&& 31)) 2 (by decide) (by omega)) (va_cwS 2 hts gL_isRanked_L_low rfl rfl rfl (by decide +kernel) ⟨Nat.le_of_ble_eq_true rfl, Nat.le_of_ble_eq_true rfl⟩) hK rfl hl.1 rfl (Nat.le_of_ble_eq_true rfl) dL_isRanked_20 ⟨Nat.le_of_ble_eq_true rfl, Nat.le_of_ble_eq_true rfl⟩ ?_
    refine o_cut 34 [.int (nI (if lwN (v >>> (nI 16 &&& 31)) % 2 = 0 then 801 else 30)), .int v] (fun K34 => ?_) ?_
    · refine o_if_ne (tgt := 32) hx hb dL_isRanked_23 (by decide) (by omega) (fun c23 => ?_) (fun c23 => ?_)
      · refine lv_bipush (v := nI 30) hx hb dL_isRanked_32 (by decide +kernel) ?_
        have K9 := K34
        rw [show nI (if lwN (v >>> (nI 16 &&& 31)) % 2 = 0 then 801 else 30) = nI 30 from congrArg nI (if_neg (by omega))] at K9
        exact K9
      · refine lv_sipush (v := nI 801) hx hb dL_isRanked_26 (by decide +kernel) ?_
        refine lv_goto (tgt := 34) hx hb dL_isRanked_29 (by decide) ?_
        have K9 := K34
        rw [show nI (if lwN (v >>> (nI 16 &&& 31)) % 2 = 0 then 801 else 30) = nI 801 from congrArg nI (if_pos (by omega))] at K9
        exact K9
    refine o_SI (As := [.int v, .int (nI (if lwN (v >>> (nI 16 &&& 31)) % 2 = 0 then 801 else 30))]) (rest := []) ⟨hx, hb, hml, hown, hts⟩ (kL_low l G cy v (if lwN (v >>> (nI 16 &&& 31)) % 2 = 0 then 801 else 30) (by split <;> decide) (by split <;> decide)) (va_cwS 2 hts gL_isRanked_L_low rfl rfl rfl (by decide +kernel) ⟨Nat.le_of_ble_eq_true rfl, Nat.le_of_ble_eq_true rfl⟩) hK rfl hl.1 rfl (Nat.le_of_ble_eq_true rfl) dL_isRanked_34 ⟨Nat.le_of_ble_eq_true rfl, Nat.le_of_ble_eq_true rfl⟩ ?_
    rw [he1]
    refine lv_istore (lv' := [(5, .int (nI e1)), (0, .ref z), (1, .ref (L 0)), (2, .ref (L 1)), (3, .ref (L 4)), (4, .int v)]) hx hb dL_isRanked_37 hl (by decide) rfl (fun ls hl => ?_)
    refine lv_aload_n hx hb dL_isRanked_39 rfl (lv_at hl 4 rfl) ?_
    refine lv_bipush (v := nI 24) hx hb dL_isRanked_40 (by decide +kernel) ?_
    refine o_dald hx hb hK hP 56 3 rfl rfl 24 (by omega) (by decide) dL_isRanked_42 ?_
    rw [tD_24]
    rw [hT0]
    refine lv_iload hx hb dL_isRanked_43 (lv_at hl 0 rfl) ?_
    refine lv_i2d hx hb dL_isRanked_45 ?_
    refine lv_ldc2d hx hb hown (hts (.constantDouble RL 83 (4593671619917905920)) (by decide +kernel)) dL_isRanked_46 ?_
    refine lv_dmul hx hb dL_isRanked_49 (by rw [uN_dbl (by omega)]; exact f2d_n (FP.Core.FFin.notNaN (uN_fin (by omega)))) ?_
    refine lv_dcmp hx hb dL_isRanked_50 ?_
    refine lv_if_ne (tgt := 58) hx hb dL_isRanked_51 (by decide) (fun c51 => ?_) (fun c51 => ?_)
    · exact absurd ((tol_eq (by omega) (by omega)).mpr hs) c51
    · refine lv_iconst (v := nI 1) hx hb dL_isRanked_54 (by decide +kernel) ?_
      refine lv_goto (tgt := 59) hx hb dL_isRanked_55 (by decide) ?_
      refine lv_istore (lv' := [(6, .int (nI 1)), (5, .int (nI e1)), (0, .ref z), (1, .ref (L 0)), (2, .ref (L 1)), (3, .ref (L 4)), (4, .int v)]) hx hb dL_isRanked_59 hl (by decide) rfl (fun ls hl => ?_)
      refine lv_aload_n hx hb dL_isRanked_61 rfl (lv_at hl 5 rfl) ?_
      refine lv_bipush (v := nI 24) hx hb dL_isRanked_62 (by decide +kernel) ?_
      refine lv_iload hx hb dL_isRanked_64 (lv_at hl 1 rfl) ?_
      refine lv_i2d hx hb dL_isRanked_66 ?_
      refine lv_ldc2d hx hb hown (hts (.constantDouble RL 83 (4593671619917905920)) (by decide +kernel)) dL_isRanked_67 ?_
      refine lv_dmul hx hb dL_isRanked_70 (by rw [uN_dbl (by omega)]; exact f2d_n (FP.Core.FFin.notNaN (uN_fin (by omega)))) ?_
      rw [st_dbl (by omega)]
      refine o_dast hx hb hK hP hD hS 56 3 rfl rfl 24 (by omega) (by decide) (tD_same (x := (tfl (nI (bN e1)))) (by rw [hT0, tfl_u (by omega), hs])) dL_isRanked_71 (fun H locs hP hD hS => ?_)
      have hP : va_P G vwCl ([oSy z q h x r y] ++ [(h 0, .inr (1, [.ref (h 1), .int (nI kh)])), (h 1, eR cy 4 (fun i => some (d i 0)))] ++ wDo cy (d 0) (E 0) ++ wDo cy (d 1) (E 1) ++ wDo cy (d 2) (E 2) ++ wDo cy (d 3) (E 3) ++ wDo cy q M ++ wRe cy r (q 0) ru kn va ++ wLa cy L M) H := hP
      have hD : va_D A ([oSy z q h x r y] ++ [(h 0, .inr (1, [.ref (h 1), .int (nI kh)])), (h 1, eR cy 4 (fun i => some (d i 0)))] ++ wDo cy (d 0) (E 0) ++ wDo cy (d 1) (E 1) ++ wDo cy (d 2) (E 2) ++ wDo cy (d 3) (E 3) ++ wDo cy q M ++ wRe cy r (q 0) ru kn va ++ wLa cy L M) := hD
      refine lv_aload_n hx hb dL_isRanked_72 rfl (lv_at hl 2 rfl) ?_
      refine lv_iload hx hb dL_isRanked_73 (lv_at hl 1 rfl) ?_
      refine o_SI (As := [.int (nI e1)]) (rest := [.ref z]) ⟨hx, hb, hml, hown, hts⟩ (kL_bits_p l G cy e1 (by omega)) (va_cwS 1 hts gL_isRanked_L_bits rfl rfl rfl (by decide +kernel) ⟨Nat.le_of_ble_eq_true rfl, Nat.le_of_ble_eq_true rfl⟩) hK rfl hl.1 rfl (Nat.le_of_ble_eq_true rfl) dL_isRanked_75 ⟨Nat.le_of_ble_eq_true rfl, Nat.le_of_ble_eq_true rfl⟩ ?_
      have hPs := hP.sub (ws' := [oSy z q h x r y] ++ wDo cy q M) [0, 39, 40, 41, 42, 43, 44, 45, 46, 47] rfl
      refine o_VI (As := [.int (nI (bN e1))]) (rest := []) ⟨hx, hb, hml, hown, hts⟩ (kX7_setTolerance_n l G cy hW hPs (nI (bN e1)) htl (by rw [hB0, hs])) (cwV 1 hts gL_isRanked_X7_setTolerance rfl rfl rfl (by decide +kernel) ⟨Nat.le_of_ble_eq_true rfl, Nat.le_of_ble_eq_true rfl⟩) hK (va_recv hK hP (ci := 6) (q0 := 0) rfl rfl) rfl hl.1 rfl (Nat.le_of_ble_eq_true rfl) dL_isRanked_78 ⟨Nat.le_of_ble_eq_true rfl, Nat.le_of_ble_eq_true rfl⟩ ?_
      refine lv_iload hx hb dL_isRanked_81 (lv_at hl 0 rfl) ?_
      refine o_if_eq (tgt := 91) hx hb dL_isRanked_83 (by decide) (by omega) (fun c83 => ?_) (fun c83 => ?_)
      · exact absurd c83 (by decide)
      · refine lv_bipush (v := (-5)) hx hb dL_isRanked_86 (by decide +kernel) ?_
        refine lv_goto (tgt := 92) hx hb dL_isRanked_88 (by decide) ?_
        refine lv_icmp_ne (tgt := 139) hx hb dL_isRanked_92 (by decide) (fun c92 => ?_) (fun c92 => ?_)
        · exact absurd rfl c92
        · refine lv_aload_n hx hb dL_isRanked_95 rfl (lv_at hl 2 rfl) ?_
          refine lv_ldc (v := (-2147483648)) hx hb hown (hts (.constant RL 9 (-2147483648)) (by decide +kernel)) dL_isRanked_96 ?_
          have hPs := hP.sub (ws' := [oSy z q h x r y] ++ wDo cy q M) [0, 39, 40, 41, 42, 43, 44, 45, 46, 47] rfl
          refine o_VI (As := [.int ((-2147483648))]) (rest := []) ⟨hx, hb, hml, hown, hts⟩ (kX7_setTolerance_b l G cy hW hPs _ (fun z => absurd (show (-2147483648 : Int32) < 0 by decide) z.1)) (cwV 1 hts gL_isRanked_X7_setTolerance rfl rfl rfl (by decide +kernel) ⟨Nat.le_of_ble_eq_true rfl, Nat.le_of_ble_eq_true rfl⟩) hK (va_recv hK hP (ci := 6) (q0 := 0) rfl rfl) rfl hl.1 rfl (Nat.le_of_ble_eq_true rfl) dL_isRanked_98 ⟨Nat.le_of_ble_eq_true rfl, Nat.le_of_ble_eq_true rfl⟩ ?_
          refine lv_bipush (v := (-2)) hx hb dL_isRanked_101 (by decide +kernel) ?_
          refine lv_icmp_ne (tgt := 139) hx hb dL_isRanked_103 (by decide) (fun c103 => ?_) (fun c103 => ?_)
          · exact absurd rfl c103
          · refine lv_aload_n hx hb dL_isRanked_106 rfl (lv_at hl 2 rfl) ?_
            refine lv_sipush (v := nI 801) hx hb dL_isRanked_107 (by decide +kernel) ?_
            refine o_SI (As := [.int (nI 801)]) (rest := [.ref z]) ⟨hx, hb, hml, hown, hts⟩ (kL_bits_p l G cy 801 (by decide)) (va_cwS 1 hts gL_isRanked_L_bits rfl rfl rfl (by decide +kernel) ⟨Nat.le_of_ble_eq_true rfl, Nat.le_of_ble_eq_true rfl⟩) hK rfl hl.1 rfl (Nat.le_of_ble_eq_true rfl) dL_isRanked_110 ⟨Nat.le_of_ble_eq_true rfl, Nat.le_of_ble_eq_true rfl⟩ ?_
            refine o_VI (As := [.int (nI (bN 801))]) (rest := []) ⟨hx, hb, hml, hown, hts⟩ (kX7_setTolerance_b l G cy hW hPs _ (fun z => absurd z.2 (by rw [fr_801]; decide))) (cwV 1 hts gL_isRanked_X7_setTolerance rfl rfl rfl (by decide +kernel) ⟨Nat.le_of_ble_eq_true rfl, Nat.le_of_ble_eq_true rfl⟩) hK (va_recv hK hP (ci := 6) (q0 := 0) rfl rfl) rfl hl.1 rfl (Nat.le_of_ble_eq_true rfl) dL_isRanked_113 ⟨Nat.le_of_ble_eq_true rfl, Nat.le_of_ble_eq_true rfl⟩ ?_
            refine lv_bipush (v := (-2)) hx hb dL_isRanked_116 (by decide +kernel) ?_
            refine lv_icmp_ne (tgt := 139) hx hb dL_isRanked_118 (by decide) (fun c118 => ?_) (fun c118 => ?_)
            · exact absurd rfl c118
            · refine lv_aload_n hx hb dL_isRanked_121 rfl (lv_at hl 2 rfl) ?_
              refine lv_bipush (v := nI 10) hx hb dL_isRanked_122 (by decide +kernel) ?_
              have hPc := hP.sub (ws' := [oSy z q h x r y] ++ (wRe cy r (q 0) ru kn va ++ wDo cy q M)) [0, 48, 49, 50, 51, 39, 40, 41, 42, 43, 44, 45, 46, 47] rfl
              have hDc := hD.sub (ws' := [oSy z q h x r y] ++ (wRe cy r (q 0) ru kn va ++ wDo cy q M)) [0, 48, 49, 50, 51, 39, 40, 41, 42, 43, 44, 45, 46, 47] (by decide) rfl
              have hFc := va_free (wc := [oSy z q h x r y] ++ (wRe cy r (q 0) ru kn va ++ wDo cy q M)) hD hS hA [0, 48, 49, 50, 51, 39, 40, 41, 42, 43, 44, 45, 46, 47] rfl
              refine va_calli (va_runV (As := [.int (nI 10)]) (rest := []) ⟨hx, hb, hml, hown, hts⟩ (kX7_count_10 l G cy hW hF hPc hDc) (cwV 1 hts gL_isRanked_X7_count rfl rfl rfl (by decide +kernel) ⟨Nat.le_of_ble_eq_true rfl, Nat.le_of_ble_eq_true rfl⟩) ⟨pR_blind, va_recv hK hP (ci := 6) (q0 := 0) rfl rfl, pR_at hK⟩ rfl rfl hl.1 rfl (lv_room (Nat.le_of_ble_eq_true rfl)) dL_isRanked_124 ⟨Nat.le_of_ble_eq_true rfl, Nat.le_of_ble_eq_true rfl⟩) hS (fun q _ h => hFc q h) hFc (fun r_ u_ t_ H locs ht hvm hw_ hB hz1 hk1 hS => ?_)
              rw [ht] at hB
              have hw_ : r_ = nI (bN e0) := hw_.trans hB0
              subst hw_
              have hP : va_P G vwCl ([oSy z q h x r y] ++ [(h 0, .inr (1, [.ref (h 1), .int (nI kh)])), (h 1, eR cy 4 (fun i => some (d i 0)))] ++ wDo cy (d 0) (E 0) ++ wDo cy (d 1) (E 1) ++ wDo cy (d 2) (E 2) ++ wDo cy (d 3) (E 3) ++ wDo cy q M ++ wRe cy r (q 0) (rl M) (kF M) (vF M) ++ wLa cy L M) H := (o_join hP hD [0, 48, 49, 50, 51, 39, 40, 41, 42, 43, 44, 45, 46, 47] [1, 2, 3, 4, 5, 6, 7, 8, 9, 10, 11, 12, 13, 14, 15, 16, 17, 18, 19, 20, 21, 22, 23, 24, 25, 26, 27, 28, 29, 30, 31, 32, 33, 34, 35, 36, 37, 38, 52, 53, 54, 55, 56] rfl (wr := [(h 0, .inr (1, [.ref (h 1), .int (nI kh)])), (h 1, eR cy 4 (fun i => some (d i 0)))] ++ wDo cy (d 0) (E 0) ++ wDo cy (d 1) (E 1) ++ wDo cy (d 2) (E 2) ++ wDo cy (d 3) (E 3) ++ wLa cy L M) rfl (by decide) (by decide) (by decide) hk1 hFc hB rfl).sub [43, 0, 1, 2, 3, 4, 5, 6, 7, 8, 9, 10, 11, 12, 13, 14, 15, 16, 17, 18, 19, 20, 21, 22, 23, 24, 25, 26, 27, 28, 29, 30, 31, 32, 33, 34, 35, 36, 37, 48, 49, 50, 51, 52, 53, 54, 55, 56, 44, 45, 46, 47, 38, 39, 40, 41, 42] rfl
              have hD : va_D A ([oSy z q h x r y] ++ [(h 0, .inr (1, [.ref (h 1), .int (nI kh)])), (h 1, eR cy 4 (fun i => some (d i 0)))] ++ wDo cy (d 0) (E 0) ++ wDo cy (d 1) (E 1) ++ wDo cy (d 2) (E 2) ++ wDo cy (d 3) (E 3) ++ wDo cy q M ++ wRe cy r (q 0) (rl M) (kF M) (vF M) ++ wLa cy L M) := vd_same hD rfl
              refine lv_iload hx hb dL_isRanked_127 (lv_at hl 1 rfl) ?_
              refine o_SI (As := [.int (nI e1)]) (rest := [.int (nI (bN e0))]) ⟨hx, hb, hml, hown, hts⟩ (kL_bits_p l G cy e1 (by omega)) (va_cwS 1 hts gL_isRanked_L_bits rfl rfl rfl (by decide +kernel) ⟨Nat.le_of_ble_eq_true rfl, Nat.le_of_ble_eq_true rfl⟩) hK rfl hl.1 rfl (Nat.le_of_ble_eq_true rfl) dL_isRanked_129 ⟨Nat.le_of_ble_eq_true rfl, Nat.le_of_ble_eq_true rfl⟩ ?_
              refine lv_icmp_ne (tgt := 139) hx hb dL_isRanked_132 (by decide) (fun c132 => ?_) (fun c132 => ?_)
              · exact absurd (by rw [hs]) c132
              · refine lv_iconst (v := nI 1) hx hb dL_isRanked_135 (by decide +kernel) ?_
                refine lv_goto (tgt := 140) hx hb dL_isRanked_136 (by decide) ?_
                exact o_endSz (k := kh) (d := d) (E := E) hx hb hr hlocks dL_isRanked_140 (by decide) hk4 (hP.sub (ws' := [oSy z q h x r y] ++ (wHi cy h kh d E ++ (wDo cy q M ++ (wRe cy r (q 0) (rl M) (kF M) (vF M) ++ wLa cy L M)))) [0, 1, 2, 3, 4, 5, 6, 7, 8, 9, 10, 11, 12, 13, 14, 15, 16, 17, 18, 19, 20, 21, 22, 23, 24, 25, 26, 27, 28, 29, 30, 31, 32, 33, 34, 35, 36, 37, 38, 39, 40, 41, 42, 43, 44, 45, 46, 47, 48, 49, 50, 51, 52, 53, 54, 55, 56] rfl) (hD.sub (ws' := [oSy z q h x r y] ++ (wHi cy h kh d E ++ (wDo cy q M ++ (wRe cy r (q 0) (rl M) (kF M) (vF M) ++ wLa cy L M)))) [0, 1, 2, 3, 4, 5, 6, 7, 8, 9, 10, 11, 12, 13, 14, 15, 16, 17, 18, 19, 20, 21, 22, 23, 24, 25, 26, 27, 28, 29, 30, 31, 32, 33, 34, 35, 36, 37, 38, 39, 40, 41, 42, 43, 44, 45, 46, 47, 48, 49, 50, 51, 52, 53, 54, 55, 56] (by decide) rfl) hS rfl

set_option maxHeartbeats 4000000 in
set_option maxRecDepth 100000 in
theorem kL_isRanked_tn (l : Launch) (G : va_G) (cy : Nat → ClassId) {H0 : Heap} {z : Nat} {q h x r y L : Nat → Nat} {kh : Nat} {d : Nat → Nat → Nat} {E : Nat → MT} {M : MT} {ru : Nat → Option Nat} {kn : Nat → Bool} {va : Nat → UInt32} {A0 : Nat → Prop} (hk4 : kh ≤ 4) (hW : WB M) (hF : WF M) (hP : va_P G vwCl ([oSy z q h x r y] ++ (wHi cy h kh d E ++ (wDo cy q M ++ (wRe cy r (q 0) ru kn va ++ wLa cy L M)))) H0) (hD0 : va_D A0 ([oSy z q h x r y] ++ (wHi cy h kh d E ++ (wDo cy q M ++ (wRe cy r (q 0) ru kn va ++ wLa cy L M))))) (v : Int32) (e0 e1 : Nat) (h12 : lwN (v >>> (nI 12 &&& 31)) % 3 = 0) (he1 : lwN v % (if lwN (v >>> (nI 16 &&& 31)) % 2 = 0 then 801 else 30) = e1) (he0 : e0 ≤ 800) (hT0 : mT M = uN e0) (hB0 : mB M = nI (bN e0)) (hs : ¬ e0 = e1) : MutS l yL_isRanked wsL_isRanked 7 200 [.ref z, .ref (L 0), .ref (L 1), .ref (L 4), .int v] H0 G cy 1 h ([oSy z q h x r y] ++ (wHi cy h kh d E ++ (wDo cy q M ++ (wRe cy r (q 0) ru kn va ++ wLa cy L M)))) [oSy z q h x r y] (wDo cy q (told M (nI (bN e1)) (tfl (nI (bN e1)))) ++ (wRe cy r (q 0) (rl (told M (nI (bN e1)) (tfl (nI (bN e1))))) (kF (told M (nI (bN e1)) (tfl (nI (bN e1))))) (vF (told M (nI (bN e1)) (tfl (nI (bN e1))))) ++ wLa cy L (told M (nI (bN e1)) (tfl (nI (bN e1)))))) := by
  refine Met.ofW (cc := cL_isRanked) (maxL := 8) (ret := (some .boolean)) (by decide) rfl ?_
  intro p e s m args below meth c s₁ B hml hv
  obtain ⟨rfl, hH, hK⟩ := hv
  subst hH
  have hx := B.exec
  have hb := B.bytes
  have hr := B.returns
  have hts := atoms_spec (ws := wsL_isRanked) B.pre
  have hown : s.vm.findClass RL = some m.cls := findClass_of_methodNamed B.named
  have hlocks := B.notSynchronized
  have hl := lv_entry ([.ref z, .ref (L 0), .ref (L 1), .ref (L 4), .int v]) (n := 8) (Nat.le_of_ble_eq_true rfl)
  rw [lg_entry_eq]
  generalize (lg_sl ([.ref z, .ref (L 0), .ref (L 1), .ref (L 4), .int v]) ++ List.replicate (8 - (lg_sl ([.ref z, .ref (L 0), .ref (L 1), .ref (L 4), .int v])).length) Slot.unset).toArray = ls at hl ⊢
  have hl : lv_has ls 8 [(0, .ref z), (1, .ref (L 0)), (2, .ref (L 1)), (3, .ref (L 4)), (4, .int v)] := hl
  obtain ⟨bP, bQ, bR, bO, bW, bL, bF⟩ := id hW
  have hE1 : e1 ≤ 800 := by rw [← he1]; exact Nat.le_of_lt_succ (Nat.lt_of_lt_of_le (Nat.mod_lt _ (by split <;> decide)) (by split <;> decide))
  have htl : ¬ nI (bN e1) < 0 ∧ frB (nI (bN e1)) FP.fconst0 1120403456 = true := ⟨nI_pos (bN_lt (by omega)), fr_tol hE1⟩
  have hbne : ¬ nI (bN e1) = nI (bN e0) := fun z => by rw [nI_eq (bN_lt (by omega)) (bN_lt (by omega))] at z; rcases Nat.lt_or_gt_of_ne hs with w9 | w9 <;> (have := bN_mono (by omega) w9; omega)
  have hD := hD0.self (sz := s.heap.size)
  generalize hAe : va_A ([oSy z q h x r y] ++ (wHi cy h kh d E ++ (wDo cy q M ++ (wRe cy r (q 0) ru kn va ++ wLa cy L M)))) s.heap.size = A at hD ⊢
  have hA : ∀ q : Nat, s.heap.size ≤ q → A q := fun q h => by rw [← hAe]; exact Or.inr h
  have hS : va_S A s.heap s.heap [] := va_S.rf
  refine lv_iload hx hb dL_isRanked_0 (lv_at hl 4 rfl) ?_
  refine lv_bipush (v := nI 12) hx hb dL_isRanked_2 (by decide +kernel) ?_
  refine lv_ishr hx hb dL_isRanked_4 ?_
  rw [show v >>> (nI 12 &&& 31) = v >>> (nI 12 &&& 31) from rfl]
  refine lv_iconst (v := nI 3) hx hb dL_isRanked_5 (by decide +kernel) ?_
  refine o_SI (As := [.int (v >>> (nI 12 &&& 31)), .int (nI 3)]) (rest := []) ⟨hx, hb, hml, hown, hts⟩ (kL_low l G cy (v >>> (nI 12 &&& 31)) 3 (by decide) (by omega)) (va_cwS 2 hts gL_isRanked_L_low rfl rfl rfl (by decide +kernel) ⟨Nat.le_of_ble_eq_true rfl, Nat.le_of_ble_eq_true rfl⟩) hK rfl hl.1 rfl (Nat.le_of_ble_eq_true rfl) dL_isRanked_6 ⟨Nat.le_of_ble_eq_true rfl, Nat.le_of_ble_eq_true rfl⟩ ?_
  refine o_if_ne (tgt := 141) hx hb dL_isRanked_9 (by decide) (by omega) (fun c9 => ?_) (fun c9 => ?_)
  · exact absurd c9 (by omega)
  · refine lv_iload hx hb dL_isRanked_12 (lv_at hl 4 rfl) ?_
    refine lv_iload hx hb dL_isRanked_14 (lv_at hl 4 rfl) ?_
    refine lv_bipush (v := nI 16) hx hb dL_isRanked_16 (by decide +kernel) ?_
    refine lv_ishr hx hb dL_isRanked_18 ?_
    rw [show v >>> (nI 16 &&& 31) = v >>> (nI 16 &&& 31) from rfl]
    refine lv_iconst (v := nI 2) hx hb dL_isRanked_19 (by decide +kernel) ?_
    refine o_SI (As := [.int (v >>> (nI 16 &&& 31)), .int (nI 2)]) (rest := [.int v]) ⟨hx, hb, hml, hown, hts⟩ (kL_low l G cy (v >>> (nI 16 &&& 31)) 2 (by decide) (by omega)) (va_cwS 2 hts gL_isRanked_L_low rfl rfl rfl (by decide +kernel) ⟨Nat.le_of_ble_eq_true rfl, Nat.le_of_ble_eq_true rfl⟩) hK rfl hl.1 rfl (Nat.le_of_ble_eq_true rfl) dL_isRanked_20 ⟨Nat.le_of_ble_eq_true rfl, Nat.le_of_ble_eq_true rfl⟩ ?_
    refine o_cut 34 [.int (nI (if lwN (v >>> (nI 16 &&& 31)) % 2 = 0 then 801 else 30)), .int v] (fun K34 => ?_) ?_
    · refine o_if_ne (tgt := 32) hx hb dL_isRanked_23 (by decide) (by omega) (fun c23 => ?_) (fun c23 => ?_)
      · refine lv_bipush (v := nI 30) hx hb dL_isRanked_32 (by decide +kernel) ?_
        have K9 := K34
        rw [show nI (if lwN (v >>> (nI 16 &&& 31)) % 2 = 0 then 801 else 30) = nI 30 from congrArg nI (if_neg (by omega))] at K9
        exact K9
      · refine lv_sipush (v := nI 801) hx hb dL_isRanked_26 (by decide +kernel) ?_
        refine lv_goto (tgt := 34) hx hb dL_isRanked_29 (by decide) ?_
        have K9 := K34
        rw [show nI (if lwN (v >>> (nI 16 &&& 31)) % 2 = 0 then 801 else 30) = nI 801 from congrArg nI (if_pos (by omega))] at K9
        exact K9
    refine o_SI (As := [.int v, .int (nI (if lwN (v >>> (nI 16 &&& 31)) % 2 = 0 then 801 else 30))]) (rest := []) ⟨hx, hb, hml, hown, hts⟩ (kL_low l G cy v (if lwN (v >>> (nI 16 &&& 31)) % 2 = 0 then 801 else 30) (by split <;> decide) (by split <;> decide)) (va_cwS 2 hts gL_isRanked_L_low rfl rfl rfl (by decide +kernel) ⟨Nat.le_of_ble_eq_true rfl, Nat.le_of_ble_eq_true rfl⟩) hK rfl hl.1 rfl (Nat.le_of_ble_eq_true rfl) dL_isRanked_34 ⟨Nat.le_of_ble_eq_true rfl, Nat.le_of_ble_eq_true rfl⟩ ?_
    rw [he1]
    refine lv_istore (lv' := [(5, .int (nI e1)), (0, .ref z), (1, .ref (L 0)), (2, .ref (L 1)), (3, .ref (L 4)), (4, .int v)]) hx hb dL_isRanked_37 hl (by decide) rfl (fun ls hl => ?_)
    refine lv_aload_n hx hb dL_isRanked_39 rfl (lv_at hl 4 rfl) ?_
    refine lv_bipush (v := nI 24) hx hb dL_isRanked_40 (by decide +kernel) ?_
    refine o_dald hx hb hK hP 56 3 rfl rfl 24 (by omega) (by decide) dL_isRanked_42 ?_
    rw [tD_24]
    rw [hT0]
    refine lv_iload hx hb dL_isRanked_43 (lv_at hl 0 rfl) ?_
    refine lv_i2d hx hb dL_isRanked_45 ?_
    refine lv_ldc2d hx hb hown (hts (.constantDouble RL 83 (4593671619917905920)) (by decide +kernel)) dL_isRanked_46 ?_
    refine lv_dmul hx hb dL_isRanked_49 (by rw [uN_dbl (by omega)]; exact f2d_n (FP.Core.FFin.notNaN (uN_fin (by omega)))) ?_
    refine lv_dcmp hx hb dL_isRanked_50 ?_
    refine lv_if_ne (tgt := 58) hx hb dL_isRanked_51 (by decide) (fun c51 => ?_) (fun c51 => ?_)
    · refine lv_iconst (v := nI 0) hx hb dL_isRanked_58 (by decide +kernel) ?_
      refine lv_istore (lv' := [(6, .int (nI 0)), (5, .int (nI e1)), (0, .ref z), (1, .ref (L 0)), (2, .ref (L 1)), (3, .ref (L 4)), (4, .int v)]) hx hb dL_isRanked_59 hl (by decide) rfl (fun ls hl => ?_)
      refine lv_aload_n hx hb dL_isRanked_61 rfl (lv_at hl 5 rfl) ?_
      refine lv_bipush (v := nI 24) hx hb dL_isRanked_62 (by decide +kernel) ?_
      refine lv_iload hx hb dL_isRanked_64 (lv_at hl 1 rfl) ?_
      refine lv_i2d hx hb dL_isRanked_66 ?_
      refine lv_ldc2d hx hb hown (hts (.constantDouble RL 83 (4593671619917905920)) (by decide +kernel)) dL_isRanked_67 ?_
      refine lv_dmul hx hb dL_isRanked_70 (by rw [uN_dbl (by omega)]; exact f2d_n (FP.Core.FFin.notNaN (uN_fin (by omega)))) ?_
      rw [st_dbl (by omega)]
      refine o_dast hx hb hK hP hD hS 56 3 rfl rfl 24 (by omega) (by decide) (tD_tol M (nI (bN e1)) (tfl (nI (bN e1)))) dL_isRanked_71 (fun H locs hP hD hS => ?_)
      have hP : va_P G vwCl ([oSy z q h x r y] ++ [(h 0, .inr (1, [.ref (h 1), .int (nI kh)])), (h 1, eR cy 4 (fun i => some (d i 0)))] ++ wDo cy (d 0) (E 0) ++ wDo cy (d 1) (E 1) ++ wDo cy (d 2) (E 2) ++ wDo cy (d 3) (E 3) ++ wDo cy q M ++ wRe cy r (q 0) ru kn va ++ wLa cy L ((told M (nI (bN e1)) (tfl (nI (bN e1)))))) H := hP
      have hD : va_D A ([oSy z q h x r y] ++ [(h 0, .inr (1, [.ref (h 1), .int (nI kh)])), (h 1, eR cy 4 (fun i => some (d i 0)))] ++ wDo cy (d 0) (E 0) ++ wDo cy (d 1) (E 1) ++ wDo cy (d 2) (E 2) ++ wDo cy (d 3) (E 3) ++ wDo cy q M ++ wRe cy r (q 0) ru kn va ++ wLa cy L ((told M (nI (bN e1)) (tfl (nI (bN e1)))))) := hD
      refine lv_aload_n hx hb dL_isRanked_72 rfl (lv_at hl 2 rfl) ?_
      refine lv_iload hx hb dL_isRanked_73 (lv_at hl 1 rfl) ?_
      refine o_SI (As := [.int (nI e1)]) (rest := [.ref z]) ⟨hx, hb, hml, hown, hts⟩ (kL_bits_p l G cy e1 (by omega)) (va_cwS 1 hts gL_isRanked_L_bits rfl rfl rfl (by decide +kernel) ⟨Nat.le_of_ble_eq_true rfl, Nat.le_of_ble_eq_true rfl⟩) hK rfl hl.1 rfl (Nat.le_of_ble_eq_true rfl) dL_isRanked_75 ⟨Nat.le_of_ble_eq_true rfl, Nat.le_of_ble_eq_true rfl⟩ ?_
      have hPc := hP.sub (ws' := [oSy z q h x r y] ++ (wHi cy h kh d E ++ wDo cy q M)) [0, 1, 2, 3, 4, 5, 6, 7, 8, 9, 10, 11, 12, 13, 14, 15, 16, 17, 18, 19, 20, 21, 22, 23, 24, 25, 26, 27, 28, 29, 30, 31, 32, 33, 34, 35, 36, 37, 38, 39, 40, 41, 42, 43, 44, 45, 46, 47] rfl
      have hDc := hD.sub (ws' := [oSy z q h x r y] ++ (wHi cy h kh d E ++ wDo cy q M)) [0, 1, 2, 3, 4, 5, 6, 7, 8, 9, 10, 11, 12, 13, 14, 15, 16, 17, 18, 19, 20, 21, 22, 23, 24, 25, 26, 27, 28, 29, 30, 31, 32, 33, 34, 35, 36, 37, 38, 39, 40, 41, 42, 43, 44, 45, 46, 47] (by decide) rfl
      have hFc := va_free (wc := [oSy z q h x r y] ++ (wHi cy h kh d E ++ wDo cy q M)) hD hS hA [0, 1, 2, 3, 4, 5, 6, 7, 8, 9, 10, 11, 12, 13, 14, 15, 16, 17, 18, 19, 20, 21, 22, 23, 24, 25, 26, 27, 28, 29, 30, 31, 32, 33, 34, 35, 36, 37, 38, 39, 40, 41, 42, 43, 44, 45, 46, 47] rfl
      refine va_calli (va_runV (As := [.int (nI (bN e1))]) (rest := []) ⟨hx, hb, hml, hown, hts⟩ (kX7_setTolerance l G cy hk4 hW hPc hDc (nI (bN e1)) htl (by rw [hB0]; exact hbne)) (cwV 1 hts gL_isRanked_X7_setTolerance rfl rfl rfl (by decide +kernel) ⟨Nat.le_of_ble_eq_true rfl, Nat.le_of_ble_eq_true rfl⟩) ⟨pR_blind, va_recv hK hP (ci := 6) (q0 := 0) rfl rfl, pR_at hK⟩ rfl rfl hl.1 rfl (lv_room (Nat.le_of_ble_eq_true rfl)) dL_isRanked_78 ⟨Nat.zero_le _, Nat.zero_le _⟩) hS (fun q _ h => hFc q h) hFc (fun r_ u_ t_ H locs ht hvm hw_ hB hz1 hk1 hS => ?_)
      obtain ⟨k1, d1, E1⟩ := u_
      obtain ⟨hr_, hk5⟩ := hw_
      have hk5 : k1 ≤ 4 := hk5
      have hr_ : r_ = nI 1 := hr_
      subst hr_
      have hB : va_P G vwCl ([oSy z q h x r y] ++ (wHi cy h k1 d1 E1 ++ wDo cy q (told M (nI (bN e1)) (tfl (nI (bN e1)))))) t_.heap ∧ va_D (va_A ([oSy z q h x r y] ++ (wHi cy h kh d E ++ wDo cy q M)) _) ([oSy z q h x r y] ++ (wHi cy h k1 d1 E1 ++ wDo cy q (told M (nI (bN e1)) (tfl (nI (bN e1)))))) := hB
      rw [ht] at hB
      obtain ⟨hP1, hD1⟩ := hB
      obtain ⟨hP, hD⟩ := va_join (wr := wRe cy r (q 0) ru kn va ++ wLa cy L (told M (nI (bN e1)) (tfl (nI (bN e1))))) hP hD [0, 1, 2, 3, 4, 5, 6, 7, 8, 9, 10, 11, 12, 13, 14, 15, 16, 17, 18, 19, 20, 21, 22, 23, 24, 25, 26, 27, 28, 29, 30, 31, 32, 33, 34, 35, 36, 37, 38, 39, 40, 41, 42, 43, 44, 45, 46, 47] [48, 49, 50, 51, 52, 53, 54, 55, 56] rfl rfl (by decide) (by decide) hk1 hFc hP1 hD1
      have hP : va_P G vwCl ([oSy z q h x r y] ++ (wHi cy h k1 d1 E1 ++ (wDo cy q ((told M (nI (bN e1)) (tfl (nI (bN e1))))) ++ (wRe cy r (q 0) ru kn va ++ wLa cy L ((told M (nI (bN e1)) (tfl (nI (bN e1))))))))) H := hP.sub [9, 10, 11, 12, 13, 14, 15, 16, 17, 18, 19, 20, 21, 22, 23, 24, 25, 26, 27, 28, 29, 30, 31, 32, 33, 34, 35, 36, 37, 38, 39, 40, 41, 42, 43, 44, 45, 46, 47, 48, 49, 50, 51, 52, 53, 54, 55, 56, 0, 1, 2, 3, 4, 5, 6, 7, 8] rfl
      have hD : va_D A ([oSy z q h x r y] ++ (wHi cy h k1 d1 E1 ++ (wDo cy q ((told M (nI (bN e1)) (tfl (nI (bN e1))))) ++ (wRe cy r (q 0) ru kn va ++ wLa cy L ((told M (nI (bN e1)) (tfl (nI (bN e1))))))))) := hD.sub [9, 10, 11, 12, 13, 14, 15, 16, 17, 18, 19, 20, 21, 22, 23, 24, 25, 26, 27, 28, 29, 30, 31, 32, 33, 34, 35, 36, 37, 38, 39, 40, 41, 42, 43, 44, 45, 46, 47, 48, 49, 50, 51, 52, 53, 54, 55, 56, 0, 1, 2, 3, 4, 5, 6, 7, 8] (by decide) rfl
      refine lv_iload hx hb dL_isRanked_81 (lv_at hl 0 rfl) ?_
      refine o_if_eq (tgt := 91) hx hb dL_isRanked_83 (by decide) (by omega) (fun c83 => ?_) (fun c83 => ?_)
      · refine lv_iconst (v := nI 1) hx hb dL_isRanked_91 (by decide +kernel) ?_
        refine lv_icmp_ne (tgt := 139) hx hb dL_isRanked_92 (by decide) (fun c92 => ?_) (fun c92 => ?_)
        · exact absurd rfl c92
        · refine lv_aload_n hx hb dL_isRanked_95 rfl (lv_at hl 2 rfl) ?_
          refine lv_ldc (v := (-2147483648)) hx hb hown (hts (.constant RL 9 (-2147483648)) (by decide +kernel)) dL_isRanked_96 ?_
          have hPs := hP.sub (ws' := [oSy z q h x r y] ++ wDo cy q ((told M (nI (bN e1)) (tfl (nI (bN e1)))))) [0, 39, 40, 41, 42, 43, 44, 45, 46, 47] rfl
          refine o_VI (As := [.int ((-2147483648))]) (rest := []) ⟨hx, hb, hml, hown, hts⟩ (kX7_setTolerance_b l G cy (show WB (told M (nI (bN e1)) (tfl (nI (bN e1)))) from hW) hPs _ (fun z => absurd (show (-2147483648 : Int32) < 0 by decide) z.1)) (cwV 1 hts gL_isRanked_X7_setTolerance rfl rfl rfl (by decide +kernel) ⟨Nat.le_of_ble_eq_true rfl, Nat.le_of_ble_eq_true rfl⟩) hK (va_recv hK hP (ci := 6) (q0 := 0) rfl rfl) rfl hl.1 rfl (Nat.le_of_ble_eq_true rfl) dL_isRanked_98 ⟨Nat.le_of_ble_eq_true rfl, Nat.le_of_ble_eq_true rfl⟩ ?_
          refine lv_bipush (v := (-2)) hx hb dL_isRanked_101 (by decide +kernel) ?_
          refine lv_icmp_ne (tgt := 139) hx hb dL_isRanked_103 (by decide) (fun c103 => ?_) (fun c103 => ?_)
          · exact absurd rfl c103
          · refine lv_aload_n hx hb dL_isRanked_106 rfl (lv_at hl 2 rfl) ?_
            refine lv_sipush (v := nI 801) hx hb dL_isRanked_107 (by decide +kernel) ?_
            refine o_SI (As := [.int (nI 801)]) (rest := [.ref z]) ⟨hx, hb, hml, hown, hts⟩ (kL_bits_p l G cy 801 (by decide)) (va_cwS 1 hts gL_isRanked_L_bits rfl rfl rfl (by decide +kernel) ⟨Nat.le_of_ble_eq_true rfl, Nat.le_of_ble_eq_true rfl⟩) hK rfl hl.1 rfl (Nat.le_of_ble_eq_true rfl) dL_isRanked_110 ⟨Nat.le_of_ble_eq_true rfl, Nat.le_of_ble_eq_true rfl⟩ ?_
            refine o_VI (As := [.int (nI (bN 801))]) (rest := []) ⟨hx, hb, hml, hown, hts⟩ (kX7_setTolerance_b l G cy (show WB (told M (nI (bN e1)) (tfl (nI (bN e1)))) from hW) hPs _ (fun z => absurd z.2 (by rw [fr_801]; decide))) (cwV 1 hts gL_isRanked_X7_setTolerance rfl rfl rfl (by decide +kernel) ⟨Nat.le_of_ble_eq_true rfl, Nat.le_of_ble_eq_true rfl⟩) hK (va_recv hK hP (ci := 6) (q0 := 0) rfl rfl) rfl hl.1 rfl (Nat.le_of_ble_eq_true rfl) dL_isRanked_113 ⟨Nat.le_of_ble_eq_true rfl, Nat.le_of_ble_eq_true rfl⟩ ?_
            refine lv_bipush (v := (-2)) hx hb dL_isRanked_116 (by decide +kernel) ?_
            refine lv_icmp_ne (tgt := 139) hx hb dL_isRanked_118 (by decide) (fun c118 => ?_) (fun c118 => ?_)
            · exact absurd rfl c118
            · refine lv_aload_n hx hb dL_isRanked_121 rfl (lv_at hl 2 rfl) ?_
              refine lv_bipush (v := nI 10) hx hb dL_isRanked_122 (by decide +kernel) ?_
              have hPc := hP.sub (ws' := [oSy z q h x r y] ++ (wRe cy r (q 0) ru kn va ++ wDo cy q (told M (nI (bN e1)) (tfl (nI (bN e1)))))) [0, 48, 49, 50, 51, 39, 40, 41, 42, 43, 44, 45, 46, 47] rfl
              have hDc := hD.sub (ws' := [oSy z q h x r y] ++ (wRe cy r (q 0) ru kn va ++ wDo cy q (told M (nI (bN e1)) (tfl (nI (bN e1)))))) [0, 48, 49, 50, 51, 39, 40, 41, 42, 43, 44, 45, 46, 47] (by decide) rfl
              have hFc := va_free (wc := [oSy z q h x r y] ++ (wRe cy r (q 0) ru kn va ++ wDo cy q (told M (nI (bN e1)) (tfl (nI (bN e1)))))) hD hS hA [0, 48, 49, 50, 51, 39, 40, 41, 42, 43, 44, 45, 46, 47] rfl
              refine va_calli (va_runV (As := [.int (nI 10)]) (rest := []) ⟨hx, hb, hml, hown, hts⟩ (kX7_count_10 l G cy (show WB (told M (nI (bN e1)) (tfl (nI (bN e1)))) from hW) (show WF (told M (nI (bN e1)) (tfl (nI (bN e1)))) from hF) hPc hDc) (cwV 1 hts gL_isRanked_X7_count rfl rfl rfl (by decide +kernel) ⟨Nat.le_of_ble_eq_true rfl, Nat.le_of_ble_eq_true rfl⟩) ⟨pR_blind, va_recv hK hP (ci := 6) (q0 := 0) rfl rfl, pR_at hK⟩ rfl rfl hl.1 rfl (lv_room (Nat.le_of_ble_eq_true rfl)) dL_isRanked_124 ⟨Nat.le_of_ble_eq_true rfl, Nat.le_of_ble_eq_true rfl⟩) hS (fun q _ h => hFc q h) hFc (fun r_ u_ t_ H locs ht hvm hw_ hB hz1 hk1 hS => ?_)
              rw [ht] at hB
              have hP : va_P G vwCl ([oSy z q h x r y] ++ [(h 0, .inr (1, [.ref (h 1), .int (nI k1)])), (h 1, eR cy 4 (fun i => some (d1 i 0)))] ++ wDo cy (d1 0) (E1 0) ++ wDo cy (d1 1) (E1 1) ++ wDo cy (d1 2) (E1 2) ++ wDo cy (d1 3) (E1 3) ++ wDo cy q ((told M (nI (bN e1)) (tfl (nI (bN e1))))) ++ wRe cy r (q 0) (rl (told M (nI (bN e1)) (tfl (nI (bN e1))))) (kF (told M (nI (bN e1)) (tfl (nI (bN e1))))) (vF (told M (nI (bN e1)) (tfl (nI (bN e1))))) ++ wLa cy L ((told M (nI (bN e1)) (tfl (nI (bN e1)))))) H := (o_join hP hD [0, 48, 49, 50, 51, 39, 40, 41, 42, 43, 44, 45, 46, 47] [1, 2, 3, 4, 5, 6, 7, 8, 9, 10, 11, 12, 13, 14, 15, 16, 17, 18, 19, 20, 21, 22, 23, 24, 25, 26, 27, 28, 29, 30, 31, 32, 33, 34, 35, 36, 37, 38, 52, 53, 54, 55, 56] rfl (wr := [(h 0, .inr (1, [.ref (h 1), .int (nI k1)])), (h 1, eR cy 4 (fun i => some (d1 i 0)))] ++ wDo cy (d1 0) (E1 0) ++ wDo cy (d1 1) (E1 1) ++ wDo cy (d1 2) (E1 2) ++ wDo cy (d1 3) (E1 3) ++ wLa cy L ((told M (nI (bN e1)) (tfl (nI (bN e1)))))) rfl (by decide) (by decide) (by decide) hk1 hFc hB rfl).sub [43, 0, 1, 2, 3, 4, 5, 6, 7, 8, 9, 10, 11, 12, 13, 14, 15, 16, 17, 18, 19, 20, 21, 22, 23, 24, 25, 26, 27, 28, 29, 30, 31, 32, 33, 34, 35, 36, 37, 48, 49, 50, 51, 52, 53, 54, 55, 56, 44, 45, 46, 47, 38, 39, 40, 41, 42] rfl
              have hD : va_D A ([oSy z q h x r y] ++ [(h 0, .inr (1, [.ref (h 1), .int (nI k1)])), (h 1, eR cy 4 (fun i => some (d1 i 0)))] ++ wDo cy (d1 0) (E1 0) ++ wDo cy (d1 1) (E1 1) ++ wDo cy (d1 2) (E1 2) ++ wDo cy (d1 3) (E1 3) ++ wDo cy q ((told M (nI (bN e1)) (tfl (nI (bN e1))))) ++ wRe cy r (q 0) (rl (told M (nI (bN e1)) (tfl (nI (bN e1))))) (kF (told M (nI (bN e1)) (tfl (nI (bN e1))))) (vF (told M (nI (bN e1)) (tfl (nI (bN e1))))) ++ wLa cy L ((told M (nI (bN e1)) (tfl (nI (bN e1)))))) := vd_same hD rfl
              obtain rfl : r_ = nI (bN e1) := hw_
              refine lv_iload hx hb dL_isRanked_127 (lv_at hl 1 rfl) ?_
              refine o_SI (As := [.int (nI e1)]) (rest := [.int (nI (bN e1))]) ⟨hx, hb, hml, hown, hts⟩ (kL_bits_p l G cy e1 (by omega)) (va_cwS 1 hts gL_isRanked_L_bits rfl rfl rfl (by decide +kernel) ⟨Nat.le_of_ble_eq_true rfl, Nat.le_of_ble_eq_true rfl⟩) hK rfl hl.1 rfl (Nat.le_of_ble_eq_true rfl) dL_isRanked_129 ⟨Nat.le_of_ble_eq_true rfl, Nat.le_of_ble_eq_true rfl⟩ ?_
              refine lv_icmp_ne (tgt := 139) hx hb dL_isRanked_132 (by decide) (fun c132 => ?_) (fun c132 => ?_)
              · exact absurd rfl c132
              · refine lv_iconst (v := nI 1) hx hb dL_isRanked_135 (by decide +kernel) ?_
                refine lv_goto (tgt := 140) hx hb dL_isRanked_136 (by decide) ?_
                exact o_endSz (k := k1) (d := d1) (E := E1) hx hb hr hlocks dL_isRanked_140 (by decide) hk5 (hP.sub (ws' := [oSy z q h x r y] ++ (wHi cy h k1 d1 E1 ++ (wDo cy q ((told M (nI (bN e1)) (tfl (nI (bN e1))))) ++ (wRe cy r (q 0) (rl (told M (nI (bN e1)) (tfl (nI (bN e1))))) (kF (told M (nI (bN e1)) (tfl (nI (bN e1))))) (vF (told M (nI (bN e1)) (tfl (nI (bN e1))))) ++ wLa cy L ((told M (nI (bN e1)) (tfl (nI (bN e1))))))))) [0, 1, 2, 3, 4, 5, 6, 7, 8, 9, 10, 11, 12, 13, 14, 15, 16, 17, 18, 19, 20, 21, 22, 23, 24, 25, 26, 27, 28, 29, 30, 31, 32, 33, 34, 35, 36, 37, 38, 39, 40, 41, 42, 43, 44, 45, 46, 47, 48, 49, 50, 51, 52, 53, 54, 55, 56] rfl) (hD.sub (ws' := [oSy z q h x r y] ++ (wHi cy h k1 d1 E1 ++ (wDo cy q ((told M (nI (bN e1)) (tfl (nI (bN e1))))) ++ (wRe cy r (q 0) (rl (told M (nI (bN e1)) (tfl (nI (bN e1))))) (kF (told M (nI (bN e1)) (tfl (nI (bN e1))))) (vF (told M (nI (bN e1)) (tfl (nI (bN e1))))) ++ wLa cy L ((told M (nI (bN e1)) (tfl (nI (bN e1))))))))) [0, 1, 2, 3, 4, 5, 6, 7, 8, 9, 10, 11, 12, 13, 14, 15, 16, 17, 18, 19, 20, 21, 22, 23, 24, 25, 26, 27, 28, 29, 30, 31, 32, 33, 34, 35, 36, 37, 38, 39, 40, 41, 42, 43, 44, 45, 46, 47, 48, 49, 50, 51, 52, 53, 54, 55, 56] (by decide) rfl) hS rfl
      · exact absurd c83 (by decide)
    · exact absurd ((tol_eq (by omega) (by omega)).mp c51) hs
