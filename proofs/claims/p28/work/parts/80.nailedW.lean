theorem st_dbl {e : Nat} (h : e ≤ 8000) : FP.dmul (FP.i2d (nI e)) 4593671619917905920 = FP.f2d (tfl (nI (bN e))) := by
  rw [uN_dbl h, tfl_u (by omega)]
theorem st_fin {e : Nat} (h : e ≤ 8000) : Fin32 (tfl (nI (bN e))) := by
  rw [tfl_u (by omega)]
  exact uN_fin h
set_option maxHeartbeats 4000000 in
set_option maxRecDepth 100000 in
theorem kL_isNailed_l (l : Launch) (G : va_G) (cy : Nat → ClassId) {H0 : Heap} {z : Nat} {q h x r y L : Nat → Nat} {kh : Nat} {d : Nat → Nat → Nat} {E : Nat → MT} {M : MT} {A0 : Nat → Prop} (hk4 : kh ≤ 4) (hW : WB M) (hN : mN M ≤ 15) (hP : va_P G vwCl ([oSy z q h x r y] ++ (wHi cy h kh d E ++ (wDo cy q M ++ wLa cy L M))) H0) (hD0 : va_D A0 ([oSy z q h x r y] ++ (wHi cy h kh d E ++ (wDo cy q M ++ wLa cy L M)))) (v y9 : Int32) (sf : Bool) (ef : Nat) (sn : Bool) (en : Nat) (pp w lk stt : Nat) (hpp : lwN v % (mP M + (if lwN (v >>> (nI 5 &&& 31)) % 20 = 0 then 1 else 0)) = pp) (hw9 : lwN (v >>> (nI 3 &&& 31)) % (if lwN (v >>> (nI 20 &&& 31)) % 2 = 0 then 3 else 16) = w) (hlk : lwN (v >>> (nI 7 &&& 31)) % (if lwN (v >>> (nI 20 &&& 31)) % 2 = 0 then 3 else 16) = lk) (hfz : nI (lwN y9 % (if lwN (y9 >>> (nI 8 &&& 31)) % 3 = 0 then 16001 else 33)) - nI (if lwN (y9 >>> (nI 8 &&& 31)) % 3 = 0 then 8000 else 16) = zI sf ef) (hnz : nI (lwN (y9 >>> (nI 10 &&& 31)) % (if lwN (y9 >>> (nI 24 &&& 31)) % 2 = 0 then 8001 else 41)) - nI 20 = zI sn en) (hst : 1 + lwN (v >>> (nI 15 &&& 31)) % 80 = stt) (hsn : sn = true → 0 < en) (hsn8 : sn = true → en ≤ 8000) (hen : en ≤ 8001) (hsf : sf = true → 0 < ef) (hef : ef ≤ 8000) (hpl : pp < mP M) (hnf : ¬ mN M = 15) (hp0 : 0 < mP M) (hil : 1 < lwN (v >>> (nI 12 &&& 31)) % 5) (hne : ¬ lk = w) : MutS l yL_isNailed wsL_isNailed 5 180 [.ref z, .ref (L 0), .ref (L 2), .ref (L 3), .ref (L 4), .int v, .int y9] H0 G cy 1 h ([oSy z q h x r y] ++ (wHi cy h kh d E ++ (wDo cy q M ++ wLa cy L M))) [oSy z q h x r y] (wDo cy q (hung M pp w (some lk) (zF sf ef) (zF sn (m8 en)) (tfl (nI (bN stt)))) ++ wLa cy L (hung M pp w (some lk) (zF sf ef) (zF sn (m8 en)) (tfl (nI (bN stt))))) := by
  refine Met.ofW (cc := cL_isNailed) (maxL := 15) (ret := (some .boolean)) (by decide) rfl ?_
  intro p e s m args below meth c s₁ B hml hv
  obtain ⟨rfl, hH, hK⟩ := hv
  subst hH
  have hx := B.exec
  have hb := B.bytes
  have hr := B.returns
  have hts := atoms_spec (ws := wsL_isNailed) B.pre
  have hown : s.vm.findClass RL = some m.cls := findClass_of_methodNamed B.named
  have hlocks := B.notSynchronized
  have hl := lv_entry ([.ref z, .ref (L 0), .ref (L 2), .ref (L 3), .ref (L 4), .int v, .int y9]) (n := 15) (Nat.le_of_ble_eq_true rfl)
  rw [lg_entry_eq]
  generalize (lg_sl ([.ref z, .ref (L 0), .ref (L 2), .ref (L 3), .ref (L 4), .int v, .int y9]) ++ List.replicate (15 - (lg_sl ([.ref z, .ref (L 0), .ref (L 2), .ref (L 3), .ref (L 4), .int v, .int y9])).length) Slot.unset).toArray = ls at hl ⊢
  have hl : lv_has ls 15 [(0, .ref z), (1, .ref (L 0)), (2, .ref (L 2)), (3, .ref (L 3)), (4, .ref (L 4)), (5, .int v), (6, .int y9)] := hl
  obtain ⟨bP, bQ, bR, bO, bW, bL, bF⟩ := id hW
  have hs1 : 1 ≤ stt ∧ stt ≤ 80 := by omega
  have hw16 : w < 16 := by rw [← hw9]; refine Nat.lt_of_lt_of_le (Nat.mod_lt _ (by split <;> decide)) (by split <;> decide)
  have hlk16 : lk < 16 := by rw [← hlk]; refine Nat.lt_of_lt_of_le (Nat.mod_lt _ (by split <;> decide)) (by split <;> decide)
  have hm8 := m8_le en
  have hm0 : sn = true → 0 < m8 en := fun z => by have := hsn z; unfold m8; split <;> omega
  have hPl := hP.sub (ws' := wLa cy L M) [48, 49, 50, 51, 52] rfl
  have hPs := hP.sub (ws' := [oSy z q h x r y] ++ wDo cy q M) [0, 39, 40, 41, 42, 43, 44, 45, 46, 47] rfl
  have hD := hD0.self (sz := s.heap.size)
  generalize hAe : va_A ([oSy z q h x r y] ++ (wHi cy h kh d E ++ (wDo cy q M ++ wLa cy L M))) s.heap.size = A at hD ⊢
  have hA : ∀ q : Nat, s.heap.size ≤ q → A q := fun q h => by rw [← hAe]; exact Or.inr h
  have hS : va_S A s.heap s.heap [] := va_S.rf
  refine lv_iload hx hb dL_isNailed_0 (lv_at hl 5 rfl) ?_
  refine lv_aload_n hx hb dL_isNailed_2 rfl (lv_at hl 1 rfl) ?_
  refine lv_iconst (v := nI 0) hx hb dL_isNailed_3 (by decide +kernel) ?_
  refine o_iald hx hb hK hP 48 0 rfl rfl 0 (by omega) (by decide) dL_isNailed_4 ?_
  rw [show gI M 0 = mP M from rfl]
  refine lv_iload hx hb dL_isNailed_5 (lv_at hl 5 rfl) ?_
  refine lv_iconst (v := nI 5) hx hb dL_isNailed_7 (by decide +kernel) ?_
  refine lv_ishr hx hb dL_isNailed_8 ?_
  rw [show v >>> (nI 5 &&& 31) = v >>> (nI 5 &&& 31) from rfl]
  refine lv_bipush (v := nI 20) hx hb dL_isNailed_9 (by decide +kernel) ?_
  refine o_SI (As := [.int (v >>> (nI 5 &&& 31)), .int (nI 20)]) (rest := [.int (nI (mP M)), .int v]) ⟨hx, hb, hml, hown, hts⟩ (kL_low l G cy (v >>> (nI 5 &&& 31)) 20 (by decide) (by omega)) (va_cwS 2 hts gL_isNailed_L_low rfl rfl rfl (by decide +kernel) ⟨Nat.le_of_ble_eq_true rfl, Nat.le_of_ble_eq_true rfl⟩) hK rfl hl.1 rfl (Nat.le_of_ble_eq_true rfl) dL_isNailed_11 ⟨Nat.le_of_ble_eq_true rfl, Nat.le_of_ble_eq_true rfl⟩ ?_
  refine o_cut 22 [.int (nI (if lwN (v >>> (nI 5 &&& 31)) % 20 = 0 then 1 else 0)), .int (nI (mP M)), .int v] (fun K22 => ?_) ?_
  · refine o_if_ne (tgt := 21) hx hb dL_isNailed_14 (by decide) (by omega) (fun c14 => ?_) (fun c14 => ?_)
    · refine lv_iconst (v := nI 0) hx hb dL_isNailed_21 (by decide +kernel) ?_
      have K9 := K22
      rw [show nI (if lwN (v >>> (nI 5 &&& 31)) % 20 = 0 then 1 else 0) = nI 0 from congrArg nI (if_neg (by omega))] at K9
      exact K9
    · refine lv_iconst (v := nI 1) hx hb dL_isNailed_17 (by decide +kernel) ?_
      refine lv_goto (tgt := 22) hx hb dL_isNailed_18 (by decide) ?_
      have K9 := K22
      rw [show nI (if lwN (v >>> (nI 5 &&& 31)) % 20 = 0 then 1 else 0) = nI 1 from congrArg nI (if_pos (by omega))] at K9
      exact K9
  refine lv_iadd hx hb dL_isNailed_22 ?_
  rw [nI_add]
  refine o_SI (As := [.int v, .int (nI ((mP M) + (if lwN (v >>> (nI 5 &&& 31)) % 20 = 0 then 1 else 0)))]) (rest := []) ⟨hx, hb, hml, hown, hts⟩ (kL_low l G cy v (mP M + (if lwN (v >>> (nI 5 &&& 31)) % 20 = 0 then 1 else 0)) (by omega) (by split <;> omega)) (va_cwS 2 hts gL_isNailed_L_low rfl rfl rfl (by decide +kernel) ⟨Nat.le_of_ble_eq_true rfl, Nat.le_of_ble_eq_true rfl⟩) hK rfl hl.1 rfl (Nat.le_of_ble_eq_true rfl) dL_isNailed_23 ⟨Nat.le_of_ble_eq_true rfl, Nat.le_of_ble_eq_true rfl⟩ ?_
  rw [hpp]
  refine lv_istore (lv' := [(7, .int (nI pp)), (0, .ref z), (1, .ref (L 0)), (2, .ref (L 2)), (3, .ref (L 3)), (4, .ref (L 4)), (5, .int v), (6, .int y9)]) hx hb dL_isNailed_26 hl (by decide) rfl (fun ls hl => ?_)
  refine lv_iload hx hb dL_isNailed_28 (lv_at hl 6 rfl) ?_
  refine lv_iconst (v := nI 3) hx hb dL_isNailed_30 (by decide +kernel) ?_
  refine lv_ishr hx hb dL_isNailed_31 ?_
  rw [show v >>> (nI 3 &&& 31) = v >>> (nI 3 &&& 31) from rfl]
  refine lv_iload hx hb dL_isNailed_32 (lv_at hl 6 rfl) ?_
  refine lv_bipush (v := nI 20) hx hb dL_isNailed_34 (by decide +kernel) ?_
  refine lv_ishr hx hb dL_isNailed_36 ?_
  rw [show v >>> (nI 20 &&& 31) = v >>> (nI 20 &&& 31) from rfl]
  refine lv_iconst (v := nI 2) hx hb dL_isNailed_37 (by decide +kernel) ?_
  refine o_SI (As := [.int (v >>> (nI 20 &&& 31)), .int (nI 2)]) (rest := [.int (v >>> (nI 3 &&& 31))]) ⟨hx, hb, hml, hown, hts⟩ (kL_low l G cy (v >>> (nI 20 &&& 31)) 2 (by decide) (by omega)) (va_cwS 2 hts gL_isNailed_L_low rfl rfl rfl (by decide +kernel) ⟨Nat.le_of_ble_eq_true rfl, Nat.le_of_ble_eq_true rfl⟩) hK rfl hl.1 rfl (Nat.le_of_ble_eq_true rfl) dL_isNailed_38 ⟨Nat.le_of_ble_eq_true rfl, Nat.le_of_ble_eq_true rfl⟩ ?_
  refine o_cut 50 [.int (nI (if lwN (v >>> (nI 20 &&& 31)) % 2 = 0 then 3 else 16)), .int (v >>> (nI 3 &&& 31))] (fun K50 => ?_) ?_
  · refine o_if_ne (tgt := 48) hx hb dL_isNailed_41 (by decide) (by omega) (fun c41 => ?_) (fun c41 => ?_)
    · refine lv_bipush (v := nI 16) hx hb dL_isNailed_48 (by decide +kernel) ?_
      have K9 := K50
      rw [show nI (if lwN (v >>> (nI 20 &&& 31)) % 2 = 0 then 3 else 16) = nI 16 from congrArg nI (if_neg (by omega))] at K9
      exact K9
    · refine lv_iconst (v := nI 3) hx hb dL_isNailed_44 (by decide +kernel) ?_
      refine lv_goto (tgt := 50) hx hb dL_isNailed_45 (by decide) ?_
      have K9 := K50
      rw [show nI (if lwN (v >>> (nI 20 &&& 31)) % 2 = 0 then 3 else 16) = nI 3 from congrArg nI (if_pos (by omega))] at K9
      exact K9
  refine o_SI (As := [.int (v >>> (nI 3 &&& 31)), .int (nI (if lwN (v >>> (nI 20 &&& 31)) % 2 = 0 then 3 else 16))]) (rest := []) ⟨hx, hb, hml, hown, hts⟩ (kL_low l G cy (v >>> (nI 3 &&& 31)) (if lwN (v >>> (nI 20 &&& 31)) % 2 = 0 then 3 else 16) (by split <;> decide) (by split <;> decide)) (va_cwS 2 hts gL_isNailed_L_low rfl rfl rfl (by decide +kernel) ⟨Nat.le_of_ble_eq_true rfl, Nat.le_of_ble_eq_true rfl⟩) hK rfl hl.1 rfl (Nat.le_of_ble_eq_true rfl) dL_isNailed_50 ⟨Nat.le_of_ble_eq_true rfl, Nat.le_of_ble_eq_true rfl⟩ ?_
  rw [hw9]
  refine lv_istore (lv' := [(8, .int (nI w)), (7, .int (nI pp)), (0, .ref z), (1, .ref (L 0)), (2, .ref (L 2)), (3, .ref (L 3)), (4, .ref (L 4)), (5, .int v), (6, .int y9)]) hx hb dL_isNailed_53 hl (by decide) rfl (fun ls hl => ?_)
  refine lv_iload hx hb dL_isNailed_55 (lv_at hl 7 rfl) ?_
  refine lv_bipush (v := nI 7) hx hb dL_isNailed_57 (by decide +kernel) ?_
  refine lv_ishr hx hb dL_isNailed_59 ?_
  rw [show v >>> (nI 7 &&& 31) = v >>> (nI 7 &&& 31) from rfl]
  refine lv_iload hx hb dL_isNailed_60 (lv_at hl 7 rfl) ?_
  refine lv_bipush (v := nI 20) hx hb dL_isNailed_62 (by decide +kernel) ?_
  refine lv_ishr hx hb dL_isNailed_64 ?_
  rw [show v >>> (nI 20 &&& 31) = v >>> (nI 20 &&& 31) from rfl]
  refine lv_iconst (v := nI 2) hx hb dL_isNailed_65 (by decide +kernel) ?_
  refine o_SI (As := [.int (v >>> (nI 20 &&& 31)), .int (nI 2)]) (rest := [.int (v >>> (nI 7 &&& 31))]) ⟨hx, hb, hml, hown, hts⟩ (kL_low l G cy (v >>> (nI 20 &&& 31)) 2 (by decide) (by omega)) (va_cwS 2 hts gL_isNailed_L_low rfl rfl rfl (by decide +kernel) ⟨Nat.le_of_ble_eq_true rfl, Nat.le_of_ble_eq_true rfl⟩) hK rfl hl.1 rfl (Nat.le_of_ble_eq_true rfl) dL_isNailed_66 ⟨Nat.le_of_ble_eq_true rfl, Nat.le_of_ble_eq_true rfl⟩ ?_
  refine o_cut 78 [.int (nI (if lwN (v >>> (nI 20 &&& 31)) % 2 = 0 then 3 else 16)), .int (v >>> (nI 7 &&& 31))] (fun K78 => ?_) ?_
  · refine o_if_ne (tgt := 76) hx hb dL_isNailed_69 (by decide) (by omega) (fun c69 => ?_) (fun c69 => ?_)
    · refine lv_bipush (v := nI 16) hx hb dL_isNailed_76 (by decide +kernel) ?_
      have K9 := K78
      rw [show nI (if lwN (v >>> (nI 20 &&& 31)) % 2 = 0 then 3 else 16) = nI 16 from congrArg nI (if_neg (by omega))] at K9
      exact K9
    · refine lv_iconst (v := nI 3) hx hb dL_isNailed_72 (by decide +kernel) ?_
      refine lv_goto (tgt := 78) hx hb dL_isNailed_73 (by decide) ?_
      have K9 := K78
      rw [show nI (if lwN (v >>> (nI 20 &&& 31)) % 2 = 0 then 3 else 16) = nI 3 from congrArg nI (if_pos (by omega))] at K9
      exact K9
  refine o_SI (As := [.int (v >>> (nI 7 &&& 31)), .int (nI (if lwN (v >>> (nI 20 &&& 31)) % 2 = 0 then 3 else 16))]) (rest := []) ⟨hx, hb, hml, hown, hts⟩ (kL_low l G cy (v >>> (nI 7 &&& 31)) (if lwN (v >>> (nI 20 &&& 31)) % 2 = 0 then 3 else 16) (by split <;> decide) (by split <;> decide)) (va_cwS 2 hts gL_isNailed_L_low rfl rfl rfl (by decide +kernel) ⟨Nat.le_of_ble_eq_true rfl, Nat.le_of_ble_eq_true rfl⟩) hK rfl hl.1 rfl (Nat.le_of_ble_eq_true rfl) dL_isNailed_78 ⟨Nat.le_of_ble_eq_true rfl, Nat.le_of_ble_eq_true rfl⟩ ?_
  rw [hlk]
  refine lv_istore (lv' := [(9, .int (nI lk)), (8, .int (nI w)), (7, .int (nI pp)), (0, .ref z), (1, .ref (L 0)), (2, .ref (L 2)), (3, .ref (L 3)), (4, .ref (L 4)), (5, .int v), (6, .int y9)]) hx hb dL_isNailed_81 hl (by decide) rfl (fun ls hl => ?_)
  refine lv_iload hx hb dL_isNailed_83 (lv_at hl 8 rfl) ?_
  refine lv_bipush (v := nI 12) hx hb dL_isNailed_85 (by decide +kernel) ?_
  refine lv_ishr hx hb dL_isNailed_87 ?_
  rw [show v >>> (nI 12 &&& 31) = v >>> (nI 12 &&& 31) from rfl]
  refine lv_iconst (v := nI 5) hx hb dL_isNailed_88 (by decide +kernel) ?_
  refine o_SI (As := [.int (v >>> (nI 12 &&& 31)), .int (nI 5)]) (rest := []) ⟨hx, hb, hml, hown, hts⟩ (kL_low l G cy (v >>> (nI 12 &&& 31)) 5 (by decide) (by omega)) (va_cwS 2 hts gL_isNailed_L_low rfl rfl rfl (by decide +kernel) ⟨Nat.le_of_ble_eq_true rfl, Nat.le_of_ble_eq_true rfl⟩) hK rfl hl.1 rfl (Nat.le_of_ble_eq_true rfl) dL_isNailed_89 ⟨Nat.le_of_ble_eq_true rfl, Nat.le_of_ble_eq_true rfl⟩ ?_
  refine lv_iconst (v := nI 1) hx hb dL_isNailed_92 (by decide +kernel) ?_
  refine o_cut 101 [.int (bI (1 < lwN (v >>> (nI 12 &&& 31)) % 5))] (fun K101 => ?_) ?_
  · refine o_icmp_le (tgt := 100) hx hb dL_isNailed_93 (by decide) (by omega) (by omega) (fun c93 => ?_) (fun c93 => ?_)
    · refine lv_iconst (v := nI 0) hx hb dL_isNailed_100 (by decide +kernel) ?_
      have K9 := K101
      rw [show bI (1 < lwN (v >>> (nI 12 &&& 31)) % 5) = nI 0 from bI_f (by omega)] at K9
      exact K9
    · refine lv_iconst (v := nI 1) hx hb dL_isNailed_96 (by decide +kernel) ?_
      refine lv_goto (tgt := 101) hx hb dL_isNailed_97 (by decide) ?_
      have K9 := K101
      rw [show bI (1 < lwN (v >>> (nI 12 &&& 31)) % 5) = nI 1 from bI_t (by omega)] at K9
      exact K9
  refine lv_istore (lv' := [(10, .int (bI (1 < lwN (v >>> (nI 12 &&& 31)) % 5))), (9, .int (nI lk)), (8, .int (nI w)), (7, .int (nI pp)), (0, .ref z), (1, .ref (L 0)), (2, .ref (L 2)), (3, .ref (L 3)), (4, .ref (L 4)), (5, .int v), (6, .int y9)]) hx hb dL_isNailed_101 hl (by decide) rfl (fun ls hl => ?_)
  refine lv_iload hx hb dL_isNailed_103 (lv_at hl 10 rfl) ?_
  refine lv_iload hx hb dL_isNailed_105 (lv_at hl 10 rfl) ?_
  refine lv_bipush (v := nI 8) hx hb dL_isNailed_107 (by decide +kernel) ?_
  refine lv_ishr hx hb dL_isNailed_109 ?_
  rw [show y9 >>> (nI 8 &&& 31) = y9 >>> (nI 8 &&& 31) from rfl]
  refine lv_iconst (v := nI 3) hx hb dL_isNailed_110 (by decide +kernel) ?_
  refine o_SI (As := [.int (y9 >>> (nI 8 &&& 31)), .int (nI 3)]) (rest := [.int y9]) ⟨hx, hb, hml, hown, hts⟩ (kL_low l G cy (y9 >>> (nI 8 &&& 31)) 3 (by decide) (by omega)) (va_cwS 2 hts gL_isNailed_L_low rfl rfl rfl (by decide +kernel) ⟨Nat.le_of_ble_eq_true rfl, Nat.le_of_ble_eq_true rfl⟩) hK rfl hl.1 rfl (Nat.le_of_ble_eq_true rfl) dL_isNailed_111 ⟨Nat.le_of_ble_eq_true rfl, Nat.le_of_ble_eq_true rfl⟩ ?_
  refine o_cut 125 [.int (nI (if lwN (y9 >>> (nI 8 &&& 31)) % 3 = 0 then 16001 else 33)), .int y9] (fun K125 => ?_) ?_
  · refine o_if_ne (tgt := 123) hx hb dL_isNailed_114 (by decide) (by omega) (fun c114 => ?_) (fun c114 => ?_)
    · refine lv_bipush (v := nI 33) hx hb dL_isNailed_123 (by decide +kernel) ?_
      have K9 := K125
      rw [show nI (if lwN (y9 >>> (nI 8 &&& 31)) % 3 = 0 then 16001 else 33) = nI 33 from congrArg nI (if_neg (by omega))] at K9
      exact K9
    · refine lv_sipush (v := nI 16001) hx hb dL_isNailed_117 (by decide +kernel) ?_
      refine lv_goto (tgt := 125) hx hb dL_isNailed_120 (by decide) ?_
      have K9 := K125
      rw [show nI (if lwN (y9 >>> (nI 8 &&& 31)) % 3 = 0 then 16001 else 33) = nI 16001 from congrArg nI (if_pos (by omega))] at K9
      exact K9
  refine o_SI (As := [.int y9, .int (nI (if lwN (y9 >>> (nI 8 &&& 31)) % 3 = 0 then 16001 else 33))]) (rest := []) ⟨hx, hb, hml, hown, hts⟩ (kL_low l G cy y9 (if lwN (y9 >>> (nI 8 &&& 31)) % 3 = 0 then 16001 else 33) (by split <;> decide) (by split <;> decide)) (va_cwS 2 hts gL_isNailed_L_low rfl rfl rfl (by decide +kernel) ⟨Nat.le_of_ble_eq_true rfl, Nat.le_of_ble_eq_true rfl⟩) hK rfl hl.1 rfl (Nat.le_of_ble_eq_true rfl) dL_isNailed_125 ⟨Nat.le_of_ble_eq_true rfl, Nat.le_of_ble_eq_true rfl⟩ ?_
  refine lv_iload hx hb dL_isNailed_128 (lv_at hl 10 rfl) ?_
  refine lv_bipush (v := nI 8) hx hb dL_isNailed_130 (by decide +kernel) ?_
  refine lv_ishr hx hb dL_isNailed_132 ?_
  rw [show y9 >>> (nI 8 &&& 31) = y9 >>> (nI 8 &&& 31) from rfl]
  refine lv_iconst (v := nI 3) hx hb dL_isNailed_133 (by decide +kernel) ?_
  refine o_SI (As := [.int (y9 >>> (nI 8 &&& 31)), .int (nI 3)]) (rest := [.int (nI (lwN y9 % (if lwN (y9 >>> (nI 8 &&& 31)) % 3 = 0 then 16001 else 33)))]) ⟨hx, hb, hml, hown, hts⟩ (kL_low l G cy (y9 >>> (nI 8 &&& 31)) 3 (by decide) (by omega)) (va_cwS 2 hts gL_isNailed_L_low rfl rfl rfl (by decide +kernel) ⟨Nat.le_of_ble_eq_true rfl, Nat.le_of_ble_eq_true rfl⟩) hK rfl hl.1 rfl (Nat.le_of_ble_eq_true rfl) dL_isNailed_134 ⟨Nat.le_of_ble_eq_true rfl, Nat.le_of_ble_eq_true rfl⟩ ?_
  refine o_cut 148 [.int (nI (if lwN (y9 >>> (nI 8 &&& 31)) % 3 = 0 then 8000 else 16)), .int (nI (lwN y9 % (if lwN (y9 >>> (nI 8 &&& 31)) % 3 = 0 then 16001 else 33)))] (fun K148 => ?_) ?_
  · refine o_if_ne (tgt := 146) hx hb dL_isNailed_137 (by decide) (by omega) (fun c137 => ?_) (fun c137 => ?_)
    · refine lv_bipush (v := nI 16) hx hb dL_isNailed_146 (by decide +kernel) ?_
      have K9 := K148
      rw [show nI (if lwN (y9 >>> (nI 8 &&& 31)) % 3 = 0 then 8000 else 16) = nI 16 from congrArg nI (if_neg (by omega))] at K9
      exact K9
    · refine lv_sipush (v := nI 8000) hx hb dL_isNailed_140 (by decide +kernel) ?_
      refine lv_goto (tgt := 148) hx hb dL_isNailed_143 (by decide) ?_
      have K9 := K148
      rw [show nI (if lwN (y9 >>> (nI 8 &&& 31)) % 3 = 0 then 8000 else 16) = nI 8000 from congrArg nI (if_pos (by omega))] at K9
      exact K9
  refine lv_isub hx hb dL_isNailed_148 ?_
  rw [hfz]
  refine lv_istore (lv' := [(11, .int (zI sf ef)), (10, .int (bI (1 < lwN (v >>> (nI 12 &&& 31)) % 5))), (9, .int (nI lk)), (8, .int (nI w)), (7, .int (nI pp)), (0, .ref z), (1, .ref (L 0)), (2, .ref (L 2)), (3, .ref (L 3)), (4, .ref (L 4)), (5, .int v), (6, .int y9)]) hx hb dL_isNailed_149 hl (by decide) rfl (fun ls hl => ?_)
  refine lv_iload hx hb dL_isNailed_151 (lv_at hl 11 rfl) ?_
  refine lv_bipush (v := nI 10) hx hb dL_isNailed_153 (by decide +kernel) ?_
  refine lv_ishr hx hb dL_isNailed_155 ?_
  rw [show y9 >>> (nI 10 &&& 31) = y9 >>> (nI 10 &&& 31) from rfl]
  refine lv_iload hx hb dL_isNailed_156 (lv_at hl 11 rfl) ?_
  refine lv_bipush (v := nI 24) hx hb dL_isNailed_158 (by decide +kernel) ?_
  refine lv_ishr hx hb dL_isNailed_160 ?_
  rw [show y9 >>> (nI 24 &&& 31) = y9 >>> (nI 24 &&& 31) from rfl]
  refine lv_iconst (v := nI 2) hx hb dL_isNailed_161 (by decide +kernel) ?_
  refine o_SI (As := [.int (y9 >>> (nI 24 &&& 31)), .int (nI 2)]) (rest := [.int (y9 >>> (nI 10 &&& 31))]) ⟨hx, hb, hml, hown, hts⟩ (kL_low l G cy (y9 >>> (nI 24 &&& 31)) 2 (by decide) (by omega)) (va_cwS 2 hts gL_isNailed_L_low rfl rfl rfl (by decide +kernel) ⟨Nat.le_of_ble_eq_true rfl, Nat.le_of_ble_eq_true rfl⟩) hK rfl hl.1 rfl (Nat.le_of_ble_eq_true rfl) dL_isNailed_162 ⟨Nat.le_of_ble_eq_true rfl, Nat.le_of_ble_eq_true rfl⟩ ?_
  refine o_cut 176 [.int (nI (if lwN (y9 >>> (nI 24 &&& 31)) % 2 = 0 then 8001 else 41)), .int (y9 >>> (nI 10 &&& 31))] (fun K176 => ?_) ?_
  · refine o_if_ne (tgt := 174) hx hb dL_isNailed_165 (by decide) (by omega) (fun c165 => ?_) (fun c165 => ?_)
    · refine lv_bipush (v := nI 41) hx hb dL_isNailed_174 (by decide +kernel) ?_
      have K9 := K176
      rw [show nI (if lwN (y9 >>> (nI 24 &&& 31)) % 2 = 0 then 8001 else 41) = nI 41 from congrArg nI (if_neg (by omega))] at K9
      exact K9
    · refine lv_sipush (v := nI 8001) hx hb dL_isNailed_168 (by decide +kernel) ?_
      refine lv_goto (tgt := 176) hx hb dL_isNailed_171 (by decide) ?_
      have K9 := K176
      rw [show nI (if lwN (y9 >>> (nI 24 &&& 31)) % 2 = 0 then 8001 else 41) = nI 8001 from congrArg nI (if_pos (by omega))] at K9
      exact K9
  refine o_SI (As := [.int (y9 >>> (nI 10 &&& 31)), .int (nI (if lwN (y9 >>> (nI 24 &&& 31)) % 2 = 0 then 8001 else 41))]) (rest := []) ⟨hx, hb, hml, hown, hts⟩ (kL_low l G cy (y9 >>> (nI 10 &&& 31)) (if lwN (y9 >>> (nI 24 &&& 31)) % 2 = 0 then 8001 else 41) (by split <;> decide) (by split <;> decide)) (va_cwS 2 hts gL_isNailed_L_low rfl rfl rfl (by decide +kernel) ⟨Nat.le_of_ble_eq_true rfl, Nat.le_of_ble_eq_true rfl⟩) hK rfl hl.1 rfl (Nat.le_of_ble_eq_true rfl) dL_isNailed_176 ⟨Nat.le_of_ble_eq_true rfl, Nat.le_of_ble_eq_true rfl⟩ ?_
  refine lv_bipush (v := nI 20) hx hb dL_isNailed_179 (by decide +kernel) ?_
  refine lv_isub hx hb dL_isNailed_181 ?_
  rw [hnz]
  refine lv_istore (lv' := [(12, .int (zI sn en)), (11, .int (zI sf ef)), (10, .int (bI (1 < lwN (v >>> (nI 12 &&& 31)) % 5))), (9, .int (nI lk)), (8, .int (nI w)), (7, .int (nI pp)), (0, .ref z), (1, .ref (L 0)), (2, .ref (L 2)), (3, .ref (L 3)), (4, .ref (L 4)), (5, .int v), (6, .int y9)]) hx hb dL_isNailed_182 hl (by decide) rfl (fun ls hl => ?_)
  refine lv_iconst (v := nI 1) hx hb dL_isNailed_184 (by decide +kernel) ?_
  refine lv_iload hx hb dL_isNailed_185 (lv_at hl 11 rfl) ?_
  refine lv_bipush (v := nI 15) hx hb dL_isNailed_187 (by decide +kernel) ?_
  refine lv_ishr hx hb dL_isNailed_189 ?_
  rw [show v >>> (nI 15 &&& 31) = v >>> (nI 15 &&& 31) from rfl]
  refine lv_bipush (v := nI 80) hx hb dL_isNailed_190 (by decide +kernel) ?_
  refine o_SI (As := [.int (v >>> (nI 15 &&& 31)), .int (nI 80)]) (rest := [.int (nI 1)]) ⟨hx, hb, hml, hown, hts⟩ (kL_low l G cy (v >>> (nI 15 &&& 31)) 80 (by decide) (by omega)) (va_cwS 2 hts gL_isNailed_L_low rfl rfl rfl (by decide +kernel) ⟨Nat.le_of_ble_eq_true rfl, Nat.le_of_ble_eq_true rfl⟩) hK rfl hl.1 rfl (Nat.le_of_ble_eq_true rfl) dL_isNailed_192 ⟨Nat.le_of_ble_eq_true rfl, Nat.le_of_ble_eq_true rfl⟩ ?_
  refine lv_iadd hx hb dL_isNailed_195 ?_
  rw [nI_add, hst]
  refine lv_istore (lv' := [(13, .int (nI stt)), (12, .int (zI sn en)), (11, .int (zI sf ef)), (10, .int (bI (1 < lwN (v >>> (nI 12 &&& 31)) % 5))), (9, .int (nI lk)), (8, .int (nI w)), (7, .int (nI pp)), (0, .ref z), (1, .ref (L 0)), (2, .ref (L 2)), (3, .ref (L 3)), (4, .ref (L 4)), (5, .int v), (6, .int y9)]) hx hb dL_isNailed_196 hl (by decide) rfl (fun ls hl => ?_)
  refine lv_iload hx hb dL_isNailed_198 (lv_at hl 6 rfl) ?_
  refine lv_aload_n hx hb dL_isNailed_200 rfl (lv_at hl 8 rfl) ?_
  refine lv_iconst (v := nI 0) hx hb dL_isNailed_201 (by decide +kernel) ?_
  refine o_iald hx hb hK hP 48 0 rfl rfl 0 (by omega) (by decide) dL_isNailed_202 ?_
  rw [show gI M 0 = mP M from rfl]
  refine o_icmp_ne (tgt := 268) hx hb dL_isNailed_203 (by decide) (by omega) (by omega) (fun c203 => ?_) (fun c203 => ?_)
  · refine lv_iload hx hb dL_isNailed_268 (lv_at hl 1 rfl) ?_
    refine lv_sipush (v := nI 8000) hx hb dL_isNailed_270 (by decide +kernel) ?_
    refine o_cut 284 [.int (zI sn (m8 en))] (fun K284 => ?_) ?_
    · refine lv_icmp_le (tgt := 282) hx hb dL_isNailed_273 (by decide) (fun c273 => ?_) (fun c273 => ?_)
      · refine lv_iload hx hb dL_isNailed_282 (lv_at hl 1 rfl) ?_
        have K9 := K284
        rw [show zI sn (m8 en) = zI sn en from m8_t (by omega) hsn8 c273] at K9
        exact K9
      · refine lv_sipush (v := nI 8000) hx hb dL_isNailed_276 (by decide +kernel) ?_
        refine lv_goto (tgt := 284) hx hb dL_isNailed_279 (by decide) ?_
        have K9 := K284
        rw [show zI sn (m8 en) = nI 8000 from m8_f (by omega) hsn8 c273] at K9
        exact K9
    refine lv_istore (lv' := [(12, .int (zI sn (m8 en))), (13, .int (nI stt)), (11, .int (zI sf ef)), (10, .int (bI (1 < lwN (v >>> (nI 12 &&& 31)) % 5))), (9, .int (nI lk)), (8, .int (nI w)), (7, .int (nI pp)), (0, .ref z), (1, .ref (L 0)), (2, .ref (L 2)), (3, .ref (L 3)), (4, .ref (L 4)), (5, .int v), (6, .int y9)]) hx hb dL_isNailed_284 hl (by decide) rfl (fun ls hl => ?_)
    refine lv_iload hx hb dL_isNailed_286 (lv_at hl 3 rfl) ?_
    refine o_ifb_eq (tgt := 363) hx hb dL_isNailed_288 (by decide) (fun c288 => ?_) (fun c288 => ?_)
    · exact absurd hil c288
    · refine lv_iload hx hb dL_isNailed_291 (lv_at hl 4 rfl) ?_
      refine lv_iload hx hb dL_isNailed_293 (lv_at hl 5 rfl) ?_
      refine o_icmp_ne (tgt := 363) hx hb dL_isNailed_295 (by decide) (by omega) (by omega) (fun c295 => ?_) (fun c295 => ?_)
      · refine lv_aload_n hx hb dL_isNailed_363 rfl (lv_at hl 8 rfl) ?_
        refine lv_iconst (v := nI 1) hx hb dL_isNailed_364 (by decide +kernel) ?_
        refine o_iald hx hb hK hP 48 0 rfl rfl 1 (by omega) (by decide) dL_isNailed_365 ?_
        rw [show gI M 1 = mN M from rfl]
        refine lv_bipush (v := nI 15) hx hb dL_isNailed_366 (by decide +kernel) ?_
        refine o_icmp_ne (tgt := 463) hx hb dL_isNailed_368 (by decide) (by omega) (by omega) (fun c368 => ?_) (fun c368 => ?_)
        · refine lv_aload_n hx hb dL_isNailed_463 rfl (lv_at hl 8 rfl) ?_
          refine lv_iconst (v := nI 1) hx hb dL_isNailed_464 (by decide +kernel) ?_
          refine o_iald hx hb hK hP 48 0 rfl rfl 1 (by omega) (by decide) dL_isNailed_465 ?_
          rw [show gI M 1 = mN M from rfl]
          refine lv_istore (lv' := [(14, .int (nI (mN M))), (12, .int (zI sn (m8 en))), (13, .int (nI stt)), (11, .int (zI sf ef)), (10, .int (bI (1 < lwN (v >>> (nI 12 &&& 31)) % 5))), (9, .int (nI lk)), (8, .int (nI w)), (7, .int (nI pp)), (0, .ref z), (1, .ref (L 0)), (2, .ref (L 2)), (3, .ref (L 3)), (4, .ref (L 4)), (5, .int v), (6, .int y9)]) hx hb dL_isNailed_466 hl (by decide) rfl (fun ls hl => ?_)
          refine lv_aload_n hx hb dL_isNailed_468 rfl (lv_at hl 10 rfl) ?_
          refine lv_iconst (v := nI 4) hx hb dL_isNailed_469 (by decide +kernel) ?_
          refine lv_iload hx hb dL_isNailed_470 (lv_at hl 0 rfl) ?_
          refine lv_imul hx hb dL_isNailed_472 ?_
          rw [pk_mul]
          refine lv_iload hx hb dL_isNailed_473 (lv_at hl 7 rfl) ?_
          refine o_iast hx hb hK hP hD hS 50 0 rfl rfl (4 * (mN M)) (by omega) (by decide) rfl dL_isNailed_475 (fun H locs hP hD hS => ?_)
          have hP : va_P G vwCl ([oSy z q h x r y] ++ [(h 0, .inr (1, [.ref (h 1), .int (nI kh)])), (h 1, eR cy 4 (fun i => some (d i 0)))] ++ wDo cy (d 0) (E 0) ++ wDo cy (d 1) (E 1) ++ wDo cy (d 2) (E 2) ++ wDo cy (d 3) (E 3) ++ wDo cy q M ++ [(L 0, eI cy 5 (fun i => nI ((gI M) i))), (L 1, eI cy 6 (fun k => nI (mR M k))), (L 2, eI cy 60 (upd (aI M) (4 * (mN M)) (nI pp))), (L 3, eD cy 30 (vD M)), (L 4, eD cy 25 (tD M))]) H := hP
          have hD : va_D A ([oSy z q h x r y] ++ [(h 0, .inr (1, [.ref (h 1), .int (nI kh)])), (h 1, eR cy 4 (fun i => some (d i 0)))] ++ wDo cy (d 0) (E 0) ++ wDo cy (d 1) (E 1) ++ wDo cy (d 2) (E 2) ++ wDo cy (d 3) (E 3) ++ wDo cy q M ++ [(L 0, eI cy 5 (fun i => nI ((gI M) i))), (L 1, eI cy 6 (fun k => nI (mR M k))), (L 2, eI cy 60 (upd (aI M) (4 * (mN M)) (nI pp))), (L 3, eD cy 30 (vD M)), (L 4, eD cy 25 (tD M))]) := hD
          refine lv_aload_n hx hb dL_isNailed_476 rfl (lv_at hl 10 rfl) ?_
          refine lv_iconst (v := nI 4) hx hb dL_isNailed_477 (by decide +kernel) ?_
          refine lv_iload hx hb dL_isNailed_478 (lv_at hl 0 rfl) ?_
          refine lv_imul hx hb dL_isNailed_480 ?_
          rw [pk_mul]
          refine lv_iconst (v := nI 1) hx hb dL_isNailed_481 (by decide +kernel) ?_
          refine lv_iadd hx hb dL_isNailed_482 ?_
          rw [nI_add]
          refine lv_iload hx hb dL_isNailed_483 (lv_at hl 6 rfl) ?_
          refine o_iast hx hb hK hP hD hS 50 0 rfl rfl ((4 * (mN M)) + 1) (by omega) (by decide) rfl dL_isNailed_485 (fun H locs hP hD hS => ?_)
          have hP : va_P G vwCl ([oSy z q h x r y] ++ [(h 0, .inr (1, [.ref (h 1), .int (nI kh)])), (h 1, eR cy 4 (fun i => some (d i 0)))] ++ wDo cy (d 0) (E 0) ++ wDo cy (d 1) (E 1) ++ wDo cy (d 2) (E 2) ++ wDo cy (d 3) (E 3) ++ wDo cy q M ++ [(L 0, eI cy 5 (fun i => nI ((gI M) i))), (L 1, eI cy 6 (fun k => nI (mR M k))), (L 2, eI cy 60 (upd (upd (aI M) (4 * (mN M)) (nI pp)) ((4 * (mN M)) + 1) (nI w))), (L 3, eD cy 30 (vD M)), (L 4, eD cy 25 (tD M))]) H := hP
          have hD : va_D A ([oSy z q h x r y] ++ [(h 0, .inr (1, [.ref (h 1), .int (nI kh)])), (h 1, eR cy 4 (fun i => some (d i 0)))] ++ wDo cy (d 0) (E 0) ++ wDo cy (d 1) (E 1) ++ wDo cy (d 2) (E 2) ++ wDo cy (d 3) (E 3) ++ wDo cy q M ++ [(L 0, eI cy 5 (fun i => nI ((gI M) i))), (L 1, eI cy 6 (fun k => nI (mR M k))), (L 2, eI cy 60 (upd (upd (aI M) (4 * (mN M)) (nI pp)) ((4 * (mN M)) + 1) (nI w))), (L 3, eD cy 30 (vD M)), (L 4, eD cy 25 (tD M))]) := hD
          refine lv_aload_n hx hb dL_isNailed_486 rfl (lv_at hl 10 rfl) ?_
          refine lv_iconst (v := nI 4) hx hb dL_isNailed_487 (by decide +kernel) ?_
          refine lv_iload hx hb dL_isNailed_488 (lv_at hl 0 rfl) ?_
          refine lv_imul hx hb dL_isNailed_490 ?_
          rw [pk_mul]
          refine lv_iconst (v := nI 2) hx hb dL_isNailed_491 (by decide +kernel) ?_
          refine lv_iadd hx hb dL_isNailed_492 ?_
          rw [nI_add]
          refine lv_iload hx hb dL_isNailed_493 (lv_at hl 4 rfl) ?_
          refine o_ifb_eq (tgt := 503) hx hb dL_isNailed_495 (by decide) (fun c495 => ?_) (fun c495 => ?_)
          · exact absurd hil c495
          · refine lv_iload hx hb dL_isNailed_498 (lv_at hl 5 rfl) ?_
            refine lv_goto (tgt := 505) hx hb dL_isNailed_500 (by decide) ?_
            refine o_iast hx hb hK hP hD hS 50 0 rfl rfl ((4 * (mN M)) + 2) (by omega) (by decide) rfl dL_isNailed_505 (fun H locs hP hD hS => ?_)
            have hP : va_P G vwCl ([oSy z q h x r y] ++ [(h 0, .inr (1, [.ref (h 1), .int (nI kh)])), (h 1, eR cy 4 (fun i => some (d i 0)))] ++ wDo cy (d 0) (E 0) ++ wDo cy (d 1) (E 1) ++ wDo cy (d 2) (E 2) ++ wDo cy (d 3) (E 3) ++ wDo cy q M ++ [(L 0, eI cy 5 (fun i => nI ((gI M) i))), (L 1, eI cy 6 (fun k => nI (mR M k))), (L 2, eI cy 60 (upd (upd (upd (aI M) (4 * (mN M)) (nI pp)) ((4 * (mN M)) + 1) (nI w)) ((4 * (mN M)) + 2) (lkI (some lk)))), (L 3, eD cy 30 (vD M)), (L 4, eD cy 25 (tD M))]) H := hP
            have hD : va_D A ([oSy z q h x r y] ++ [(h 0, .inr (1, [.ref (h 1), .int (nI kh)])), (h 1, eR cy 4 (fun i => some (d i 0)))] ++ wDo cy (d 0) (E 0) ++ wDo cy (d 1) (E 1) ++ wDo cy (d 2) (E 2) ++ wDo cy (d 3) (E 3) ++ wDo cy q M ++ [(L 0, eI cy 5 (fun i => nI ((gI M) i))), (L 1, eI cy 6 (fun k => nI (mR M k))), (L 2, eI cy 60 (upd (upd (upd (aI M) (4 * (mN M)) (nI pp)) ((4 * (mN M)) + 1) (nI w)) ((4 * (mN M)) + 2) (lkI (some lk)))), (L 3, eD cy 30 (vD M)), (L 4, eD cy 25 (tD M))]) := hD
            refine lv_aload_n hx hb dL_isNailed_506 rfl (lv_at hl 10 rfl) ?_
            refine lv_iconst (v := nI 4) hx hb dL_isNailed_507 (by decide +kernel) ?_
            refine lv_iload hx hb dL_isNailed_508 (lv_at hl 0 rfl) ?_
            refine lv_imul hx hb dL_isNailed_510 ?_
            rw [pk_mul]
            refine lv_iconst (v := nI 3) hx hb dL_isNailed_511 (by decide +kernel) ?_
            refine lv_iadd hx hb dL_isNailed_512 ?_
            rw [nI_add]
            refine lv_iconst (v := nI 1) hx hb dL_isNailed_513 (by decide +kernel) ?_
            refine o_iast hx hb hK hP hD hS 50 0 rfl rfl ((4 * (mN M)) + 3) (by omega) (by decide) rfl dL_isNailed_514 (fun H locs hP hD hS => ?_)
            have hP : va_P G vwCl ([oSy z q h x r y] ++ [(h 0, .inr (1, [.ref (h 1), .int (nI kh)])), (h 1, eR cy 4 (fun i => some (d i 0)))] ++ wDo cy (d 0) (E 0) ++ wDo cy (d 1) (E 1) ++ wDo cy (d 2) (E 2) ++ wDo cy (d 3) (E 3) ++ wDo cy q M ++ [(L 0, eI cy 5 (fun i => nI ((gI M) i))), (L 1, eI cy 6 (fun k => nI (mR M k))), (L 2, eI cy 60 (upd (upd (upd (upd (aI M) (4 * (mN M)) (nI pp)) ((4 * (mN M)) + 1) (nI w)) ((4 * (mN M)) + 2) (lkI (some lk))) ((4 * (mN M)) + 3) (nI 1))), (L 3, eD cy 30 (vD M)), (L 4, eD cy 25 (tD M))]) H := hP
            have hD : va_D A ([oSy z q h x r y] ++ [(h 0, .inr (1, [.ref (h 1), .int (nI kh)])), (h 1, eR cy 4 (fun i => some (d i 0)))] ++ wDo cy (d 0) (E 0) ++ wDo cy (d 1) (E 1) ++ wDo cy (d 2) (E 2) ++ wDo cy (d 3) (E 3) ++ wDo cy q M ++ [(L 0, eI cy 5 (fun i => nI ((gI M) i))), (L 1, eI cy 6 (fun k => nI (mR M k))), (L 2, eI cy 60 (upd (upd (upd (upd (aI M) (4 * (mN M)) (nI pp)) ((4 * (mN M)) + 1) (nI w)) ((4 * (mN M)) + 2) (lkI (some lk))) ((4 * (mN M)) + 3) (nI 1))), (L 3, eD cy 30 (vD M)), (L 4, eD cy 25 (tD M))]) := hD
            refine lv_aload_n hx hb dL_isNailed_515 rfl (lv_at hl 11 rfl) ?_
            refine lv_iconst (v := nI 2) hx hb dL_isNailed_516 (by decide +kernel) ?_
            refine lv_iload hx hb dL_isNailed_517 (lv_at hl 0 rfl) ?_
            refine lv_imul hx hb dL_isNailed_519 ?_
            rw [pk_mul]
            refine lv_iload hx hb dL_isNailed_520 (lv_at hl 4 rfl) ?_
            refine o_ifb_eq (tgt := 535) hx hb dL_isNailed_522 (by decide) (fun c522 => ?_) (fun c522 => ?_)
            · exact absurd hil c522
            · refine lv_iload hx hb dL_isNailed_525 (lv_at hl 3 rfl) ?_
              refine lv_i2d hx hb dL_isNailed_527 ?_
              refine lv_ldc2d hx hb hown (hts (.constantDouble RL 83 (4593671619917905920)) (by decide +kernel)) dL_isNailed_528 ?_
              refine lv_dmul hx hb dL_isNailed_531 (by rw [← (z_all (s := sf) (e := ef) hef hsf).1]; exact f2d_n (FP.Core.FFin.notNaN (rng_fin (z_all (s := sf) (e := ef) hef hsf).2.2))) ?_
              rw [← (z_all (s := sf) (e := ef) hef hsf).1]
              refine lv_goto (tgt := 536) hx hb dL_isNailed_532 (by decide) ?_
              refine o_dast hx hb hK hP hD hS 51 3 rfl rfl (2 * (mN M)) (by omega) (by decide) rfl dL_isNailed_536 (fun H locs hP hD hS => ?_)
              have hP : va_P G vwCl ([oSy z q h x r y] ++ [(h 0, .inr (1, [.ref (h 1), .int (nI kh)])), (h 1, eR cy 4 (fun i => some (d i 0)))] ++ wDo cy (d 0) (E 0) ++ wDo cy (d 1) (E 1) ++ wDo cy (d 2) (E 2) ++ wDo cy (d 3) (E 3) ++ wDo cy q M ++ [(L 0, eI cy 5 (fun i => nI ((gI M) i))), (L 1, eI cy 6 (fun k => nI (mR M k))), (L 2, eI cy 60 (upd (upd (upd (upd (aI M) (4 * (mN M)) (nI pp)) ((4 * (mN M)) + 1) (nI w)) ((4 * (mN M)) + 2) (lkI (some lk))) ((4 * (mN M)) + 3) (nI 1))), (L 3, eD cy 30 (vf_upd (vD M) (2 * (mN M)) (FP.f2d (zF sf ef)))), (L 4, eD cy 25 (tD M))]) H := hP
              have hD : va_D A ([oSy z q h x r y] ++ [(h 0, .inr (1, [.ref (h 1), .int (nI kh)])), (h 1, eR cy 4 (fun i => some (d i 0)))] ++ wDo cy (d 0) (E 0) ++ wDo cy (d 1) (E 1) ++ wDo cy (d 2) (E 2) ++ wDo cy (d 3) (E 3) ++ wDo cy q M ++ [(L 0, eI cy 5 (fun i => nI ((gI M) i))), (L 1, eI cy 6 (fun k => nI (mR M k))), (L 2, eI cy 60 (upd (upd (upd (upd (aI M) (4 * (mN M)) (nI pp)) ((4 * (mN M)) + 1) (nI w)) ((4 * (mN M)) + 2) (lkI (some lk))) ((4 * (mN M)) + 3) (nI 1))), (L 3, eD cy 30 (vf_upd (vD M) (2 * (mN M)) (FP.f2d (zF sf ef)))), (L 4, eD cy 25 (tD M))]) := hD
              refine lv_aload_n hx hb dL_isNailed_537 rfl (lv_at hl 11 rfl) ?_
              refine lv_iconst (v := nI 2) hx hb dL_isNailed_538 (by decide +kernel) ?_
              refine lv_iload hx hb dL_isNailed_539 (lv_at hl 0 rfl) ?_
              refine lv_imul hx hb dL_isNailed_541 ?_
              rw [pk_mul]
              refine lv_iconst (v := nI 1) hx hb dL_isNailed_542 (by decide +kernel) ?_
              refine lv_iadd hx hb dL_isNailed_543 ?_
              rw [nI_add]
              refine lv_iload hx hb dL_isNailed_544 (lv_at hl 1 rfl) ?_
              refine lv_i2d hx hb dL_isNailed_546 ?_
              refine lv_ldc2d hx hb hown (hts (.constantDouble RL 83 (4593671619917905920)) (by decide +kernel)) dL_isNailed_547 ?_
              refine lv_dmul hx hb dL_isNailed_550 (by rw [← (z_all (s := sn) (e := m8 en) hm8 hm0).1]; exact f2d_n (FP.Core.FFin.notNaN (rng_fin (z_all (s := sn) (e := m8 en) hm8 hm0).2.2))) ?_
              rw [← (z_all (s := sn) (e := m8 en) hm8 hm0).1]
              refine o_dast hx hb hK hP hD hS 51 3 rfl rfl ((2 * (mN M)) + 1) (by omega) (by decide) rfl dL_isNailed_551 (fun H locs hP hD hS => ?_)
              have hP : va_P G vwCl ([oSy z q h x r y] ++ [(h 0, .inr (1, [.ref (h 1), .int (nI kh)])), (h 1, eR cy 4 (fun i => some (d i 0)))] ++ wDo cy (d 0) (E 0) ++ wDo cy (d 1) (E 1) ++ wDo cy (d 2) (E 2) ++ wDo cy (d 3) (E 3) ++ wDo cy q M ++ [(L 0, eI cy 5 (fun i => nI ((gI M) i))), (L 1, eI cy 6 (fun k => nI (mR M k))), (L 2, eI cy 60 (upd (upd (upd (upd (aI M) (4 * (mN M)) (nI pp)) ((4 * (mN M)) + 1) (nI w)) ((4 * (mN M)) + 2) (lkI (some lk))) ((4 * (mN M)) + 3) (nI 1))), (L 3, eD cy 30 (vf_upd (vf_upd (vD M) (2 * (mN M)) (FP.f2d (zF sf ef))) ((2 * (mN M)) + 1) (FP.f2d (zF sn (m8 en))))), (L 4, eD cy 25 (tD M))]) H := hP
              have hD : va_D A ([oSy z q h x r y] ++ [(h 0, .inr (1, [.ref (h 1), .int (nI kh)])), (h 1, eR cy 4 (fun i => some (d i 0)))] ++ wDo cy (d 0) (E 0) ++ wDo cy (d 1) (E 1) ++ wDo cy (d 2) (E 2) ++ wDo cy (d 3) (E 3) ++ wDo cy q M ++ [(L 0, eI cy 5 (fun i => nI ((gI M) i))), (L 1, eI cy 6 (fun k => nI (mR M k))), (L 2, eI cy 60 (upd (upd (upd (upd (aI M) (4 * (mN M)) (nI pp)) ((4 * (mN M)) + 1) (nI w)) ((4 * (mN M)) + 2) (lkI (some lk))) ((4 * (mN M)) + 3) (nI 1))), (L 3, eD cy 30 (vf_upd (vf_upd (vD M) (2 * (mN M)) (FP.f2d (zF sf ef))) ((2 * (mN M)) + 1) (FP.f2d (zF sn (m8 en))))), (L 4, eD cy 25 (tD M))]) := hD
              refine lv_aload hx hb dL_isNailed_552 (lv_at hl 12 rfl) ?_
              refine lv_iload hx hb dL_isNailed_554 (lv_at hl 0 rfl) ?_
              refine lv_iload hx hb dL_isNailed_556 (lv_at hl 2 rfl) ?_
              refine lv_i2d hx hb dL_isNailed_558 ?_
              refine lv_ldc2d hx hb hown (hts (.constantDouble RL 83 (4593671619917905920)) (by decide +kernel)) dL_isNailed_559 ?_
              refine lv_dmul hx hb dL_isNailed_562 (by rw [st_dbl (by omega)]; exact f2d_n (FP.Core.FFin.notNaN (st_fin (by omega)))) ?_
              rw [st_dbl (by omega)]
              refine o_dast hx hb hK hP hD hS 52 3 rfl rfl (mN M) (by omega) (by decide) rfl dL_isNailed_563 (fun H locs hP hD hS => ?_)
              have hP : va_P G vwCl ([oSy z q h x r y] ++ [(h 0, .inr (1, [.ref (h 1), .int (nI kh)])), (h 1, eR cy 4 (fun i => some (d i 0)))] ++ wDo cy (d 0) (E 0) ++ wDo cy (d 1) (E 1) ++ wDo cy (d 2) (E 2) ++ wDo cy (d 3) (E 3) ++ wDo cy q M ++ [(L 0, eI cy 5 (fun i => nI ((gI M) i))), (L 1, eI cy 6 (fun k => nI (mR M k))), (L 2, eI cy 60 (upd (upd (upd (upd (aI M) (4 * (mN M)) (nI pp)) ((4 * (mN M)) + 1) (nI w)) ((4 * (mN M)) + 2) (lkI (some lk))) ((4 * (mN M)) + 3) (nI 1))), (L 3, eD cy 30 (vf_upd (vf_upd (vD M) (2 * (mN M)) (FP.f2d (zF sf ef))) ((2 * (mN M)) + 1) (FP.f2d (zF sn (m8 en))))), (L 4, eD cy 25 (vf_upd (tD M) (mN M) (FP.f2d (tfl (nI (bN stt))))))]) H := hP
              have hD : va_D A ([oSy z q h x r y] ++ [(h 0, .inr (1, [.ref (h 1), .int (nI kh)])), (h 1, eR cy 4 (fun i => some (d i 0)))] ++ wDo cy (d 0) (E 0) ++ wDo cy (d 1) (E 1) ++ wDo cy (d 2) (E 2) ++ wDo cy (d 3) (E 3) ++ wDo cy q M ++ [(L 0, eI cy 5 (fun i => nI ((gI M) i))), (L 1, eI cy 6 (fun k => nI (mR M k))), (L 2, eI cy 60 (upd (upd (upd (upd (aI M) (4 * (mN M)) (nI pp)) ((4 * (mN M)) + 1) (nI w)) ((4 * (mN M)) + 2) (lkI (some lk))) ((4 * (mN M)) + 3) (nI 1))), (L 3, eD cy 30 (vf_upd (vf_upd (vD M) (2 * (mN M)) (FP.f2d (zF sf ef))) ((2 * (mN M)) + 1) (FP.f2d (zF sn (m8 en))))), (L 4, eD cy 25 (vf_upd (tD M) (mN M) (FP.f2d (tfl (nI (bN stt))))))]) := hD
              refine lv_aload_n hx hb dL_isNailed_564 rfl (lv_at hl 9 rfl) ?_
              refine lv_iconst (v := nI 1) hx hb dL_isNailed_565 (by decide +kernel) ?_
              refine lv_dup2_11 hx hb dL_isNailed_566 rfl rfl ?_
              refine o_iald hx hb hK hP 48 0 rfl rfl 1 (by omega) (by decide) dL_isNailed_567 ?_
              rw [show gI M 1 = mN M from rfl]
              refine lv_iconst (v := nI 1) hx hb dL_isNailed_568 (by decide +kernel) ?_
              refine lv_iadd hx hb dL_isNailed_569 ?_
              rw [nI_add]
              refine o_iast hx hb hK hP hD hS 48 0 rfl rfl 1 (by omega) (by decide) (upd_nI (gI M) 1 (mN M + 1)) dL_isNailed_570 (fun H locs hP hD hS => ?_)
              have hP : va_P G vwCl ([oSy z q h x r y] ++ [(h 0, .inr (1, [.ref (h 1), .int (nI kh)])), (h 1, eR cy 4 (fun i => some (d i 0)))] ++ wDo cy (d 0) (E 0) ++ wDo cy (d 1) (E 1) ++ wDo cy (d 2) (E 2) ++ wDo cy (d 3) (E 3) ++ wDo cy q M ++ [(L 0, eI cy 5 (fun i => nI ((va_up (gI M) 1 (mN M + 1)) i))), (L 1, eI cy 6 (fun k => nI (mR M k))), (L 2, eI cy 60 (upd (upd (upd (upd (aI M) (4 * (mN M)) (nI pp)) ((4 * (mN M)) + 1) (nI w)) ((4 * (mN M)) + 2) (lkI (some lk))) ((4 * (mN M)) + 3) (nI 1))), (L 3, eD cy 30 (vf_upd (vf_upd (vD M) (2 * (mN M)) (FP.f2d (zF sf ef))) ((2 * (mN M)) + 1) (FP.f2d (zF sn (m8 en))))), (L 4, eD cy 25 (vf_upd (tD M) (mN M) (FP.f2d (tfl (nI (bN stt))))))]) H := hP
              have hD : va_D A ([oSy z q h x r y] ++ [(h 0, .inr (1, [.ref (h 1), .int (nI kh)])), (h 1, eR cy 4 (fun i => some (d i 0)))] ++ wDo cy (d 0) (E 0) ++ wDo cy (d 1) (E 1) ++ wDo cy (d 2) (E 2) ++ wDo cy (d 3) (E 3) ++ wDo cy q M ++ [(L 0, eI cy 5 (fun i => nI ((va_up (gI M) 1 (mN M + 1)) i))), (L 1, eI cy 6 (fun k => nI (mR M k))), (L 2, eI cy 60 (upd (upd (upd (upd (aI M) (4 * (mN M)) (nI pp)) ((4 * (mN M)) + 1) (nI w)) ((4 * (mN M)) + 2) (lkI (some lk))) ((4 * (mN M)) + 3) (nI 1))), (L 3, eD cy 30 (vf_upd (vf_upd (vD M) (2 * (mN M)) (FP.f2d (zF sf ef))) ((2 * (mN M)) + 1) (FP.f2d (zF sn (m8 en))))), (L 4, eD cy 25 (vf_upd (tD M) (mN M) (FP.f2d (tfl (nI (bN stt))))))]) := hD
              rw [aI_h M pp w (some lk) (zF sf ef) (zF sn (m8 en)) (tfl (nI (bN stt))), vD_h M pp w (some lk) (zF sf ef) (zF sn (m8 en)) (tfl (nI (bN stt))), tD_h M pp w (some lk) (zF sf ef) (zF sn (m8 en)) (tfl (nI (bN stt))) (by omega), gI_h M pp w (some lk) (zF sf ef) (zF sn (m8 en)) (tfl (nI (bN stt)))] at hP hD
              have hP : va_P G vwCl ([oSy z q h x r y] ++ (wHi cy h kh d E ++ (wDo cy q M ++ wLa cy L (hung M pp w (some lk) (zF sf ef) (zF sn (m8 en)) (tfl (nI (bN stt))))))) H := hP
              have hD : va_D A ([oSy z q h x r y] ++ (wHi cy h kh d E ++ (wDo cy q M ++ wLa cy L (hung M pp w (some lk) (zF sf ef) (zF sn (m8 en)) (tfl (nI (bN stt))))))) := hD
              refine lv_iload hx hb dL_isNailed_571 (lv_at hl 0 rfl) ?_
              refine lv_iload hx hb dL_isNailed_573 (lv_at hl 4 rfl) ?_
              refine o_ifb_eq (tgt := 606) hx hb dL_isNailed_575 (by decide) (fun c575 => ?_) (fun c575 => ?_)
              · exact absurd hil c575
              · refine lv_aload_n hx hb dL_isNailed_578 rfl (lv_at hl 8 rfl) ?_
                refine lv_iload hx hb dL_isNailed_579 (lv_at hl 7 rfl) ?_
                refine lv_iload hx hb dL_isNailed_581 (lv_at hl 6 rfl) ?_
                refine lv_iload hx hb dL_isNailed_583 (lv_at hl 5 rfl) ?_
                refine lv_iload hx hb dL_isNailed_585 (lv_at hl 3 rfl) ?_
                refine o_SI (As := [.int (zI sf ef)]) (rest := [.int (nI lk), .int (nI w), .int (nI pp), .ref z, .int (nI (mN M))]) ⟨hx, hb, hml, hown, hts⟩ (kL_bits_z l G cy sf ef hsf (by omega)) (va_cwS 1 hts gL_isNailed_L_bits rfl rfl rfl (by decide +kernel) ⟨Nat.le_of_ble_eq_true rfl, Nat.le_of_ble_eq_true rfl⟩) hK rfl hl.1 rfl (Nat.le_of_ble_eq_true rfl) dL_isNailed_587 ⟨Nat.le_of_ble_eq_true rfl, Nat.le_of_ble_eq_true rfl⟩ ?_
                refine lv_iload hx hb dL_isNailed_590 (lv_at hl 1 rfl) ?_
                refine o_SI (As := [.int (zI sn (m8 en))]) (rest := [.int (zB sf ef), .int (nI lk), .int (nI w), .int (nI pp), .ref z, .int (nI (mN M))]) ⟨hx, hb, hml, hown, hts⟩ (kL_bits_z l G cy sn (m8 en) hm0 (by omega)) (va_cwS 1 hts gL_isNailed_L_bits rfl rfl rfl (by decide +kernel) ⟨Nat.le_of_ble_eq_true rfl, Nat.le_of_ble_eq_true rfl⟩) hK rfl hl.1 rfl (Nat.le_of_ble_eq_true rfl) dL_isNailed_592 ⟨Nat.le_of_ble_eq_true rfl, Nat.le_of_ble_eq_true rfl⟩ ?_
                refine lv_iload hx hb dL_isNailed_595 (lv_at hl 2 rfl) ?_
                refine o_SI (As := [.int (nI stt)]) (rest := [.int (zB sn (m8 en)), .int (zB sf ef), .int (nI lk), .int (nI w), .int (nI pp), .ref z, .int (nI (mN M))]) ⟨hx, hb, hml, hown, hts⟩ (kL_bits_p l G cy stt (by omega)) (va_cwS 1 hts gL_isNailed_L_bits rfl rfl rfl (by decide +kernel) ⟨Nat.le_of_ble_eq_true rfl, Nat.le_of_ble_eq_true rfl⟩) hK rfl hl.1 rfl (Nat.le_of_ble_eq_true rfl) dL_isNailed_597 ⟨Nat.le_of_ble_eq_true rfl, Nat.le_of_ble_eq_true rfl⟩ ?_
                have hPc := hP.sub (ws' := [oSy z q h x r y] ++ (wHi cy h kh d E ++ wDo cy q M)) [0, 1, 2, 3, 4, 5, 6, 7, 8, 9, 10, 11, 12, 13, 14, 15, 16, 17, 18, 19, 20, 21, 22, 23, 24, 25, 26, 27, 28, 29, 30, 31, 32, 33, 34, 35, 36, 37, 38, 39, 40, 41, 42, 43, 44, 45, 46, 47] rfl
                have hDc := hD.sub (ws' := [oSy z q h x r y] ++ (wHi cy h kh d E ++ wDo cy q M)) [0, 1, 2, 3, 4, 5, 6, 7, 8, 9, 10, 11, 12, 13, 14, 15, 16, 17, 18, 19, 20, 21, 22, 23, 24, 25, 26, 27, 28, 29, 30, 31, 32, 33, 34, 35, 36, 37, 38, 39, 40, 41, 42, 43, 44, 45, 46, 47] (by decide) rfl
                have hFc := va_free (wc := [oSy z q h x r y] ++ (wHi cy h kh d E ++ wDo cy q M)) hD hS hA [0, 1, 2, 3, 4, 5, 6, 7, 8, 9, 10, 11, 12, 13, 14, 15, 16, 17, 18, 19, 20, 21, 22, 23, 24, 25, 26, 27, 28, 29, 30, 31, 32, 33, 34, 35, 36, 37, 38, 39, 40, 41, 42, 43, 44, 45, 46, 47] rfl
                refine va_calli (va_runV (As := [.int (nI pp), .int (nI w), .int (nI lk), .int (zB sf ef), .int (zB sn (m8 en)), .int (nI (bN stt))]) (rest := [.int (nI (mN M))]) ⟨hx, hb, hml, hown, hts⟩ (kX7_nailLink l G cy hk4 hW hPc hDc pp w lk _ _ _ hpl hw16 hlk16 (fun z => hne z.symm) (z_all (s := sf) (e := ef) hef hsf).2.1 (z_all (s := sn) (e := m8 en) hm8 hm0).2.1 (fr_frc hs1.1 hs1.2) hN) (cwV 6 hts gL_isNailed_X7_nailLink rfl rfl rfl (by decide +kernel) ⟨Nat.le_of_ble_eq_true rfl, Nat.le_of_ble_eq_true rfl⟩) ⟨pR_blind, va_recv hK hP (ci := 6) (q0 := 0) rfl rfl, pR_at hK⟩ rfl rfl hl.1 rfl (lv_room (Nat.le_of_ble_eq_true rfl)) dL_isNailed_600 ⟨Nat.zero_le _, Nat.zero_le _⟩) hS (fun q _ h => hFc q h) hFc (fun r_ u_ t_ H locs ht hvm hw_ hB hz1 hk1 hS => ?_)
                obtain ⟨k1, d1, E1⟩ := u_
                obtain ⟨hr_, hk5⟩ := hw_
                have hk5 : k1 ≤ 4 := hk5
                have hr_ : r_ = nI (mN M) := hr_
                subst hr_
                have hB : va_P G vwCl ([oSy z q h x r y] ++ (wHi cy h k1 d1 E1 ++ wDo cy q (hung M pp w (some lk) (zF sf ef) (zF sn (m8 en)) (tfl (nI (bN stt)))))) t_.heap ∧ va_D (va_A ([oSy z q h x r y] ++ (wHi cy h kh d E ++ wDo cy q M)) _) ([oSy z q h x r y] ++ (wHi cy h k1 d1 E1 ++ wDo cy q (hung M pp w (some lk) (zF sf ef) (zF sn (m8 en)) (tfl (nI (bN stt)))))) := hB
                rw [ht] at hB
                obtain ⟨hP1, hD1⟩ := hB
                obtain ⟨hP, hD⟩ := va_join (wr := wLa cy L (hung M pp w (some lk) (zF sf ef) (zF sn (m8 en)) (tfl (nI (bN stt))))) hP hD [0, 1, 2, 3, 4, 5, 6, 7, 8, 9, 10, 11, 12, 13, 14, 15, 16, 17, 18, 19, 20, 21, 22, 23, 24, 25, 26, 27, 28, 29, 30, 31, 32, 33, 34, 35, 36, 37, 38, 39, 40, 41, 42, 43, 44, 45, 46, 47] [48, 49, 50, 51, 52] rfl rfl (by decide) (by decide) hk1 hFc hP1 hD1
                have hP : va_P G vwCl ([oSy z q h x r y] ++ (wHi cy h k1 d1 E1 ++ (wDo cy q (hung M pp w (some lk) (zF sf ef) (zF sn (m8 en)) (tfl (nI (bN stt)))) ++ wLa cy L (hung M pp w (some lk) (zF sf ef) (zF sn (m8 en)) (tfl (nI (bN stt))))))) H := hP.sub [5, 6, 7, 8, 9, 10, 11, 12, 13, 14, 15, 16, 17, 18, 19, 20, 21, 22, 23, 24, 25, 26, 27, 28, 29, 30, 31, 32, 33, 34, 35, 36, 37, 38, 39, 40, 41, 42, 43, 44, 45, 46, 47, 48, 49, 50, 51, 52, 0, 1, 2, 3, 4] rfl
                have hD : va_D A ([oSy z q h x r y] ++ (wHi cy h k1 d1 E1 ++ (wDo cy q (hung M pp w (some lk) (zF sf ef) (zF sn (m8 en)) (tfl (nI (bN stt)))) ++ wLa cy L (hung M pp w (some lk) (zF sf ef) (zF sn (m8 en)) (tfl (nI (bN stt))))))) := hD.sub [5, 6, 7, 8, 9, 10, 11, 12, 13, 14, 15, 16, 17, 18, 19, 20, 21, 22, 23, 24, 25, 26, 27, 28, 29, 30, 31, 32, 33, 34, 35, 36, 37, 38, 39, 40, 41, 42, 43, 44, 45, 46, 47, 48, 49, 50, 51, 52, 0, 1, 2, 3, 4] (by decide) rfl
                refine lv_goto (tgt := 624) hx hb dL_isNailed_603 (by decide) ?_
                refine lv_icmp_ne (tgt := 631) hx hb dL_isNailed_624 (by decide) (fun c624 => ?_) (fun c624 => ?_)
                · exact absurd rfl c624
                · refine lv_iconst (v := nI 1) hx hb dL_isNailed_627 (by decide +kernel) ?_
                  refine lv_goto (tgt := 632) hx hb dL_isNailed_628 (by decide) ?_
                  exact o_endSz (k := k1) (d := d1) (E := E1) hx hb hr hlocks dL_isNailed_632 (by decide) hk5 hP hD hS rfl
        · exact absurd c368 hnf
      · exact absurd c295 hne
  · exact absurd c203 (by omega)

set_option maxHeartbeats 4000000 in
set_option maxRecDepth 100000 in
theorem kL_isNailed_p (l : Launch) (G : va_G) (cy : Nat → ClassId) {H0 : Heap} {z : Nat} {q h x r y L : Nat → Nat} {kh : Nat} {d : Nat → Nat → Nat} {E : Nat → MT} {M : MT} {A0 : Nat → Prop} (hk4 : kh ≤ 4) (hW : WB M) (hN : mN M ≤ 15) (hP : va_P G vwCl ([oSy z q h x r y] ++ (wHi cy h kh d E ++ (wDo cy q M ++ wLa cy L M))) H0) (hD0 : va_D A0 ([oSy z q h x r y] ++ (wHi cy h kh d E ++ (wDo cy q M ++ wLa cy L M)))) (v y9 : Int32) (sf : Bool) (ef : Nat) (sn : Bool) (en : Nat) (pp w lk stt : Nat) (hpp : lwN v % (mP M + (if lwN (v >>> (nI 5 &&& 31)) % 20 = 0 then 1 else 0)) = pp) (hw9 : lwN (v >>> (nI 3 &&& 31)) % (if lwN (v >>> (nI 20 &&& 31)) % 2 = 0 then 3 else 16) = w) (hlk : lwN (v >>> (nI 7 &&& 31)) % (if lwN (v >>> (nI 20 &&& 31)) % 2 = 0 then 3 else 16) = lk) (hfz : nI (lwN y9 % (if lwN (y9 >>> (nI 8 &&& 31)) % 3 = 0 then 16001 else 33)) - nI (if lwN (y9 >>> (nI 8 &&& 31)) % 3 = 0 then 8000 else 16) = zI sf ef) (hnz : nI (lwN (y9 >>> (nI 10 &&& 31)) % (if lwN (y9 >>> (nI 24 &&& 31)) % 2 = 0 then 8001 else 41)) - nI 20 = zI sn en) (hst : 1 + lwN (v >>> (nI 15 &&& 31)) % 80 = stt) (hsn : sn = true → 0 < en) (hsn8 : sn = true → en ≤ 8000) (hen : en ≤ 8001) (hsf : sf = true → 0 < ef) (hef : ef ≤ 8000) (hpl : pp < mP M) (hnf : ¬ mN M = 15) (hp0 : 0 < mP M) (hil : ¬ 1 < lwN (v >>> (nI 12 &&& 31)) % 5) : MutS l yL_isNailed wsL_isNailed 5 180 [.ref z, .ref (L 0), .ref (L 2), .ref (L 3), .ref (L 4), .int v, .int y9] H0 G cy 1 h ([oSy z q h x r y] ++ (wHi cy h kh d E ++ (wDo cy q M ++ wLa cy L M))) [oSy z q h x r y] (wDo cy q (hung M pp w none FP.fconst1 (zF sn (m8 en)) (tfl (nI (bN stt)))) ++ wLa cy L (hung M pp w none FP.fconst1 (zF sn (m8 en)) (tfl (nI (bN stt))))) := by
  refine Met.ofW (cc := cL_isNailed) (maxL := 15) (ret := (some .boolean)) (by decide) rfl ?_
  intro p e s m args below meth c s₁ B hml hv
  obtain ⟨rfl, hH, hK⟩ := hv
  subst hH
  have hx := B.exec
  have hb := B.bytes
  have hr := B.returns
  have hts := atoms_spec (ws := wsL_isNailed) B.pre
  have hown : s.vm.findClass RL = some m.cls := findClass_of_methodNamed B.named
  have hlocks := B.notSynchronized
  have hl := lv_entry ([.ref z, .ref (L 0), .ref (L 2), .ref (L 3), .ref (L 4), .int v, .int y9]) (n := 15) (Nat.le_of_ble_eq_true rfl)
  rw [lg_entry_eq]
  generalize (lg_sl ([.ref z, .ref (L 0), .ref (L 2), .ref (L 3), .ref (L 4), .int v, .int y9]) ++ List.replicate (15 - (lg_sl ([.ref z, .ref (L 0), .ref (L 2), .ref (L 3), .ref (L 4), .int v, .int y9])).length) Slot.unset).toArray = ls at hl ⊢
  have hl : lv_has ls 15 [(0, .ref z), (1, .ref (L 0)), (2, .ref (L 2)), (3, .ref (L 3)), (4, .ref (L 4)), (5, .int v), (6, .int y9)] := hl
  obtain ⟨bP, bQ, bR, bO, bW, bL, bF⟩ := id hW
  have hs1 : 1 ≤ stt ∧ stt ≤ 80 := by omega
  have hw16 : w < 16 := by rw [← hw9]; refine Nat.lt_of_lt_of_le (Nat.mod_lt _ (by split <;> decide)) (by split <;> decide)
  have hlk16 : lk < 16 := by rw [← hlk]; refine Nat.lt_of_lt_of_le (Nat.mod_lt _ (by split <;> decide)) (by split <;> decide)
  have hm8 := m8_le en
  have hm0 : sn = true → 0 < m8 en := fun z => by have := hsn z; unfold m8; split <;> omega
  have hPl := hP.sub (ws' := wLa cy L M) [48, 49, 50, 51, 52] rfl
  have hPs := hP.sub (ws' := [oSy z q h x r y] ++ wDo cy q M) [0, 39, 40, 41, 42, 43, 44, 45, 46, 47] rfl
  have hD := hD0.self (sz := s.heap.size)
  generalize hAe : va_A ([oSy z q h x r y] ++ (wHi cy h kh d E ++ (wDo cy q M ++ wLa cy L M))) s.heap.size = A at hD ⊢
  have hA : ∀ q : Nat, s.heap.size ≤ q → A q := fun q h => by rw [← hAe]; exact Or.inr h
  have hS : va_S A s.heap s.heap [] := va_S.rf
  refine lv_iload hx hb dL_isNailed_0 (lv_at hl 5 rfl) ?_
  refine lv_aload_n hx hb dL_isNailed_2 rfl (lv_at hl 1 rfl) ?_
  refine lv_iconst (v := nI 0) hx hb dL_isNailed_3 (by decide +kernel) ?_
  refine o_iald hx hb hK hP 48 0 rfl rfl 0 (by omega) (by decide) dL_isNailed_4 ?_
  rw [show gI M 0 = mP M from rfl]
  refine lv_iload hx hb dL_isNailed_5 (lv_at hl 5 rfl) ?_
  refine lv_iconst (v := nI 5) hx hb dL_isNailed_7 (by decide +kernel) ?_
  refine lv_ishr hx hb dL_isNailed_8 ?_
  rw [show v >>> (nI 5 &&& 31) = v >>> (nI 5 &&& 31) from rfl]
  refine lv_bipush (v := nI 20) hx hb dL_isNailed_9 (by decide +kernel) ?_
  refine o_SI (As := [.int (v >>> (nI 5 &&& 31)), .int (nI 20)]) (rest := [.int (nI (mP M)), .int v]) ⟨hx, hb, hml, hown, hts⟩ (kL_low l G cy (v >>> (nI 5 &&& 31)) 20 (by decide) (by omega)) (va_cwS 2 hts gL_isNailed_L_low rfl rfl rfl (by decide +kernel) ⟨Nat.le_of_ble_eq_true rfl, Nat.le_of_ble_eq_true rfl⟩) hK rfl hl.1 rfl (Nat.le_of_ble_eq_true rfl) dL_isNailed_11 ⟨Nat.le_of_ble_eq_true rfl, Nat.le_of_ble_eq_true rfl⟩ ?_
  refine o_cut 22 [.int (nI (if lwN (v >>> (nI 5 &&& 31)) % 20 = 0 then 1 else 0)), .int (nI (mP M)), .int v] (fun K22 => ?_) ?_
  · refine o_if_ne (tgt := 21) hx hb dL_isNailed_14 (by decide) (by omega) (fun c14 => ?_) (fun c14 => ?_)
    · refine lv_iconst (v := nI 0) hx hb dL_isNailed_21 (by decide +kernel) ?_
      have K9 := K22
      rw [show nI (if lwN (v >>> (nI 5 &&& 31)) % 20 = 0 then 1 else 0) = nI 0 from congrArg nI (if_neg (by omega))] at K9
      exact K9
    · refine lv_iconst (v := nI 1) hx hb dL_isNailed_17 (by decide +kernel) ?_
      refine lv_goto (tgt := 22) hx hb dL_isNailed_18 (by decide) ?_
      have K9 := K22
      rw [show nI (if lwN (v >>> (nI 5 &&& 31)) % 20 = 0 then 1 else 0) = nI 1 from congrArg nI (if_pos (by omega))] at K9
      exact K9
  refine lv_iadd hx hb dL_isNailed_22 ?_
  rw [nI_add]
  refine o_SI (As := [.int v, .int (nI ((mP M) + (if lwN (v >>> (nI 5 &&& 31)) % 20 = 0 then 1 else 0)))]) (rest := []) ⟨hx, hb, hml, hown, hts⟩ (kL_low l G cy v (mP M + (if lwN (v >>> (nI 5 &&& 31)) % 20 = 0 then 1 else 0)) (by omega) (by split <;> omega)) (va_cwS 2 hts gL_isNailed_L_low rfl rfl rfl (by decide +kernel) ⟨Nat.le_of_ble_eq_true rfl, Nat.le_of_ble_eq_true rfl⟩) hK rfl hl.1 rfl (Nat.le_of_ble_eq_true rfl) dL_isNailed_23 ⟨Nat.le_of_ble_eq_true rfl, Nat.le_of_ble_eq_true rfl⟩ ?_
  rw [hpp]
  refine lv_istore (lv' := [(7, .int (nI pp)), (0, .ref z), (1, .ref (L 0)), (2, .ref (L 2)), (3, .ref (L 3)), (4, .ref (L 4)), (5, .int v), (6, .int y9)]) hx hb dL_isNailed_26 hl (by decide) rfl (fun ls hl => ?_)
  refine lv_iload hx hb dL_isNailed_28 (lv_at hl 6 rfl) ?_
  refine lv_iconst (v := nI 3) hx hb dL_isNailed_30 (by decide +kernel) ?_
  refine lv_ishr hx hb dL_isNailed_31 ?_
  rw [show v >>> (nI 3 &&& 31) = v >>> (nI 3 &&& 31) from rfl]
  refine lv_iload hx hb dL_isNailed_32 (lv_at hl 6 rfl) ?_
  refine lv_bipush (v := nI 20) hx hb dL_isNailed_34 (by decide +kernel) ?_
  refine lv_ishr hx hb dL_isNailed_36 ?_
  rw [show v >>> (nI 20 &&& 31) = v >>> (nI 20 &&& 31) from rfl]
  refine lv_iconst (v := nI 2) hx hb dL_isNailed_37 (by decide +kernel) ?_
  refine o_SI (As := [.int (v >>> (nI 20 &&& 31)), .int (nI 2)]) (rest := [.int (v >>> (nI 3 &&& 31))]) ⟨hx, hb, hml, hown, hts⟩ (kL_low l G cy (v >>> (nI 20 &&& 31)) 2 (by decide) (by omega)) (va_cwS 2 hts gL_isNailed_L_low rfl rfl rfl (by decide +kernel) ⟨Nat.le_of_ble_eq_true rfl, Nat.le_of_ble_eq_true rfl⟩) hK rfl hl.1 rfl (Nat.le_of_ble_eq_true rfl) dL_isNailed_38 ⟨Nat.le_of_ble_eq_true rfl, Nat.le_of_ble_eq_true rfl⟩ ?_
  refine o_cut 50 [.int (nI (if lwN (v >>> (nI 20 &&& 31)) % 2 = 0 then 3 else 16)), .int (v >>> (nI 3 &&& 31))] (fun K50 => ?_) ?_
  · refine o_if_ne (tgt := 48) hx hb dL_isNailed_41 (by decide) (by omega) (fun c41 => ?_) (fun c41 => ?_)
    · refine lv_bipush (v := nI 16) hx hb dL_isNailed_48 (by decide +kernel) ?_
      have K9 := K50
      rw [show nI (if lwN (v >>> (nI 20 &&& 31)) % 2 = 0 then 3 else 16) = nI 16 from congrArg nI (if_neg (by omega))] at K9
      exact K9
    · refine lv_iconst (v := nI 3) hx hb dL_isNailed_44 (by decide +kernel) ?_
      refine lv_goto (tgt := 50) hx hb dL_isNailed_45 (by decide) ?_
      have K9 := K50
      rw [show nI (if lwN (v >>> (nI 20 &&& 31)) % 2 = 0 then 3 else 16) = nI 3 from congrArg nI (if_pos (by omega))] at K9
      exact K9
  refine o_SI (As := [.int (v >>> (nI 3 &&& 31)), .int (nI (if lwN (v >>> (nI 20 &&& 31)) % 2 = 0 then 3 else 16))]) (rest := []) ⟨hx, hb, hml, hown, hts⟩ (kL_low l G cy (v >>> (nI 3 &&& 31)) (if lwN (v >>> (nI 20 &&& 31)) % 2 = 0 then 3 else 16) (by split <;> decide) (by split <;> decide)) (va_cwS 2 hts gL_isNailed_L_low rfl rfl rfl (by decide +kernel) ⟨Nat.le_of_ble_eq_true rfl, Nat.le_of_ble_eq_true rfl⟩) hK rfl hl.1 rfl (Nat.le_of_ble_eq_true rfl) dL_isNailed_50 ⟨Nat.le_of_ble_eq_true rfl, Nat.le_of_ble_eq_true rfl⟩ ?_
  rw [hw9]
  refine lv_istore (lv' := [(8, .int (nI w)), (7, .int (nI pp)), (0, .ref z), (1, .ref (L 0)), (2, .ref (L 2)), (3, .ref (L 3)), (4, .ref (L 4)), (5, .int v), (6, .int y9)]) hx hb dL_isNailed_53 hl (by decide) rfl (fun ls hl => ?_)
  refine lv_iload hx hb dL_isNailed_55 (lv_at hl 7 rfl) ?_
  refine lv_bipush (v := nI 7) hx hb dL_isNailed_57 (by decide +kernel) ?_
  refine lv_ishr hx hb dL_isNailed_59 ?_
  rw [show v >>> (nI 7 &&& 31) = v >>> (nI 7 &&& 31) from rfl]
  refine lv_iload hx hb dL_isNailed_60 (lv_at hl 7 rfl) ?_
  refine lv_bipush (v := nI 20) hx hb dL_isNailed_62 (by decide +kernel) ?_
  refine lv_ishr hx hb dL_isNailed_64 ?_
  rw [show v >>> (nI 20 &&& 31) = v >>> (nI 20 &&& 31) from rfl]
  refine lv_iconst (v := nI 2) hx hb dL_isNailed_65 (by decide +kernel) ?_
  refine o_SI (As := [.int (v >>> (nI 20 &&& 31)), .int (nI 2)]) (rest := [.int (v >>> (nI 7 &&& 31))]) ⟨hx, hb, hml, hown, hts⟩ (kL_low l G cy (v >>> (nI 20 &&& 31)) 2 (by decide) (by omega)) (va_cwS 2 hts gL_isNailed_L_low rfl rfl rfl (by decide +kernel) ⟨Nat.le_of_ble_eq_true rfl, Nat.le_of_ble_eq_true rfl⟩) hK rfl hl.1 rfl (Nat.le_of_ble_eq_true rfl) dL_isNailed_66 ⟨Nat.le_of_ble_eq_true rfl, Nat.le_of_ble_eq_true rfl⟩ ?_
  refine o_cut 78 [.int (nI (if lwN (v >>> (nI 20 &&& 31)) % 2 = 0 then 3 else 16)), .int (v >>> (nI 7 &&& 31))] (fun K78 => ?_) ?_
  · refine o_if_ne (tgt := 76) hx hb dL_isNailed_69 (by decide) (by omega) (fun c69 => ?_) (fun c69 => ?_)
    · refine lv_bipush (v := nI 16) hx hb dL_isNailed_76 (by decide +kernel) ?_
      have K9 := K78
      rw [show nI (if lwN (v >>> (nI 20 &&& 31)) % 2 = 0 then 3 else 16) = nI 16 from congrArg nI (if_neg (by omega))] at K9
      exact K9
    · refine lv_iconst (v := nI 3) hx hb dL_isNailed_72 (by decide +kernel) ?_
      refine lv_goto (tgt := 78) hx hb dL_isNailed_73 (by decide) ?_
      have K9 := K78
      rw [show nI (if lwN (v >>> (nI 20 &&& 31)) % 2 = 0 then 3 else 16) = nI 3 from congrArg nI (if_pos (by omega))] at K9
      exact K9
  refine o_SI (As := [.int (v >>> (nI 7 &&& 31)), .int (nI (if lwN (v >>> (nI 20 &&& 31)) % 2 = 0 then 3 else 16))]) (rest := []) ⟨hx, hb, hml, hown, hts⟩ (kL_low l G cy (v >>> (nI 7 &&& 31)) (if lwN (v >>> (nI 20 &&& 31)) % 2 = 0 then 3 else 16) (by split <;> decide) (by split <;> decide)) (va_cwS 2 hts gL_isNailed_L_low rfl rfl rfl (by decide +kernel) ⟨Nat.le_of_ble_eq_true rfl, Nat.le_of_ble_eq_true rfl⟩) hK rfl hl.1 rfl (Nat.le_of_ble_eq_true rfl) dL_isNailed_78 ⟨Nat.le_of_ble_eq_true rfl, Nat.le_of_ble_eq_true rfl⟩ ?_
  rw [hlk]
  refine lv_istore (lv' := [(9, .int (nI lk)), (8, .int (nI w)), (7, .int (nI pp)), (0, .ref z), (1, .ref (L 0)), (2, .ref (L 2)), (3, .ref (L 3)), (4, .ref (L 4)), (5, .int v), (6, .int y9)]) hx hb dL_isNailed_81 hl (by decide) rfl (fun ls hl => ?_)
  refine lv_iload hx hb dL_isNailed_83 (lv_at hl 8 rfl) ?_
  refine lv_bipush (v := nI 12) hx hb dL_isNailed_85 (by decide +kernel) ?_
  refine lv_ishr hx hb dL_isNailed_87 ?_
  rw [show v >>> (nI 12 &&& 31) = v >>> (nI 12 &&& 31) from rfl]
  refine lv_iconst (v := nI 5) hx hb dL_isNailed_88 (by decide +kernel) ?_
  refine o_SI (As := [.int (v >>> (nI 12 &&& 31)), .int (nI 5)]) (rest := []) ⟨hx, hb, hml, hown, hts⟩ (kL_low l G cy (v >>> (nI 12 &&& 31)) 5 (by decide) (by omega)) (va_cwS 2 hts gL_isNailed_L_low rfl rfl rfl (by decide +kernel) ⟨Nat.le_of_ble_eq_true rfl, Nat.le_of_ble_eq_true rfl⟩) hK rfl hl.1 rfl (Nat.le_of_ble_eq_true rfl) dL_isNailed_89 ⟨Nat.le_of_ble_eq_true rfl, Nat.le_of_ble_eq_true rfl⟩ ?_
  refine lv_iconst (v := nI 1) hx hb dL_isNailed_92 (by decide +kernel) ?_
  refine o_cut 101 [.int (bI (1 < lwN (v >>> (nI 12 &&& 31)) % 5))] (fun K101 => ?_) ?_
  · refine o_icmp_le (tgt := 100) hx hb dL_isNailed_93 (by decide) (by omega) (by omega) (fun c93 => ?_) (fun c93 => ?_)
    · refine lv_iconst (v := nI 0) hx hb dL_isNailed_100 (by decide +kernel) ?_
      have K9 := K101
      rw [show bI (1 < lwN (v >>> (nI 12 &&& 31)) % 5) = nI 0 from bI_f (by omega)] at K9
      exact K9
    · refine lv_iconst (v := nI 1) hx hb dL_isNailed_96 (by decide +kernel) ?_
      refine lv_goto (tgt := 101) hx hb dL_isNailed_97 (by decide) ?_
      have K9 := K101
      rw [show bI (1 < lwN (v >>> (nI 12 &&& 31)) % 5) = nI 1 from bI_t (by omega)] at K9
      exact K9
  refine lv_istore (lv' := [(10, .int (bI (1 < lwN (v >>> (nI 12 &&& 31)) % 5))), (9, .int (nI lk)), (8, .int (nI w)), (7, .int (nI pp)), (0, .ref z), (1, .ref (L 0)), (2, .ref (L 2)), (3, .ref (L 3)), (4, .ref (L 4)), (5, .int v), (6, .int y9)]) hx hb dL_isNailed_101 hl (by decide) rfl (fun ls hl => ?_)
  refine lv_iload hx hb dL_isNailed_103 (lv_at hl 10 rfl) ?_
  refine lv_iload hx hb dL_isNailed_105 (lv_at hl 10 rfl) ?_
  refine lv_bipush (v := nI 8) hx hb dL_isNailed_107 (by decide +kernel) ?_
  refine lv_ishr hx hb dL_isNailed_109 ?_
  rw [show y9 >>> (nI 8 &&& 31) = y9 >>> (nI 8 &&& 31) from rfl]
  refine lv_iconst (v := nI 3) hx hb dL_isNailed_110 (by decide +kernel) ?_
  refine o_SI (As := [.int (y9 >>> (nI 8 &&& 31)), .int (nI 3)]) (rest := [.int y9]) ⟨hx, hb, hml, hown, hts⟩ (kL_low l G cy (y9 >>> (nI 8 &&& 31)) 3 (by decide) (by omega)) (va_cwS 2 hts gL_isNailed_L_low rfl rfl rfl (by decide +kernel) ⟨Nat.le_of_ble_eq_true rfl, Nat.le_of_ble_eq_true rfl⟩) hK rfl hl.1 rfl (Nat.le_of_ble_eq_true rfl) dL_isNailed_111 ⟨Nat.le_of_ble_eq_true rfl, Nat.le_of_ble_eq_true rfl⟩ ?_
  refine o_cut 125 [.int (nI (if lwN (y9 >>> (nI 8 &&& 31)) % 3 = 0 then 16001 else 33)), .int y9] (fun K125 => ?_) ?_
  · refine o_if_ne (tgt := 123) hx hb dL_isNailed_114 (by decide) (by omega) (fun c114 => ?_) (fun c114 => ?_)
    · refine lv_bipush (v := nI 33) hx hb dL_isNailed_123 (by decide +kernel) ?_
      have K9 := K125
      rw [show nI (if lwN (y9 >>> (nI 8 &&& 31)) % 3 = 0 then 16001 else 33) = nI 33 from congrArg nI (if_neg (by omega))] at K9
      exact K9
    · refine lv_sipush (v := nI 16001) hx hb dL_isNailed_117 (by decide +kernel) ?_
      refine lv_goto (tgt := 125) hx hb dL_isNailed_120 (by decide) ?_
      have K9 := K125
      rw [show nI (if lwN (y9 >>> (nI 8 &&& 31)) % 3 = 0 then 16001 else 33) = nI 16001 from congrArg nI (if_pos (by omega))] at K9
      exact K9
  refine o_SI (As := [.int y9, .int (nI (if lwN (y9 >>> (nI 8 &&& 31)) % 3 = 0 then 16001 else 33))]) (rest := []) ⟨hx, hb, hml, hown, hts⟩ (kL_low l G cy y9 (if lwN (y9 >>> (nI 8 &&& 31)) % 3 = 0 then 16001 else 33) (by split <;> decide) (by split <;> decide)) (va_cwS 2 hts gL_isNailed_L_low rfl rfl rfl (by decide +kernel) ⟨Nat.le_of_ble_eq_true rfl, Nat.le_of_ble_eq_true rfl⟩) hK rfl hl.1 rfl (Nat.le_of_ble_eq_true rfl) dL_isNailed_125 ⟨Nat.le_of_ble_eq_true rfl, Nat.le_of_ble_eq_true rfl⟩ ?_
  refine lv_iload hx hb dL_isNailed_128 (lv_at hl 10 rfl) ?_
  refine lv_bipush (v := nI 8) hx hb dL_isNailed_130 (by decide +kernel) ?_
  refine lv_ishr hx hb dL_isNailed_132 ?_
  rw [show y9 >>> (nI 8 &&& 31) = y9 >>> (nI 8 &&& 31) from rfl]
  refine lv_iconst (v := nI 3) hx hb dL_isNailed_133 (by decide +kernel) ?_
  refine o_SI (As := [.int (y9 >>> (nI 8 &&& 31)), .int (nI 3)]) (rest := [.int (nI (lwN y9 % (if lwN (y9 >>> (nI 8 &&& 31)) % 3 = 0 then 16001 else 33)))]) ⟨hx, hb, hml, hown, hts⟩ (kL_low l G cy (y9 >>> (nI 8 &&& 31)) 3 (by decide) (by omega)) (va_cwS 2 hts gL_isNailed_L_low rfl rfl rfl (by decide +kernel) ⟨Nat.le_of_ble_eq_true rfl, Nat.le_of_ble_eq_true rfl⟩) hK rfl hl.1 rfl (Nat.le_of_ble_eq_true rfl) dL_isNailed_134 ⟨Nat.le_of_ble_eq_true rfl, Nat.le_of_ble_eq_true rfl⟩ ?_
  refine o_cut 148 [.int (nI (if lwN (y9 >>> (nI 8 &&& 31)) % 3 = 0 then 8000 else 16)), .int (nI (lwN y9 % (if lwN (y9 >>> (nI 8 &&& 31)) % 3 = 0 then 16001 else 33)))] (fun K148 => ?_) ?_
  · refine o_if_ne (tgt := 146) hx hb dL_isNailed_137 (by decide) (by omega) (fun c137 => ?_) (fun c137 => ?_)
    · refine lv_bipush (v := nI 16) hx hb dL_isNailed_146 (by decide +kernel) ?_
      have K9 := K148
      rw [show nI (if lwN (y9 >>> (nI 8 &&& 31)) % 3 = 0 then 8000 else 16) = nI 16 from congrArg nI (if_neg (by omega))] at K9
      exact K9
    · refine lv_sipush (v := nI 8000) hx hb dL_isNailed_140 (by decide +kernel) ?_
      refine lv_goto (tgt := 148) hx hb dL_isNailed_143 (by decide) ?_
      have K9 := K148
      rw [show nI (if lwN (y9 >>> (nI 8 &&& 31)) % 3 = 0 then 8000 else 16) = nI 8000 from congrArg nI (if_pos (by omega))] at K9
      exact K9
  refine lv_isub hx hb dL_isNailed_148 ?_
  rw [hfz]
  refine lv_istore (lv' := [(11, .int (zI sf ef)), (10, .int (bI (1 < lwN (v >>> (nI 12 &&& 31)) % 5))), (9, .int (nI lk)), (8, .int (nI w)), (7, .int (nI pp)), (0, .ref z), (1, .ref (L 0)), (2, .ref (L 2)), (3, .ref (L 3)), (4, .ref (L 4)), (5, .int v), (6, .int y9)]) hx hb dL_isNailed_149 hl (by decide) rfl (fun ls hl => ?_)
  refine lv_iload hx hb dL_isNailed_151 (lv_at hl 11 rfl) ?_
  refine lv_bipush (v := nI 10) hx hb dL_isNailed_153 (by decide +kernel) ?_
  refine lv_ishr hx hb dL_isNailed_155 ?_
  rw [show y9 >>> (nI 10 &&& 31) = y9 >>> (nI 10 &&& 31) from rfl]
  refine lv_iload hx hb dL_isNailed_156 (lv_at hl 11 rfl) ?_
  refine lv_bipush (v := nI 24) hx hb dL_isNailed_158 (by decide +kernel) ?_
  refine lv_ishr hx hb dL_isNailed_160 ?_
  rw [show y9 >>> (nI 24 &&& 31) = y9 >>> (nI 24 &&& 31) from rfl]
  refine lv_iconst (v := nI 2) hx hb dL_isNailed_161 (by decide +kernel) ?_
  refine o_SI (As := [.int (y9 >>> (nI 24 &&& 31)), .int (nI 2)]) (rest := [.int (y9 >>> (nI 10 &&& 31))]) ⟨hx, hb, hml, hown, hts⟩ (kL_low l G cy (y9 >>> (nI 24 &&& 31)) 2 (by decide) (by omega)) (va_cwS 2 hts gL_isNailed_L_low rfl rfl rfl (by decide +kernel) ⟨Nat.le_of_ble_eq_true rfl, Nat.le_of_ble_eq_true rfl⟩) hK rfl hl.1 rfl (Nat.le_of_ble_eq_true rfl) dL_isNailed_162 ⟨Nat.le_of_ble_eq_true rfl, Nat.le_of_ble_eq_true rfl⟩ ?_
  refine o_cut 176 [.int (nI (if lwN (y9 >>> (nI 24 &&& 31)) % 2 = 0 then 8001 else 41)), .int (y9 >>> (nI 10 &&& 31))] (fun K176 => ?_) ?_
  · refine o_if_ne (tgt := 174) hx hb dL_isNailed_165 (by decide) (by omega) (fun c165 => ?_) (fun c165 => ?_)
    · refine lv_bipush (v := nI 41) hx hb dL_isNailed_174 (by decide +kernel) ?_
      have K9 := K176
      rw [show nI (if lwN (y9 >>> (nI 24 &&& 31)) % 2 = 0 then 8001 else 41) = nI 41 from congrArg nI (if_neg (by omega))] at K9
      exact K9
    · refine lv_sipush (v := nI 8001) hx hb dL_isNailed_168 (by decide +kernel) ?_
      refine lv_goto (tgt := 176) hx hb dL_isNailed_171 (by decide) ?_
      have K9 := K176
      rw [show nI (if lwN (y9 >>> (nI 24 &&& 31)) % 2 = 0 then 8001 else 41) = nI 8001 from congrArg nI (if_pos (by omega))] at K9
      exact K9
  refine o_SI (As := [.int (y9 >>> (nI 10 &&& 31)), .int (nI (if lwN (y9 >>> (nI 24 &&& 31)) % 2 = 0 then 8001 else 41))]) (rest := []) ⟨hx, hb, hml, hown, hts⟩ (kL_low l G cy (y9 >>> (nI 10 &&& 31)) (if lwN (y9 >>> (nI 24 &&& 31)) % 2 = 0 then 8001 else 41) (by split <;> decide) (by split <;> decide)) (va_cwS 2 hts gL_isNailed_L_low rfl rfl rfl (by decide +kernel) ⟨Nat.le_of_ble_eq_true rfl, Nat.le_of_ble_eq_true rfl⟩) hK rfl hl.1 rfl (Nat.le_of_ble_eq_true rfl) dL_isNailed_176 ⟨Nat.le_of_ble_eq_true rfl, Nat.le_of_ble_eq_true rfl⟩ ?_
  refine lv_bipush (v := nI 20) hx hb dL_isNailed_179 (by decide +kernel) ?_
  refine lv_isub hx hb dL_isNailed_181 ?_
  rw [hnz]
  refine lv_istore (lv' := [(12, .int (zI sn en)), (11, .int (zI sf ef)), (10, .int (bI (1 < lwN (v >>> (nI 12 &&& 31)) % 5))), (9, .int (nI lk)), (8, .int (nI w)), (7, .int (nI pp)), (0, .ref z), (1, .ref (L 0)), (2, .ref (L 2)), (3, .ref (L 3)), (4, .ref (L 4)), (5, .int v), (6, .int y9)]) hx hb dL_isNailed_182 hl (by decide) rfl (fun ls hl => ?_)
  refine lv_iconst (v := nI 1) hx hb dL_isNailed_184 (by decide +kernel) ?_
  refine lv_iload hx hb dL_isNailed_185 (lv_at hl 11 rfl) ?_
  refine lv_bipush (v := nI 15) hx hb dL_isNailed_187 (by decide +kernel) ?_
  refine lv_ishr hx hb dL_isNailed_189 ?_
  rw [show v >>> (nI 15 &&& 31) = v >>> (nI 15 &&& 31) from rfl]
  refine lv_bipush (v := nI 80) hx hb dL_isNailed_190 (by decide +kernel) ?_
  refine o_SI (As := [.int (v >>> (nI 15 &&& 31)), .int (nI 80)]) (rest := [.int (nI 1)]) ⟨hx, hb, hml, hown, hts⟩ (kL_low l G cy (v >>> (nI 15 &&& 31)) 80 (by decide) (by omega)) (va_cwS 2 hts gL_isNailed_L_low rfl rfl rfl (by decide +kernel) ⟨Nat.le_of_ble_eq_true rfl, Nat.le_of_ble_eq_true rfl⟩) hK rfl hl.1 rfl (Nat.le_of_ble_eq_true rfl) dL_isNailed_192 ⟨Nat.le_of_ble_eq_true rfl, Nat.le_of_ble_eq_true rfl⟩ ?_
  refine lv_iadd hx hb dL_isNailed_195 ?_
  rw [nI_add, hst]
  refine lv_istore (lv' := [(13, .int (nI stt)), (12, .int (zI sn en)), (11, .int (zI sf ef)), (10, .int (bI (1 < lwN (v >>> (nI 12 &&& 31)) % 5))), (9, .int (nI lk)), (8, .int (nI w)), (7, .int (nI pp)), (0, .ref z), (1, .ref (L 0)), (2, .ref (L 2)), (3, .ref (L 3)), (4, .ref (L 4)), (5, .int v), (6, .int y9)]) hx hb dL_isNailed_196 hl (by decide) rfl (fun ls hl => ?_)
  refine lv_iload hx hb dL_isNailed_198 (lv_at hl 6 rfl) ?_
  refine lv_aload_n hx hb dL_isNailed_200 rfl (lv_at hl 8 rfl) ?_
  refine lv_iconst (v := nI 0) hx hb dL_isNailed_201 (by decide +kernel) ?_
  refine o_iald hx hb hK hP 48 0 rfl rfl 0 (by omega) (by decide) dL_isNailed_202 ?_
  rw [show gI M 0 = mP M from rfl]
  refine o_icmp_ne (tgt := 268) hx hb dL_isNailed_203 (by decide) (by omega) (by omega) (fun c203 => ?_) (fun c203 => ?_)
  · refine lv_iload hx hb dL_isNailed_268 (lv_at hl 1 rfl) ?_
    refine lv_sipush (v := nI 8000) hx hb dL_isNailed_270 (by decide +kernel) ?_
    refine o_cut 284 [.int (zI sn (m8 en))] (fun K284 => ?_) ?_
    · refine lv_icmp_le (tgt := 282) hx hb dL_isNailed_273 (by decide) (fun c273 => ?_) (fun c273 => ?_)
      · refine lv_iload hx hb dL_isNailed_282 (lv_at hl 1 rfl) ?_
        have K9 := K284
        rw [show zI sn (m8 en) = zI sn en from m8_t (by omega) hsn8 c273] at K9
        exact K9
      · refine lv_sipush (v := nI 8000) hx hb dL_isNailed_276 (by decide +kernel) ?_
        refine lv_goto (tgt := 284) hx hb dL_isNailed_279 (by decide) ?_
        have K9 := K284
        rw [show zI sn (m8 en) = nI 8000 from m8_f (by omega) hsn8 c273] at K9
        exact K9
    refine lv_istore (lv' := [(12, .int (zI sn (m8 en))), (13, .int (nI stt)), (11, .int (zI sf ef)), (10, .int (bI (1 < lwN (v >>> (nI 12 &&& 31)) % 5))), (9, .int (nI lk)), (8, .int (nI w)), (7, .int (nI pp)), (0, .ref z), (1, .ref (L 0)), (2, .ref (L 2)), (3, .ref (L 3)), (4, .ref (L 4)), (5, .int v), (6, .int y9)]) hx hb dL_isNailed_284 hl (by decide) rfl (fun ls hl => ?_)
    refine lv_iload hx hb dL_isNailed_286 (lv_at hl 3 rfl) ?_
    refine o_ifb_eq (tgt := 363) hx hb dL_isNailed_288 (by decide) (fun c288 => ?_) (fun c288 => ?_)
    · refine lv_aload_n hx hb dL_isNailed_363 rfl (lv_at hl 8 rfl) ?_
      refine lv_iconst (v := nI 1) hx hb dL_isNailed_364 (by decide +kernel) ?_
      refine o_iald hx hb hK hP 48 0 rfl rfl 1 (by omega) (by decide) dL_isNailed_365 ?_
      rw [show gI M 1 = mN M from rfl]
      refine lv_bipush (v := nI 15) hx hb dL_isNailed_366 (by decide +kernel) ?_
      refine o_icmp_ne (tgt := 463) hx hb dL_isNailed_368 (by decide) (by omega) (by omega) (fun c368 => ?_) (fun c368 => ?_)
      · refine lv_aload_n hx hb dL_isNailed_463 rfl (lv_at hl 8 rfl) ?_
        refine lv_iconst (v := nI 1) hx hb dL_isNailed_464 (by decide +kernel) ?_
        refine o_iald hx hb hK hP 48 0 rfl rfl 1 (by omega) (by decide) dL_isNailed_465 ?_
        rw [show gI M 1 = mN M from rfl]
        refine lv_istore (lv' := [(14, .int (nI (mN M))), (12, .int (zI sn (m8 en))), (13, .int (nI stt)), (11, .int (zI sf ef)), (10, .int (bI (1 < lwN (v >>> (nI 12 &&& 31)) % 5))), (9, .int (nI lk)), (8, .int (nI w)), (7, .int (nI pp)), (0, .ref z), (1, .ref (L 0)), (2, .ref (L 2)), (3, .ref (L 3)), (4, .ref (L 4)), (5, .int v), (6, .int y9)]) hx hb dL_isNailed_466 hl (by decide) rfl (fun ls hl => ?_)
        refine lv_aload_n hx hb dL_isNailed_468 rfl (lv_at hl 10 rfl) ?_
        refine lv_iconst (v := nI 4) hx hb dL_isNailed_469 (by decide +kernel) ?_
        refine lv_iload hx hb dL_isNailed_470 (lv_at hl 0 rfl) ?_
        refine lv_imul hx hb dL_isNailed_472 ?_
        rw [pk_mul]
        refine lv_iload hx hb dL_isNailed_473 (lv_at hl 7 rfl) ?_
        refine o_iast hx hb hK hP hD hS 50 0 rfl rfl (4 * (mN M)) (by omega) (by decide) rfl dL_isNailed_475 (fun H locs hP hD hS => ?_)
        have hP : va_P G vwCl ([oSy z q h x r y] ++ [(h 0, .inr (1, [.ref (h 1), .int (nI kh)])), (h 1, eR cy 4 (fun i => some (d i 0)))] ++ wDo cy (d 0) (E 0) ++ wDo cy (d 1) (E 1) ++ wDo cy (d 2) (E 2) ++ wDo cy (d 3) (E 3) ++ wDo cy q M ++ [(L 0, eI cy 5 (fun i => nI ((gI M) i))), (L 1, eI cy 6 (fun k => nI (mR M k))), (L 2, eI cy 60 (upd (aI M) (4 * (mN M)) (nI pp))), (L 3, eD cy 30 (vD M)), (L 4, eD cy 25 (tD M))]) H := hP
        have hD : va_D A ([oSy z q h x r y] ++ [(h 0, .inr (1, [.ref (h 1), .int (nI kh)])), (h 1, eR cy 4 (fun i => some (d i 0)))] ++ wDo cy (d 0) (E 0) ++ wDo cy (d 1) (E 1) ++ wDo cy (d 2) (E 2) ++ wDo cy (d 3) (E 3) ++ wDo cy q M ++ [(L 0, eI cy 5 (fun i => nI ((gI M) i))), (L 1, eI cy 6 (fun k => nI (mR M k))), (L 2, eI cy 60 (upd (aI M) (4 * (mN M)) (nI pp))), (L 3, eD cy 30 (vD M)), (L 4, eD cy 25 (tD M))]) := hD
        refine lv_aload_n hx hb dL_isNailed_476 rfl (lv_at hl 10 rfl) ?_
        refine lv_iconst (v := nI 4) hx hb dL_isNailed_477 (by decide +kernel) ?_
        refine lv_iload hx hb dL_isNailed_478 (lv_at hl 0 rfl) ?_
        refine lv_imul hx hb dL_isNailed_480 ?_
        rw [pk_mul]
        refine lv_iconst (v := nI 1) hx hb dL_isNailed_481 (by decide +kernel) ?_
        refine lv_iadd hx hb dL_isNailed_482 ?_
        rw [nI_add]
        refine lv_iload hx hb dL_isNailed_483 (lv_at hl 6 rfl) ?_
        refine o_iast hx hb hK hP hD hS 50 0 rfl rfl ((4 * (mN M)) + 1) (by omega) (by decide) rfl dL_isNailed_485 (fun H locs hP hD hS => ?_)
        have hP : va_P G vwCl ([oSy z q h x r y] ++ [(h 0, .inr (1, [.ref (h 1), .int (nI kh)])), (h 1, eR cy 4 (fun i => some (d i 0)))] ++ wDo cy (d 0) (E 0) ++ wDo cy (d 1) (E 1) ++ wDo cy (d 2) (E 2) ++ wDo cy (d 3) (E 3) ++ wDo cy q M ++ [(L 0, eI cy 5 (fun i => nI ((gI M) i))), (L 1, eI cy 6 (fun k => nI (mR M k))), (L 2, eI cy 60 (upd (upd (aI M) (4 * (mN M)) (nI pp)) ((4 * (mN M)) + 1) (nI w))), (L 3, eD cy 30 (vD M)), (L 4, eD cy 25 (tD M))]) H := hP
        have hD : va_D A ([oSy z q h x r y] ++ [(h 0, .inr (1, [.ref (h 1), .int (nI kh)])), (h 1, eR cy 4 (fun i => some (d i 0)))] ++ wDo cy (d 0) (E 0) ++ wDo cy (d 1) (E 1) ++ wDo cy (d 2) (E 2) ++ wDo cy (d 3) (E 3) ++ wDo cy q M ++ [(L 0, eI cy 5 (fun i => nI ((gI M) i))), (L 1, eI cy 6 (fun k => nI (mR M k))), (L 2, eI cy 60 (upd (upd (aI M) (4 * (mN M)) (nI pp)) ((4 * (mN M)) + 1) (nI w))), (L 3, eD cy 30 (vD M)), (L 4, eD cy 25 (tD M))]) := hD
        refine lv_aload_n hx hb dL_isNailed_486 rfl (lv_at hl 10 rfl) ?_
        refine lv_iconst (v := nI 4) hx hb dL_isNailed_487 (by decide +kernel) ?_
        refine lv_iload hx hb dL_isNailed_488 (lv_at hl 0 rfl) ?_
        refine lv_imul hx hb dL_isNailed_490 ?_
        rw [pk_mul]
        refine lv_iconst (v := nI 2) hx hb dL_isNailed_491 (by decide +kernel) ?_
        refine lv_iadd hx hb dL_isNailed_492 ?_
        rw [nI_add]
        refine lv_iload hx hb dL_isNailed_493 (lv_at hl 4 rfl) ?_
        refine o_ifb_eq (tgt := 503) hx hb dL_isNailed_495 (by decide) (fun c495 => ?_) (fun c495 => ?_)
        · refine lv_bipush (v := (-5)) hx hb dL_isNailed_503 (by decide +kernel) ?_
          refine o_iast hx hb hK hP hD hS 50 0 rfl rfl ((4 * (mN M)) + 2) (by omega) (by decide) rfl dL_isNailed_505 (fun H locs hP hD hS => ?_)
          have hP : va_P G vwCl ([oSy z q h x r y] ++ [(h 0, .inr (1, [.ref (h 1), .int (nI kh)])), (h 1, eR cy 4 (fun i => some (d i 0)))] ++ wDo cy (d 0) (E 0) ++ wDo cy (d 1) (E 1) ++ wDo cy (d 2) (E 2) ++ wDo cy (d 3) (E 3) ++ wDo cy q M ++ [(L 0, eI cy 5 (fun i => nI ((gI M) i))), (L 1, eI cy 6 (fun k => nI (mR M k))), (L 2, eI cy 60 (upd (upd (upd (aI M) (4 * (mN M)) (nI pp)) ((4 * (mN M)) + 1) (nI w)) ((4 * (mN M)) + 2) (lkI none))), (L 3, eD cy 30 (vD M)), (L 4, eD cy 25 (tD M))]) H := hP
          have hD : va_D A ([oSy z q h x r y] ++ [(h 0, .inr (1, [.ref (h 1), .int (nI kh)])), (h 1, eR cy 4 (fun i => some (d i 0)))] ++ wDo cy (d 0) (E 0) ++ wDo cy (d 1) (E 1) ++ wDo cy (d 2) (E 2) ++ wDo cy (d 3) (E 3) ++ wDo cy q M ++ [(L 0, eI cy 5 (fun i => nI ((gI M) i))), (L 1, eI cy 6 (fun k => nI (mR M k))), (L 2, eI cy 60 (upd (upd (upd (aI M) (4 * (mN M)) (nI pp)) ((4 * (mN M)) + 1) (nI w)) ((4 * (mN M)) + 2) (lkI none))), (L 3, eD cy 30 (vD M)), (L 4, eD cy 25 (tD M))]) := hD
          refine lv_aload_n hx hb dL_isNailed_506 rfl (lv_at hl 10 rfl) ?_
          refine lv_iconst (v := nI 4) hx hb dL_isNailed_507 (by decide +kernel) ?_
          refine lv_iload hx hb dL_isNailed_508 (lv_at hl 0 rfl) ?_
          refine lv_imul hx hb dL_isNailed_510 ?_
          rw [pk_mul]
          refine lv_iconst (v := nI 3) hx hb dL_isNailed_511 (by decide +kernel) ?_
          refine lv_iadd hx hb dL_isNailed_512 ?_
          rw [nI_add]
          refine lv_iconst (v := nI 1) hx hb dL_isNailed_513 (by decide +kernel) ?_
          refine o_iast hx hb hK hP hD hS 50 0 rfl rfl ((4 * (mN M)) + 3) (by omega) (by decide) rfl dL_isNailed_514 (fun H locs hP hD hS => ?_)
          have hP : va_P G vwCl ([oSy z q h x r y] ++ [(h 0, .inr (1, [.ref (h 1), .int (nI kh)])), (h 1, eR cy 4 (fun i => some (d i 0)))] ++ wDo cy (d 0) (E 0) ++ wDo cy (d 1) (E 1) ++ wDo cy (d 2) (E 2) ++ wDo cy (d 3) (E 3) ++ wDo cy q M ++ [(L 0, eI cy 5 (fun i => nI ((gI M) i))), (L 1, eI cy 6 (fun k => nI (mR M k))), (L 2, eI cy 60 (upd (upd (upd (upd (aI M) (4 * (mN M)) (nI pp)) ((4 * (mN M)) + 1) (nI w)) ((4 * (mN M)) + 2) (lkI none)) ((4 * (mN M)) + 3) (nI 1))), (L 3, eD cy 30 (vD M)), (L 4, eD cy 25 (tD M))]) H := hP
          have hD : va_D A ([oSy z q h x r y] ++ [(h 0, .inr (1, [.ref (h 1), .int (nI kh)])), (h 1, eR cy 4 (fun i => some (d i 0)))] ++ wDo cy (d 0) (E 0) ++ wDo cy (d 1) (E 1) ++ wDo cy (d 2) (E 2) ++ wDo cy (d 3) (E 3) ++ wDo cy q M ++ [(L 0, eI cy 5 (fun i => nI ((gI M) i))), (L 1, eI cy 6 (fun k => nI (mR M k))), (L 2, eI cy 60 (upd (upd (upd (upd (aI M) (4 * (mN M)) (nI pp)) ((4 * (mN M)) + 1) (nI w)) ((4 * (mN M)) + 2) (lkI none)) ((4 * (mN M)) + 3) (nI 1))), (L 3, eD cy 30 (vD M)), (L 4, eD cy 25 (tD M))]) := hD
          refine lv_aload_n hx hb dL_isNailed_515 rfl (lv_at hl 11 rfl) ?_
          refine lv_iconst (v := nI 2) hx hb dL_isNailed_516 (by decide +kernel) ?_
          refine lv_iload hx hb dL_isNailed_517 (lv_at hl 0 rfl) ?_
          refine lv_imul hx hb dL_isNailed_519 ?_
          rw [pk_mul]
          refine lv_iload hx hb dL_isNailed_520 (lv_at hl 4 rfl) ?_
          refine o_ifb_eq (tgt := 535) hx hb dL_isNailed_522 (by decide) (fun c522 => ?_) (fun c522 => ?_)
          · refine lv_dconst1 hx hb dL_isNailed_535 ?_
            rw [show FP.dconst1 = FP.f2d FP.fconst1 by decide +kernel]
            refine o_dast hx hb hK hP hD hS 51 3 rfl rfl (2 * (mN M)) (by omega) (by decide) rfl dL_isNailed_536 (fun H locs hP hD hS => ?_)
            have hP : va_P G vwCl ([oSy z q h x r y] ++ [(h 0, .inr (1, [.ref (h 1), .int (nI kh)])), (h 1, eR cy 4 (fun i => some (d i 0)))] ++ wDo cy (d 0) (E 0) ++ wDo cy (d 1) (E 1) ++ wDo cy (d 2) (E 2) ++ wDo cy (d 3) (E 3) ++ wDo cy q M ++ [(L 0, eI cy 5 (fun i => nI ((gI M) i))), (L 1, eI cy 6 (fun k => nI (mR M k))), (L 2, eI cy 60 (upd (upd (upd (upd (aI M) (4 * (mN M)) (nI pp)) ((4 * (mN M)) + 1) (nI w)) ((4 * (mN M)) + 2) (lkI none)) ((4 * (mN M)) + 3) (nI 1))), (L 3, eD cy 30 (vf_upd (vD M) (2 * (mN M)) (FP.f2d FP.fconst1))), (L 4, eD cy 25 (tD M))]) H := hP
            have hD : va_D A ([oSy z q h x r y] ++ [(h 0, .inr (1, [.ref (h 1), .int (nI kh)])), (h 1, eR cy 4 (fun i => some (d i 0)))] ++ wDo cy (d 0) (E 0) ++ wDo cy (d 1) (E 1) ++ wDo cy (d 2) (E 2) ++ wDo cy (d 3) (E 3) ++ wDo cy q M ++ [(L 0, eI cy 5 (fun i => nI ((gI M) i))), (L 1, eI cy 6 (fun k => nI (mR M k))), (L 2, eI cy 60 (upd (upd (upd (upd (aI M) (4 * (mN M)) (nI pp)) ((4 * (mN M)) + 1) (nI w)) ((4 * (mN M)) + 2) (lkI none)) ((4 * (mN M)) + 3) (nI 1))), (L 3, eD cy 30 (vf_upd (vD M) (2 * (mN M)) (FP.f2d FP.fconst1))), (L 4, eD cy 25 (tD M))]) := hD
            refine lv_aload_n hx hb dL_isNailed_537 rfl (lv_at hl 11 rfl) ?_
            refine lv_iconst (v := nI 2) hx hb dL_isNailed_538 (by decide +kernel) ?_
            refine lv_iload hx hb dL_isNailed_539 (lv_at hl 0 rfl) ?_
            refine lv_imul hx hb dL_isNailed_541 ?_
            rw [pk_mul]
            refine lv_iconst (v := nI 1) hx hb dL_isNailed_542 (by decide +kernel) ?_
            refine lv_iadd hx hb dL_isNailed_543 ?_
            rw [nI_add]
            refine lv_iload hx hb dL_isNailed_544 (lv_at hl 1 rfl) ?_
            refine lv_i2d hx hb dL_isNailed_546 ?_
            refine lv_ldc2d hx hb hown (hts (.constantDouble RL 83 (4593671619917905920)) (by decide +kernel)) dL_isNailed_547 ?_
            refine lv_dmul hx hb dL_isNailed_550 (by rw [← (z_all (s := sn) (e := m8 en) hm8 hm0).1]; exact f2d_n (FP.Core.FFin.notNaN (rng_fin (z_all (s := sn) (e := m8 en) hm8 hm0).2.2))) ?_
            rw [← (z_all (s := sn) (e := m8 en) hm8 hm0).1]
            refine o_dast hx hb hK hP hD hS 51 3 rfl rfl ((2 * (mN M)) + 1) (by omega) (by decide) rfl dL_isNailed_551 (fun H locs hP hD hS => ?_)
            have hP : va_P G vwCl ([oSy z q h x r y] ++ [(h 0, .inr (1, [.ref (h 1), .int (nI kh)])), (h 1, eR cy 4 (fun i => some (d i 0)))] ++ wDo cy (d 0) (E 0) ++ wDo cy (d 1) (E 1) ++ wDo cy (d 2) (E 2) ++ wDo cy (d 3) (E 3) ++ wDo cy q M ++ [(L 0, eI cy 5 (fun i => nI ((gI M) i))), (L 1, eI cy 6 (fun k => nI (mR M k))), (L 2, eI cy 60 (upd (upd (upd (upd (aI M) (4 * (mN M)) (nI pp)) ((4 * (mN M)) + 1) (nI w)) ((4 * (mN M)) + 2) (lkI none)) ((4 * (mN M)) + 3) (nI 1))), (L 3, eD cy 30 (vf_upd (vf_upd (vD M) (2 * (mN M)) (FP.f2d FP.fconst1)) ((2 * (mN M)) + 1) (FP.f2d (zF sn (m8 en))))), (L 4, eD cy 25 (tD M))]) H := hP
            have hD : va_D A ([oSy z q h x r y] ++ [(h 0, .inr (1, [.ref (h 1), .int (nI kh)])), (h 1, eR cy 4 (fun i => some (d i 0)))] ++ wDo cy (d 0) (E 0) ++ wDo cy (d 1) (E 1) ++ wDo cy (d 2) (E 2) ++ wDo cy (d 3) (E 3) ++ wDo cy q M ++ [(L 0, eI cy 5 (fun i => nI ((gI M) i))), (L 1, eI cy 6 (fun k => nI (mR M k))), (L 2, eI cy 60 (upd (upd (upd (upd (aI M) (4 * (mN M)) (nI pp)) ((4 * (mN M)) + 1) (nI w)) ((4 * (mN M)) + 2) (lkI none)) ((4 * (mN M)) + 3) (nI 1))), (L 3, eD cy 30 (vf_upd (vf_upd (vD M) (2 * (mN M)) (FP.f2d FP.fconst1)) ((2 * (mN M)) + 1) (FP.f2d (zF sn (m8 en))))), (L 4, eD cy 25 (tD M))]) := hD
            refine lv_aload hx hb dL_isNailed_552 (lv_at hl 12 rfl) ?_
            refine lv_iload hx hb dL_isNailed_554 (lv_at hl 0 rfl) ?_
            refine lv_iload hx hb dL_isNailed_556 (lv_at hl 2 rfl) ?_
            refine lv_i2d hx hb dL_isNailed_558 ?_
            refine lv_ldc2d hx hb hown (hts (.constantDouble RL 83 (4593671619917905920)) (by decide +kernel)) dL_isNailed_559 ?_
            refine lv_dmul hx hb dL_isNailed_562 (by rw [st_dbl (by omega)]; exact f2d_n (FP.Core.FFin.notNaN (st_fin (by omega)))) ?_
            rw [st_dbl (by omega)]
            refine o_dast hx hb hK hP hD hS 52 3 rfl rfl (mN M) (by omega) (by decide) rfl dL_isNailed_563 (fun H locs hP hD hS => ?_)
            have hP : va_P G vwCl ([oSy z q h x r y] ++ [(h 0, .inr (1, [.ref (h 1), .int (nI kh)])), (h 1, eR cy 4 (fun i => some (d i 0)))] ++ wDo cy (d 0) (E 0) ++ wDo cy (d 1) (E 1) ++ wDo cy (d 2) (E 2) ++ wDo cy (d 3) (E 3) ++ wDo cy q M ++ [(L 0, eI cy 5 (fun i => nI ((gI M) i))), (L 1, eI cy 6 (fun k => nI (mR M k))), (L 2, eI cy 60 (upd (upd (upd (upd (aI M) (4 * (mN M)) (nI pp)) ((4 * (mN M)) + 1) (nI w)) ((4 * (mN M)) + 2) (lkI none)) ((4 * (mN M)) + 3) (nI 1))), (L 3, eD cy 30 (vf_upd (vf_upd (vD M) (2 * (mN M)) (FP.f2d FP.fconst1)) ((2 * (mN M)) + 1) (FP.f2d (zF sn (m8 en))))), (L 4, eD cy 25 (vf_upd (tD M) (mN M) (FP.f2d (tfl (nI (bN stt))))))]) H := hP
            have hD : va_D A ([oSy z q h x r y] ++ [(h 0, .inr (1, [.ref (h 1), .int (nI kh)])), (h 1, eR cy 4 (fun i => some (d i 0)))] ++ wDo cy (d 0) (E 0) ++ wDo cy (d 1) (E 1) ++ wDo cy (d 2) (E 2) ++ wDo cy (d 3) (E 3) ++ wDo cy q M ++ [(L 0, eI cy 5 (fun i => nI ((gI M) i))), (L 1, eI cy 6 (fun k => nI (mR M k))), (L 2, eI cy 60 (upd (upd (upd (upd (aI M) (4 * (mN M)) (nI pp)) ((4 * (mN M)) + 1) (nI w)) ((4 * (mN M)) + 2) (lkI none)) ((4 * (mN M)) + 3) (nI 1))), (L 3, eD cy 30 (vf_upd (vf_upd (vD M) (2 * (mN M)) (FP.f2d FP.fconst1)) ((2 * (mN M)) + 1) (FP.f2d (zF sn (m8 en))))), (L 4, eD cy 25 (vf_upd (tD M) (mN M) (FP.f2d (tfl (nI (bN stt))))))]) := hD
            refine lv_aload_n hx hb dL_isNailed_564 rfl (lv_at hl 9 rfl) ?_
            refine lv_iconst (v := nI 1) hx hb dL_isNailed_565 (by decide +kernel) ?_
            refine lv_dup2_11 hx hb dL_isNailed_566 rfl rfl ?_
            refine o_iald hx hb hK hP 48 0 rfl rfl 1 (by omega) (by decide) dL_isNailed_567 ?_
            rw [show gI M 1 = mN M from rfl]
            refine lv_iconst (v := nI 1) hx hb dL_isNailed_568 (by decide +kernel) ?_
            refine lv_iadd hx hb dL_isNailed_569 ?_
            rw [nI_add]
            refine o_iast hx hb hK hP hD hS 48 0 rfl rfl 1 (by omega) (by decide) (upd_nI (gI M) 1 (mN M + 1)) dL_isNailed_570 (fun H locs hP hD hS => ?_)
            have hP : va_P G vwCl ([oSy z q h x r y] ++ [(h 0, .inr (1, [.ref (h 1), .int (nI kh)])), (h 1, eR cy 4 (fun i => some (d i 0)))] ++ wDo cy (d 0) (E 0) ++ wDo cy (d 1) (E 1) ++ wDo cy (d 2) (E 2) ++ wDo cy (d 3) (E 3) ++ wDo cy q M ++ [(L 0, eI cy 5 (fun i => nI ((va_up (gI M) 1 (mN M + 1)) i))), (L 1, eI cy 6 (fun k => nI (mR M k))), (L 2, eI cy 60 (upd (upd (upd (upd (aI M) (4 * (mN M)) (nI pp)) ((4 * (mN M)) + 1) (nI w)) ((4 * (mN M)) + 2) (lkI none)) ((4 * (mN M)) + 3) (nI 1))), (L 3, eD cy 30 (vf_upd (vf_upd (vD M) (2 * (mN M)) (FP.f2d FP.fconst1)) ((2 * (mN M)) + 1) (FP.f2d (zF sn (m8 en))))), (L 4, eD cy 25 (vf_upd (tD M) (mN M) (FP.f2d (tfl (nI (bN stt))))))]) H := hP
            have hD : va_D A ([oSy z q h x r y] ++ [(h 0, .inr (1, [.ref (h 1), .int (nI kh)])), (h 1, eR cy 4 (fun i => some (d i 0)))] ++ wDo cy (d 0) (E 0) ++ wDo cy (d 1) (E 1) ++ wDo cy (d 2) (E 2) ++ wDo cy (d 3) (E 3) ++ wDo cy q M ++ [(L 0, eI cy 5 (fun i => nI ((va_up (gI M) 1 (mN M + 1)) i))), (L 1, eI cy 6 (fun k => nI (mR M k))), (L 2, eI cy 60 (upd (upd (upd (upd (aI M) (4 * (mN M)) (nI pp)) ((4 * (mN M)) + 1) (nI w)) ((4 * (mN M)) + 2) (lkI none)) ((4 * (mN M)) + 3) (nI 1))), (L 3, eD cy 30 (vf_upd (vf_upd (vD M) (2 * (mN M)) (FP.f2d FP.fconst1)) ((2 * (mN M)) + 1) (FP.f2d (zF sn (m8 en))))), (L 4, eD cy 25 (vf_upd (tD M) (mN M) (FP.f2d (tfl (nI (bN stt))))))]) := hD
            rw [aI_h M pp w none FP.fconst1 (zF sn (m8 en)) (tfl (nI (bN stt))), vD_h M pp w none FP.fconst1 (zF sn (m8 en)) (tfl (nI (bN stt))), tD_h M pp w none FP.fconst1 (zF sn (m8 en)) (tfl (nI (bN stt))) (by omega), gI_h M pp w none FP.fconst1 (zF sn (m8 en)) (tfl (nI (bN stt)))] at hP hD
            have hP : va_P G vwCl ([oSy z q h x r y] ++ (wHi cy h kh d E ++ (wDo cy q M ++ wLa cy L (hung M pp w none FP.fconst1 (zF sn (m8 en)) (tfl (nI (bN stt))))))) H := hP
            have hD : va_D A ([oSy z q h x r y] ++ (wHi cy h kh d E ++ (wDo cy q M ++ wLa cy L (hung M pp w none FP.fconst1 (zF sn (m8 en)) (tfl (nI (bN stt))))))) := hD
            refine lv_iload hx hb dL_isNailed_571 (lv_at hl 0 rfl) ?_
            refine lv_iload hx hb dL_isNailed_573 (lv_at hl 4 rfl) ?_
            refine o_ifb_eq (tgt := 606) hx hb dL_isNailed_575 (by decide) (fun c575 => ?_) (fun c575 => ?_)
            · refine lv_aload_n hx hb dL_isNailed_606 rfl (lv_at hl 8 rfl) ?_
              refine lv_iload hx hb dL_isNailed_607 (lv_at hl 7 rfl) ?_
              refine lv_iload hx hb dL_isNailed_609 (lv_at hl 6 rfl) ?_
              refine lv_iload hx hb dL_isNailed_611 (lv_at hl 1 rfl) ?_
              refine o_SI (As := [.int (zI sn (m8 en))]) (rest := [.int (nI w), .int (nI pp), .ref z, .int (nI (mN M))]) ⟨hx, hb, hml, hown, hts⟩ (kL_bits_z l G cy sn (m8 en) hm0 (by omega)) (va_cwS 1 hts gL_isNailed_L_bits rfl rfl rfl (by decide +kernel) ⟨Nat.le_of_ble_eq_true rfl, Nat.le_of_ble_eq_true rfl⟩) hK rfl hl.1 rfl (Nat.le_of_ble_eq_true rfl) dL_isNailed_613 ⟨Nat.le_of_ble_eq_true rfl, Nat.le_of_ble_eq_true rfl⟩ ?_
              refine lv_iload hx hb dL_isNailed_616 (lv_at hl 2 rfl) ?_
              refine o_SI (As := [.int (nI stt)]) (rest := [.int (zB sn (m8 en)), .int (nI w), .int (nI pp), .ref z, .int (nI (mN M))]) ⟨hx, hb, hml, hown, hts⟩ (kL_bits_p l G cy stt (by omega)) (va_cwS 1 hts gL_isNailed_L_bits rfl rfl rfl (by decide +kernel) ⟨Nat.le_of_ble_eq_true rfl, Nat.le_of_ble_eq_true rfl⟩) hK rfl hl.1 rfl (Nat.le_of_ble_eq_true rfl) dL_isNailed_618 ⟨Nat.le_of_ble_eq_true rfl, Nat.le_of_ble_eq_true rfl⟩ ?_
              have hPc := hP.sub (ws' := [oSy z q h x r y] ++ (wHi cy h kh d E ++ wDo cy q M)) [0, 1, 2, 3, 4, 5, 6, 7, 8, 9, 10, 11, 12, 13, 14, 15, 16, 17, 18, 19, 20, 21, 22, 23, 24, 25, 26, 27, 28, 29, 30, 31, 32, 33, 34, 35, 36, 37, 38, 39, 40, 41, 42, 43, 44, 45, 46, 47] rfl
              have hDc := hD.sub (ws' := [oSy z q h x r y] ++ (wHi cy h kh d E ++ wDo cy q M)) [0, 1, 2, 3, 4, 5, 6, 7, 8, 9, 10, 11, 12, 13, 14, 15, 16, 17, 18, 19, 20, 21, 22, 23, 24, 25, 26, 27, 28, 29, 30, 31, 32, 33, 34, 35, 36, 37, 38, 39, 40, 41, 42, 43, 44, 45, 46, 47] (by decide) rfl
              have hFc := va_free (wc := [oSy z q h x r y] ++ (wHi cy h kh d E ++ wDo cy q M)) hD hS hA [0, 1, 2, 3, 4, 5, 6, 7, 8, 9, 10, 11, 12, 13, 14, 15, 16, 17, 18, 19, 20, 21, 22, 23, 24, 25, 26, 27, 28, 29, 30, 31, 32, 33, 34, 35, 36, 37, 38, 39, 40, 41, 42, 43, 44, 45, 46, 47] rfl
              refine va_calli (va_runV (As := [.int (nI pp), .int (nI w), .int (zB sn (m8 en)), .int (nI (bN stt))]) (rest := [.int (nI (mN M))]) ⟨hx, hb, hml, hown, hts⟩ (kX7_nail l G cy hk4 hW hPc hDc pp w _ _ hpl hw16 (z_all (s := sn) (e := m8 en) hm8 hm0).2.1 (fr_frc hs1.1 hs1.2) hN) (cwV 4 hts gL_isNailed_X7_nail rfl rfl rfl (by decide +kernel) ⟨Nat.le_of_ble_eq_true rfl, Nat.le_of_ble_eq_true rfl⟩) ⟨pR_blind, va_recv hK hP (ci := 6) (q0 := 0) rfl rfl, pR_at hK⟩ rfl rfl hl.1 rfl (lv_room (Nat.le_of_ble_eq_true rfl)) dL_isNailed_621 ⟨Nat.zero_le _, Nat.zero_le _⟩) hS (fun q _ h => hFc q h) hFc (fun r_ u_ t_ H locs ht hvm hw_ hB hz1 hk1 hS => ?_)
              obtain ⟨k1, d1, E1⟩ := u_
              obtain ⟨hr_, hk5⟩ := hw_
              have hk5 : k1 ≤ 4 := hk5
              have hr_ : r_ = nI (mN M) := hr_
              subst hr_
              have hB : va_P G vwCl ([oSy z q h x r y] ++ (wHi cy h k1 d1 E1 ++ wDo cy q (hung M pp w none FP.fconst1 (zF sn (m8 en)) (tfl (nI (bN stt)))))) t_.heap ∧ va_D (va_A ([oSy z q h x r y] ++ (wHi cy h kh d E ++ wDo cy q M)) _) ([oSy z q h x r y] ++ (wHi cy h k1 d1 E1 ++ wDo cy q (hung M pp w none FP.fconst1 (zF sn (m8 en)) (tfl (nI (bN stt)))))) := hB
              rw [ht] at hB
              obtain ⟨hP1, hD1⟩ := hB
              obtain ⟨hP, hD⟩ := va_join (wr := wLa cy L (hung M pp w none FP.fconst1 (zF sn (m8 en)) (tfl (nI (bN stt))))) hP hD [0, 1, 2, 3, 4, 5, 6, 7, 8, 9, 10, 11, 12, 13, 14, 15, 16, 17, 18, 19, 20, 21, 22, 23, 24, 25, 26, 27, 28, 29, 30, 31, 32, 33, 34, 35, 36, 37, 38, 39, 40, 41, 42, 43, 44, 45, 46, 47] [48, 49, 50, 51, 52] rfl rfl (by decide) (by decide) hk1 hFc hP1 hD1
              have hP : va_P G vwCl ([oSy z q h x r y] ++ (wHi cy h k1 d1 E1 ++ (wDo cy q (hung M pp w none FP.fconst1 (zF sn (m8 en)) (tfl (nI (bN stt)))) ++ wLa cy L (hung M pp w none FP.fconst1 (zF sn (m8 en)) (tfl (nI (bN stt))))))) H := hP.sub [5, 6, 7, 8, 9, 10, 11, 12, 13, 14, 15, 16, 17, 18, 19, 20, 21, 22, 23, 24, 25, 26, 27, 28, 29, 30, 31, 32, 33, 34, 35, 36, 37, 38, 39, 40, 41, 42, 43, 44, 45, 46, 47, 48, 49, 50, 51, 52, 0, 1, 2, 3, 4] rfl
              have hD : va_D A ([oSy z q h x r y] ++ (wHi cy h k1 d1 E1 ++ (wDo cy q (hung M pp w none FP.fconst1 (zF sn (m8 en)) (tfl (nI (bN stt)))) ++ wLa cy L (hung M pp w none FP.fconst1 (zF sn (m8 en)) (tfl (nI (bN stt))))))) := hD.sub [5, 6, 7, 8, 9, 10, 11, 12, 13, 14, 15, 16, 17, 18, 19, 20, 21, 22, 23, 24, 25, 26, 27, 28, 29, 30, 31, 32, 33, 34, 35, 36, 37, 38, 39, 40, 41, 42, 43, 44, 45, 46, 47, 48, 49, 50, 51, 52, 0, 1, 2, 3, 4] (by decide) rfl
              refine lv_icmp_ne (tgt := 631) hx hb dL_isNailed_624 (by decide) (fun c624 => ?_) (fun c624 => ?_)
              · exact absurd rfl c624
              · refine lv_iconst (v := nI 1) hx hb dL_isNailed_627 (by decide +kernel) ?_
                refine lv_goto (tgt := 632) hx hb dL_isNailed_628 (by decide) ?_
                exact o_endSz (k := k1) (d := d1) (E := E1) hx hb hr hlocks dL_isNailed_632 (by decide) hk5 hP hD hS rfl
            · exact absurd c575 hil
          · exact absurd c522 hil
        · exact absurd c495 hil
      · exact absurd c368 hnf
    · exact absurd c288 hil
  · exact absurd c203 (by omega)
