set_option maxHeartbeats 4000000 in
set_option maxRecDepth 100000 in
theorem kL_isNailed_s (l : Launch) (G : va_G) (cy : Nat → ClassId) {H0 : Heap} {z : Nat} {q h x r y L : Nat → Nat} {M : MT} (hW : WB M) (hN : mN M ≤ 15) (hp0 : 0 < mP M) (hP : va_P G vwCl ([oSy z q h x r y] ++ wDo cy q M ++ wLa cy L M) H0) (v y9 : Int32) (sf : Bool) (ef : Nat) (sn : Bool) (en : Nat) (pp w lk stt : Nat) (hpp : lwN v % (mP M + (if lwN (v >>> (nI 5 &&& 31)) % 20 = 0 then 1 else 0)) = pp) (hw9 : lwN (v >>> (nI 3 &&& 31)) % (if lwN (v >>> (nI 20 &&& 31)) % 2 = 0 then 3 else 16) = w) (hlk : lwN (v >>> (nI 7 &&& 31)) % (if lwN (v >>> (nI 20 &&& 31)) % 2 = 0 then 3 else 16) = lk) (hfz : nI (lwN y9 % (if lwN (y9 >>> (nI 8 &&& 31)) % 3 = 0 then 16001 else 33)) - nI (if lwN (y9 >>> (nI 8 &&& 31)) % 3 = 0 then 8000 else 16) = zI sf ef) (hnz : nI (lwN (y9 >>> (nI 10 &&& 31)) % (if lwN (y9 >>> (nI 24 &&& 31)) % 2 = 0 then 8001 else 41)) - nI 20 = zI sn en) (hst : 1 + lwN (v >>> (nI 15 &&& 31)) % 80 = stt) (hsn : sn = true → 0 < en) (hsn8 : sn = true → en ≤ 8000) (hen : en ≤ 8001) (hsf : sf = true → 0 < ef) (hef : ef ≤ 8001) (hpl : pp < mP M) (hil : 1 < lwN (v >>> (nI 12 &&& 31)) % 5) (hlw : lk = w) : MetI l yL_isNailed wsL_isNailed 5 180 [.ref z, .ref (L 0), .ref (L 2), .ref (L 3), .ref (L 4), .int v, .int y9] H0 G cy 1 := by
  refine Met.ofW (cc := cL_isNailed) (maxL := 15) (ret := (some .boolean)) (by decide) rfl ?_
  intro p e s m args below meth c s₁ B hml hv
  obtain ⟨rfl, hH, hK⟩ := hv
  subst hH
  have hx := B.exec
  have hb := B.bytes
  have hr := B.returns
  have hts := atoms_spec (ws := wsL_isNailed) B.pre
  have hown : s.vm.findClass RL = some m.cls := findClass_of_methodNamed B.named
  have hlocks := B.notSynchronized
  have hl := lv_entry ([.ref z, .ref (L 0), .ref (L 2), .ref (L 3), .ref (L 4), .int v, .int y9]) (n := 15) (Nat.le_of_ble_eq_true rfl)
  rw [lg_entry_eq]
  generalize (lg_sl ([.ref z, .ref (L 0), .ref (L 2), .ref (L 3), .ref (L 4), .int v, .int y9]) ++ List.replicate (15 - (lg_sl ([.ref z, .ref (L 0), .ref (L 2), .ref (L 3), .ref (L 4), .int v, .int y9])).length) Slot.unset).toArray = ls at hl ⊢
  have hl : lv_has ls 15 [(0, .ref z), (1, .ref (L 0)), (2, .ref (L 2)), (3, .ref (L 3)), (4, .ref (L 4)), (5, .int v), (6, .int y9)] := hl
  obtain ⟨bP, bQ, bR, bO, bW, bL, bF⟩ := id hW
  have hPs := hP.sub (ws' := [oSy z q h x r y] ++ wDo cy q M) [0, 1, 2, 3, 4, 5, 6, 7, 8, 9] rfl
  have hs1 : 1 ≤ stt ∧ stt ≤ 80 := by omega
  have hw16 : w < 16 := by rw [← hw9]; refine Nat.lt_of_lt_of_le (Nat.mod_lt _ (by split <;> decide)) (by split <;> decide)
  have hlk16 : lk < 16 := by rw [← hlk]; refine Nat.lt_of_lt_of_le (Nat.mod_lt _ (by split <;> decide)) (by split <;> decide)
  have hm8 := m8_le en
  have hm0 : sn = true → 0 < m8 en := fun z => by have := hsn z; unfold m8; split <;> omega
  refine lv_iload hx hb dL_isNailed_0 (lv_at hl 5 rfl) ?_
  refine lv_aload_n hx hb dL_isNailed_2 rfl (lv_at hl 1 rfl) ?_
  refine lv_iconst (v := nI 0) hx hb dL_isNailed_3 (by decide +kernel) ?_
  refine o_iald hx hb hK hP 10 0 rfl rfl 0 (by omega) (by decide) dL_isNailed_4 ?_
  rw [show gI M 0 = mP M from rfl]
  refine lv_iload hx hb dL_isNailed_5 (lv_at hl 5 rfl) ?_
  refine lv_iconst (v := nI 5) hx hb dL_isNailed_7 (by decide +kernel) ?_
  refine lv_ishr hx hb dL_isNailed_8 ?_
  rw [show v >>> (nI 5 &&& 31) = v >>> (nI 5 &&& 31) from rfl]
  refine lv_bipush (v := nI 20) hx hb dL_isNailed_9 (by decide +kernel) ?_
  refine o_SI (As := [.int (v >>> (nI 5 &&& 31)), .int (nI 20)]) (rest := [.int (nI (mP M)), .int v]) ⟨hx, hb, hml, hown, hts⟩ (kL_low l G cy (v >>> (nI 5 &&& 31)) 20 (by decide) (by omega)) (va_cwS 2 hts gL_isNailed_L_low rfl rfl rfl (by decide +kernel) ⟨Nat.le_of_ble_eq_true rfl, Nat.le_of_ble_eq_true rfl⟩) hK rfl hl.1 rfl (Nat.le_of_ble_eq_true rfl) dL_isNailed_11 ⟨Nat.le_of_ble_eq_true rfl, Nat.le_of_ble_eq_true rfl⟩ ?_
  refine o_cut 22 [.int (nI (if lwN (v >>> (nI 5 &&& 31)) % 20 = 0 then 1 else 0)), .int (nI (mP M)), .int v] (fun K22 => ?_) ?_
  · refine o_if_ne (tgt := 21) hx hb dL_isNailed_14 (by decide) (by omega) (fun c14 => ?_) (fun c14 => ?_)
    · refine lv_iconst (v := nI 0) hx hb dL_isNailed_21 (by decide +kernel) ?_
      have K9 := K22
      rw [show nI (if lwN (v >>> (nI 5 &&& 31)) % 20 = 0 then 1 else 0) = nI 0 from congrArg nI (if_neg (by omega))] at K9
      exact K9
    · refine lv_iconst (v := nI 1) hx hb dL_isNailed_17 (by decide +kernel) ?_
      refine lv_goto (tgt := 22) hx hb dL_isNailed_18 (by decide) ?_
      have K9 := K22
      rw [show nI (if lwN (v >>> (nI 5 &&& 31)) % 20 = 0 then 1 else 0) = nI 1 from congrArg nI (if_pos (by omega))] at K9
      exact K9
  refine lv_iadd hx hb dL_isNailed_22 ?_
  rw [nI_add]
  refine o_SI (As := [.int v, .int (nI ((mP M) + (if lwN (v >>> (nI 5 &&& 31)) % 20 = 0 then 1 else 0)))]) (rest := []) ⟨hx, hb, hml, hown, hts⟩ (kL_low l G cy v (mP M + (if lwN (v >>> (nI 5 &&& 31)) % 20 = 0 then 1 else 0)) (by omega) (by split <;> omega)) (va_cwS 2 hts gL_isNailed_L_low rfl rfl rfl (by decide +kernel) ⟨Nat.le_of_ble_eq_true rfl, Nat.le_of_ble_eq_true rfl⟩) hK rfl hl.1 rfl (Nat.le_of_ble_eq_true rfl) dL_isNailed_23 ⟨Nat.le_of_ble_eq_true rfl, Nat.le_of_ble_eq_true rfl⟩ ?_
  rw [hpp]
  refine lv_istore (lv' := [(7, .int (nI pp)), (0, .ref z), (1, .ref (L 0)), (2, .ref (L 2)), (3, .ref (L 3)), (4, .ref (L 4)), (5, .int v), (6, .int y9)]) hx hb dL_isNailed_26 hl (by decide) rfl (fun ls hl => ?_)
  refine lv_iload hx hb dL_isNailed_28 (lv_at hl 6 rfl) ?_
  refine lv_iconst (v := nI 3) hx hb dL_isNailed_30 (by decide +kernel) ?_
  refine lv_ishr hx hb dL_isNailed_31 ?_
  rw [show v >>> (nI 3 &&& 31) = v >>> (nI 3 &&& 31) from rfl]
  refine lv_iload hx hb dL_isNailed_32 (lv_at hl 6 rfl) ?_
  refine lv_bipush (v := nI 20) hx hb dL_isNailed_34 (by decide +kernel) ?_
  refine lv_ishr hx hb dL_isNailed_36 ?_
  rw [show v >>> (nI 20 &&& 31) = v >>> (nI 20 &&& 31) from rfl]
  refine lv_iconst (v := nI 2) hx hb dL_isNailed_37 (by decide +kernel) ?_
  refine o_SI (As := [.int (v >>> (nI 20 &&& 31)), .int (nI 2)]) (rest := [.int (v >>> (nI 3 &&& 31))]) ⟨hx, hb, hml, hown, hts⟩ (kL_low l G cy (v >>> (nI 20 &&& 31)) 2 (by decide) (by omega)) (va_cwS 2 hts gL_isNailed_L_low rfl rfl rfl (by decide +kernel) ⟨Nat.le_of_ble_eq_true rfl, Nat.le_of_ble_eq_true rfl⟩) hK rfl hl.1 rfl (Nat.le_of_ble_eq_true rfl) dL_isNailed_38 ⟨Nat.le_of_ble_eq_true rfl, Nat.le_of_ble_eq_true rfl⟩ ?_
  refine o_cut 50 [.int (nI (if lwN (v >>> (nI 20 &&& 31)) % 2 = 0 then 3 else 16)), .int (v >>> (nI 3 &&& 31))] (fun K50 => ?_) ?_
  · refine o_if_ne (tgt := 48) hx hb dL_isNailed_41 (by decide) (by omega) (fun c41 => ?_) (fun c41 => ?_)
    · refine lv_bipush (v := nI 16) hx hb dL_isNailed_48 (by decide +kernel) ?_
      have K9 := K50
      rw [show nI (if lwN (v >>> (nI 20 &&& 31)) % 2 = 0 then 3 else 16) = nI 16 from congrArg nI (if_neg (by omega))] at K9
      exact K9
    · refine lv_iconst (v := nI 3) hx hb dL_isNailed_44 (by decide +kernel) ?_
      refine lv_goto (tgt := 50) hx hb dL_isNailed_45 (by decide) ?_
      have K9 := K50
      rw [show nI (if lwN (v >>> (nI 20 &&& 31)) % 2 = 0 then 3 else 16) = nI 3 from congrArg nI (if_pos (by omega))] at K9
      exact K9
  refine o_SI (As := [.int (v >>> (nI 3 &&& 31)), .int (nI (if lwN (v >>> (nI 20 &&& 31)) % 2 = 0 then 3 else 16))]) (rest := []) ⟨hx, hb, hml, hown, hts⟩ (kL_low l G cy (v >>> (nI 3 &&& 31)) (if lwN (v >>> (nI 20 &&& 31)) % 2 = 0 then 3 else 16) (by split <;> decide) (by split <;> decide)) (va_cwS 2 hts gL_isNailed_L_low rfl rfl rfl (by decide +kernel) ⟨Nat.le_of_ble_eq_true rfl, Nat.le_of_ble_eq_true rfl⟩) hK rfl hl.1 rfl (Nat.le_of_ble_eq_true rfl) dL_isNailed_50 ⟨Nat.le_of_ble_eq_true rfl, Nat.le_of_ble_eq_true rfl⟩ ?_
  rw [hw9]
  refine lv_istore (lv' := [(8, .int (nI w)), (7, .int (nI pp)), (0, .ref z), (1, .ref (L 0)), (2, .ref (L 2)), (3, .ref (L 3)), (4, .ref (L 4)), (5, .int v), (6, .int y9)]) hx hb dL_isNailed_53 hl (by decide) rfl (fun ls hl => ?_)
  refine lv_iload hx hb dL_isNailed_55 (lv_at hl 7 rfl) ?_
  refine lv_bipush (v := nI 7) hx hb dL_isNailed_57 (by decide +kernel) ?_
  refine lv_ishr hx hb dL_isNailed_59 ?_
  rw [show v >>> (nI 7 &&& 31) = v >>> (nI 7 &&& 31) from rfl]
  refine lv_iload hx hb dL_isNailed_60 (lv_at hl 7 rfl) ?_
  refine lv_bipush (v := nI 20) hx hb dL_isNailed_62 (by decide +kernel) ?_
  refine lv_ishr hx hb dL_isNailed_64 ?_
  rw [show v >>> (nI 20 &&& 31) = v >>> (nI 20 &&& 31) from rfl]
  refine lv_iconst (v := nI 2) hx hb dL_isNailed_65 (by decide +kernel) ?_
  refine o_SI (As := [.int (v >>> (nI 20 &&& 31)), .int (nI 2)]) (rest := [.int (v >>> (nI 7 &&& 31))]) ⟨hx, hb, hml, hown, hts⟩ (kL_low l G cy (v >>> (nI 20 &&& 31)) 2 (by decide) (by omega)) (va_cwS 2 hts gL_isNailed_L_low rfl rfl rfl (by decide +kernel) ⟨Nat.le_of_ble_eq_true rfl, Nat.le_of_ble_eq_true rfl⟩) hK rfl hl.1 rfl (Nat.le_of_ble_eq_true rfl) dL_isNailed_66 ⟨Nat.le_of_ble_eq_true rfl, Nat.le_of_ble_eq_true rfl⟩ ?_
  refine o_cut 78 [.int (nI (if lwN (v >>> (nI 20 &&& 31)) % 2 = 0 then 3 else 16)), .int (v >>> (nI 7 &&& 31))] (fun K78 => ?_) ?_
  · refine o_if_ne (tgt := 76) hx hb dL_isNailed_69 (by decide) (by omega) (fun c69 => ?_) (fun c69 => ?_)
    · refine lv_bipush (v := nI 16) hx hb dL_isNailed_76 (by decide +kernel) ?_
      have K9 := K78
      rw [show nI (if lwN (v >>> (nI 20 &&& 31)) % 2 = 0 then 3 else 16) = nI 16 from congrArg nI (if_neg (by omega))] at K9
      exact K9
    · refine lv_iconst (v := nI 3) hx hb dL_isNailed_72 (by decide +kernel) ?_
      refine lv_goto (tgt := 78) hx hb dL_isNailed_73 (by decide) ?_
      have K9 := K78
      rw [show nI (if lwN (v >>> (nI 20 &&& 31)) % 2 = 0 then 3 else 16) = nI 3 from congrArg nI (if_pos (by omega))] at K9
      exact K9
  refine o_SI (As := [.int (v >>> (nI 7 &&& 31)), .int (nI (if lwN (v >>> (nI 20 &&& 31)) % 2 = 0 then 3 else 16))]) (rest := []) ⟨hx, hb, hml, hown, hts⟩ (kL_low l G cy (v >>> (nI 7 &&& 31)) (if lwN (v >>> (nI 20 &&& 31)) % 2 = 0 then 3 else 16) (by split <;> decide) (by split <;> decide)) (va_cwS 2 hts gL_isNailed_L_low rfl rfl rfl (by decide +kernel) ⟨Nat.le_of_ble_eq_true rfl, Nat.le_of_ble_eq_true rfl⟩) hK rfl hl.1 rfl (Nat.le_of_ble_eq_true rfl) dL_isNailed_78 ⟨Nat.le_of_ble_eq_true rfl, Nat.le_of_ble_eq_true rfl⟩ ?_
  rw [hlk]
  refine lv_istore (lv' := [(9, .int (nI lk)), (8, .int (nI w)), (7, .int (nI pp)), (0, .ref z), (1, .ref (L 0)), (2, .ref (L 2)), (3, .ref (L 3)), (4, .ref (L 4)), (5, .int v), (6, .int y9)]) hx hb dL_isNailed_81 hl (by decide) rfl (fun ls hl => ?_)
  refine lv_iload hx hb dL_isNailed_83 (lv_at hl 8 rfl) ?_
  refine lv_bipush (v := nI 12) hx hb dL_isNailed_85 (by decide +kernel) ?_
  refine lv_ishr hx hb dL_isNailed_87 ?_
  rw [show v >>> (nI 12 &&& 31) = v >>> (nI 12 &&& 31) from rfl]
  refine lv_iconst (v := nI 5) hx hb dL_isNailed_88 (by decide +kernel) ?_
  refine o_SI (As := [.int (v >>> (nI 12 &&& 31)), .int (nI 5)]) (rest := []) ⟨hx, hb, hml, hown, hts⟩ (kL_low l G cy (v >>> (nI 12 &&& 31)) 5 (by decide) (by omega)) (va_cwS 2 hts gL_isNailed_L_low rfl rfl rfl (by decide +kernel) ⟨Nat.le_of_ble_eq_true rfl, Nat.le_of_ble_eq_true rfl⟩) hK rfl hl.1 rfl (Nat.le_of_ble_eq_true rfl) dL_isNailed_89 ⟨Nat.le_of_ble_eq_true rfl, Nat.le_of_ble_eq_true rfl⟩ ?_
  refine lv_iconst (v := nI 1) hx hb dL_isNailed_92 (by decide +kernel) ?_
  refine o_cut 101 [.int (bI (1 < lwN (v >>> (nI 12 &&& 31)) % 5))] (fun K101 => ?_) ?_
  · refine o_icmp_le (tgt := 100) hx hb dL_isNailed_93 (by decide) (by omega) (by omega) (fun c93 => ?_) (fun c93 => ?_)
    · refine lv_iconst (v := nI 0) hx hb dL_isNailed_100 (by decide +kernel) ?_
      have K9 := K101
      rw [show bI (1 < lwN (v >>> (nI 12 &&& 31)) % 5) = nI 0 from bI_f (by omega)] at K9
      exact K9
    · refine lv_iconst (v := nI 1) hx hb dL_isNailed_96 (by decide +kernel) ?_
      refine lv_goto (tgt := 101) hx hb dL_isNailed_97 (by decide) ?_
      have K9 := K101
      rw [show bI (1 < lwN (v >>> (nI 12 &&& 31)) % 5) = nI 1 from bI_t (by omega)] at K9
      exact K9
  refine lv_istore (lv' := [(10, .int (bI (1 < lwN (v >>> (nI 12 &&& 31)) % 5))), (9, .int (nI lk)), (8, .int (nI w)), (7, .int (nI pp)), (0, .ref z), (1, .ref (L 0)), (2, .ref (L 2)), (3, .ref (L 3)), (4, .ref (L 4)), (5, .int v), (6, .int y9)]) hx hb dL_isNailed_101 hl (by decide) rfl (fun ls hl => ?_)
  refine lv_iload hx hb dL_isNailed_103 (lv_at hl 10 rfl) ?_
  refine lv_iload hx hb dL_isNailed_105 (lv_at hl 10 rfl) ?_
  refine lv_bipush (v := nI 8) hx hb dL_isNailed_107 (by decide +kernel) ?_
  refine lv_ishr hx hb dL_isNailed_109 ?_
  rw [show y9 >>> (nI 8 &&& 31) = y9 >>> (nI 8 &&& 31) from rfl]
  refine lv_iconst (v := nI 3) hx hb dL_isNailed_110 (by decide +kernel) ?_
  refine o_SI (As := [.int (y9 >>> (nI 8 &&& 31)), .int (nI 3)]) (rest := [.int y9]) ⟨hx, hb, hml, hown, hts⟩ (kL_low l G cy (y9 >>> (nI 8 &&& 31)) 3 (by decide) (by omega)) (va_cwS 2 hts gL_isNailed_L_low rfl rfl rfl (by decide +kernel) ⟨Nat.le_of_ble_eq_true rfl, Nat.le_of_ble_eq_true rfl⟩) hK rfl hl.1 rfl (Nat.le_of_ble_eq_true rfl) dL_isNailed_111 ⟨Nat.le_of_ble_eq_true rfl, Nat.le_of_ble_eq_true rfl⟩ ?_
  refine o_cut 125 [.int (nI (if lwN (y9 >>> (nI 8 &&& 31)) % 3 = 0 then 16001 else 33)), .int y9] (fun K125 => ?_) ?_
  · refine o_if_ne (tgt := 123) hx hb dL_isNailed_114 (by decide) (by omega) (fun c114 => ?_) (fun c114 => ?_)
    · refine lv_bipush (v := nI 33) hx hb dL_isNailed_123 (by decide +kernel) ?_
      have K9 := K125
      rw [show nI (if lwN (y9 >>> (nI 8 &&& 31)) % 3 = 0 then 16001 else 33) = nI 33 from congrArg nI (if_neg (by omega))] at K9
      exact K9
    · refine lv_sipush (v := nI 16001) hx hb dL_isNailed_117 (by decide +kernel) ?_
      refine lv_goto (tgt := 125) hx hb dL_isNailed_120 (by decide) ?_
      have K9 := K125
      rw [show nI (if lwN (y9 >>> (nI 8 &&& 31)) % 3 = 0 then 16001 else 33) = nI 16001 from congrArg nI (if_pos (by omega))] at K9
      exact K9
  refine o_SI (As := [.int y9, .int (nI (if lwN (y9 >>> (nI 8 &&& 31)) % 3 = 0 then 16001 else 33))]) (rest := []) ⟨hx, hb, hml, hown, hts⟩ (kL_low l G cy y9 (if lwN (y9 >>> (nI 8 &&& 31)) % 3 = 0 then 16001 else 33) (by split <;> decide) (by split <;> decide)) (va_cwS 2 hts gL_isNailed_L_low rfl rfl rfl (by decide +kernel) ⟨Nat.le_of_ble_eq_true rfl, Nat.le_of_ble_eq_true rfl⟩) hK rfl hl.1 rfl (Nat.le_of_ble_eq_true rfl) dL_isNailed_125 ⟨Nat.le_of_ble_eq_true rfl, Nat.le_of_ble_eq_true rfl⟩ ?_
  refine lv_iload hx hb dL_isNailed_128 (lv_at hl 10 rfl) ?_
  refine lv_bipush (v := nI 8) hx hb dL_isNailed_130 (by decide +kernel) ?_
  refine lv_ishr hx hb dL_isNailed_132 ?_
  rw [show y9 >>> (nI 8 &&& 31) = y9 >>> (nI 8 &&& 31) from rfl]
  refine lv_iconst (v := nI 3) hx hb dL_isNailed_133 (by decide +kernel) ?_
  refine o_SI (As := [.int (y9 >>> (nI 8 &&& 31)), .int (nI 3)]) (rest := [.int (nI (lwN y9 % (if lwN (y9 >>> (nI 8 &&& 31)) % 3 = 0 then 16001 else 33)))]) ⟨hx, hb, hml, hown, hts⟩ (kL_low l G cy (y9 >>> (nI 8 &&& 31)) 3 (by decide) (by omega)) (va_cwS 2 hts gL_isNailed_L_low rfl rfl rfl (by decide +kernel) ⟨Nat.le_of_ble_eq_true rfl, Nat.le_of_ble_eq_true rfl⟩) hK rfl hl.1 rfl (Nat.le_of_ble_eq_true rfl) dL_isNailed_134 ⟨Nat.le_of_ble_eq_true rfl, Nat.le_of_ble_eq_true rfl⟩ ?_
  refine o_cut 148 [.int (nI (if lwN (y9 >>> (nI 8 &&& 31)) % 3 = 0 then 8000 else 16)), .int (nI (lwN y9 % (if lwN (y9 >>> (nI 8 &&& 31)) % 3 = 0 then 16001 else 33)))] (fun K148 => ?_) ?_
  · refine o_if_ne (tgt := 146) hx hb dL_isNailed_137 (by decide) (by omega) (fun c137 => ?_) (fun c137 => ?_)
    · refine lv_bipush (v := nI 16) hx hb dL_isNailed_146 (by decide +kernel) ?_
      have K9 := K148
      rw [show nI (if lwN (y9 >>> (nI 8 &&& 31)) % 3 = 0 then 8000 else 16) = nI 16 from congrArg nI (if_neg (by omega))] at K9
      exact K9
    · refine lv_sipush (v := nI 8000) hx hb dL_isNailed_140 (by decide +kernel) ?_
      refine lv_goto (tgt := 148) hx hb dL_isNailed_143 (by decide) ?_
      have K9 := K148
      rw [show nI (if lwN (y9 >>> (nI 8 &&& 31)) % 3 = 0 then 8000 else 16) = nI 8000 from congrArg nI (if_pos (by omega))] at K9
      exact K9
  refine lv_isub hx hb dL_isNailed_148 ?_
  rw [hfz]
  refine lv_istore (lv' := [(11, .int (zI sf ef)), (10, .int (bI (1 < lwN (v >>> (nI 12 &&& 31)) % 5))), (9, .int (nI lk)), (8, .int (nI w)), (7, .int (nI pp)), (0, .ref z), (1, .ref (L 0)), (2, .ref (L 2)), (3, .ref (L 3)), (4, .ref (L 4)), (5, .int v), (6, .int y9)]) hx hb dL_isNailed_149 hl (by decide) rfl (fun ls hl => ?_)
  refine lv_iload hx hb dL_isNailed_151 (lv_at hl 11 rfl) ?_
  refine lv_bipush (v := nI 10) hx hb dL_isNailed_153 (by decide +kernel) ?_
  refine lv_ishr hx hb dL_isNailed_155 ?_
  rw [show y9 >>> (nI 10 &&& 31) = y9 >>> (nI 10 &&& 31) from rfl]
  refine lv_iload hx hb dL_isNailed_156 (lv_at hl 11 rfl) ?_
  refine lv_bipush (v := nI 24) hx hb dL_isNailed_158 (by decide +kernel) ?_
  refine lv_ishr hx hb dL_isNailed_160 ?_
  rw [show y9 >>> (nI 24 &&& 31) = y9 >>> (nI 24 &&& 31) from rfl]
  refine lv_iconst (v := nI 2) hx hb dL_isNailed_161 (by decide +kernel) ?_
  refine o_SI (As := [.int (y9 >>> (nI 24 &&& 31)), .int (nI 2)]) (rest := [.int (y9 >>> (nI 10 &&& 31))]) ⟨hx, hb, hml, hown, hts⟩ (kL_low l G cy (y9 >>> (nI 24 &&& 31)) 2 (by decide) (by omega)) (va_cwS 2 hts gL_isNailed_L_low rfl rfl rfl (by decide +kernel) ⟨Nat.le_of_ble_eq_true rfl, Nat.le_of_ble_eq_true rfl⟩) hK rfl hl.1 rfl (Nat.le_of_ble_eq_true rfl) dL_isNailed_162 ⟨Nat.le_of_ble_eq_true rfl, Nat.le_of_ble_eq_true rfl⟩ ?_
  refine o_cut 176 [.int (nI (if lwN (y9 >>> (nI 24 &&& 31)) % 2 = 0 then 8001 else 41)), .int (y9 >>> (nI 10 &&& 31))] (fun K176 => ?_) ?_
  · refine o_if_ne (tgt := 174) hx hb dL_isNailed_165 (by decide) (by omega) (fun c165 => ?_) (fun c165 => ?_)
    · refine lv_bipush (v := nI 41) hx hb dL_isNailed_174 (by decide +kernel) ?_
      have K9 := K176
      rw [show nI (if lwN (y9 >>> (nI 24 &&& 31)) % 2 = 0 then 8001 else 41) = nI 41 from congrArg nI (if_neg (by omega))] at K9
      exact K9
    · refine lv_sipush (v := nI 8001) hx hb dL_isNailed_168 (by decide +kernel) ?_
      refine lv_goto (tgt := 176) hx hb dL_isNailed_171 (by decide) ?_
      have K9 := K176
      rw [show nI (if lwN (y9 >>> (nI 24 &&& 31)) % 2 = 0 then 8001 else 41) = nI 8001 from congrArg nI (if_pos (by omega))] at K9
      exact K9
  refine o_SI (As := [.int (y9 >>> (nI 10 &&& 31)), .int (nI (if lwN (y9 >>> (nI 24 &&& 31)) % 2 = 0 then 8001 else 41))]) (rest := []) ⟨hx, hb, hml, hown, hts⟩ (kL_low l G cy (y9 >>> (nI 10 &&& 31)) (if lwN (y9 >>> (nI 24 &&& 31)) % 2 = 0 then 8001 else 41) (by split <;> decide) (by split <;> decide)) (va_cwS 2 hts gL_isNailed_L_low rfl rfl rfl (by decide +kernel) ⟨Nat.le_of_ble_eq_true rfl, Nat.le_of_ble_eq_true rfl⟩) hK rfl hl.1 rfl (Nat.le_of_ble_eq_true rfl) dL_isNailed_176 ⟨Nat.le_of_ble_eq_true rfl, Nat.le_of_ble_eq_true rfl⟩ ?_
  refine lv_bipush (v := nI 20) hx hb dL_isNailed_179 (by decide +kernel) ?_
  refine lv_isub hx hb dL_isNailed_181 ?_
  rw [hnz]
  refine lv_istore (lv' := [(12, .int (zI sn en)), (11, .int (zI sf ef)), (10, .int (bI (1 < lwN (v >>> (nI 12 &&& 31)) % 5))), (9, .int (nI lk)), (8, .int (nI w)), (7, .int (nI pp)), (0, .ref z), (1, .ref (L 0)), (2, .ref (L 2)), (3, .ref (L 3)), (4, .ref (L 4)), (5, .int v), (6, .int y9)]) hx hb dL_isNailed_182 hl (by decide) rfl (fun ls hl => ?_)
  refine lv_iconst (v := nI 1) hx hb dL_isNailed_184 (by decide +kernel) ?_
  refine lv_iload hx hb dL_isNailed_185 (lv_at hl 11 rfl) ?_
  refine lv_bipush (v := nI 15) hx hb dL_isNailed_187 (by decide +kernel) ?_
  refine lv_ishr hx hb dL_isNailed_189 ?_
  rw [show v >>> (nI 15 &&& 31) = v >>> (nI 15 &&& 31) from rfl]
  refine lv_bipush (v := nI 80) hx hb dL_isNailed_190 (by decide +kernel) ?_
  refine o_SI (As := [.int (v >>> (nI 15 &&& 31)), .int (nI 80)]) (rest := [.int (nI 1)]) ⟨hx, hb, hml, hown, hts⟩ (kL_low l G cy (v >>> (nI 15 &&& 31)) 80 (by decide) (by omega)) (va_cwS 2 hts gL_isNailed_L_low rfl rfl rfl (by decide +kernel) ⟨Nat.le_of_ble_eq_true rfl, Nat.le_of_ble_eq_true rfl⟩) hK rfl hl.1 rfl (Nat.le_of_ble_eq_true rfl) dL_isNailed_192 ⟨Nat.le_of_ble_eq_true rfl, Nat.le_of_ble_eq_true rfl⟩ ?_
  refine lv_iadd hx hb dL_isNailed_195 ?_
  rw [nI_add, hst]
  refine lv_istore (lv' := [(13, .int (nI stt)), (12, .int (zI sn en)), (11, .int (zI sf ef)), (10, .int (bI (1 < lwN (v >>> (nI 12 &&& 31)) % 5))), (9, .int (nI lk)), (8, .int (nI w)), (7, .int (nI pp)), (0, .ref z), (1, .ref (L 0)), (2, .ref (L 2)), (3, .ref (L 3)), (4, .ref (L 4)), (5, .int v), (6, .int y9)]) hx hb dL_isNailed_196 hl (by decide) rfl (fun ls hl => ?_)
  refine lv_iload hx hb dL_isNailed_198 (lv_at hl 6 rfl) ?_
  refine lv_aload_n hx hb dL_isNailed_200 rfl (lv_at hl 8 rfl) ?_
  refine lv_iconst (v := nI 0) hx hb dL_isNailed_201 (by decide +kernel) ?_
  refine o_iald hx hb hK hP 10 0 rfl rfl 0 (by omega) (by decide) dL_isNailed_202 ?_
  rw [show gI M 0 = mP M from rfl]
  refine o_icmp_ne (tgt := 268) hx hb dL_isNailed_203 (by decide) (by omega) (by omega) (fun c203 => ?_) (fun c203 => ?_)
  · refine lv_iload hx hb dL_isNailed_268 (lv_at hl 1 rfl) ?_
    refine lv_sipush (v := nI 8000) hx hb dL_isNailed_270 (by decide +kernel) ?_
    refine o_cut 284 [.int (zI sn (m8 en))] (fun K284 => ?_) ?_
    · refine lv_icmp_le (tgt := 282) hx hb dL_isNailed_273 (by decide) (fun c273 => ?_) (fun c273 => ?_)
      · refine lv_iload hx hb dL_isNailed_282 (lv_at hl 1 rfl) ?_
        have K9 := K284
        rw [show zI sn (m8 en) = zI sn en from m8_t (by omega) hsn8 c273] at K9
        exact K9
      · refine lv_sipush (v := nI 8000) hx hb dL_isNailed_276 (by decide +kernel) ?_
        refine lv_goto (tgt := 284) hx hb dL_isNailed_279 (by decide) ?_
        have K9 := K284
        rw [show zI sn (m8 en) = nI 8000 from m8_f (by omega) hsn8 c273] at K9
        exact K9
    refine lv_istore (lv' := [(12, .int (zI sn (m8 en))), (13, .int (nI stt)), (11, .int (zI sf ef)), (10, .int (bI (1 < lwN (v >>> (nI 12 &&& 31)) % 5))), (9, .int (nI lk)), (8, .int (nI w)), (7, .int (nI pp)), (0, .ref z), (1, .ref (L 0)), (2, .ref (L 2)), (3, .ref (L 3)), (4, .ref (L 4)), (5, .int v), (6, .int y9)]) hx hb dL_isNailed_284 hl (by decide) rfl (fun ls hl => ?_)
    refine lv_iload hx hb dL_isNailed_286 (lv_at hl 3 rfl) ?_
    refine o_ifb_eq (tgt := 363) hx hb dL_isNailed_288 (by decide) (fun c288 => ?_) (fun c288 => ?_)
    · exact absurd hil c288
    · refine lv_iload hx hb dL_isNailed_291 (lv_at hl 4 rfl) ?_
      refine lv_iload hx hb dL_isNailed_293 (lv_at hl 5 rfl) ?_
      refine o_icmp_ne (tgt := 363) hx hb dL_isNailed_295 (by decide) (by omega) (by omega) (fun c295 => ?_) (fun c295 => ?_)
      · exact absurd hlw c295
      · refine lv_aload_n hx hb dL_isNailed_298 rfl (lv_at hl 7 rfl) ?_
        refine lv_iload hx hb dL_isNailed_299 (lv_at hl 6 rfl) ?_
        refine lv_iload hx hb dL_isNailed_301 (lv_at hl 5 rfl) ?_
        refine lv_iload hx hb dL_isNailed_303 (lv_at hl 4 rfl) ?_
        refine lv_iload hx hb dL_isNailed_305 (lv_at hl 2 rfl) ?_
        refine o_SI (As := [.int (zI sf ef)]) (rest := [.int (nI lk), .int (nI w), .int (nI pp), .ref z]) ⟨hx, hb, hml, hown, hts⟩ (kL_bits_z l G cy sf ef hsf (by omega)) (va_cwS 1 hts gL_isNailed_L_bits rfl rfl rfl (by decide +kernel) ⟨Nat.le_of_ble_eq_true rfl, Nat.le_of_ble_eq_true rfl⟩) hK rfl hl.1 rfl (Nat.le_of_ble_eq_true rfl) dL_isNailed_307 ⟨Nat.le_of_ble_eq_true rfl, Nat.le_of_ble_eq_true rfl⟩ ?_
        refine lv_iload hx hb dL_isNailed_310 (lv_at hl 0 rfl) ?_
        refine o_SI (As := [.int (zI sn (m8 en))]) (rest := [.int (zB sf ef), .int (nI lk), .int (nI w), .int (nI pp), .ref z]) ⟨hx, hb, hml, hown, hts⟩ (kL_bits_z l G cy sn (m8 en) hm0 (by omega)) (va_cwS 1 hts gL_isNailed_L_bits rfl rfl rfl (by decide +kernel) ⟨Nat.le_of_ble_eq_true rfl, Nat.le_of_ble_eq_true rfl⟩) hK rfl hl.1 rfl (Nat.le_of_ble_eq_true rfl) dL_isNailed_312 ⟨Nat.le_of_ble_eq_true rfl, Nat.le_of_ble_eq_true rfl⟩ ?_
        refine lv_iload hx hb dL_isNailed_315 (lv_at hl 1 rfl) ?_
        refine o_SI (As := [.int (nI stt)]) (rest := [.int (zB sn (m8 en)), .int (zB sf ef), .int (nI lk), .int (nI w), .int (nI pp), .ref z]) ⟨hx, hb, hml, hown, hts⟩ (kL_bits_p l G cy stt (by omega)) (va_cwS 1 hts gL_isNailed_L_bits rfl rfl rfl (by decide +kernel) ⟨Nat.le_of_ble_eq_true rfl, Nat.le_of_ble_eq_true rfl⟩) hK rfl hl.1 rfl (Nat.le_of_ble_eq_true rfl) dL_isNailed_317 ⟨Nat.le_of_ble_eq_true rfl, Nat.le_of_ble_eq_true rfl⟩ ?_
        refine o_VI (As := [.int (nI pp), .int (nI w), .int (nI lk), .int (zB sf ef), .int (zB sn (m8 en)), .int (nI (bN stt))]) (rest := []) ⟨hx, hb, hml, hown, hts⟩ (kX7_nailLink_b l G cy hW hPs pp w lk _ _ _ hpl hw16 hlk16 hlw.symm) (cwV 6 hts gL_isNailed_X7_nailLink rfl rfl rfl (by decide +kernel) ⟨Nat.le_of_ble_eq_true rfl, Nat.le_of_ble_eq_true rfl⟩) hK (va_recv hK hP (ci := 6) (q0 := 0) rfl rfl) rfl hl.1 rfl (Nat.le_of_ble_eq_true rfl) dL_isNailed_320 ⟨Nat.le_of_ble_eq_true rfl, Nat.le_of_ble_eq_true rfl⟩ ?_
        refine lv_bipush (v := (-2)) hx hb dL_isNailed_323 (by decide +kernel) ?_
        refine lv_icmp_ne (tgt := 361) hx hb dL_isNailed_325 (by decide) (fun c325 => ?_) (fun c325 => ?_)
        · exact absurd rfl c325
        · refine lv_aload_n hx hb dL_isNailed_328 rfl (lv_at hl 7 rfl) ?_
          refine lv_iload hx hb dL_isNailed_329 (lv_at hl 6 rfl) ?_
          refine lv_iload hx hb dL_isNailed_331 (lv_at hl 5 rfl) ?_
          refine lv_bipush (v := nI 16) hx hb dL_isNailed_333 (by decide +kernel) ?_
          refine lv_iload hx hb dL_isNailed_335 (lv_at hl 2 rfl) ?_
          refine o_SI (As := [.int (zI sf ef)]) (rest := [.int (nI 16), .int (nI w), .int (nI pp), .ref z]) ⟨hx, hb, hml, hown, hts⟩ (kL_bits_z l G cy sf ef hsf (by omega)) (va_cwS 1 hts gL_isNailed_L_bits rfl rfl rfl (by decide +kernel) ⟨Nat.le_of_ble_eq_true rfl, Nat.le_of_ble_eq_true rfl⟩) hK rfl hl.1 rfl (Nat.le_of_ble_eq_true rfl) dL_isNailed_337 ⟨Nat.le_of_ble_eq_true rfl, Nat.le_of_ble_eq_true rfl⟩ ?_
          refine lv_iload hx hb dL_isNailed_340 (lv_at hl 0 rfl) ?_
          refine o_SI (As := [.int (zI sn (m8 en))]) (rest := [.int (zB sf ef), .int (nI 16), .int (nI w), .int (nI pp), .ref z]) ⟨hx, hb, hml, hown, hts⟩ (kL_bits_z l G cy sn (m8 en) hm0 (by omega)) (va_cwS 1 hts gL_isNailed_L_bits rfl rfl rfl (by decide +kernel) ⟨Nat.le_of_ble_eq_true rfl, Nat.le_of_ble_eq_true rfl⟩) hK rfl hl.1 rfl (Nat.le_of_ble_eq_true rfl) dL_isNailed_342 ⟨Nat.le_of_ble_eq_true rfl, Nat.le_of_ble_eq_true rfl⟩ ?_
          refine lv_iload hx hb dL_isNailed_345 (lv_at hl 1 rfl) ?_
          refine o_SI (As := [.int (nI stt)]) (rest := [.int (zB sn (m8 en)), .int (zB sf ef), .int (nI 16), .int (nI w), .int (nI pp), .ref z]) ⟨hx, hb, hml, hown, hts⟩ (kL_bits_p l G cy stt (by omega)) (va_cwS 1 hts gL_isNailed_L_bits rfl rfl rfl (by decide +kernel) ⟨Nat.le_of_ble_eq_true rfl, Nat.le_of_ble_eq_true rfl⟩) hK rfl hl.1 rfl (Nat.le_of_ble_eq_true rfl) dL_isNailed_347 ⟨Nat.le_of_ble_eq_true rfl, Nat.le_of_ble_eq_true rfl⟩ ?_
          refine o_VI (As := [.int (nI pp), .int (nI w), .int (nI 16), .int (zB sf ef), .int (zB sn (m8 en)), .int (nI (bN stt))]) (rest := []) ⟨hx, hb, hml, hown, hts⟩ (kX7_nailLink_u l G cy hW hPs pp w 16 _ _ _ (by omega) (by omega) (by decide) (by omega)) (cwV 6 hts gL_isNailed_X7_nailLink rfl rfl rfl (by decide +kernel) ⟨Nat.le_of_ble_eq_true rfl, Nat.le_of_ble_eq_true rfl⟩) hK (va_recv hK hP (ci := 6) (q0 := 0) rfl rfl) rfl hl.1 rfl (Nat.le_of_ble_eq_true rfl) dL_isNailed_350 ⟨Nat.le_of_ble_eq_true rfl, Nat.le_of_ble_eq_true rfl⟩ ?_
          refine lv_iconst (v := (-1)) hx hb dL_isNailed_353 (by decide +kernel) ?_
          refine lv_icmp_ne (tgt := 361) hx hb dL_isNailed_354 (by decide) (fun c354 => ?_) (fun c354 => ?_)
          · exact absurd rfl c354
          · refine lv_iconst (v := nI 1) hx hb dL_isNailed_357 (by decide +kernel) ?_
            refine lv_goto (tgt := 362) hx hb dL_isNailed_358 (by decide) ?_
            exact o_endZ hx hb hr hlocks dL_isNailed_362 (by decide) (by decide)
  · exact absurd c203 (by omega)

set_option maxHeartbeats 4000000 in
set_option maxRecDepth 100000 in
theorem kL_isNailed_f (l : Launch) (G : va_G) (cy : Nat → ClassId) {H0 : Heap} {z : Nat} {q h x r y L : Nat → Nat} {M : MT} (hW : WB M) (hN : mN M ≤ 15) (hp0 : 0 < mP M) (hP : va_P G vwCl ([oSy z q h x r y] ++ wDo cy q M ++ wLa cy L M) H0) (v y9 : Int32) (sf : Bool) (ef : Nat) (sn : Bool) (en : Nat) (pp w lk stt : Nat) (hpp : lwN v % (mP M + (if lwN (v >>> (nI 5 &&& 31)) % 20 = 0 then 1 else 0)) = pp) (hw9 : lwN (v >>> (nI 3 &&& 31)) % (if lwN (v >>> (nI 20 &&& 31)) % 2 = 0 then 3 else 16) = w) (hlk : lwN (v >>> (nI 7 &&& 31)) % (if lwN (v >>> (nI 20 &&& 31)) % 2 = 0 then 3 else 16) = lk) (hfz : nI (lwN y9 % (if lwN (y9 >>> (nI 8 &&& 31)) % 3 = 0 then 16001 else 33)) - nI (if lwN (y9 >>> (nI 8 &&& 31)) % 3 = 0 then 8000 else 16) = zI sf ef) (hnz : nI (lwN (y9 >>> (nI 10 &&& 31)) % (if lwN (y9 >>> (nI 24 &&& 31)) % 2 = 0 then 8001 else 41)) - nI 20 = zI sn en) (hst : 1 + lwN (v >>> (nI 15 &&& 31)) % 80 = stt) (hsn : sn = true → 0 < en) (hsn8 : sn = true → en ≤ 8000) (hen : en ≤ 8001) (hsf : sf = true → 0 < ef) (hef : ef ≤ 8001) (hpl : pp < mP M) (hns : ¬ (1 < lwN (v >>> (nI 12 &&& 31)) % 5 ∧ lk = w)) (hfull : mN M = 15) : MetI l yL_isNailed wsL_isNailed 5 180 [.ref z, .ref (L 0), .ref (L 2), .ref (L 3), .ref (L 4), .int v, .int y9] H0 G cy 1 := by
  refine Met.ofW (cc := cL_isNailed) (maxL := 15) (ret := (some .boolean)) (by decide) rfl ?_
  intro p e s m args below meth c s₁ B hml hv
  obtain ⟨rfl, hH, hK⟩ := hv
  subst hH
  have hx := B.exec
  have hb := B.bytes
  have hr := B.returns
  have hts := atoms_spec (ws := wsL_isNailed) B.pre
  have hown : s.vm.findClass RL = some m.cls := findClass_of_methodNamed B.named
  have hlocks := B.notSynchronized
  have hl := lv_entry ([.ref z, .ref (L 0), .ref (L 2), .ref (L 3), .ref (L 4), .int v, .int y9]) (n := 15) (Nat.le_of_ble_eq_true rfl)
  rw [lg_entry_eq]
  generalize (lg_sl ([.ref z, .ref (L 0), .ref (L 2), .ref (L 3), .ref (L 4), .int v, .int y9]) ++ List.replicate (15 - (lg_sl ([.ref z, .ref (L 0), .ref (L 2), .ref (L 3), .ref (L 4), .int v, .int y9])).length) Slot.unset).toArray = ls at hl ⊢
  have hl : lv_has ls 15 [(0, .ref z), (1, .ref (L 0)), (2, .ref (L 2)), (3, .ref (L 3)), (4, .ref (L 4)), (5, .int v), (6, .int y9)] := hl
  obtain ⟨bP, bQ, bR, bO, bW, bL, bF⟩ := id hW
  have hPs := hP.sub (ws' := [oSy z q h x r y] ++ wDo cy q M) [0, 1, 2, 3, 4, 5, 6, 7, 8, 9] rfl
  have hs1 : 1 ≤ stt ∧ stt ≤ 80 := by omega
  have hw16 : w < 16 := by rw [← hw9]; refine Nat.lt_of_lt_of_le (Nat.mod_lt _ (by split <;> decide)) (by split <;> decide)
  have hlk16 : lk < 16 := by rw [← hlk]; refine Nat.lt_of_lt_of_le (Nat.mod_lt _ (by split <;> decide)) (by split <;> decide)
  have hm8 := m8_le en
  have hm0 : sn = true → 0 < m8 en := fun z => by have := hsn z; unfold m8; split <;> omega
  refine lv_iload hx hb dL_isNailed_0 (lv_at hl 5 rfl) ?_
  refine lv_aload_n hx hb dL_isNailed_2 rfl (lv_at hl 1 rfl) ?_
  refine lv_iconst (v := nI 0) hx hb dL_isNailed_3 (by decide +kernel) ?_
  refine o_iald hx hb hK hP 10 0 rfl rfl 0 (by omega) (by decide) dL_isNailed_4 ?_
  rw [show gI M 0 = mP M from rfl]
  refine lv_iload hx hb dL_isNailed_5 (lv_at hl 5 rfl) ?_
  refine lv_iconst (v := nI 5) hx hb dL_isNailed_7 (by decide +kernel) ?_
  refine lv_ishr hx hb dL_isNailed_8 ?_
  rw [show v >>> (nI 5 &&& 31) = v >>> (nI 5 &&& 31) from rfl]
  refine lv_bipush (v := nI 20) hx hb dL_isNailed_9 (by decide +kernel) ?_
  refine o_SI (As := [.int (v >>> (nI 5 &&& 31)), .int (nI 20)]) (rest := [.int (nI (mP M)), .int v]) ⟨hx, hb, hml, hown, hts⟩ (kL_low l G cy (v >>> (nI 5 &&& 31)) 20 (by decide) (by omega)) (va_cwS 2 hts gL_isNailed_L_low rfl rfl rfl (by decide +kernel) ⟨Nat.le_of_ble_eq_true rfl, Nat.le_of_ble_eq_true rfl⟩) hK rfl hl.1 rfl (Nat.le_of_ble_eq_true rfl) dL_isNailed_11 ⟨Nat.le_of_ble_eq_true rfl, Nat.le_of_ble_eq_true rfl⟩ ?_
  refine o_cut 22 [.int (nI (if lwN (v >>> (nI 5 &&& 31)) % 20 = 0 then 1 else 0)), .int (nI (mP M)), .int v] (fun K22 => ?_) ?_
  · refine o_if_ne (tgt := 21) hx hb dL_isNailed_14 (by decide) (by omega) (fun c14 => ?_) (fun c14 => ?_)
    · refine lv_iconst (v := nI 0) hx hb dL_isNailed_21 (by decide +kernel) ?_
      have K9 := K22
      rw [show nI (if lwN (v >>> (nI 5 &&& 31)) % 20 = 0 then 1 else 0) = nI 0 from congrArg nI (if_neg (by omega))] at K9
      exact K9
    · refine lv_iconst (v := nI 1) hx hb dL_isNailed_17 (by decide +kernel) ?_
      refine lv_goto (tgt := 22) hx hb dL_isNailed_18 (by decide) ?_
      have K9 := K22
      rw [show nI (if lwN (v >>> (nI 5 &&& 31)) % 20 = 0 then 1 else 0) = nI 1 from congrArg nI (if_pos (by omega))] at K9
      exact K9
  refine lv_iadd hx hb dL_isNailed_22 ?_
  rw [nI_add]
  refine o_SI (As := [.int v, .int (nI ((mP M) + (if lwN (v >>> (nI 5 &&& 31)) % 20 = 0 then 1 else 0)))]) (rest := []) ⟨hx, hb, hml, hown, hts⟩ (kL_low l G cy v (mP M + (if lwN (v >>> (nI 5 &&& 31)) % 20 = 0 then 1 else 0)) (by omega) (by split <;> omega)) (va_cwS 2 hts gL_isNailed_L_low rfl rfl rfl (by decide +kernel) ⟨Nat.le_of_ble_eq_true rfl, Nat.le_of_ble_eq_true rfl⟩) hK rfl hl.1 rfl (Nat.le_of_ble_eq_true rfl) dL_isNailed_23 ⟨Nat.le_of_ble_eq_true rfl, Nat.le_of_ble_eq_true rfl⟩ ?_
  rw [hpp]
  refine lv_istore (lv' := [(7, .int (nI pp)), (0, .ref z), (1, .ref (L 0)), (2, .ref (L 2)), (3, .ref (L 3)), (4, .ref (L 4)), (5, .int v), (6, .int y9)]) hx hb dL_isNailed_26 hl (by decide) rfl (fun ls hl => ?_)
  refine lv_iload hx hb dL_isNailed_28 (lv_at hl 6 rfl) ?_
  refine lv_iconst (v := nI 3) hx hb dL_isNailed_30 (by decide +kernel) ?_
  refine lv_ishr hx hb dL_isNailed_31 ?_
  rw [show v >>> (nI 3 &&& 31) = v >>> (nI 3 &&& 31) from rfl]
  refine lv_iload hx hb dL_isNailed_32 (lv_at hl 6 rfl) ?_
  refine lv_bipush (v := nI 20) hx hb dL_isNailed_34 (by decide +kernel) ?_
  refine lv_ishr hx hb dL_isNailed_36 ?_
  rw [show v >>> (nI 20 &&& 31) = v >>> (nI 20 &&& 31) from rfl]
  refine lv_iconst (v := nI 2) hx hb dL_isNailed_37 (by decide +kernel) ?_
  refine o_SI (As := [.int (v >>> (nI 20 &&& 31)), .int (nI 2)]) (rest := [.int (v >>> (nI 3 &&& 31))]) ⟨hx, hb, hml, hown, hts⟩ (kL_low l G cy (v >>> (nI 20 &&& 31)) 2 (by decide) (by omega)) (va_cwS 2 hts gL_isNailed_L_low rfl rfl rfl (by decide +kernel) ⟨Nat.le_of_ble_eq_true rfl, Nat.le_of_ble_eq_true rfl⟩) hK rfl hl.1 rfl (Nat.le_of_ble_eq_true rfl) dL_isNailed_38 ⟨Nat.le_of_ble_eq_true rfl, Nat.le_of_ble_eq_true rfl⟩ ?_
  refine o_cut 50 [.int (nI (if lwN (v >>> (nI 20 &&& 31)) % 2 = 0 then 3 else 16)), .int (v >>> (nI 3 &&& 31))] (fun K50 => ?_) ?_
  · refine o_if_ne (tgt := 48) hx hb dL_isNailed_41 (by decide) (by omega) (fun c41 => ?_) (fun c41 => ?_)
    · refine lv_bipush (v := nI 16) hx hb dL_isNailed_48 (by decide +kernel) ?_
      have K9 := K50
      rw [show nI (if lwN (v >>> (nI 20 &&& 31)) % 2 = 0 then 3 else 16) = nI 16 from congrArg nI (if_neg (by omega))] at K9
      exact K9
    · refine lv_iconst (v := nI 3) hx hb dL_isNailed_44 (by decide +kernel) ?_
      refine lv_goto (tgt := 50) hx hb dL_isNailed_45 (by decide) ?_
      have K9 := K50
      rw [show nI (if lwN (v >>> (nI 20 &&& 31)) % 2 = 0 then 3 else 16) = nI 3 from congrArg nI (if_pos (by omega))] at K9
      exact K9
  refine o_SI (As := [.int (v >>> (nI 3 &&& 31)), .int (nI (if lwN (v >>> (nI 20 &&& 31)) % 2 = 0 then 3 else 16))]) (rest := []) ⟨hx, hb, hml, hown, hts⟩ (kL_low l G cy (v >>> (nI 3 &&& 31)) (if lwN (v >>> (nI 20 &&& 31)) % 2 = 0 then 3 else 16) (by split <;> decide) (by split <;> decide)) (va_cwS 2 hts gL_isNailed_L_low rfl rfl rfl (by decide +kernel) ⟨Nat.le_of_ble_eq_true rfl, Nat.le_of_ble_eq_true rfl⟩) hK rfl hl.1 rfl (Nat.le_of_ble_eq_true rfl) dL_isNailed_50 ⟨Nat.le_of_ble_eq_true rfl, Nat.le_of_ble_eq_true rfl⟩ ?_
  rw [hw9]
  refine lv_istore (lv' := [(8, .int (nI w)), (7, .int (nI pp)), (0, .ref z), (1, .ref (L 0)), (2, .ref (L 2)), (3, .ref (L 3)), (4, .ref (L 4)), (5, .int v), (6, .int y9)]) hx hb dL_isNailed_53 hl (by decide) rfl (fun ls hl => ?_)
  refine lv_iload hx hb dL_isNailed_55 (lv_at hl 7 rfl) ?_
  refine lv_bipush (v := nI 7) hx hb dL_isNailed_57 (by decide +kernel) ?_
  refine lv_ishr hx hb dL_isNailed_59 ?_
  rw [show v >>> (nI 7 &&& 31) = v >>> (nI 7 &&& 31) from rfl]
  refine lv_iload hx hb dL_isNailed_60 (lv_at hl 7 rfl) ?_
  refine lv_bipush (v := nI 20) hx hb dL_isNailed_62 (by decide +kernel) ?_
  refine lv_ishr hx hb dL_isNailed_64 ?_
  rw [show v >>> (nI 20 &&& 31) = v >>> (nI 20 &&& 31) from rfl]
  refine lv_iconst (v := nI 2) hx hb dL_isNailed_65 (by decide +kernel) ?_
  refine o_SI (As := [.int (v >>> (nI 20 &&& 31)), .int (nI 2)]) (rest := [.int (v >>> (nI 7 &&& 31))]) ⟨hx, hb, hml, hown, hts⟩ (kL_low l G cy (v >>> (nI 20 &&& 31)) 2 (by decide) (by omega)) (va_cwS 2 hts gL_isNailed_L_low rfl rfl rfl (by decide +kernel) ⟨Nat.le_of_ble_eq_true rfl, Nat.le_of_ble_eq_true rfl⟩) hK rfl hl.1 rfl (Nat.le_of_ble_eq_true rfl) dL_isNailed_66 ⟨Nat.le_of_ble_eq_true rfl, Nat.le_of_ble_eq_true rfl⟩ ?_
  refine o_cut 78 [.int (nI (if lwN (v >>> (nI 20 &&& 31)) % 2 = 0 then 3 else 16)), .int (v >>> (nI 7 &&& 31))] (fun K78 => ?_) ?_
  · refine o_if_ne (tgt := 76) hx hb dL_isNailed_69 (by decide) (by omega) (fun c69 => ?_) (fun c69 => ?_)
    · refine lv_bipush (v := nI 16) hx hb dL_isNailed_76 (by decide +kernel) ?_
      have K9 := K78
      rw [show nI (if lwN (v >>> (nI 20 &&& 31)) % 2 = 0 then 3 else 16) = nI 16 from congrArg nI (if_neg (by omega))] at K9
      exact K9
    · refine lv_iconst (v := nI 3) hx hb dL_isNailed_72 (by decide +kernel) ?_
      refine lv_goto (tgt := 78) hx hb dL_isNailed_73 (by decide) ?_
      have K9 := K78
      rw [show nI (if lwN (v >>> (nI 20 &&& 31)) % 2 = 0 then 3 else 16) = nI 3 from congrArg nI (if_pos (by omega))] at K9
      exact K9
  refine o_SI (As := [.int (v >>> (nI 7 &&& 31)), .int (nI (if lwN (v >>> (nI 20 &&& 31)) % 2 = 0 then 3 else 16))]) (rest := []) ⟨hx, hb, hml, hown, hts⟩ (kL_low l G cy (v >>> (nI 7 &&& 31)) (if lwN (v >>> (nI 20 &&& 31)) % 2 = 0 then 3 else 16) (by split <;> decide) (by split <;> decide)) (va_cwS 2 hts gL_isNailed_L_low rfl rfl rfl (by decide +kernel) ⟨Nat.le_of_ble_eq_true rfl, Nat.le_of_ble_eq_true rfl⟩) hK rfl hl.1 rfl (Nat.le_of_ble_eq_true rfl) dL_isNailed_78 ⟨Nat.le_of_ble_eq_true rfl, Nat.le_of_ble_eq_true rfl⟩ ?_
  rw [hlk]
  refine lv_istore (lv' := [(9, .int (nI lk)), (8, .int (nI w)), (7, .int (nI pp)), (0, .ref z), (1, .ref (L 0)), (2, .ref (L 2)), (3, .ref (L 3)), (4, .ref (L 4)), (5, .int v), (6, .int y9)]) hx hb dL_isNailed_81 hl (by decide) rfl (fun ls hl => ?_)
  refine lv_iload hx hb dL_isNailed_83 (lv_at hl 8 rfl) ?_
  refine lv_bipush (v := nI 12) hx hb dL_isNailed_85 (by decide +kernel) ?_
  refine lv_ishr hx hb dL_isNailed_87 ?_
  rw [show v >>> (nI 12 &&& 31) = v >>> (nI 12 &&& 31) from rfl]
  refine lv_iconst (v := nI 5) hx hb dL_isNailed_88 (by decide +kernel) ?_
  refine o_SI (As := [.int (v >>> (nI 12 &&& 31)), .int (nI 5)]) (rest := []) ⟨hx, hb, hml, hown, hts⟩ (kL_low l G cy (v >>> (nI 12 &&& 31)) 5 (by decide) (by omega)) (va_cwS 2 hts gL_isNailed_L_low rfl rfl rfl (by decide +kernel) ⟨Nat.le_of_ble_eq_true rfl, Nat.le_of_ble_eq_true rfl⟩) hK rfl hl.1 rfl (Nat.le_of_ble_eq_true rfl) dL_isNailed_89 ⟨Nat.le_of_ble_eq_true rfl, Nat.le_of_ble_eq_true rfl⟩ ?_
  refine lv_iconst (v := nI 1) hx hb dL_isNailed_92 (by decide +kernel) ?_
  refine o_cut 101 [.int (bI (1 < lwN (v >>> (nI 12 &&& 31)) % 5))] (fun K101 => ?_) ?_
  · refine o_icmp_le (tgt := 100) hx hb dL_isNailed_93 (by decide) (by omega) (by omega) (fun c93 => ?_) (fun c93 => ?_)
    · refine lv_iconst (v := nI 0) hx hb dL_isNailed_100 (by decide +kernel) ?_
      have K9 := K101
      rw [show bI (1 < lwN (v >>> (nI 12 &&& 31)) % 5) = nI 0 from bI_f (by omega)] at K9
      exact K9
    · refine lv_iconst (v := nI 1) hx hb dL_isNailed_96 (by decide +kernel) ?_
      refine lv_goto (tgt := 101) hx hb dL_isNailed_97 (by decide) ?_
      have K9 := K101
      rw [show bI (1 < lwN (v >>> (nI 12 &&& 31)) % 5) = nI 1 from bI_t (by omega)] at K9
      exact K9
  refine lv_istore (lv' := [(10, .int (bI (1 < lwN (v >>> (nI 12 &&& 31)) % 5))), (9, .int (nI lk)), (8, .int (nI w)), (7, .int (nI pp)), (0, .ref z), (1, .ref (L 0)), (2, .ref (L 2)), (3, .ref (L 3)), (4, .ref (L 4)), (5, .int v), (6, .int y9)]) hx hb dL_isNailed_101 hl (by decide) rfl (fun ls hl => ?_)
  refine lv_iload hx hb dL_isNailed_103 (lv_at hl 10 rfl) ?_
  refine lv_iload hx hb dL_isNailed_105 (lv_at hl 10 rfl) ?_
  refine lv_bipush (v := nI 8) hx hb dL_isNailed_107 (by decide +kernel) ?_
  refine lv_ishr hx hb dL_isNailed_109 ?_
  rw [show y9 >>> (nI 8 &&& 31) = y9 >>> (nI 8 &&& 31) from rfl]
  refine lv_iconst (v := nI 3) hx hb dL_isNailed_110 (by decide +kernel) ?_
  refine o_SI (As := [.int (y9 >>> (nI 8 &&& 31)), .int (nI 3)]) (rest := [.int y9]) ⟨hx, hb, hml, hown, hts⟩ (kL_low l G cy (y9 >>> (nI 8 &&& 31)) 3 (by decide) (by omega)) (va_cwS 2 hts gL_isNailed_L_low rfl rfl rfl (by decide +kernel) ⟨Nat.le_of_ble_eq_true rfl, Nat.le_of_ble_eq_true rfl⟩) hK rfl hl.1 rfl (Nat.le_of_ble_eq_true rfl) dL_isNailed_111 ⟨Nat.le_of_ble_eq_true rfl, Nat.le_of_ble_eq_true rfl⟩ ?_
  refine o_cut 125 [.int (nI (if lwN (y9 >>> (nI 8 &&& 31)) % 3 = 0 then 16001 else 33)), .int y9] (fun K125 => ?_) ?_
  · refine o_if_ne (tgt := 123) hx hb dL_isNailed_114 (by decide) (by omega) (fun c114 => ?_) (fun c114 => ?_)
    · refine lv_bipush (v := nI 33) hx hb dL_isNailed_123 (by decide +kernel) ?_
      have K9 := K125
      rw [show nI (if lwN (y9 >>> (nI 8 &&& 31)) % 3 = 0 then 16001 else 33) = nI 33 from congrArg nI (if_neg (by omega))] at K9
      exact K9
    · refine lv_sipush (v := nI 16001) hx hb dL_isNailed_117 (by decide +kernel) ?_
      refine lv_goto (tgt := 125) hx hb dL_isNailed_120 (by decide) ?_
      have K9 := K125
      rw [show nI (if lwN (y9 >>> (nI 8 &&& 31)) % 3 = 0 then 16001 else 33) = nI 16001 from congrArg nI (if_pos (by omega))] at K9
      exact K9
  refine o_SI (As := [.int y9, .int (nI (if lwN (y9 >>> (nI 8 &&& 31)) % 3 = 0 then 16001 else 33))]) (rest := []) ⟨hx, hb, hml, hown, hts⟩ (kL_low l G cy y9 (if lwN (y9 >>> (nI 8 &&& 31)) % 3 = 0 then 16001 else 33) (by split <;> decide) (by split <;> decide)) (va_cwS 2 hts gL_isNailed_L_low rfl rfl rfl (by decide +kernel) ⟨Nat.le_of_ble_eq_true rfl, Nat.le_of_ble_eq_true rfl⟩) hK rfl hl.1 rfl (Nat.le_of_ble_eq_true rfl) dL_isNailed_125 ⟨Nat.le_of_ble_eq_true rfl, Nat.le_of_ble_eq_true rfl⟩ ?_
  refine lv_iload hx hb dL_isNailed_128 (lv_at hl 10 rfl) ?_
  refine lv_bipush (v := nI 8) hx hb dL_isNailed_130 (by decide +kernel) ?_
  refine lv_ishr hx hb dL_isNailed_132 ?_
  rw [show y9 >>> (nI 8 &&& 31) = y9 >>> (nI 8 &&& 31) from rfl]
  refine lv_iconst (v := nI 3) hx hb dL_isNailed_133 (by decide +kernel) ?_
  refine o_SI (As := [.int (y9 >>> (nI 8 &&& 31)), .int (nI 3)]) (rest := [.int (nI (lwN y9 % (if lwN (y9 >>> (nI 8 &&& 31)) % 3 = 0 then 16001 else 33)))]) ⟨hx, hb, hml, hown, hts⟩ (kL_low l G cy (y9 >>> (nI 8 &&& 31)) 3 (by decide) (by omega)) (va_cwS 2 hts gL_isNailed_L_low rfl rfl rfl (by decide +kernel) ⟨Nat.le_of_ble_eq_true rfl, Nat.le_of_ble_eq_true rfl⟩) hK rfl hl.1 rfl (Nat.le_of_ble_eq_true rfl) dL_isNailed_134 ⟨Nat.le_of_ble_eq_true rfl, Nat.le_of_ble_eq_true rfl⟩ ?_
  refine o_cut 148 [.int (nI (if lwN (y9 >>> (nI 8 &&& 31)) % 3 = 0 then 8000 else 16)), .int (nI (lwN y9 % (if lwN (y9 >>> (nI 8 &&& 31)) % 3 = 0 then 16001 else 33)))] (fun K148 => ?_) ?_
  · refine o_if_ne (tgt := 146) hx hb dL_isNailed_137 (by decide) (by omega) (fun c137 => ?_) (fun c137 => ?_)
    · refine lv_bipush (v := nI 16) hx hb dL_isNailed_146 (by decide +kernel) ?_
      have K9 := K148
      rw [show nI (if lwN (y9 >>> (nI 8 &&& 31)) % 3 = 0 then 8000 else 16) = nI 16 from congrArg nI (if_neg (by omega))] at K9
      exact K9
    · refine lv_sipush (v := nI 8000) hx hb dL_isNailed_140 (by decide +kernel) ?_
      refine lv_goto (tgt := 148) hx hb dL_isNailed_143 (by decide) ?_
      have K9 := K148
      rw [show nI (if lwN (y9 >>> (nI 8 &&& 31)) % 3 = 0 then 8000 else 16) = nI 8000 from congrArg nI (if_pos (by omega))] at K9
      exact K9
  refine lv_isub hx hb dL_isNailed_148 ?_
  rw [hfz]
  refine lv_istore (lv' := [(11, .int (zI sf ef)), (10, .int (bI (1 < lwN (v >>> (nI 12 &&& 31)) % 5))), (9, .int (nI lk)), (8, .int (nI w)), (7, .int (nI pp)), (0, .ref z), (1, .ref (L 0)), (2, .ref (L 2)), (3, .ref (L 3)), (4, .ref (L 4)), (5, .int v), (6, .int y9)]) hx hb dL_isNailed_149 hl (by decide) rfl (fun ls hl => ?_)
  refine lv_iload hx hb dL_isNailed_151 (lv_at hl 11 rfl) ?_
  refine lv_bipush (v := nI 10) hx hb dL_isNailed_153 (by decide +kernel) ?_
  refine lv_ishr hx hb dL_isNailed_155 ?_
  rw [show y9 >>> (nI 10 &&& 31) = y9 >>> (nI 10 &&& 31) from rfl]
  refine lv_iload hx hb dL_isNailed_156 (lv_at hl 11 rfl) ?_
  refine lv_bipush (v := nI 24) hx hb dL_isNailed_158 (by decide +kernel) ?_
  refine lv_ishr hx hb dL_isNailed_160 ?_
  rw [show y9 >>> (nI 24 &&& 31) = y9 >>> (nI 24 &&& 31) from rfl]
  refine lv_iconst (v := nI 2) hx hb dL_isNailed_161 (by decide +kernel) ?_
  refine o_SI (As := [.int (y9 >>> (nI 24 &&& 31)), .int (nI 2)]) (rest := [.int (y9 >>> (nI 10 &&& 31))]) ⟨hx, hb, hml, hown, hts⟩ (kL_low l G cy (y9 >>> (nI 24 &&& 31)) 2 (by decide) (by omega)) (va_cwS 2 hts gL_isNailed_L_low rfl rfl rfl (by decide +kernel) ⟨Nat.le_of_ble_eq_true rfl, Nat.le_of_ble_eq_true rfl⟩) hK rfl hl.1 rfl (Nat.le_of_ble_eq_true rfl) dL_isNailed_162 ⟨Nat.le_of_ble_eq_true rfl, Nat.le_of_ble_eq_true rfl⟩ ?_
  refine o_cut 176 [.int (nI (if lwN (y9 >>> (nI 24 &&& 31)) % 2 = 0 then 8001 else 41)), .int (y9 >>> (nI 10 &&& 31))] (fun K176 => ?_) ?_
  · refine o_if_ne (tgt := 174) hx hb dL_isNailed_165 (by decide) (by omega) (fun c165 => ?_) (fun c165 => ?_)
    · refine lv_bipush (v := nI 41) hx hb dL_isNailed_174 (by decide +kernel) ?_
      have K9 := K176
      rw [show nI (if lwN (y9 >>> (nI 24 &&& 31)) % 2 = 0 then 8001 else 41) = nI 41 from congrArg nI (if_neg (by omega))] at K9
      exact K9
    · refine lv_sipush (v := nI 8001) hx hb dL_isNailed_168 (by decide +kernel) ?_
      refine lv_goto (tgt := 176) hx hb dL_isNailed_171 (by decide) ?_
      have K9 := K176
      rw [show nI (if lwN (y9 >>> (nI 24 &&& 31)) % 2 = 0 then 8001 else 41) = nI 8001 from congrArg nI (if_pos (by omega))] at K9
      exact K9
  refine o_SI (As := [.int (y9 >>> (nI 10 &&& 31)), .int (nI (if lwN (y9 >>> (nI 24 &&& 31)) % 2 = 0 then 8001 else 41))]) (rest := []) ⟨hx, hb, hml, hown, hts⟩ (kL_low l G cy (y9 >>> (nI 10 &&& 31)) (if lwN (y9 >>> (nI 24 &&& 31)) % 2 = 0 then 8001 else 41) (by split <;> decide) (by split <;> decide)) (va_cwS 2 hts gL_isNailed_L_low rfl rfl rfl (by decide +kernel) ⟨Nat.le_of_ble_eq_true rfl, Nat.le_of_ble_eq_true rfl⟩) hK rfl hl.1 rfl (Nat.le_of_ble_eq_true rfl) dL_isNailed_176 ⟨Nat.le_of_ble_eq_true rfl, Nat.le_of_ble_eq_true rfl⟩ ?_
  refine lv_bipush (v := nI 20) hx hb dL_isNailed_179 (by decide +kernel) ?_
  refine lv_isub hx hb dL_isNailed_181 ?_
  rw [hnz]
  refine lv_istore (lv' := [(12, .int (zI sn en)), (11, .int (zI sf ef)), (10, .int (bI (1 < lwN (v >>> (nI 12 &&& 31)) % 5))), (9, .int (nI lk)), (8, .int (nI w)), (7, .int (nI pp)), (0, .ref z), (1, .ref (L 0)), (2, .ref (L 2)), (3, .ref (L 3)), (4, .ref (L 4)), (5, .int v), (6, .int y9)]) hx hb dL_isNailed_182 hl (by decide) rfl (fun ls hl => ?_)
  refine lv_iconst (v := nI 1) hx hb dL_isNailed_184 (by decide +kernel) ?_
  refine lv_iload hx hb dL_isNailed_185 (lv_at hl 11 rfl) ?_
  refine lv_bipush (v := nI 15) hx hb dL_isNailed_187 (by decide +kernel) ?_
  refine lv_ishr hx hb dL_isNailed_189 ?_
  rw [show v >>> (nI 15 &&& 31) = v >>> (nI 15 &&& 31) from rfl]
  refine lv_bipush (v := nI 80) hx hb dL_isNailed_190 (by decide +kernel) ?_
  refine o_SI (As := [.int (v >>> (nI 15 &&& 31)), .int (nI 80)]) (rest := [.int (nI 1)]) ⟨hx, hb, hml, hown, hts⟩ (kL_low l G cy (v >>> (nI 15 &&& 31)) 80 (by decide) (by omega)) (va_cwS 2 hts gL_isNailed_L_low rfl rfl rfl (by decide +kernel) ⟨Nat.le_of_ble_eq_true rfl, Nat.le_of_ble_eq_true rfl⟩) hK rfl hl.1 rfl (Nat.le_of_ble_eq_true rfl) dL_isNailed_192 ⟨Nat.le_of_ble_eq_true rfl, Nat.le_of_ble_eq_true rfl⟩ ?_
  refine lv_iadd hx hb dL_isNailed_195 ?_
  rw [nI_add, hst]
  refine lv_istore (lv' := [(13, .int (nI stt)), (12, .int (zI sn en)), (11, .int (zI sf ef)), (10, .int (bI (1 < lwN (v >>> (nI 12 &&& 31)) % 5))), (9, .int (nI lk)), (8, .int (nI w)), (7, .int (nI pp)), (0, .ref z), (1, .ref (L 0)), (2, .ref (L 2)), (3, .ref (L 3)), (4, .ref (L 4)), (5, .int v), (6, .int y9)]) hx hb dL_isNailed_196 hl (by decide) rfl (fun ls hl => ?_)
  refine lv_iload hx hb dL_isNailed_198 (lv_at hl 6 rfl) ?_
  refine lv_aload_n hx hb dL_isNailed_200 rfl (lv_at hl 8 rfl) ?_
  refine lv_iconst (v := nI 0) hx hb dL_isNailed_201 (by decide +kernel) ?_
  refine o_iald hx hb hK hP 10 0 rfl rfl 0 (by omega) (by decide) dL_isNailed_202 ?_
  rw [show gI M 0 = mP M from rfl]
  refine o_icmp_ne (tgt := 268) hx hb dL_isNailed_203 (by decide) (by omega) (by omega) (fun c203 => ?_) (fun c203 => ?_)
  · refine lv_iload hx hb dL_isNailed_268 (lv_at hl 1 rfl) ?_
    refine lv_sipush (v := nI 8000) hx hb dL_isNailed_270 (by decide +kernel) ?_
    refine o_cut 284 [.int (zI sn (m8 en))] (fun K284 => ?_) ?_
    · refine lv_icmp_le (tgt := 282) hx hb dL_isNailed_273 (by decide) (fun c273 => ?_) (fun c273 => ?_)
      · refine lv_iload hx hb dL_isNailed_282 (lv_at hl 1 rfl) ?_
        have K9 := K284
        rw [show zI sn (m8 en) = zI sn en from m8_t (by omega) hsn8 c273] at K9
        exact K9
      · refine lv_sipush (v := nI 8000) hx hb dL_isNailed_276 (by decide +kernel) ?_
        refine lv_goto (tgt := 284) hx hb dL_isNailed_279 (by decide) ?_
        have K9 := K284
        rw [show zI sn (m8 en) = nI 8000 from m8_f (by omega) hsn8 c273] at K9
        exact K9
    refine lv_istore (lv' := [(12, .int (zI sn (m8 en))), (13, .int (nI stt)), (11, .int (zI sf ef)), (10, .int (bI (1 < lwN (v >>> (nI 12 &&& 31)) % 5))), (9, .int (nI lk)), (8, .int (nI w)), (7, .int (nI pp)), (0, .ref z), (1, .ref (L 0)), (2, .ref (L 2)), (3, .ref (L 3)), (4, .ref (L 4)), (5, .int v), (6, .int y9)]) hx hb dL_isNailed_284 hl (by decide) rfl (fun ls hl => ?_)
    refine lv_iload hx hb dL_isNailed_286 (lv_at hl 3 rfl) ?_
    refine o_ifb_eq (tgt := 363) hx hb dL_isNailed_288 (by decide) (fun c288 => ?_) (fun c288 => ?_)
    · refine lv_aload_n hx hb dL_isNailed_363 rfl (lv_at hl 8 rfl) ?_
      refine lv_iconst (v := nI 1) hx hb dL_isNailed_364 (by decide +kernel) ?_
      refine o_iald hx hb hK hP 10 0 rfl rfl 1 (by omega) (by decide) dL_isNailed_365 ?_
      rw [show gI M 1 = mN M from rfl]
      refine lv_bipush (v := nI 15) hx hb dL_isNailed_366 (by decide +kernel) ?_
      refine o_icmp_ne (tgt := 463) hx hb dL_isNailed_368 (by decide) (by omega) (by omega) (fun c368 => ?_) (fun c368 => ?_)
      · exact absurd hfull c368
      · refine lv_aload_n hx hb dL_isNailed_371 rfl (lv_at hl 7 rfl) ?_
        refine lv_iload hx hb dL_isNailed_372 (lv_at hl 6 rfl) ?_
        refine lv_iload hx hb dL_isNailed_374 (lv_at hl 5 rfl) ?_
        refine lv_sipush (v := nI 8001) hx hb dL_isNailed_376 (by decide +kernel) ?_
        refine o_SI (As := [.int (nI 8001)]) (rest := [.int (nI w), .int (nI pp), .ref z]) ⟨hx, hb, hml, hown, hts⟩ (kL_bits_p l G cy 8001 (by decide)) (va_cwS 1 hts gL_isNailed_L_bits rfl rfl rfl (by decide +kernel) ⟨Nat.le_of_ble_eq_true rfl, Nat.le_of_ble_eq_true rfl⟩) hK rfl hl.1 rfl (Nat.le_of_ble_eq_true rfl) dL_isNailed_379 ⟨Nat.le_of_ble_eq_true rfl, Nat.le_of_ble_eq_true rfl⟩ ?_
        refine lv_iload hx hb dL_isNailed_382 (lv_at hl 1 rfl) ?_
        refine o_SI (As := [.int (nI stt)]) (rest := [.int (nI (bN 8001)), .int (nI w), .int (nI pp), .ref z]) ⟨hx, hb, hml, hown, hts⟩ (kL_bits_p l G cy stt (by omega)) (va_cwS 1 hts gL_isNailed_L_bits rfl rfl rfl (by decide +kernel) ⟨Nat.le_of_ble_eq_true rfl, Nat.le_of_ble_eq_true rfl⟩) hK rfl hl.1 rfl (Nat.le_of_ble_eq_true rfl) dL_isNailed_384 ⟨Nat.le_of_ble_eq_true rfl, Nat.le_of_ble_eq_true rfl⟩ ?_
        refine o_VI (As := [.int (nI pp), .int (nI w), .int (nI (bN 8001)), .int (nI (bN stt))]) (rest := []) ⟨hx, hb, hml, hown, hts⟩ (kX7_nail_b l G cy hW hPs pp w _ _ hpl hw16 (fun z => absurd z.1 (by rw [fr_8001]; decide))) (cwV 4 hts gL_isNailed_X7_nail rfl rfl rfl (by decide +kernel) ⟨Nat.le_of_ble_eq_true rfl, Nat.le_of_ble_eq_true rfl⟩) hK (va_recv hK hP (ci := 6) (q0 := 0) rfl rfl) rfl hl.1 rfl (Nat.le_of_ble_eq_true rfl) dL_isNailed_387 ⟨Nat.le_of_ble_eq_true rfl, Nat.le_of_ble_eq_true rfl⟩ ?_
        refine lv_bipush (v := (-2)) hx hb dL_isNailed_390 (by decide +kernel) ?_
        refine lv_icmp_ne (tgt := 461) hx hb dL_isNailed_392 (by decide) (fun c392 => ?_) (fun c392 => ?_)
        · exact absurd rfl c392
        · refine lv_aload_n hx hb dL_isNailed_395 rfl (lv_at hl 7 rfl) ?_
          refine lv_iload hx hb dL_isNailed_396 (lv_at hl 6 rfl) ?_
          refine lv_iload hx hb dL_isNailed_398 (lv_at hl 5 rfl) ?_
          refine lv_ldc (v := (2143289344)) hx hb hown (hts (.constant RL 82 (2143289344)) (by decide +kernel)) dL_isNailed_400 ?_
          rw [show ((2143289344) : Int32) = nI 2143289344 by decide +kernel]
          refine lv_iload hx hb dL_isNailed_402 (lv_at hl 1 rfl) ?_
          refine o_SI (As := [.int (nI stt)]) (rest := [.int (nI 2143289344), .int (nI w), .int (nI pp), .ref z]) ⟨hx, hb, hml, hown, hts⟩ (kL_bits_p l G cy stt (by omega)) (va_cwS 1 hts gL_isNailed_L_bits rfl rfl rfl (by decide +kernel) ⟨Nat.le_of_ble_eq_true rfl, Nat.le_of_ble_eq_true rfl⟩) hK rfl hl.1 rfl (Nat.le_of_ble_eq_true rfl) dL_isNailed_404 ⟨Nat.le_of_ble_eq_true rfl, Nat.le_of_ble_eq_true rfl⟩ ?_
          refine o_VI (As := [.int (nI pp), .int (nI w), .int (nI 2143289344), .int (nI (bN stt))]) (rest := []) ⟨hx, hb, hml, hown, hts⟩ (kX7_nail_b l G cy hW hPs pp w _ _ hpl hw16 (fun z => absurd z.1 (by rw [show nI 2143289344 = 2143289344 from rfl, fr_nan]; decide))) (cwV 4 hts gL_isNailed_X7_nail rfl rfl rfl (by decide +kernel) ⟨Nat.le_of_ble_eq_true rfl, Nat.le_of_ble_eq_true rfl⟩) hK (va_recv hK hP (ci := 6) (q0 := 0) rfl rfl) rfl hl.1 rfl (Nat.le_of_ble_eq_true rfl) dL_isNailed_407 ⟨Nat.le_of_ble_eq_true rfl, Nat.le_of_ble_eq_true rfl⟩ ?_
          refine lv_bipush (v := (-2)) hx hb dL_isNailed_410 (by decide +kernel) ?_
          refine lv_icmp_ne (tgt := 461) hx hb dL_isNailed_412 (by decide) (fun c412 => ?_) (fun c412 => ?_)
          · exact absurd rfl c412
          · refine lv_aload_n hx hb dL_isNailed_415 rfl (lv_at hl 7 rfl) ?_
            refine lv_iload hx hb dL_isNailed_416 (lv_at hl 6 rfl) ?_
            refine lv_iload hx hb dL_isNailed_418 (lv_at hl 5 rfl) ?_
            refine lv_iload hx hb dL_isNailed_420 (lv_at hl 0 rfl) ?_
            refine o_SI (As := [.int (zI sn (m8 en))]) (rest := [.int (nI w), .int (nI pp), .ref z]) ⟨hx, hb, hml, hown, hts⟩ (kL_bits_z l G cy sn (m8 en) hm0 (by omega)) (va_cwS 1 hts gL_isNailed_L_bits rfl rfl rfl (by decide +kernel) ⟨Nat.le_of_ble_eq_true rfl, Nat.le_of_ble_eq_true rfl⟩) hK rfl hl.1 rfl (Nat.le_of_ble_eq_true rfl) dL_isNailed_422 ⟨Nat.le_of_ble_eq_true rfl, Nat.le_of_ble_eq_true rfl⟩ ?_
            refine lv_iconst (v := nI 0) hx hb dL_isNailed_425 (by decide +kernel) ?_
            refine o_VI (As := [.int (nI pp), .int (nI w), .int (zB sn (m8 en)), .int (nI 0)]) (rest := []) ⟨hx, hb, hml, hown, hts⟩ (kX7_nail_b l G cy hW hPs pp w _ _ hpl hw16 (fun z => absurd z.2 (by decide +kernel))) (cwV 4 hts gL_isNailed_X7_nail rfl rfl rfl (by decide +kernel) ⟨Nat.le_of_ble_eq_true rfl, Nat.le_of_ble_eq_true rfl⟩) hK (va_recv hK hP (ci := 6) (q0 := 0) rfl rfl) rfl hl.1 rfl (Nat.le_of_ble_eq_true rfl) dL_isNailed_426 ⟨Nat.le_of_ble_eq_true rfl, Nat.le_of_ble_eq_true rfl⟩ ?_
            refine lv_bipush (v := (-2)) hx hb dL_isNailed_429 (by decide +kernel) ?_
            refine lv_icmp_ne (tgt := 461) hx hb dL_isNailed_431 (by decide) (fun c431 => ?_) (fun c431 => ?_)
            · exact absurd rfl c431
            · refine lv_aload_n hx hb dL_isNailed_434 rfl (lv_at hl 7 rfl) ?_
              refine lv_iload hx hb dL_isNailed_435 (lv_at hl 6 rfl) ?_
              refine lv_iload hx hb dL_isNailed_437 (lv_at hl 5 rfl) ?_
              refine lv_iload hx hb dL_isNailed_439 (lv_at hl 0 rfl) ?_
              refine o_SI (As := [.int (zI sn (m8 en))]) (rest := [.int (nI w), .int (nI pp), .ref z]) ⟨hx, hb, hml, hown, hts⟩ (kL_bits_z l G cy sn (m8 en) hm0 (by omega)) (va_cwS 1 hts gL_isNailed_L_bits rfl rfl rfl (by decide +kernel) ⟨Nat.le_of_ble_eq_true rfl, Nat.le_of_ble_eq_true rfl⟩) hK rfl hl.1 rfl (Nat.le_of_ble_eq_true rfl) dL_isNailed_441 ⟨Nat.le_of_ble_eq_true rfl, Nat.le_of_ble_eq_true rfl⟩ ?_
              refine lv_bipush (v := nI 81) hx hb dL_isNailed_444 (by decide +kernel) ?_
              refine o_SI (As := [.int (nI 81)]) (rest := [.int (zB sn (m8 en)), .int (nI w), .int (nI pp), .ref z]) ⟨hx, hb, hml, hown, hts⟩ (kL_bits_p l G cy 81 (by decide)) (va_cwS 1 hts gL_isNailed_L_bits rfl rfl rfl (by decide +kernel) ⟨Nat.le_of_ble_eq_true rfl, Nat.le_of_ble_eq_true rfl⟩) hK rfl hl.1 rfl (Nat.le_of_ble_eq_true rfl) dL_isNailed_446 ⟨Nat.le_of_ble_eq_true rfl, Nat.le_of_ble_eq_true rfl⟩ ?_
              refine o_VI (As := [.int (nI pp), .int (nI w), .int (zB sn (m8 en)), .int (nI (bN 81))]) (rest := []) ⟨hx, hb, hml, hown, hts⟩ (kX7_nail_b l G cy hW hPs pp w _ _ hpl hw16 (fun z => absurd z.2 (by rw [fr_81]; decide))) (cwV 4 hts gL_isNailed_X7_nail rfl rfl rfl (by decide +kernel) ⟨Nat.le_of_ble_eq_true rfl, Nat.le_of_ble_eq_true rfl⟩) hK (va_recv hK hP (ci := 6) (q0 := 0) rfl rfl) rfl hl.1 rfl (Nat.le_of_ble_eq_true rfl) dL_isNailed_449 ⟨Nat.le_of_ble_eq_true rfl, Nat.le_of_ble_eq_true rfl⟩ ?_
              refine lv_bipush (v := (-2)) hx hb dL_isNailed_452 (by decide +kernel) ?_
              refine lv_icmp_ne (tgt := 461) hx hb dL_isNailed_454 (by decide) (fun c454 => ?_) (fun c454 => ?_)
              · exact absurd rfl c454
              · refine lv_iconst (v := nI 1) hx hb dL_isNailed_457 (by decide +kernel) ?_
                refine lv_goto (tgt := 462) hx hb dL_isNailed_458 (by decide) ?_
                exact o_endZ hx hb hr hlocks dL_isNailed_462 (by decide) (by decide)
    · refine lv_iload hx hb dL_isNailed_291 (lv_at hl 4 rfl) ?_
      refine lv_iload hx hb dL_isNailed_293 (lv_at hl 5 rfl) ?_
      refine o_icmp_ne (tgt := 363) hx hb dL_isNailed_295 (by decide) (by omega) (by omega) (fun c295 => ?_) (fun c295 => ?_)
      · refine lv_aload_n hx hb dL_isNailed_363 rfl (lv_at hl 8 rfl) ?_
        refine lv_iconst (v := nI 1) hx hb dL_isNailed_364 (by decide +kernel) ?_
        refine o_iald hx hb hK hP 10 0 rfl rfl 1 (by omega) (by decide) dL_isNailed_365 ?_
        rw [show gI M 1 = mN M from rfl]
        refine lv_bipush (v := nI 15) hx hb dL_isNailed_366 (by decide +kernel) ?_
        refine o_icmp_ne (tgt := 463) hx hb dL_isNailed_368 (by decide) (by omega) (by omega) (fun c368 => ?_) (fun c368 => ?_)
        · exact absurd hfull c368
        · refine lv_aload_n hx hb dL_isNailed_371 rfl (lv_at hl 7 rfl) ?_
          refine lv_iload hx hb dL_isNailed_372 (lv_at hl 6 rfl) ?_
          refine lv_iload hx hb dL_isNailed_374 (lv_at hl 5 rfl) ?_
          refine lv_sipush (v := nI 8001) hx hb dL_isNailed_376 (by decide +kernel) ?_
          refine o_SI (As := [.int (nI 8001)]) (rest := [.int (nI w), .int (nI pp), .ref z]) ⟨hx, hb, hml, hown, hts⟩ (kL_bits_p l G cy 8001 (by decide)) (va_cwS 1 hts gL_isNailed_L_bits rfl rfl rfl (by decide +kernel) ⟨Nat.le_of_ble_eq_true rfl, Nat.le_of_ble_eq_true rfl⟩) hK rfl hl.1 rfl (Nat.le_of_ble_eq_true rfl) dL_isNailed_379 ⟨Nat.le_of_ble_eq_true rfl, Nat.le_of_ble_eq_true rfl⟩ ?_
          refine lv_iload hx hb dL_isNailed_382 (lv_at hl 1 rfl) ?_
          refine o_SI (As := [.int (nI stt)]) (rest := [.int (nI (bN 8001)), .int (nI w), .int (nI pp), .ref z]) ⟨hx, hb, hml, hown, hts⟩ (kL_bits_p l G cy stt (by omega)) (va_cwS 1 hts gL_isNailed_L_bits rfl rfl rfl (by decide +kernel) ⟨Nat.le_of_ble_eq_true rfl, Nat.le_of_ble_eq_true rfl⟩) hK rfl hl.1 rfl (Nat.le_of_ble_eq_true rfl) dL_isNailed_384 ⟨Nat.le_of_ble_eq_true rfl, Nat.le_of_ble_eq_true rfl⟩ ?_
          refine o_VI (As := [.int (nI pp), .int (nI w), .int (nI (bN 8001)), .int (nI (bN stt))]) (rest := []) ⟨hx, hb, hml, hown, hts⟩ (kX7_nail_b l G cy hW hPs pp w _ _ hpl hw16 (fun z => absurd z.1 (by rw [fr_8001]; decide))) (cwV 4 hts gL_isNailed_X7_nail rfl rfl rfl (by decide +kernel) ⟨Nat.le_of_ble_eq_true rfl, Nat.le_of_ble_eq_true rfl⟩) hK (va_recv hK hP (ci := 6) (q0 := 0) rfl rfl) rfl hl.1 rfl (Nat.le_of_ble_eq_true rfl) dL_isNailed_387 ⟨Nat.le_of_ble_eq_true rfl, Nat.le_of_ble_eq_true rfl⟩ ?_
          refine lv_bipush (v := (-2)) hx hb dL_isNailed_390 (by decide +kernel) ?_
          refine lv_icmp_ne (tgt := 461) hx hb dL_isNailed_392 (by decide) (fun c392 => ?_) (fun c392 => ?_)
          · exact absurd rfl c392
          · refine lv_aload_n hx hb dL_isNailed_395 rfl (lv_at hl 7 rfl) ?_
            refine lv_iload hx hb dL_isNailed_396 (lv_at hl 6 rfl) ?_
            refine lv_iload hx hb dL_isNailed_398 (lv_at hl 5 rfl) ?_
            refine lv_ldc (v := (2143289344)) hx hb hown (hts (.constant RL 82 (2143289344)) (by decide +kernel)) dL_isNailed_400 ?_
            rw [show ((2143289344) : Int32) = nI 2143289344 by decide +kernel]
            refine lv_iload hx hb dL_isNailed_402 (lv_at hl 1 rfl) ?_
            refine o_SI (As := [.int (nI stt)]) (rest := [.int (nI 2143289344), .int (nI w), .int (nI pp), .ref z]) ⟨hx, hb, hml, hown, hts⟩ (kL_bits_p l G cy stt (by omega)) (va_cwS 1 hts gL_isNailed_L_bits rfl rfl rfl (by decide +kernel) ⟨Nat.le_of_ble_eq_true rfl, Nat.le_of_ble_eq_true rfl⟩) hK rfl hl.1 rfl (Nat.le_of_ble_eq_true rfl) dL_isNailed_404 ⟨Nat.le_of_ble_eq_true rfl, Nat.le_of_ble_eq_true rfl⟩ ?_
            refine o_VI (As := [.int (nI pp), .int (nI w), .int (nI 2143289344), .int (nI (bN stt))]) (rest := []) ⟨hx, hb, hml, hown, hts⟩ (kX7_nail_b l G cy hW hPs pp w _ _ hpl hw16 (fun z => absurd z.1 (by rw [show nI 2143289344 = 2143289344 from rfl, fr_nan]; decide))) (cwV 4 hts gL_isNailed_X7_nail rfl rfl rfl (by decide +kernel) ⟨Nat.le_of_ble_eq_true rfl, Nat.le_of_ble_eq_true rfl⟩) hK (va_recv hK hP (ci := 6) (q0 := 0) rfl rfl) rfl hl.1 rfl (Nat.le_of_ble_eq_true rfl) dL_isNailed_407 ⟨Nat.le_of_ble_eq_true rfl, Nat.le_of_ble_eq_true rfl⟩ ?_
            refine lv_bipush (v := (-2)) hx hb dL_isNailed_410 (by decide +kernel) ?_
            refine lv_icmp_ne (tgt := 461) hx hb dL_isNailed_412 (by decide) (fun c412 => ?_) (fun c412 => ?_)
            · exact absurd rfl c412
            · refine lv_aload_n hx hb dL_isNailed_415 rfl (lv_at hl 7 rfl) ?_
              refine lv_iload hx hb dL_isNailed_416 (lv_at hl 6 rfl) ?_
              refine lv_iload hx hb dL_isNailed_418 (lv_at hl 5 rfl) ?_
              refine lv_iload hx hb dL_isNailed_420 (lv_at hl 0 rfl) ?_
              refine o_SI (As := [.int (zI sn (m8 en))]) (rest := [.int (nI w), .int (nI pp), .ref z]) ⟨hx, hb, hml, hown, hts⟩ (kL_bits_z l G cy sn (m8 en) hm0 (by omega)) (va_cwS 1 hts gL_isNailed_L_bits rfl rfl rfl (by decide +kernel) ⟨Nat.le_of_ble_eq_true rfl, Nat.le_of_ble_eq_true rfl⟩) hK rfl hl.1 rfl (Nat.le_of_ble_eq_true rfl) dL_isNailed_422 ⟨Nat.le_of_ble_eq_true rfl, Nat.le_of_ble_eq_true rfl⟩ ?_
              refine lv_iconst (v := nI 0) hx hb dL_isNailed_425 (by decide +kernel) ?_
              refine o_VI (As := [.int (nI pp), .int (nI w), .int (zB sn (m8 en)), .int (nI 0)]) (rest := []) ⟨hx, hb, hml, hown, hts⟩ (kX7_nail_b l G cy hW hPs pp w _ _ hpl hw16 (fun z => absurd z.2 (by decide +kernel))) (cwV 4 hts gL_isNailed_X7_nail rfl rfl rfl (by decide +kernel) ⟨Nat.le_of_ble_eq_true rfl, Nat.le_of_ble_eq_true rfl⟩) hK (va_recv hK hP (ci := 6) (q0 := 0) rfl rfl) rfl hl.1 rfl (Nat.le_of_ble_eq_true rfl) dL_isNailed_426 ⟨Nat.le_of_ble_eq_true rfl, Nat.le_of_ble_eq_true rfl⟩ ?_
              refine lv_bipush (v := (-2)) hx hb dL_isNailed_429 (by decide +kernel) ?_
              refine lv_icmp_ne (tgt := 461) hx hb dL_isNailed_431 (by decide) (fun c431 => ?_) (fun c431 => ?_)
              · exact absurd rfl c431
              · refine lv_aload_n hx hb dL_isNailed_434 rfl (lv_at hl 7 rfl) ?_
                refine lv_iload hx hb dL_isNailed_435 (lv_at hl 6 rfl) ?_
                refine lv_iload hx hb dL_isNailed_437 (lv_at hl 5 rfl) ?_
                refine lv_iload hx hb dL_isNailed_439 (lv_at hl 0 rfl) ?_
                refine o_SI (As := [.int (zI sn (m8 en))]) (rest := [.int (nI w), .int (nI pp), .ref z]) ⟨hx, hb, hml, hown, hts⟩ (kL_bits_z l G cy sn (m8 en) hm0 (by omega)) (va_cwS 1 hts gL_isNailed_L_bits rfl rfl rfl (by decide +kernel) ⟨Nat.le_of_ble_eq_true rfl, Nat.le_of_ble_eq_true rfl⟩) hK rfl hl.1 rfl (Nat.le_of_ble_eq_true rfl) dL_isNailed_441 ⟨Nat.le_of_ble_eq_true rfl, Nat.le_of_ble_eq_true rfl⟩ ?_
                refine lv_bipush (v := nI 81) hx hb dL_isNailed_444 (by decide +kernel) ?_
                refine o_SI (As := [.int (nI 81)]) (rest := [.int (zB sn (m8 en)), .int (nI w), .int (nI pp), .ref z]) ⟨hx, hb, hml, hown, hts⟩ (kL_bits_p l G cy 81 (by decide)) (va_cwS 1 hts gL_isNailed_L_bits rfl rfl rfl (by decide +kernel) ⟨Nat.le_of_ble_eq_true rfl, Nat.le_of_ble_eq_true rfl⟩) hK rfl hl.1 rfl (Nat.le_of_ble_eq_true rfl) dL_isNailed_446 ⟨Nat.le_of_ble_eq_true rfl, Nat.le_of_ble_eq_true rfl⟩ ?_
                refine o_VI (As := [.int (nI pp), .int (nI w), .int (zB sn (m8 en)), .int (nI (bN 81))]) (rest := []) ⟨hx, hb, hml, hown, hts⟩ (kX7_nail_b l G cy hW hPs pp w _ _ hpl hw16 (fun z => absurd z.2 (by rw [fr_81]; decide))) (cwV 4 hts gL_isNailed_X7_nail rfl rfl rfl (by decide +kernel) ⟨Nat.le_of_ble_eq_true rfl, Nat.le_of_ble_eq_true rfl⟩) hK (va_recv hK hP (ci := 6) (q0 := 0) rfl rfl) rfl hl.1 rfl (Nat.le_of_ble_eq_true rfl) dL_isNailed_449 ⟨Nat.le_of_ble_eq_true rfl, Nat.le_of_ble_eq_true rfl⟩ ?_
                refine lv_bipush (v := (-2)) hx hb dL_isNailed_452 (by decide +kernel) ?_
                refine lv_icmp_ne (tgt := 461) hx hb dL_isNailed_454 (by decide) (fun c454 => ?_) (fun c454 => ?_)
                · exact absurd rfl c454
                · refine lv_iconst (v := nI 1) hx hb dL_isNailed_457 (by decide +kernel) ?_
                  refine lv_goto (tgt := 462) hx hb dL_isNailed_458 (by decide) ?_
                  exact o_endZ hx hb hr hlocks dL_isNailed_462 (by decide) (by decide)
      · exact absurd ⟨c288, c295⟩ hns
  · exact absurd c203 (by omega)
