set_option maxRecDepth 100000 in
theorem iX4_orderValue_X4 : ∀ w ∈ u_ws RX4 TX4 4, w ∈ wsX4_orderValue := by decide +kernel
set_option maxRecDepth 100000 in
theorem iX4_orderValue_X1 : ∀ w ∈ u_ws RX1 TX1 13, w ∈ wsX4_orderValue := by decide +kernel
set_option maxHeartbeats 4000000 in
set_option maxRecDepth 100000 in
theorem kX4_orderValue (l : Launch) (G : va_G) (cy : Nat → ClassId) {H0 : Heap} {q r : Nat → Nat} {M : MT} {ru : Nat → Option Nat} {kn : Nat → Bool} {va : Nat → UInt32} (hW : WB M) (hF : WF M) (hV : ∀ w, Fin32 (va w)) (hR : ∀ w o, ru w = some o → o < mN M) (hP : va_P G vwCl (wRe cy r (q 0) ru kn va ++ wDo cy q M) H0) (k : Nat) (hk : k < 40) : MetF l yX4_orderValue wsX4_orderValue 0 0 [.ref (r 0), .int (nI k)] H0 G cy (oVal M va k) := by
  refine Met.ofW (cc := cX4_orderValue) (maxL := 3) (ret := (some .float)) (by decide) rfl ?_
  intro p e s m args below meth c s₁ B hml hv
  obtain ⟨rfl, hH, hK⟩ := hv
  subst hH
  have hx := B.exec
  have hb := B.bytes
  have hr := B.returns
  have hts := atoms_spec (ws := wsX4_orderValue) B.pre
  have hown : s.vm.findClass RX4 = some m.cls := findClass_of_methodNamed B.named
  have hlocks := B.notSynchronized
  have hl := lv_entry ([.ref (r 0), .int (nI k)]) (n := 3) (Nat.le_of_ble_eq_true rfl)
  rw [lg_entry_eq]
  generalize (lg_sl ([.ref (r 0), .int (nI k)]) ++ List.replicate (3 - (lg_sl ([.ref (r 0), .int (nI k)])).length) Slot.unset).toArray = ls at hl ⊢
  have hl : lv_has ls 3 [(0, .ref (r 0)), (1, .int (nI k))] := hl
  obtain ⟨bP, bN, bR, bO, bW, bL, bF⟩ := id hW
  have hPd := hP.sub (ws' := wDo cy q M) [4, 5, 6, 7, 8, 9, 10, 11, 12] rfl
  refine lv_aload_n hx hb dX4_orderValue_0 rfl (lv_at hl 0 rfl) ?_
  refine va_get (D := G) (ci := 3) (v := .ref (q 0)) (C := RX4) (T := TX4) (N := 4) hx hb hts iX4_orderValue_X4 hown hK hP 0 rfl rfl 0 (by decide) (hts (.fieldLink RX4 23 "NailedOrders$Reckoning" "door" "LNailedOrders$Door;") (by decide +kernel)) (fun _ h9 => h9) rfl dX4_orderValue_1 ?_
  refine va_get (D := G) (ci := 0) (v := .ref (q 8)) (C := RX1) (T := TX1) (N := 13) hx hb hts iX4_orderValue_X1 hown hK hP 4 rfl rfl 8 (by decide) (hts (.fieldLink RX4 58 "NailedOrders$Door" "links" "[I") (by decide +kernel)) (fun _ h9 => h9) rfl dX4_orderValue_4 ?_
  refine lv_iload_n hx hb dX4_orderValue_7 rfl (lv_at hl 1 rfl) ?_
  refine o_iald hx hb hK hP 8 0 rfl rfl k (by omega) (by decide) dX4_orderValue_8 ?_
  refine lv_istore_n (lv' := [(2, .int (lkI (mL M k))), (0, .ref (r 0)), (1, .int (nI k))]) hx hb dX4_orderValue_9 rfl hl (by decide) rfl (fun ls hl => ?_)
  refine lv_iload_n hx hb dX4_orderValue_10 rfl (lv_at hl 0 rfl) ?_
  refine o_lk_ge (tgt := 24) hx hb dX4_orderValue_11 (by decide) (fun j hj => by have := bL k j hj; omega) (fun c11 => ?_) (fun c11 => ?_)
  · obtain ⟨j, hj⟩ := c11
    rw [hj] at hl
    have hl : lv_has ls 3 [(2, .int (nI j)), (0, .ref (r 0)), (1, .int (nI k))] := hl
    have b1 := bL k j hj
    refine lv_aload_n hx hb dX4_orderValue_24 rfl (lv_at hl 1 rfl) ?_
    refine va_get (D := G) (ci := 3) (v := .ref (r 3)) (C := RX4) (T := TX4) (N := 4) hx hb hts iX4_orderValue_X4 hown hK hP 0 rfl rfl 3 (by decide) (hts (.fieldLink RX4 19 "NailedOrders$Reckoning" "values" "[F") (by decide +kernel)) (fun _ h9 => h9) rfl dX4_orderValue_25 ?_
    refine lv_iload_n hx hb dX4_orderValue_28 rfl (lv_at hl 0 rfl) ?_
    refine o_fald hx hb hK hP 3 1 rfl rfl j (by omega) (by decide) dX4_orderValue_29 ?_
    refine lv_aload_n hx hb dX4_orderValue_30 rfl (lv_at hl 1 rfl) ?_
    refine va_get (D := G) (ci := 3) (v := .ref (q 0)) (C := RX4) (T := TX4) (N := 4) hx hb hts iX4_orderValue_X4 hown hK hP 0 rfl rfl 0 (by decide) (hts (.fieldLink RX4 23 "NailedOrders$Reckoning" "door" "LNailedOrders$Door;") (by decide +kernel)) (fun _ h9 => h9) rfl dX4_orderValue_31 ?_
    refine va_get (D := G) (ci := 0) (v := .ref (q 9)) (C := RX1) (T := TX1) (N := 13) hx hb hts iX4_orderValue_X1 hown hK hP 4 rfl rfl 9 (by decide) (hts (.fieldLink RX4 66 "NailedOrders$Door" "factors" "[F") (by decide +kernel)) (fun _ h9 => h9) rfl dX4_orderValue_34 ?_
    refine lv_iload_n hx hb dX4_orderValue_37 rfl (lv_at hl 2 rfl) ?_
    refine o_fald hx hb hK hP 9 1 rfl rfl k (by omega) (by decide) dX4_orderValue_38 ?_
    refine lv_fmul hx hb dX4_orderValue_39 (n32_of (mul_n (hV j) (hF.1 k))) ?_
    refine lv_aload_n hx hb dX4_orderValue_40 rfl (lv_at hl 1 rfl) ?_
    refine va_get (D := G) (ci := 3) (v := .ref (q 0)) (C := RX4) (T := TX4) (N := 4) hx hb hts iX4_orderValue_X4 hown hK hP 0 rfl rfl 0 (by decide) (hts (.fieldLink RX4 23 "NailedOrders$Reckoning" "door" "LNailedOrders$Door;") (by decide +kernel)) (fun _ h9 => h9) rfl dX4_orderValue_41 ?_
    refine va_get (D := G) (ci := 0) (v := .ref (q 10)) (C := RX1) (T := TX1) (N := 13) hx hb hts iX4_orderValue_X1 hown hK hP 4 rfl rfl 10 (by decide) (hts (.fieldLink RX4 63 "NailedOrders$Door" "numbers" "[F") (by decide +kernel)) (fun _ h9 => h9) rfl dX4_orderValue_44 ?_
    refine lv_iload_n hx hb dX4_orderValue_47 rfl (lv_at hl 2 rfl) ?_
    refine o_fald hx hb hK hP 10 1 rfl rfl k (by omega) (by decide) dX4_orderValue_48 ?_
    refine lv_fadd hx hb dX4_orderValue_49 (n32_of (madd_n (hV j) (hF.1 k) (hF.2 k))) ?_
    exact o_endF hx hb hr hlocks dX4_orderValue_50 ((oVal_s hj).symm)
  · refine lv_aload_n hx hb dX4_orderValue_14 rfl (lv_at hl 1 rfl) ?_
    refine va_get (D := G) (ci := 3) (v := .ref (q 0)) (C := RX4) (T := TX4) (N := 4) hx hb hts iX4_orderValue_X4 hown hK hP 0 rfl rfl 0 (by decide) (hts (.fieldLink RX4 23 "NailedOrders$Reckoning" "door" "LNailedOrders$Door;") (by decide +kernel)) (fun _ h9 => h9) rfl dX4_orderValue_15 ?_
    refine va_get (D := G) (ci := 0) (v := .ref (q 10)) (C := RX1) (T := TX1) (N := 13) hx hb hts iX4_orderValue_X1 hown hK hP 4 rfl rfl 10 (by decide) (hts (.fieldLink RX4 63 "NailedOrders$Door" "numbers" "[F") (by decide +kernel)) (fun _ h9 => h9) rfl dX4_orderValue_18 ?_
    refine lv_iload_n hx hb dX4_orderValue_21 rfl (lv_at hl 2 rfl) ?_
    refine o_fald hx hb hK hP 10 1 rfl rfl k (by omega) (by decide) dX4_orderValue_22 ?_
    exact o_endF hx hb hr hlocks dX4_orderValue_23 ((oVal_n c11).symm)

set_option maxRecDepth 100000 in
theorem iX4_orderHasValue_X4 : ∀ w ∈ u_ws RX4 TX4 4, w ∈ wsX4_orderHasValue := by decide +kernel
set_option maxRecDepth 100000 in
theorem iX4_orderHasValue_X1 : ∀ w ∈ u_ws RX1 TX1 13, w ∈ wsX4_orderHasValue := by decide +kernel
set_option maxHeartbeats 4000000 in
set_option maxRecDepth 100000 in
theorem kX4_orderHasValue (l : Launch) (G : va_G) (cy : Nat → ClassId) {H0 : Heap} {q r : Nat → Nat} {M : MT} {ru : Nat → Option Nat} {kn : Nat → Bool} {va : Nat → UInt32} (hW : WB M) (hF : WF M) (hV : ∀ w, Fin32 (va w)) (hR : ∀ w o, ru w = some o → o < mN M) (hP : va_P G vwCl (wRe cy r (q 0) ru kn va ++ wDo cy q M) H0) (k : Nat) (hk : k < 40) : MetI l yX4_orderHasValue wsX4_orderHasValue 1 22 [.ref (r 0), .int (nI k)] H0 G cy (bI (oHas M kn va k = true)) := by
  refine Met.ofW (cc := cX4_orderHasValue) (maxL := 4) (ret := (some .boolean)) (by decide) rfl ?_
  intro p e s m args below meth c s₁ B hml hv
  obtain ⟨rfl, hH, hK⟩ := hv
  subst hH
  have hx := B.exec
  have hb := B.bytes
  have hr := B.returns
  have hts := atoms_spec (ws := wsX4_orderHasValue) B.pre
  have hown : s.vm.findClass RX4 = some m.cls := findClass_of_methodNamed B.named
  have hlocks := B.notSynchronized
  have hl := lv_entry ([.ref (r 0), .int (nI k)]) (n := 4) (Nat.le_of_ble_eq_true rfl)
  rw [lg_entry_eq]
  generalize (lg_sl ([.ref (r 0), .int (nI k)]) ++ List.replicate (4 - (lg_sl ([.ref (r 0), .int (nI k)])).length) Slot.unset).toArray = ls at hl ⊢
  have hl : lv_has ls 4 [(0, .ref (r 0)), (1, .int (nI k))] := hl
  obtain ⟨bP, bN, bR, bO, bW, bL, bF⟩ := id hW
  have hPd := hP.sub (ws' := wDo cy q M) [4, 5, 6, 7, 8, 9, 10, 11, 12] rfl
  refine lv_aload_n hx hb dX4_orderHasValue_0 rfl (lv_at hl 0 rfl) ?_
  refine va_get (D := G) (ci := 3) (v := .ref (q 0)) (C := RX4) (T := TX4) (N := 4) hx hb hts iX4_orderHasValue_X4 hown hK hP 0 rfl rfl 0 (by decide) (hts (.fieldLink RX4 23 "NailedOrders$Reckoning" "door" "LNailedOrders$Door;") (by decide +kernel)) (fun _ h9 => h9) rfl dX4_orderHasValue_1 ?_
  refine va_get (D := G) (ci := 0) (v := .ref (q 8)) (C := RX1) (T := TX1) (N := 13) hx hb hts iX4_orderHasValue_X1 hown hK hP 4 rfl rfl 8 (by decide) (hts (.fieldLink RX4 58 "NailedOrders$Door" "links" "[I") (by decide +kernel)) (fun _ h9 => h9) rfl dX4_orderHasValue_4 ?_
  refine lv_iload_n hx hb dX4_orderHasValue_7 rfl (lv_at hl 1 rfl) ?_
  refine o_iald hx hb hK hP 8 0 rfl rfl k (by omega) (by decide) dX4_orderHasValue_8 ?_
  refine lv_istore_n (lv' := [(2, .int (lkI (mL M k))), (0, .ref (r 0)), (1, .int (nI k))]) hx hb dX4_orderHasValue_9 rfl hl (by decide) rfl (fun ls hl => ?_)
  refine lv_iload_n hx hb dX4_orderHasValue_10 rfl (lv_at hl 0 rfl) ?_
  refine o_lk_lt (tgt := 25) hx hb dX4_orderHasValue_11 (by decide) (fun j hj => by have := bL k j hj; omega) (fun c11 => ?_) (fun c11 => ?_)
  · refine lv_aload_n hx hb dX4_orderHasValue_25 rfl (lv_at hl 1 rfl) ?_
    refine lv_iload_n hx hb dX4_orderHasValue_26 rfl (lv_at hl 2 rfl) ?_
    refine o_VF (As := [.int (nI k)]) (rest := []) ⟨hx, hb, hml, hown, hts⟩ (kX4_orderValue l G cy hW hF hV hR hP k hk) (cwV 1 hts gX4_orderHasValue_X4_orderValue rfl rfl rfl (by decide +kernel) ⟨Nat.le_of_ble_eq_true rfl, Nat.le_of_ble_eq_true rfl⟩) hK (va_recv hK hP (ci := 3) (q0 := 0) rfl rfl) rfl hl.1 rfl (Nat.le_of_ble_eq_true rfl) dX4_orderHasValue_27 ⟨Nat.zero_le _, Nat.zero_le _⟩ ?_
    refine lv_fstore_n (lv' := [(3, .float (oVal M va k)), (2, .int (lkI (mL M k))), (0, .ref (r 0)), (1, .int (nI k))]) hx hb dX4_orderHasValue_30 rfl hl (by decide) rfl (fun ls hl => ?_)
    refine lv_fload_n hx hb dX4_orderHasValue_31 rfl (lv_at hl 0 rfl) ?_
    refine lv_ldcf hx hb hown (hts (.constantFloat RX4 61 (3463342888)) (by decide +kernel)) dX4_orderHasValue_32 ?_
    refine lv_fcmp hx hb dX4_orderHasValue_34 ?_
    refine lv_if_lt (tgt := 49) hx hb dX4_orderHasValue_35 (by decide) (fun c35 => ?_) (fun c35 => ?_)
    · refine lv_iconst (v := nI 0) hx hb dX4_orderHasValue_49 (by decide +kernel) ?_
      exact o_endZ hx hb hr hlocks dX4_orderHasValue_50 (by decide) ((by rw [bI_f (fun z => (rngB_iff.mp (oHas_rng z)).1 c35)]; decide))
    · refine lv_fload_n hx hb dX4_orderHasValue_38 rfl (lv_at hl 0 rfl) ?_
      refine lv_ldcf hx hb hown (hts (.constantFloat RX4 62 (1315859240)) (by decide +kernel)) dX4_orderHasValue_39 ?_
      refine lv_fcmp hx hb dX4_orderHasValue_41 ?_
      refine lv_if_gt (tgt := 49) hx hb dX4_orderHasValue_42 (by decide) (fun c42 => ?_) (fun c42 => ?_)
      · refine lv_iconst (v := nI 0) hx hb dX4_orderHasValue_49 (by decide +kernel) ?_
        exact o_endZ hx hb hr hlocks dX4_orderHasValue_50 (by decide) ((by rw [bI_f (fun z => (rngB_iff.mp (oHas_rng z)).2 c42)]; decide))
      · refine lv_iconst (v := nI 1) hx hb dX4_orderHasValue_45 (by decide +kernel) ?_
        refine lv_goto (tgt := 50) hx hb dX4_orderHasValue_46 (by decide) ?_
        exact o_endZ hx hb hr hlocks dX4_orderHasValue_50 (by decide) ((by rw [bI_t ((oHas_n c11).mpr (rngB_iff.mpr ⟨c35, c42⟩))]; decide))
  · obtain ⟨j, hj⟩ := c11
    rw [hj] at hl
    have hl : lv_has ls 4 [(2, .int (nI j)), (0, .ref (r 0)), (1, .int (nI k))] := hl
    have b1 := bL k j hj
    refine lv_aload_n hx hb dX4_orderHasValue_14 rfl (lv_at hl 1 rfl) ?_
    refine va_get (D := G) (ci := 3) (v := .ref (r 2)) (C := RX4) (T := TX4) (N := 4) hx hb hts iX4_orderHasValue_X4 hown hK hP 0 rfl rfl 2 (by decide) (hts (.fieldLink RX4 15 "NailedOrders$Reckoning" "known" "[Z") (by decide +kernel)) (fun _ h9 => h9) rfl dX4_orderHasValue_15 ?_
    refine lv_iload_n hx hb dX4_orderHasValue_18 rfl (lv_at hl 0 rfl) ?_
    refine o_zald hx hb hK hP 2 2 rfl rfl j (by omega) (by decide) dX4_orderHasValue_19 ?_
    refine o_ifb_ne (tgt := 25) hx hb dX4_orderHasValue_20 (by decide) (fun c20 => ?_) (fun c20 => ?_)
    · refine lv_aload_n hx hb dX4_orderHasValue_25 rfl (lv_at hl 1 rfl) ?_
      refine lv_iload_n hx hb dX4_orderHasValue_26 rfl (lv_at hl 2 rfl) ?_
      refine o_VF (As := [.int (nI k)]) (rest := []) ⟨hx, hb, hml, hown, hts⟩ (kX4_orderValue l G cy hW hF hV hR hP k hk) (cwV 1 hts gX4_orderHasValue_X4_orderValue rfl rfl rfl (by decide +kernel) ⟨Nat.le_of_ble_eq_true rfl, Nat.le_of_ble_eq_true rfl⟩) hK (va_recv hK hP (ci := 3) (q0 := 0) rfl rfl) rfl hl.1 rfl (Nat.le_of_ble_eq_true rfl) dX4_orderHasValue_27 ⟨Nat.zero_le _, Nat.zero_le _⟩ ?_
      refine lv_fstore_n (lv' := [(3, .float (oVal M va k)), (2, .int (nI j)), (0, .ref (r 0)), (1, .int (nI k))]) hx hb dX4_orderHasValue_30 rfl hl (by decide) rfl (fun ls hl => ?_)
      refine lv_fload_n hx hb dX4_orderHasValue_31 rfl (lv_at hl 0 rfl) ?_
      refine lv_ldcf hx hb hown (hts (.constantFloat RX4 61 (3463342888)) (by decide +kernel)) dX4_orderHasValue_32 ?_
      refine lv_fcmp hx hb dX4_orderHasValue_34 ?_
      refine lv_if_lt (tgt := 49) hx hb dX4_orderHasValue_35 (by decide) (fun c35 => ?_) (fun c35 => ?_)
      · refine lv_iconst (v := nI 0) hx hb dX4_orderHasValue_49 (by decide +kernel) ?_
        exact o_endZ hx hb hr hlocks dX4_orderHasValue_50 (by decide) ((by rw [bI_f (fun z => (rngB_iff.mp (oHas_rng z)).1 c35)]; decide))
      · refine lv_fload_n hx hb dX4_orderHasValue_38 rfl (lv_at hl 0 rfl) ?_
        refine lv_ldcf hx hb hown (hts (.constantFloat RX4 62 (1315859240)) (by decide +kernel)) dX4_orderHasValue_39 ?_
        refine lv_fcmp hx hb dX4_orderHasValue_41 ?_
        refine lv_if_gt (tgt := 49) hx hb dX4_orderHasValue_42 (by decide) (fun c42 => ?_) (fun c42 => ?_)
        · refine lv_iconst (v := nI 0) hx hb dX4_orderHasValue_49 (by decide +kernel) ?_
          exact o_endZ hx hb hr hlocks dX4_orderHasValue_50 (by decide) ((by rw [bI_f (fun z => (rngB_iff.mp (oHas_rng z)).2 c42)]; decide))
        · refine lv_iconst (v := nI 1) hx hb dX4_orderHasValue_45 (by decide +kernel) ?_
          refine lv_goto (tgt := 50) hx hb dX4_orderHasValue_46 (by decide) ?_
          exact o_endZ hx hb hr hlocks dX4_orderHasValue_50 (by decide) ((by rw [bI_t ((oHas_s hj).mpr ⟨c20, rngB_iff.mpr ⟨c35, c42⟩⟩)]; decide))
    · refine lv_iconst (v := nI 0) hx hb dX4_orderHasValue_23 (by decide +kernel) ?_
      exact o_endZ hx hb hr hlocks dX4_orderHasValue_24 (by decide) ((by rw [bI_f (fun z => c20 ((oHas_s hj).mp z).1)]; decide))

set_option maxRecDepth 100000 in
theorem iX4_areFar_X4 : ∀ w ∈ u_ws RX4 TX4 4, w ∈ wsX4_areFar := by decide +kernel
set_option maxRecDepth 100000 in
theorem iX4_areFar_X1 : ∀ w ∈ u_ws RX1 TX1 13, w ∈ wsX4_areFar := by decide +kernel
set_option maxHeartbeats 4000000 in
set_option maxRecDepth 100000 in
theorem kX4_areFar (l : Launch) (G : va_G) (cy : Nat → ClassId) {H0 : Heap} {q r : Nat → Nat} {M : MT} {ru : Nat → Option Nat} {kn : Nat → Bool} {va : Nat → UInt32} (hW : WB M) (hF : WF M) (hV : ∀ w, Fin32 (va w)) (hR : ∀ w o, ru w = some o → o < mN M) (hP : va_P G vwCl (wRe cy r (q 0) ru kn va ++ wDo cy q M) H0) (x y : UInt32) (hfx : Fin32 x) (hfy : Fin32 y) : MetI l yX4_areFar wsX4_areFar 0 0 [.ref (r 0), .float x, .float y] H0 G cy (bI (farB (mT M) x y = true)) := by
  refine Met.ofW (cc := cX4_areFar) (maxL := 4) (ret := (some .boolean)) (by decide) rfl ?_
  intro p e s m args below meth c s₁ B hml hv
  obtain ⟨rfl, hH, hK⟩ := hv
  subst hH
  have hx := B.exec
  have hb := B.bytes
  have hr := B.returns
  have hts := atoms_spec (ws := wsX4_areFar) B.pre
  have hown : s.vm.findClass RX4 = some m.cls := findClass_of_methodNamed B.named
  have hlocks := B.notSynchronized
  have hl := lv_entry ([.ref (r 0), .float x, .float y]) (n := 4) (Nat.le_of_ble_eq_true rfl)
  rw [lg_entry_eq]
  generalize (lg_sl ([.ref (r 0), .float x, .float y]) ++ List.replicate (4 - (lg_sl ([.ref (r 0), .float x, .float y])).length) Slot.unset).toArray = ls at hl ⊢
  have hl : lv_has ls 4 [(0, .ref (r 0)), (1, .float x), (2, .float y)] := hl
  obtain ⟨bP, bN, bR, bO, bW, bL, bF⟩ := id hW
  have hPd := hP.sub (ws' := wDo cy q M) [4, 5, 6, 7, 8, 9, 10, 11, 12] rfl
  refine lv_fload_n hx hb dX4_areFar_0 rfl (lv_at hl 1 rfl) ?_
  refine lv_fload_n hx hb dX4_areFar_1 rfl (lv_at hl 2 rfl) ?_
  refine lv_fsub hx hb dX4_areFar_2 (n32_of (FP.Core.fsub_out (FP.Core.FFin.notNaN hfx) hfy)) ?_
  refine lv_fstore_n (lv' := [(3, .float (FP.fsub x y)), (0, .ref (r 0)), (1, .float x), (2, .float y)]) hx hb dX4_areFar_3 rfl hl (by decide) rfl (fun ls hl => ?_)
  refine lv_fload_n hx hb dX4_areFar_4 rfl (lv_at hl 0 rfl) ?_
  refine lv_fconst0 hx hb dX4_areFar_5 ?_
  refine lv_fcmp hx hb dX4_areFar_6 ?_
  refine lv_if_ge (tgt := 15) hx hb dX4_areFar_7 (by decide) (fun c7 => ?_) (fun c7 => ?_)
  · refine lv_fload_n hx hb dX4_areFar_15 rfl (lv_at hl 0 rfl) ?_
    rw [← absF_t c7]
    refine lv_aload_n hx hb dX4_areFar_16 rfl (lv_at hl 1 rfl) ?_
    refine va_get (D := G) (ci := 3) (v := .ref (q 0)) (C := RX4) (T := TX4) (N := 4) hx hb hts iX4_areFar_X4 hown hK hP 0 rfl rfl 0 (by decide) (hts (.fieldLink RX4 23 "NailedOrders$Reckoning" "door" "LNailedOrders$Door;") (by decide +kernel)) (fun _ h9 => h9) rfl dX4_areFar_17 ?_
    refine va_get (D := G) (ci := 0) (v := .float (mT M)) (C := RX1) (T := TX1) (N := 13) hx hb hts iX4_areFar_X1 hown hK hP 4 rfl rfl 3 (by decide) (hts (.fieldLink RX4 89 "NailedOrders$Door" "tolerance" "F") (by decide +kernel)) (fun _ h9 => h9) rfl dX4_areFar_20 ?_
    refine lv_fcmp hx hb dX4_areFar_23 ?_
    refine lv_if_le (tgt := 31) hx hb dX4_areFar_24 (by decide) (fun c24 => ?_) (fun c24 => ?_)
    · refine lv_iconst (v := nI 0) hx hb dX4_areFar_31 (by decide +kernel) ?_
      exact o_endZ hx hb hr hlocks dX4_areFar_32 (by decide) ((by rw [bI_f (fun z => farB_iff.mp z c24)]; decide))
    · refine lv_iconst (v := nI 1) hx hb dX4_areFar_27 (by decide +kernel) ?_
      refine lv_goto (tgt := 32) hx hb dX4_areFar_28 (by decide) ?_
      exact o_endZ hx hb hr hlocks dX4_areFar_32 (by decide) ((by rw [bI_t (farB_iff.mpr c24)]; decide))
  · refine lv_fload_n hx hb dX4_areFar_10 rfl (lv_at hl 0 rfl) ?_
    refine lv_fneg hx hb dX4_areFar_11 ?_
    refine lv_goto (tgt := 16) hx hb dX4_areFar_12 (by decide) ?_
    rw [← absF_f c7]
    refine lv_aload_n hx hb dX4_areFar_16 rfl (lv_at hl 1 rfl) ?_
    refine va_get (D := G) (ci := 3) (v := .ref (q 0)) (C := RX4) (T := TX4) (N := 4) hx hb hts iX4_areFar_X4 hown hK hP 0 rfl rfl 0 (by decide) (hts (.fieldLink RX4 23 "NailedOrders$Reckoning" "door" "LNailedOrders$Door;") (by decide +kernel)) (fun _ h9 => h9) rfl dX4_areFar_17 ?_
    refine va_get (D := G) (ci := 0) (v := .float (mT M)) (C := RX1) (T := TX1) (N := 13) hx hb hts iX4_areFar_X1 hown hK hP 4 rfl rfl 3 (by decide) (hts (.fieldLink RX4 89 "NailedOrders$Door" "tolerance" "F") (by decide +kernel)) (fun _ h9 => h9) rfl dX4_areFar_20 ?_
    refine lv_fcmp hx hb dX4_areFar_23 ?_
    refine lv_if_le (tgt := 31) hx hb dX4_areFar_24 (by decide) (fun c24 => ?_) (fun c24 => ?_)
    · refine lv_iconst (v := nI 0) hx hb dX4_areFar_31 (by decide +kernel) ?_
      exact o_endZ hx hb hr hlocks dX4_areFar_32 (by decide) ((by rw [bI_f (fun z => farB_iff.mp z c24)]; decide))
    · refine lv_iconst (v := nI 1) hx hb dX4_areFar_27 (by decide +kernel) ?_
      refine lv_goto (tgt := 32) hx hb dX4_areFar_28 (by decide) ?_
      exact o_endZ hx hb hr hlocks dX4_areFar_32 (by decide) ((by rw [bI_t (farB_iff.mpr c24)]; decide))

set_option maxRecDepth 100000 in
theorem iX4_areRivals_X4 : ∀ w ∈ u_ws RX4 TX4 4, w ∈ wsX4_areRivals := by decide +kernel
set_option maxRecDepth 100000 in
theorem iX4_areRivals_X1 : ∀ w ∈ u_ws RX1 TX1 13, w ∈ wsX4_areRivals := by decide +kernel
set_option maxHeartbeats 4000000 in
set_option maxRecDepth 100000 in
theorem kX4_areRivals (l : Launch) (G : va_G) (cy : Nat → ClassId) {H0 : Heap} {q r : Nat → Nat} {M : MT} {ru : Nat → Option Nat} {kn : Nat → Bool} {va : Nat → UInt32} (hW : WB M) (hF : WF M) (hV : ∀ w, Fin32 (va w)) (hR : ∀ w o, ru w = some o → o < mN M) (hP : va_P G vwCl (wRe cy r (q 0) ru kn va ++ wDo cy q M) H0) (j o : Nat) (hj : j < 40) (ho : o < 40) : MetI l yX4_areRivals wsX4_areRivals 2 45 [.ref (r 0), .int (nI j), .int (nI o)] H0 G cy (bI (rivB M kn va j o = true)) := by
  refine Met.ofW (cc := cX4_areRivals) (maxL := 4) (ret := (some .boolean)) (by decide) rfl ?_
  intro p e s m args below meth c s₁ B hml hv
  obtain ⟨rfl, hH, hK⟩ := hv
  subst hH
  have hx := B.exec
  have hb := B.bytes
  have hr := B.returns
  have hts := atoms_spec (ws := wsX4_areRivals) B.pre
  have hown : s.vm.findClass RX4 = some m.cls := findClass_of_methodNamed B.named
  have hlocks := B.notSynchronized
  have hl := lv_entry ([.ref (r 0), .int (nI j), .int (nI o)]) (n := 4) (Nat.le_of_ble_eq_true rfl)
  rw [lg_entry_eq]
  generalize (lg_sl ([.ref (r 0), .int (nI j), .int (nI o)]) ++ List.replicate (4 - (lg_sl ([.ref (r 0), .int (nI j), .int (nI o)])).length) Slot.unset).toArray = ls at hl ⊢
  have hl : lv_has ls 4 [(0, .ref (r 0)), (1, .int (nI j)), (2, .int (nI o))] := hl
  obtain ⟨bP, bN, bR, bO, bW, bL, bF⟩ := id hW
  have hPd := hP.sub (ws' := wDo cy q M) [4, 5, 6, 7, 8, 9, 10, 11, 12] rfl
  have b1 := bO j
  have b2 := bO o
  have b3 := bR (mO M j)
  have b4 := bR (mO M o)
  refine lv_aload_n hx hb dX4_areRivals_0 rfl (lv_at hl 0 rfl) ?_
  refine va_get (D := G) (ci := 3) (v := .ref (q 0)) (C := RX4) (T := TX4) (N := 4) hx hb hts iX4_areRivals_X4 hown hK hP 0 rfl rfl 0 (by decide) (hts (.fieldLink RX4 23 "NailedOrders$Reckoning" "door" "LNailedOrders$Door;") (by decide +kernel)) (fun _ h9 => h9) rfl dX4_areRivals_1 ?_
  refine va_get (D := G) (ci := 0) (v := .ref (q 6)) (C := RX1) (T := TX1) (N := 13) hx hb hts iX4_areRivals_X1 hown hK hP 4 rfl rfl 6 (by decide) (hts (.fieldLink RX4 82 "NailedOrders$Door" "owners" "[I") (by decide +kernel)) (fun _ h9 => h9) rfl dX4_areRivals_4 ?_
  refine lv_iload_n hx hb dX4_areRivals_7 rfl (lv_at hl 1 rfl) ?_
  refine o_iald hx hb hK hP 6 0 rfl rfl j (by omega) (by decide) dX4_areRivals_8 ?_
  refine lv_aload_n hx hb dX4_areRivals_9 rfl (lv_at hl 0 rfl) ?_
  refine va_get (D := G) (ci := 3) (v := .ref (q 0)) (C := RX4) (T := TX4) (N := 4) hx hb hts iX4_areRivals_X4 hown hK hP 0 rfl rfl 0 (by decide) (hts (.fieldLink RX4 23 "NailedOrders$Reckoning" "door" "LNailedOrders$Door;") (by decide +kernel)) (fun _ h9 => h9) rfl dX4_areRivals_10 ?_
  refine va_get (D := G) (ci := 0) (v := .ref (q 6)) (C := RX1) (T := TX1) (N := 13) hx hb hts iX4_areRivals_X1 hown hK hP 4 rfl rfl 6 (by decide) (hts (.fieldLink RX4 82 "NailedOrders$Door" "owners" "[I") (by decide +kernel)) (fun _ h9 => h9) rfl dX4_areRivals_13 ?_
  refine lv_iload_n hx hb dX4_areRivals_16 rfl (lv_at hl 2 rfl) ?_
  refine o_iald hx hb hK hP 6 0 rfl rfl o (by omega) (by decide) dX4_areRivals_17 ?_
  refine o_icmp_eq (tgt := 40) hx hb dX4_areRivals_18 (by decide) (by omega) (by omega) (fun c18 => ?_) (fun c18 => ?_)
  · refine lv_iconst (v := nI 0) hx hb dX4_areRivals_40 (by decide +kernel) ?_
    exact o_endZ hx hb hr hlocks dX4_areRivals_41 (by decide) ((by rw [bI_f (rivB_o c18)]; decide))
  · refine lv_aload_n hx hb dX4_areRivals_21 rfl (lv_at hl 0 rfl) ?_
    refine va_get (D := G) (ci := 3) (v := .ref (q 0)) (C := RX4) (T := TX4) (N := 4) hx hb hts iX4_areRivals_X4 hown hK hP 0 rfl rfl 0 (by decide) (hts (.fieldLink RX4 23 "NailedOrders$Reckoning" "door" "LNailedOrders$Door;") (by decide +kernel)) (fun _ h9 => h9) rfl dX4_areRivals_22 ?_
    refine lv_iload_n hx hb dX4_areRivals_25 rfl (lv_at hl 1 rfl) ?_
    refine o_VI (As := [.int (nI j)]) (rest := []) ⟨hx, hb, hml, hown, hts⟩ (kX1_rankOf l G cy hW hPd j (by omega)) (cwV 1 hts gX4_areRivals_X1_rankOf rfl rfl rfl (by decide +kernel) ⟨Nat.le_of_ble_eq_true rfl, Nat.le_of_ble_eq_true rfl⟩) hK (va_recv hK hP (ci := 0) (q0 := 4) rfl rfl) rfl hl.1 rfl (Nat.le_of_ble_eq_true rfl) dX4_areRivals_26 ⟨Nat.zero_le _, Nat.zero_le _⟩ ?_
    refine lv_aload_n hx hb dX4_areRivals_29 rfl (lv_at hl 0 rfl) ?_
    refine va_get (D := G) (ci := 3) (v := .ref (q 0)) (C := RX4) (T := TX4) (N := 4) hx hb hts iX4_areRivals_X4 hown hK hP 0 rfl rfl 0 (by decide) (hts (.fieldLink RX4 23 "NailedOrders$Reckoning" "door" "LNailedOrders$Door;") (by decide +kernel)) (fun _ h9 => h9) rfl dX4_areRivals_30 ?_
    refine lv_iload_n hx hb dX4_areRivals_33 rfl (lv_at hl 2 rfl) ?_
    refine o_VI (As := [.int (nI o)]) (rest := [.int (nI (mR M (mO M j)))]) ⟨hx, hb, hml, hown, hts⟩ (kX1_rankOf l G cy hW hPd o (by omega)) (cwV 1 hts gX4_areRivals_X1_rankOf rfl rfl rfl (by decide +kernel) ⟨Nat.le_of_ble_eq_true rfl, Nat.le_of_ble_eq_true rfl⟩) hK (va_recv hK hP (ci := 0) (q0 := 4) rfl rfl) rfl hl.1 rfl (Nat.le_of_ble_eq_true rfl) dX4_areRivals_34 ⟨Nat.zero_le _, Nat.zero_le _⟩ ?_
    refine o_icmp_eq (tgt := 42) hx hb dX4_areRivals_37 (by decide) (by omega) (by omega) (fun c37 => ?_) (fun c37 => ?_)
    · refine lv_aload_n hx hb dX4_areRivals_42 rfl (lv_at hl 0 rfl) ?_
      refine lv_iload_n hx hb dX4_areRivals_43 rfl (lv_at hl 1 rfl) ?_
      refine o_VI (As := [.int (nI j)]) (rest := []) ⟨hx, hb, hml, hown, hts⟩ (kX4_orderHasValue l G cy hW hF hV hR hP j (by omega)) (cwV 1 hts gX4_areRivals_X4_orderHasValue rfl rfl rfl (by decide +kernel) ⟨Nat.le_of_ble_eq_true rfl, Nat.le_of_ble_eq_true rfl⟩) hK (va_recv hK hP (ci := 3) (q0 := 0) rfl rfl) rfl hl.1 rfl (Nat.le_of_ble_eq_true rfl) dX4_areRivals_44 ⟨Nat.zero_le _, Nat.zero_le _⟩ ?_
      refine lv_istore_n (lv' := [(3, .int (bI (oHas M kn va j = true))), (0, .ref (r 0)), (1, .int (nI j)), (2, .int (nI o))]) hx hb dX4_areRivals_47 rfl hl (by decide) rfl (fun ls hl => ?_)
      refine lv_iload_n hx hb dX4_areRivals_48 rfl (lv_at hl 0 rfl) ?_
      refine lv_aload_n hx hb dX4_areRivals_49 rfl (lv_at hl 1 rfl) ?_
      refine lv_iload_n hx hb dX4_areRivals_50 rfl (lv_at hl 3 rfl) ?_
      refine o_VI (As := [.int (nI o)]) (rest := [.int (bI (oHas M kn va j = true))]) ⟨hx, hb, hml, hown, hts⟩ (kX4_orderHasValue l G cy hW hF hV hR hP o (by omega)) (cwV 1 hts gX4_areRivals_X4_orderHasValue rfl rfl rfl (by decide +kernel) ⟨Nat.le_of_ble_eq_true rfl, Nat.le_of_ble_eq_true rfl⟩) hK (va_recv hK hP (ci := 3) (q0 := 0) rfl rfl) rfl hl.1 rfl (Nat.le_of_ble_eq_true rfl) dX4_areRivals_51 ⟨Nat.zero_le _, Nat.zero_le _⟩ ?_
      refine o_icmpb_eq (tgt := 59) hx hb dX4_areRivals_54 (by decide) (fun c54 => ?_) (fun c54 => ?_)
      · refine lv_iload_n hx hb dX4_areRivals_59 rfl (lv_at hl 0 rfl) ?_
        refine o_ifb_eq (tgt := 84) hx hb dX4_areRivals_60 (by decide) (fun c60 => ?_) (fun c60 => ?_)
        · refine lv_iconst (v := nI 0) hx hb dX4_areRivals_84 (by decide +kernel) ?_
          exact o_endZ hx hb hr hlocks dX4_areRivals_85 (by decide) ((by rw [bI_f (fun z => c60 ((rivB_e c18 c37 c54).mp z).1)]; decide))
        · refine lv_aload_n hx hb dX4_areRivals_63 rfl (lv_at hl 1 rfl) ?_
          refine lv_aload_n hx hb dX4_areRivals_64 rfl (lv_at hl 1 rfl) ?_
          refine lv_iload_n hx hb dX4_areRivals_65 rfl (lv_at hl 2 rfl) ?_
          refine o_VF (As := [.int (nI j)]) (rest := [.ref (r 0)]) ⟨hx, hb, hml, hown, hts⟩ (kX4_orderValue l G cy hW hF hV hR hP j (by omega)) (cwV 1 hts gX4_areRivals_X4_orderValue rfl rfl rfl (by decide +kernel) ⟨Nat.le_of_ble_eq_true rfl, Nat.le_of_ble_eq_true rfl⟩) hK (va_recv hK hP (ci := 3) (q0 := 0) rfl rfl) rfl hl.1 rfl (Nat.le_of_ble_eq_true rfl) dX4_areRivals_66 ⟨Nat.zero_le _, Nat.zero_le _⟩ ?_
          refine lv_aload_n hx hb dX4_areRivals_69 rfl (lv_at hl 1 rfl) ?_
          refine lv_iload_n hx hb dX4_areRivals_70 rfl (lv_at hl 3 rfl) ?_
          refine o_VF (As := [.int (nI o)]) (rest := [.float (oVal M va j), .ref (r 0)]) ⟨hx, hb, hml, hown, hts⟩ (kX4_orderValue l G cy hW hF hV hR hP o (by omega)) (cwV 1 hts gX4_areRivals_X4_orderValue rfl rfl rfl (by decide +kernel) ⟨Nat.le_of_ble_eq_true rfl, Nat.le_of_ble_eq_true rfl⟩) hK (va_recv hK hP (ci := 3) (q0 := 0) rfl rfl) rfl hl.1 rfl (Nat.le_of_ble_eq_true rfl) dX4_areRivals_71 ⟨Nat.zero_le _, Nat.zero_le _⟩ ?_
          refine o_VI (As := [.float (oVal M va j), .float (oVal M va o)]) (rest := []) ⟨hx, hb, hml, hown, hts⟩ (kX4_areFar l G cy hW hF hV hR hP (oVal M va j) (oVal M va o) (rng_fin (oHas_rng c60)) (rng_fin (oHas_rng (c54.mp c60)))) (cwV 2 hts gX4_areRivals_X4_areFar rfl rfl rfl (by decide +kernel) ⟨Nat.le_of_ble_eq_true rfl, Nat.le_of_ble_eq_true rfl⟩) hK (va_recv hK hP (ci := 3) (q0 := 0) rfl rfl) rfl hl.1 rfl (Nat.le_of_ble_eq_true rfl) dX4_areRivals_74 ⟨Nat.zero_le _, Nat.zero_le _⟩ ?_
          refine o_ifb_eq (tgt := 84) hx hb dX4_areRivals_77 (by decide) (fun c77 => ?_) (fun c77 => ?_)
          · refine lv_iconst (v := nI 0) hx hb dX4_areRivals_84 (by decide +kernel) ?_
            exact o_endZ hx hb hr hlocks dX4_areRivals_85 (by decide) ((by rw [bI_f (fun z => c77 ((rivB_e c18 c37 c54).mp z).2)]; decide))
          · refine lv_iconst (v := nI 1) hx hb dX4_areRivals_80 (by decide +kernel) ?_
            refine lv_goto (tgt := 85) hx hb dX4_areRivals_81 (by decide) ?_
            exact o_endZ hx hb hr hlocks dX4_areRivals_85 (by decide) ((by rw [bI_t ((rivB_e c18 c37 c54).mpr ⟨c60, c77⟩)]; decide))
      · refine lv_iconst (v := nI 1) hx hb dX4_areRivals_57 (by decide +kernel) ?_
        exact o_endZ hx hb hr hlocks dX4_areRivals_58 (by decide) ((by rw [bI_t (rivB_d c18 c37 c54)]; decide))
    · refine lv_iconst (v := nI 0) hx hb dX4_areRivals_40 (by decide +kernel) ?_
      exact o_endZ hx hb hr hlocks dX4_areRivals_41 (by decide) ((by rw [bI_f (rivB_r c37)]; decide))

set_option maxRecDepth 100000 in
theorem iX4_topmostRival_X4 : ∀ w ∈ u_ws RX4 TX4 4, w ∈ wsX4_topmostRival := by decide +kernel
set_option maxRecDepth 100000 in
theorem iX4_topmostRival_X1 : ∀ w ∈ u_ws RX1 TX1 13, w ∈ wsX4_topmostRival := by decide +kernel
set_option maxHeartbeats 4000000 in
set_option maxRecDepth 100000 in
theorem kX4_topmostRival (l : Launch) (G : va_G) (cy : Nat → ClassId) {H0 : Heap} {q r : Nat → Nat} {M : MT} {ru : Nat → Option Nat} {kn : Nat → Bool} {va : Nat → UInt32} (hW : WB M) (hF : WF M) (hV : ∀ w, Fin32 (va w)) (hR : ∀ w o, ru w = some o → o < mN M) (hP : va_P G vwCl (wRe cy r (q 0) ru kn va ++ wDo cy q M) H0) (w : Nat) (hw : w < 16) : MetI l yX4_topmostRival wsX4_topmostRival 3 68 [.ref (r 0), .int (nI w)] H0 G cy (lkI (rivOf M ru kn va w)) := by
  refine Met.ofW (cc := cX4_topmostRival) (maxL := 4) (ret := (some .int)) (by decide) rfl ?_
  intro p e s m args below meth c s₁ B hml hv
  obtain ⟨rfl, hH, hK⟩ := hv
  subst hH
  have hx := B.exec
  have hb := B.bytes
  have hr := B.returns
  have hts := atoms_spec (ws := wsX4_topmostRival) B.pre
  have hown : s.vm.findClass RX4 = some m.cls := findClass_of_methodNamed B.named
  have hlocks := B.notSynchronized
  have hl := lv_entry ([.ref (r 0), .int (nI w)]) (n := 4) (Nat.le_of_ble_eq_true rfl)
  rw [lg_entry_eq]
  generalize (lg_sl ([.ref (r 0), .int (nI w)]) ++ List.replicate (4 - (lg_sl ([.ref (r 0), .int (nI w)])).length) Slot.unset).toArray = ls at hl ⊢
  have hl : lv_has ls 4 [(0, .ref (r 0)), (1, .int (nI w))] := hl
  obtain ⟨bP, bN, bR, bO, bW, bL, bF⟩ := id hW
  have hPd := hP.sub (ws' := wDo cy q M) [4, 5, 6, 7, 8, 9, 10, 11, 12] rfl
  refine lv_aload_n hx hb dX4_topmostRival_0 rfl (lv_at hl 0 rfl) ?_
  refine va_get (D := G) (ci := 3) (v := .ref (r 1)) (C := RX4) (T := TX4) (N := 4) hx hb hts iX4_topmostRival_X4 hown hK hP 0 rfl rfl 1 (by decide) (hts (.fieldLink RX4 9 "NailedOrders$Reckoning" "rulers" "[I") (by decide +kernel)) (fun _ h9 => h9) rfl dX4_topmostRival_1 ?_
  refine lv_iload_n hx hb dX4_topmostRival_4 rfl (lv_at hl 1 rfl) ?_
  refine o_iald hx hb hK hP 1 0 rfl rfl w (by omega) (by decide) dX4_topmostRival_5 ?_
  refine lv_istore_n (lv' := [(2, .int (lkI (ru w))), (0, .ref (r 0)), (1, .int (nI w))]) hx hb dX4_topmostRival_6 rfl hl (by decide) rfl (fun ls hl => ?_)
  refine lv_iload_n hx hb dX4_topmostRival_7 rfl (lv_at hl 0 rfl) ?_
  refine o_lk_ge (tgt := 14) hx hb dX4_topmostRival_8 (by decide) (fun j hj => by have := hR w j hj; omega) (fun c8 => ?_) (fun c8 => ?_)
  · obtain ⟨o, ho⟩ := c8
    rw [ho] at hl
    have hl : lv_has ls 4 [(2, .int (nI o)), (0, .ref (r 0)), (1, .int (nI w))] := hl
    have b1 := hR w o ho
    refine lv_aload_n hx hb dX4_topmostRival_14 rfl (lv_at hl 1 rfl) ?_
    refine va_get (D := G) (ci := 3) (v := .ref (q 0)) (C := RX4) (T := TX4) (N := 4) hx hb hts iX4_topmostRival_X4 hown hK hP 0 rfl rfl 0 (by decide) (hts (.fieldLink RX4 23 "NailedOrders$Reckoning" "door" "LNailedOrders$Door;") (by decide +kernel)) (fun _ h9 => h9) rfl dX4_topmostRival_15 ?_
    refine va_get (D := G) (ci := 0) (v := .int (nI (mN M))) (C := RX1) (T := TX1) (N := 13) hx hb hts iX4_topmostRival_X1 hown hK hP 4 rfl rfl 5 (by decide) (hts (.fieldLink RX4 34 "NailedOrders$Door" "orders" "I") (by decide +kernel)) (fun _ h9 => h9) rfl dX4_topmostRival_18 ?_
    refine lv_iconst (v := nI 1) hx hb dX4_topmostRival_21 (by decide +kernel) ?_
    refine lv_isub hx hb dX4_topmostRival_22 ?_
    rw [show nI (mN M) - nI 1 = dI (mN M) from rfl]
    refine lv_istore_n (lv' := [(3, .int (dI (mN M))), (2, .int (nI o)), (0, .ref (r 0)), (1, .int (nI w))]) hx hb dX4_topmostRival_23 rfl hl (by decide) rfl (fun ls hl => ?_)
    refine o_loop (σ := Nat) (fun (i : Nat) => i ≤ mN M ∧ topR M kn va w o i = topR M kn va w o (mN M)) (fun (i : Nat) => [(3, .int (dI i)), (0, .ref (r 0)), (1, .int (nI w)), (2, .int (nI o))]) (fun (i : Nat) => i) (mN M) ⟨Nat.le_refl _, rfl⟩ (lv_sub hl [0, 2, 3, 1] rfl) ?_
    rintro i ls ⟨h1, h2⟩ hl ih24
    have hl : lv_has ls 4 [(3, .int (dI i)), (0, .ref (r 0)), (1, .int (nI w)), (2, .int (nI o))] := hl
    refine lv_iload_n hx hb dX4_topmostRival_24 rfl (lv_at hl 0 rfl) ?_
    refine o_ifd_lt (tgt := 57) hx hb dX4_topmostRival_25 (by decide) (by omega) (fun c25 => ?_) (fun c25 => ?_)
    · subst c25
      refine lv_bipush (v := (-5)) hx hb dX4_topmostRival_57 (by decide +kernel) ?_
      exact o_endI hx hb hr hlocks dX4_topmostRival_59 ((by rw [rivOf_s ho, ← h2]; rfl))
    · obtain ⟨i, rfl⟩ := c25
      rw [dI_succ] at hl
      refine lv_aload_n hx hb dX4_topmostRival_28 rfl (lv_at hl 1 rfl) ?_
      refine va_get (D := G) (ci := 3) (v := .ref (q 0)) (C := RX4) (T := TX4) (N := 4) hx hb hts iX4_topmostRival_X4 hown hK hP 0 rfl rfl 0 (by decide) (hts (.fieldLink RX4 23 "NailedOrders$Reckoning" "door" "LNailedOrders$Door;") (by decide +kernel)) (fun _ h9 => h9) rfl dX4_topmostRival_29 ?_
      refine lv_iload_n hx hb dX4_topmostRival_32 rfl (lv_at hl 0 rfl) ?_
      refine lv_iload_n hx hb dX4_topmostRival_33 rfl (lv_at hl 2 rfl) ?_
      refine o_VI (As := [.int (nI i), .int (nI w)]) (rest := []) ⟨hx, hb, hml, hown, hts⟩ (kX1_hangsFor l G cy hW hPd i w (by omega) hw) (cwV 2 hts gX4_topmostRival_X1_hangsFor rfl rfl rfl (by decide +kernel) ⟨Nat.le_of_ble_eq_true rfl, Nat.le_of_ble_eq_true rfl⟩) hK (va_recv hK hP (ci := 0) (q0 := 4) rfl rfl) rfl hl.1 rfl (Nat.le_of_ble_eq_true rfl) dX4_topmostRival_34 ⟨Nat.zero_le _, Nat.zero_le _⟩ ?_
      refine o_ifb_eq (tgt := 51) hx hb dX4_topmostRival_37 (by decide) (fun c37 => ?_) (fun c37 => ?_)
      · refine lv_iinc (v := dI i) (lv' := [(3, .int (dI i)), (0, .ref (r 0)), (1, .int (nI w)), (2, .int (nI o))]) hx hb dX4_topmostRival_51 hl (k := 0) rfl (dI_dec i) (by decide) rfl (fun ls hl => ?_)
        refine lv_goto (tgt := 24) hx hb dX4_topmostRival_54 (by decide) ?_
        refine ih24 i ls ?_ ?_ ?_
        · exact ⟨by omega, by rw [← h2, topR_f (fun z => c37 (hfB_iff.mp z.1))]⟩
        · show lv_has ls 4 [(3, .int (dI i)), (0, .ref (r 0)), (1, .int (nI w)), (2, .int (nI o))]
          exact lv_sub hl [0, 1, 2, 3] rfl
        · exact Nat.lt_succ_self i
      · refine lv_aload_n hx hb dX4_topmostRival_40 rfl (lv_at hl 1 rfl) ?_
        refine lv_iload_n hx hb dX4_topmostRival_41 rfl (lv_at hl 0 rfl) ?_
        refine lv_iload_n hx hb dX4_topmostRival_42 rfl (lv_at hl 3 rfl) ?_
        refine o_VI (As := [.int (nI i), .int (nI o)]) (rest := []) ⟨hx, hb, hml, hown, hts⟩ (kX4_areRivals l G cy hW hF hV hR hP i o (by omega) (by omega)) (cwV 2 hts gX4_topmostRival_X4_areRivals rfl rfl rfl (by decide +kernel) ⟨Nat.le_of_ble_eq_true rfl, Nat.le_of_ble_eq_true rfl⟩) hK (va_recv hK hP (ci := 3) (q0 := 0) rfl rfl) rfl hl.1 rfl (Nat.le_of_ble_eq_true rfl) dX4_topmostRival_43 ⟨Nat.zero_le _, Nat.zero_le _⟩ ?_
        refine o_ifb_eq (tgt := 51) hx hb dX4_topmostRival_46 (by decide) (fun c46 => ?_) (fun c46 => ?_)
        · refine lv_iinc (v := dI i) (lv' := [(3, .int (dI i)), (0, .ref (r 0)), (1, .int (nI w)), (2, .int (nI o))]) hx hb dX4_topmostRival_51 hl (k := 0) rfl (dI_dec i) (by decide) rfl (fun ls hl => ?_)
          refine lv_goto (tgt := 24) hx hb dX4_topmostRival_54 (by decide) ?_
          refine ih24 i ls ?_ ?_ ?_
          · exact ⟨by omega, by rw [← h2, topR_f (fun z => c46 z.2)]⟩
          · show lv_has ls 4 [(3, .int (dI i)), (0, .ref (r 0)), (1, .int (nI w)), (2, .int (nI o))]
            exact lv_sub hl [0, 1, 2, 3] rfl
          · exact Nat.lt_succ_self i
        · refine lv_iload_n hx hb dX4_topmostRival_49 rfl (lv_at hl 0 rfl) ?_
          exact o_endI hx hb hr hlocks dX4_topmostRival_50 ((by rw [rivOf_s ho, ← h2, topR_t (hfB_iff.mpr c37) c46]; rfl))
  · refine lv_bipush (v := (-5)) hx hb dX4_topmostRival_11 (by decide +kernel) ?_
    exact o_endI hx hb hr hlocks dX4_topmostRival_13 ((by rw [rivOf_n c8]; rfl))

set_option maxRecDepth 100000 in
theorem iX4_wordsWithValue_X4 : ∀ w ∈ u_ws RX4 TX4 4, w ∈ wsX4_wordsWithValue := by decide +kernel
set_option maxHeartbeats 4000000 in
set_option maxRecDepth 100000 in
theorem kX4_wordsWithValue (l : Launch) (G : va_G) (cy : Nat → ClassId) {H0 : Heap} {q r : Nat → Nat} {M : MT} {ru : Nat → Option Nat} {kn : Nat → Bool} {va : Nat → UInt32} (hW : WB M) (hF : WF M) (hV : ∀ w, Fin32 (va w)) (hR : ∀ w o, ru w = some o → o < mN M) (hP : va_P G vwCl (wRe cy r (q 0) ru kn va ++ wDo cy q M) H0) : MetI l yX4_wordsWithValue wsX4_wordsWithValue 0 0 [.ref (r 0)] H0 G cy (nI (cR kn 0 16)) := by
  refine Met.ofW (cc := cX4_wordsWithValue) (maxL := 3) (ret := (some .int)) (by decide) rfl ?_
  intro p e s m args below meth c s₁ B hml hv
  obtain ⟨rfl, hH, hK⟩ := hv
  subst hH
  have hx := B.exec
  have hb := B.bytes
  have hr := B.returns
  have hts := atoms_spec (ws := wsX4_wordsWithValue) B.pre
  have hown : s.vm.findClass RX4 = some m.cls := findClass_of_methodNamed B.named
  have hlocks := B.notSynchronized
  have hl := lv_entry ([.ref (r 0)]) (n := 3) (Nat.le_of_ble_eq_true rfl)
  rw [lg_entry_eq]
  generalize (lg_sl ([.ref (r 0)]) ++ List.replicate (3 - (lg_sl ([.ref (r 0)])).length) Slot.unset).toArray = ls at hl ⊢
  have hl : lv_has ls 3 [(0, .ref (r 0))] := hl
  obtain ⟨bP, bN, bR, bO, bW, bL, bF⟩ := id hW
  have hPd := hP.sub (ws' := wDo cy q M) [4, 5, 6, 7, 8, 9, 10, 11, 12] rfl
  refine lv_iconst (v := nI 0) hx hb dX4_wordsWithValue_0 (by decide +kernel) ?_
  refine lv_istore_n (lv' := [(1, .int (nI 0)), (0, .ref (r 0))]) hx hb dX4_wordsWithValue_1 rfl hl (by decide) rfl (fun ls hl => ?_)
  refine lv_iconst (v := nI 0) hx hb dX4_wordsWithValue_2 (by decide +kernel) ?_
  refine lv_istore_n (lv' := [(2, .int (nI 0)), (1, .int (nI 0)), (0, .ref (r 0))]) hx hb dX4_wordsWithValue_3 rfl hl (by decide) rfl (fun ls hl => ?_)
  refine o_loop (σ := Nat) (fun (i : Nat) => i ≤ 16) (fun (i : Nat) => [(2, .int (nI i)), (1, .int (nI (cR kn 0 i))), (0, .ref (r 0))]) (fun (i : Nat) => 16 - i) 0 (Nat.zero_le _) (lv_sub hl [0, 1, 2] rfl) ?_
  rintro i ls h1 hl ih4
  have hl : lv_has ls 3 [(2, .int (nI i)), (1, .int (nI (cR kn 0 i))), (0, .ref (r 0))] := hl
  refine lv_iload_n hx hb dX4_wordsWithValue_4 rfl (lv_at hl 0 rfl) ?_
  refine lv_bipush (v := nI 16) hx hb dX4_wordsWithValue_5 (by decide +kernel) ?_
  refine o_icmp_ge (tgt := 28) hx hb dX4_wordsWithValue_7 (by decide) (by omega) (by omega) (fun c7 => ?_) (fun c7 => ?_)
  · obtain rfl : i = 16 := by omega
    refine lv_iload_n hx hb dX4_wordsWithValue_28 rfl (lv_at hl 1 rfl) ?_
    exact o_endI hx hb hr hlocks dX4_wordsWithValue_29 rfl
  · refine lv_aload_n hx hb dX4_wordsWithValue_10 rfl (lv_at hl 2 rfl) ?_
    refine va_get (D := G) (ci := 3) (v := .ref (r 2)) (C := RX4) (T := TX4) (N := 4) hx hb hts iX4_wordsWithValue_X4 hown hK hP 0 rfl rfl 2 (by decide) (hts (.fieldLink RX4 15 "NailedOrders$Reckoning" "known" "[Z") (by decide +kernel)) (fun _ h9 => h9) rfl dX4_wordsWithValue_11 ?_
    refine lv_iload_n hx hb dX4_wordsWithValue_14 rfl (lv_at hl 0 rfl) ?_
    refine o_zald hx hb hK hP 2 2 rfl rfl i (by omega) (by decide) dX4_wordsWithValue_15 ?_
    refine o_ifb_eq (tgt := 22) hx hb dX4_wordsWithValue_16 (by decide) (fun c16 => ?_) (fun c16 => ?_)
    · refine lv_iinc (v := nI (i + 1)) (lv' := [(2, .int (nI (i + 1))), (1, .int (nI (cR kn 0 i))), (0, .ref (r 0))]) hx hb dX4_wordsWithValue_22 hl (k := 0) rfl (nI_1 i) (by decide) rfl (fun ls hl => ?_)
      refine lv_goto (tgt := 4) hx hb dX4_wordsWithValue_25 (by decide) ?_
      refine ih4 (i + 1) ls ?_ ?_ ?_
      · omega
      · show lv_has ls 3 [(2, .int (nI (i + 1))), (1, .int (nI (cR kn 0 (i + 1)))), (0, .ref (r 0))]
        rw [cZ_f (p := kn) (j := i) (c16)]
        exact lv_sub hl [0, 1, 2] rfl
      · omega
    · refine lv_iinc (v := nI (cR kn 0 i + 1)) (lv' := [(1, .int (nI (cR kn 0 i + 1))), (2, .int (nI i)), (0, .ref (r 0))]) hx hb dX4_wordsWithValue_19 hl (k := 1) rfl (nI_1 (cR kn 0 i)) (by decide) rfl (fun ls hl => ?_)
      refine lv_iinc (v := nI (i + 1)) (lv' := [(2, .int (nI (i + 1))), (1, .int (nI (cR kn 0 i + 1))), (0, .ref (r 0))]) hx hb dX4_wordsWithValue_22 hl (k := 1) rfl (nI_1 i) (by decide) rfl (fun ls hl => ?_)
      refine lv_goto (tgt := 4) hx hb dX4_wordsWithValue_25 (by decide) ?_
      refine ih4 (i + 1) ls ?_ ?_ ?_
      · omega
      · show lv_has ls 3 [(2, .int (nI (i + 1))), (1, .int (nI (cR kn 0 (i + 1)))), (0, .ref (r 0))]
        rw [cZ_t (p := kn) (j := i) (c16)]
        exact lv_sub hl [0, 1, 2] rfl
      · omega

set_option maxRecDepth 100000 in
theorem iX4_wordsRuledWithoutValue_X4 : ∀ w ∈ u_ws RX4 TX4 4, w ∈ wsX4_wordsRuledWithoutValue := by decide +kernel
set_option maxHeartbeats 4000000 in
set_option maxRecDepth 100000 in
theorem kX4_wordsRuledWithoutValue (l : Launch) (G : va_G) (cy : Nat → ClassId) {H0 : Heap} {q r : Nat → Nat} {M : MT} {ru : Nat → Option Nat} {kn : Nat → Bool} {va : Nat → UInt32} (hW : WB M) (hF : WF M) (hV : ∀ w, Fin32 (va w)) (hR : ∀ w o, ru w = some o → o < mN M) (hP : va_P G vwCl (wRe cy r (q 0) ru kn va ++ wDo cy q M) H0) : MetI l yX4_wordsRuledWithoutValue wsX4_wordsRuledWithoutValue 0 0 [.ref (r 0)] H0 G cy (nI (cR (rwB ru kn) 0 16)) := by
  refine Met.ofW (cc := cX4_wordsRuledWithoutValue) (maxL := 3) (ret := (some .int)) (by decide) rfl ?_
  intro p e s m args below meth c s₁ B hml hv
  obtain ⟨rfl, hH, hK⟩ := hv
  subst hH
  have hx := B.exec
  have hb := B.bytes
  have hr := B.returns
  have hts := atoms_spec (ws := wsX4_wordsRuledWithoutValue) B.pre
  have hown : s.vm.findClass RX4 = some m.cls := findClass_of_methodNamed B.named
  have hlocks := B.notSynchronized
  have hl := lv_entry ([.ref (r 0)]) (n := 3) (Nat.le_of_ble_eq_true rfl)
  rw [lg_entry_eq]
  generalize (lg_sl ([.ref (r 0)]) ++ List.replicate (3 - (lg_sl ([.ref (r 0)])).length) Slot.unset).toArray = ls at hl ⊢
  have hl : lv_has ls 3 [(0, .ref (r 0))] := hl
  obtain ⟨bP, bN, bR, bO, bW, bL, bF⟩ := id hW
  have hPd := hP.sub (ws' := wDo cy q M) [4, 5, 6, 7, 8, 9, 10, 11, 12] rfl
  refine lv_iconst (v := nI 0) hx hb dX4_wordsRuledWithoutValue_0 (by decide +kernel) ?_
  refine lv_istore_n (lv' := [(1, .int (nI 0)), (0, .ref (r 0))]) hx hb dX4_wordsRuledWithoutValue_1 rfl hl (by decide) rfl (fun ls hl => ?_)
  refine lv_iconst (v := nI 0) hx hb dX4_wordsRuledWithoutValue_2 (by decide +kernel) ?_
  refine lv_istore_n (lv' := [(2, .int (nI 0)), (1, .int (nI 0)), (0, .ref (r 0))]) hx hb dX4_wordsRuledWithoutValue_3 rfl hl (by decide) rfl (fun ls hl => ?_)
  refine o_loop (σ := Nat) (fun (i : Nat) => i ≤ 16) (fun (i : Nat) => [(2, .int (nI i)), (1, .int (nI (cR (rwB ru kn) 0 i))), (0, .ref (r 0))]) (fun (i : Nat) => 16 - i) 0 (Nat.zero_le _) (lv_sub hl [0, 1, 2] rfl) ?_
  rintro i ls h1 hl ih4
  have hl : lv_has ls 3 [(2, .int (nI i)), (1, .int (nI (cR (rwB ru kn) 0 i))), (0, .ref (r 0))] := hl
  refine lv_iload_n hx hb dX4_wordsRuledWithoutValue_4 rfl (lv_at hl 0 rfl) ?_
  refine lv_bipush (v := nI 16) hx hb dX4_wordsRuledWithoutValue_5 (by decide +kernel) ?_
  refine o_icmp_ge (tgt := 37) hx hb dX4_wordsRuledWithoutValue_7 (by decide) (by omega) (by omega) (fun c7 => ?_) (fun c7 => ?_)
  · obtain rfl : i = 16 := by omega
    refine lv_iload_n hx hb dX4_wordsRuledWithoutValue_37 rfl (lv_at hl 1 rfl) ?_
    exact o_endI hx hb hr hlocks dX4_wordsRuledWithoutValue_38 rfl
  · refine lv_aload_n hx hb dX4_wordsRuledWithoutValue_10 rfl (lv_at hl 2 rfl) ?_
    refine va_get (D := G) (ci := 3) (v := .ref (r 1)) (C := RX4) (T := TX4) (N := 4) hx hb hts iX4_wordsRuledWithoutValue_X4 hown hK hP 0 rfl rfl 1 (by decide) (hts (.fieldLink RX4 9 "NailedOrders$Reckoning" "rulers" "[I") (by decide +kernel)) (fun _ h9 => h9) rfl dX4_wordsRuledWithoutValue_11 ?_
    refine lv_iload_n hx hb dX4_wordsRuledWithoutValue_14 rfl (lv_at hl 0 rfl) ?_
    refine o_iald hx hb hK hP 1 0 rfl rfl i (by omega) (by decide) dX4_wordsRuledWithoutValue_15 ?_
    refine o_lk_lt (tgt := 31) hx hb dX4_wordsRuledWithoutValue_16 (by decide) (fun j hj => by have := hR i j hj; omega) (fun c16 => ?_) (fun c16 => ?_)
    · refine lv_iinc (v := nI (i + 1)) (lv' := [(2, .int (nI (i + 1))), (1, .int (nI (cR (rwB ru kn) 0 i))), (0, .ref (r 0))]) hx hb dX4_wordsRuledWithoutValue_31 hl (k := 0) rfl (nI_1 i) (by decide) rfl (fun ls hl => ?_)
      refine lv_goto (tgt := 4) hx hb dX4_wordsRuledWithoutValue_34 (by decide) ?_
      refine ih4 (i + 1) ls ?_ ?_ ?_
      · omega
      · show lv_has ls 3 [(2, .int (nI (i + 1))), (1, .int (nI (cR (rwB ru kn) 0 (i + 1)))), (0, .ref (r 0))]
        rw [cZ_f (p := (rwB ru kn)) (j := i) (fun z => (rwB_iff.mp z).1 c16)]
        exact lv_sub hl [0, 1, 2] rfl
      · omega
    · obtain ⟨j, hj⟩ := c16
      refine lv_aload_n hx hb dX4_wordsRuledWithoutValue_19 rfl (lv_at hl 2 rfl) ?_
      refine va_get (D := G) (ci := 3) (v := .ref (r 2)) (C := RX4) (T := TX4) (N := 4) hx hb hts iX4_wordsRuledWithoutValue_X4 hown hK hP 0 rfl rfl 2 (by decide) (hts (.fieldLink RX4 15 "NailedOrders$Reckoning" "known" "[Z") (by decide +kernel)) (fun _ h9 => h9) rfl dX4_wordsRuledWithoutValue_20 ?_
      refine lv_iload_n hx hb dX4_wordsRuledWithoutValue_23 rfl (lv_at hl 0 rfl) ?_
      refine o_zald hx hb hK hP 2 2 rfl rfl i (by omega) (by decide) dX4_wordsRuledWithoutValue_24 ?_
      refine o_ifb_ne (tgt := 31) hx hb dX4_wordsRuledWithoutValue_25 (by decide) (fun c25 => ?_) (fun c25 => ?_)
      · refine lv_iinc (v := nI (i + 1)) (lv' := [(2, .int (nI (i + 1))), (1, .int (nI (cR (rwB ru kn) 0 i))), (0, .ref (r 0))]) hx hb dX4_wordsRuledWithoutValue_31 hl (k := 0) rfl (nI_1 i) (by decide) rfl (fun ls hl => ?_)
        refine lv_goto (tgt := 4) hx hb dX4_wordsRuledWithoutValue_34 (by decide) ?_
        refine ih4 (i + 1) ls ?_ ?_ ?_
        · omega
        · show lv_has ls 3 [(2, .int (nI (i + 1))), (1, .int (nI (cR (rwB ru kn) 0 (i + 1)))), (0, .ref (r 0))]
          rw [cZ_f (p := (rwB ru kn)) (j := i) (fun z => (rwB_iff.mp z).2 c25)]
          exact lv_sub hl [0, 1, 2] rfl
        · omega
      · refine lv_iinc (v := nI (cR (rwB ru kn) 0 i + 1)) (lv' := [(1, .int (nI (cR (rwB ru kn) 0 i + 1))), (2, .int (nI i)), (0, .ref (r 0))]) hx hb dX4_wordsRuledWithoutValue_28 hl (k := 1) rfl (nI_1 (cR (rwB ru kn) 0 i)) (by decide) rfl (fun ls hl => ?_)
        refine lv_iinc (v := nI (i + 1)) (lv' := [(2, .int (nI (i + 1))), (1, .int (nI (cR (rwB ru kn) 0 i + 1))), (0, .ref (r 0))]) hx hb dX4_wordsRuledWithoutValue_31 hl (k := 1) rfl (nI_1 i) (by decide) rfl (fun ls hl => ?_)
        refine lv_goto (tgt := 4) hx hb dX4_wordsRuledWithoutValue_34 (by decide) ?_
        refine ih4 (i + 1) ls ?_ ?_ ?_
        · omega
        · show lv_has ls 3 [(2, .int (nI (i + 1))), (1, .int (nI (cR (rwB ru kn) 0 (i + 1)))), (0, .ref (r 0))]
          rw [cZ_t (p := (rwB ru kn)) (j := i) (rwB_iff.mpr ⟨(by rw [hj]; intro z; cases z), c25⟩)]
          exact lv_sub hl [0, 1, 2] rfl
        · omega

set_option maxRecDepth 100000 in
theorem iX4_wordsInConflict_X4 : ∀ w ∈ u_ws RX4 TX4 4, w ∈ wsX4_wordsInConflict := by decide +kernel
set_option maxRecDepth 100000 in
theorem iX4_wordsInConflict_X1 : ∀ w ∈ u_ws RX1 TX1 13, w ∈ wsX4_wordsInConflict := by decide +kernel
set_option maxHeartbeats 4000000 in
set_option maxRecDepth 100000 in
theorem kX4_wordsInConflict (l : Launch) (G : va_G) (cy : Nat → ClassId) {H0 : Heap} {q r : Nat → Nat} {M : MT} {ru : Nat → Option Nat} {kn : Nat → Bool} {va : Nat → UInt32} (hW : WB M) (hF : WF M) (hV : ∀ w, Fin32 (va w)) (hR : ∀ w o, ru w = some o → o < mN M) (hP : va_P G vwCl (wRe cy r (q 0) ru kn va ++ wDo cy q M) H0) : MetI l yX4_wordsInConflict wsX4_wordsInConflict 4 91 [.ref (r 0)] H0 G cy (nI (cR (cfB M ru kn va) 0 16)) := by
  refine Met.ofW (cc := cX4_wordsInConflict) (maxL := 3) (ret := (some .int)) (by decide) rfl ?_
  intro p e s m args below meth c s₁ B hml hv
  obtain ⟨rfl, hH, hK⟩ := hv
  subst hH
  have hx := B.exec
  have hb := B.bytes
  have hr := B.returns
  have hts := atoms_spec (ws := wsX4_wordsInConflict) B.pre
  have hown : s.vm.findClass RX4 = some m.cls := findClass_of_methodNamed B.named
  have hlocks := B.notSynchronized
  have hl := lv_entry ([.ref (r 0)]) (n := 3) (Nat.le_of_ble_eq_true rfl)
  rw [lg_entry_eq]
  generalize (lg_sl ([.ref (r 0)]) ++ List.replicate (3 - (lg_sl ([.ref (r 0)])).length) Slot.unset).toArray = ls at hl ⊢
  have hl : lv_has ls 3 [(0, .ref (r 0))] := hl
  obtain ⟨bP, bN, bR, bO, bW, bL, bF⟩ := id hW
  have hPd := hP.sub (ws' := wDo cy q M) [4, 5, 6, 7, 8, 9, 10, 11, 12] rfl
  refine lv_iconst (v := nI 0) hx hb dX4_wordsInConflict_0 (by decide +kernel) ?_
  refine lv_istore_n (lv' := [(1, .int (nI 0)), (0, .ref (r 0))]) hx hb dX4_wordsInConflict_1 rfl hl (by decide) rfl (fun ls hl => ?_)
  refine lv_iconst (v := nI 0) hx hb dX4_wordsInConflict_2 (by decide +kernel) ?_
  refine lv_istore_n (lv' := [(2, .int (nI 0)), (1, .int (nI 0)), (0, .ref (r 0))]) hx hb dX4_wordsInConflict_3 rfl hl (by decide) rfl (fun ls hl => ?_)
  refine o_loop (σ := Nat) (fun (i : Nat) => i ≤ 16) (fun (i : Nat) => [(2, .int (nI i)), (1, .int (nI (cR (cfB M ru kn va) 0 i))), (0, .ref (r 0))]) (fun (i : Nat) => 16 - i) 0 (Nat.zero_le _) (lv_sub hl [0, 1, 2] rfl) ?_
  rintro i ls h1 hl ih4
  have hl : lv_has ls 3 [(2, .int (nI i)), (1, .int (nI (cR (cfB M ru kn va) 0 i))), (0, .ref (r 0))] := hl
  refine lv_iload_n hx hb dX4_wordsInConflict_4 rfl (lv_at hl 0 rfl) ?_
  refine lv_bipush (v := nI 16) hx hb dX4_wordsInConflict_5 (by decide +kernel) ?_
  refine o_icmp_ge (tgt := 27) hx hb dX4_wordsInConflict_7 (by decide) (by omega) (by omega) (fun c7 => ?_) (fun c7 => ?_)
  · obtain rfl : i = 16 := by omega
    refine lv_iload_n hx hb dX4_wordsInConflict_27 rfl (lv_at hl 1 rfl) ?_
    exact o_endI hx hb hr hlocks dX4_wordsInConflict_28 rfl
  · refine lv_aload_n hx hb dX4_wordsInConflict_10 rfl (lv_at hl 2 rfl) ?_
    refine lv_iload_n hx hb dX4_wordsInConflict_11 rfl (lv_at hl 0 rfl) ?_
    refine o_VI (As := [.int (nI i)]) (rest := []) ⟨hx, hb, hml, hown, hts⟩ (kX4_topmostRival l G cy hW hF hV hR hP i (by omega)) (cwV 1 hts gX4_wordsInConflict_X4_topmostRival rfl rfl rfl (by decide +kernel) ⟨Nat.le_of_ble_eq_true rfl, Nat.le_of_ble_eq_true rfl⟩) hK (va_recv hK hP (ci := 3) (q0 := 0) rfl rfl) rfl hl.1 rfl (Nat.le_of_ble_eq_true rfl) dX4_wordsInConflict_12 ⟨Nat.zero_le _, Nat.zero_le _⟩ ?_
    refine o_lk_lt (tgt := 21) hx hb dX4_wordsInConflict_15 (by decide) (fun j hj => by have := rivOf_lt hj; omega) (fun c15 => ?_) (fun c15 => ?_)
    · refine lv_iinc (v := nI (i + 1)) (lv' := [(2, .int (nI (i + 1))), (1, .int (nI (cR (cfB M ru kn va) 0 i))), (0, .ref (r 0))]) hx hb dX4_wordsInConflict_21 hl (k := 0) rfl (nI_1 i) (by decide) rfl (fun ls hl => ?_)
      refine lv_goto (tgt := 4) hx hb dX4_wordsInConflict_24 (by decide) ?_
      refine ih4 (i + 1) ls ?_ ?_ ?_
      · omega
      · show lv_has ls 3 [(2, .int (nI (i + 1))), (1, .int (nI (cR (cfB M ru kn va) 0 (i + 1)))), (0, .ref (r 0))]
        rw [cZ_f (p := (cfB M ru kn va)) (j := i) (fun z => (cfB_iff.mp z) c15)]
        exact lv_sub hl [0, 1, 2] rfl
      · omega
    · obtain ⟨j, hj⟩ := c15
      refine lv_iinc (v := nI (cR (cfB M ru kn va) 0 i + 1)) (lv' := [(1, .int (nI (cR (cfB M ru kn va) 0 i + 1))), (2, .int (nI i)), (0, .ref (r 0))]) hx hb dX4_wordsInConflict_18 hl (k := 1) rfl (nI_1 (cR (cfB M ru kn va) 0 i)) (by decide) rfl (fun ls hl => ?_)
      refine lv_iinc (v := nI (i + 1)) (lv' := [(2, .int (nI (i + 1))), (1, .int (nI (cR (cfB M ru kn va) 0 i + 1))), (0, .ref (r 0))]) hx hb dX4_wordsInConflict_21 hl (k := 1) rfl (nI_1 i) (by decide) rfl (fun ls hl => ?_)
      refine lv_goto (tgt := 4) hx hb dX4_wordsInConflict_24 (by decide) ?_
      refine ih4 (i + 1) ls ?_ ?_ ?_
      · omega
      · show lv_has ls 3 [(2, .int (nI (i + 1))), (1, .int (nI (cR (cfB M ru kn va) 0 (i + 1)))), (0, .ref (r 0))]
        rw [cZ_t (p := (cfB M ru kn va)) (j := i) (cfB_iff.mpr (by rw [hj]; intro z; cases z))]
        exact lv_sub hl [0, 1, 2] rfl
      · omega
