set_option maxRecDepth 100000 in
theorem iX7_hangsAt_X7 : ∀ w ∈ u_ws RX7 TX7 9, w ∈ wsX7_hangsAt := by decide +kernel
set_option maxHeartbeats 4000000 in
set_option maxRecDepth 100000 in
theorem kX7_hangsAt (l : Launch) (G : va_G) (cy : Nat → ClassId) {H0 : Heap} {z : Nat} {q h x r y : Nat → Nat} {M : MT} (hW : WB M) (hP : va_P G vwCl ([oSy z q h x r y] ++ wDo cy q M) H0) (w pl : Nat) (hw : w < 16) (hpl : pl < 2 ^ 31) : MetI l yX7_hangsAt wsX7_hangsAt 3 67 [.ref z, .int (nI w), .int (nI pl)] H0 G cy (hAt (hfB M w) (mN M) pl) := by
  refine Met.ofW (cc := cX7_hangsAt) (maxL := 3) (ret := (some .int)) (by decide) rfl ?_
  intro p e s m args below meth c s₁ B hml hv
  obtain ⟨rfl, hH, hK⟩ := hv
  subst hH
  have hx := B.exec
  have hb := B.bytes
  have hr := B.returns
  have hts := atoms_spec (ws := wsX7_hangsAt) B.pre
  have hown : s.vm.findClass RX7 = some m.cls := findClass_of_methodNamed B.named
  have hlocks := B.notSynchronized
  have hl := lv_entry ([.ref z, .int (nI w), .int (nI pl)]) (n := 3) (Nat.le_of_ble_eq_true rfl)
  rw [lg_entry_eq]
  generalize (lg_sl ([.ref z, .int (nI w), .int (nI pl)]) ++ List.replicate (3 - (lg_sl ([.ref z, .int (nI w), .int (nI pl)])).length) Slot.unset).toArray = ls at hl ⊢
  have hl : lv_has ls 3 [(0, .ref z), (1, .int (nI w)), (2, .int (nI pl))] := hl
  obtain ⟨bP, bN, bR, bO, bW, bL, bF⟩ := id hW
  have hPd := hP.sub (ws' := wDo cy q M) [1, 2, 3, 4, 5, 6, 7, 8, 9] rfl
  refine lv_iload_n hx hb dX7_hangsAt_0 rfl (lv_at hl 1 rfl) ?_
  refine o_SI (As := [.int (nI w)]) (rest := []) ⟨hx, hb, hml, hown, hts⟩ (kX7_isWord l G cy w (by omega)) (va_cwS 1 hts gX7_hangsAt_X7_isWord rfl rfl rfl (by decide +kernel) ⟨Nat.le_of_ble_eq_true rfl, Nat.le_of_ble_eq_true rfl⟩) hK rfl hl.1 rfl (Nat.le_of_ble_eq_true rfl) dX7_hangsAt_1 ⟨Nat.zero_le _, Nat.zero_le _⟩ ?_
  refine o_ifb_ne (tgt := 9) hx hb dX7_hangsAt_4 (by decide) (fun c4 => ?_) (fun c4 => ?_)
  · refine lv_iload_n hx hb dX7_hangsAt_9 rfl (lv_at hl 2 rfl) ?_
    refine o_if_ge (tgt := 16) hx hb dX7_hangsAt_10 (by decide) (by omega) ?_
    refine lv_aload_n hx hb dX7_hangsAt_16 rfl (lv_at hl 0 rfl) ?_
    refine va_get (D := G) (ci := 6) (v := .ref (q 0)) (C := RX7) (T := TX7) (N := 9) hx hb hts iX7_hangsAt_X7 hown hK hP 0 rfl rfl 0 (by decide) (hts (.fieldLink RX7 10 "NailedOrders" "door" "LNailedOrders$Door;") (by decide +kernel)) (fun _ h9 => h9) rfl dX7_hangsAt_17 ?_
    refine lv_iload_n hx hb dX7_hangsAt_20 rfl (lv_at hl 1 rfl) ?_
    refine lv_iload_n hx hb dX7_hangsAt_21 rfl (lv_at hl 2 rfl) ?_
    refine o_VI (As := [.int (nI w), .int (nI pl)]) (rest := []) ⟨hx, hb, hml, hown, hts⟩ (kX1_hangingAt l G cy hW hPd w pl hw hpl) (cwV 2 hts gX7_hangsAt_X1_hangingAt rfl rfl rfl (by decide +kernel) ⟨Nat.le_of_ble_eq_true rfl, Nat.le_of_ble_eq_true rfl⟩) hK (va_recv hK hP (ci := 0) (q0 := 1) rfl rfl) rfl hl.1 rfl (Nat.le_of_ble_eq_true rfl) dX7_hangsAt_22 ⟨Nat.zero_le _, Nat.zero_le _⟩ ?_
    exact o_endI hx hb hr hlocks dX7_hangsAt_25 rfl
  · exact absurd hw c4

set_option maxHeartbeats 4000000 in
set_option maxRecDepth 100000 in
theorem kX7_hangsAt_b (l : Launch) (G : va_G) (cy : Nat → ClassId) {H0 : Heap} {z : Nat} {q h x r y : Nat → Nat} {M : MT} (hW : WB M) (hP : va_P G vwCl ([oSy z q h x r y] ++ wDo cy q M) H0) (w : Nat) (hw : w < 16) : MetI l yX7_hangsAt wsX7_hangsAt 1 20 [.ref z, .int (nI w), .int ((-1))] H0 G cy ((-2)) := by
  refine Met.ofW (cc := cX7_hangsAt) (maxL := 3) (ret := (some .int)) (by decide) rfl ?_
  intro p e s m args below meth c s₁ B hml hv
  obtain ⟨rfl, hH, hK⟩ := hv
  subst hH
  have hx := B.exec
  have hb := B.bytes
  have hr := B.returns
  have hts := atoms_spec (ws := wsX7_hangsAt) B.pre
  have hown : s.vm.findClass RX7 = some m.cls := findClass_of_methodNamed B.named
  have hlocks := B.notSynchronized
  have hl := lv_entry ([.ref z, .int (nI w), .int ((-1))]) (n := 3) (Nat.le_of_ble_eq_true rfl)
  rw [lg_entry_eq]
  generalize (lg_sl ([.ref z, .int (nI w), .int ((-1))]) ++ List.replicate (3 - (lg_sl ([.ref z, .int (nI w), .int ((-1))])).length) Slot.unset).toArray = ls at hl ⊢
  have hl : lv_has ls 3 [(0, .ref z), (1, .int (nI w)), (2, .int ((-1)))] := hl
  obtain ⟨bP, bN, bR, bO, bW, bL, bF⟩ := id hW
  have hPd := hP.sub (ws' := wDo cy q M) [1, 2, 3, 4, 5, 6, 7, 8, 9] rfl
  refine lv_iload_n hx hb dX7_hangsAt_0 rfl (lv_at hl 1 rfl) ?_
  refine o_SI (As := [.int (nI w)]) (rest := []) ⟨hx, hb, hml, hown, hts⟩ (kX7_isWord l G cy w (by omega)) (va_cwS 1 hts gX7_hangsAt_X7_isWord rfl rfl rfl (by decide +kernel) ⟨Nat.le_of_ble_eq_true rfl, Nat.le_of_ble_eq_true rfl⟩) hK rfl hl.1 rfl (Nat.le_of_ble_eq_true rfl) dX7_hangsAt_1 ⟨Nat.zero_le _, Nat.zero_le _⟩ ?_
  refine o_ifb_ne (tgt := 9) hx hb dX7_hangsAt_4 (by decide) (fun c4 => ?_) (fun c4 => ?_)
  · refine lv_iload_n hx hb dX7_hangsAt_9 rfl (lv_at hl 2 rfl) ?_
    refine lv_if_ge (tgt := 16) hx hb dX7_hangsAt_10 (by decide) (fun c10 => ?_) (fun c10 => ?_)
    · exact absurd c10 (by decide)
    · refine lv_bipush (v := (-2)) hx hb dX7_hangsAt_13 (by decide +kernel) ?_
      exact o_endI hx hb hr hlocks dX7_hangsAt_15 rfl
  · exact absurd hw c4

set_option maxHeartbeats 4000000 in
set_option maxRecDepth 100000 in
theorem kX7_word_u (l : Launch) (G : va_G) (cy : Nat → ClassId) {H0 : Heap} {z : Nat} {q h x r y : Nat → Nat} {M : MT} (hW : WB M) (hP : va_P G vwCl ([oSy z q h x r y] ++ wDo cy q M) H0) (w o : Nat) (hw : ¬ w < 16) (hw2 : w < 2 ^ 31) : MetI l yX7_word wsX7_word 1 20 [.ref z, .int (nI w), .int (nI o)] H0 G cy ((-1)) := by
  refine Met.ofW (cc := cX7_word) (maxL := 3) (ret := (some .int)) (by decide) rfl ?_
  intro p e s m args below meth c s₁ B hml hv
  obtain ⟨rfl, hH, hK⟩ := hv
  subst hH
  have hx := B.exec
  have hb := B.bytes
  have hr := B.returns
  have hts := atoms_spec (ws := wsX7_word) B.pre
  have hown : s.vm.findClass RX7 = some m.cls := findClass_of_methodNamed B.named
  have hlocks := B.notSynchronized
  have hl := lv_entry ([.ref z, .int (nI w), .int (nI o)]) (n := 3) (Nat.le_of_ble_eq_true rfl)
  rw [lg_entry_eq]
  generalize (lg_sl ([.ref z, .int (nI w), .int (nI o)]) ++ List.replicate (3 - (lg_sl ([.ref z, .int (nI w), .int (nI o)])).length) Slot.unset).toArray = ls at hl ⊢
  have hl : lv_has ls 3 [(0, .ref z), (1, .int (nI w)), (2, .int (nI o))] := hl
  obtain ⟨bP, bN, bR, bO, bW, bL, bF⟩ := id hW
  have hPd := hP.sub (ws' := wDo cy q M) [1, 2, 3, 4, 5, 6, 7, 8, 9] rfl
  refine lv_iload_n hx hb dX7_word_0 rfl (lv_at hl 1 rfl) ?_
  refine o_SI (As := [.int (nI w)]) (rest := []) ⟨hx, hb, hml, hown, hts⟩ (kX7_isWord l G cy w (by omega)) (va_cwS 1 hts gX7_word_X7_isWord rfl rfl rfl (by decide +kernel) ⟨Nat.le_of_ble_eq_true rfl, Nat.le_of_ble_eq_true rfl⟩) hK rfl hl.1 rfl (Nat.le_of_ble_eq_true rfl) dX7_word_1 ⟨Nat.zero_le _, Nat.zero_le _⟩ ?_
  refine o_ifb_ne (tgt := 9) hx hb dX7_word_4 (by decide) (fun c4 => ?_) (fun c4 => ?_)
  · exact absurd c4 hw
  · refine lv_iconst (v := (-1)) hx hb dX7_word_7 (by decide +kernel) ?_
    exact o_endI hx hb hr hlocks dX7_word_8 rfl

set_option maxRecDepth 100000 in
theorem iX7_order_X7 : ∀ w ∈ u_ws RX7 TX7 9, w ∈ wsX7_order := by decide +kernel
set_option maxHeartbeats 4000000 in
set_option maxRecDepth 100000 in
theorem kX7_order_u (l : Launch) (G : va_G) (cy : Nat → ClassId) {H0 : Heap} {z : Nat} {q h x r y : Nat → Nat} {M : MT} (hW : WB M) (hP : va_P G vwCl ([oSy z q h x r y] ++ wDo cy q M) H0) (k o : Nat) (hk : ¬ k < mN M) (hk2 : k < 2 ^ 31) : MetI l yX7_order wsX7_order 1 21 [.ref z, .int (nI k), .int (nI o)] H0 G cy ((-1)) := by
  refine Met.ofW (cc := cX7_order) (maxL := 3) (ret := (some .int)) (by decide) rfl ?_
  intro p e s m args below meth c s₁ B hml hv
  obtain ⟨rfl, hH, hK⟩ := hv
  subst hH
  have hx := B.exec
  have hb := B.bytes
  have hr := B.returns
  have hts := atoms_spec (ws := wsX7_order) B.pre
  have hown : s.vm.findClass RX7 = some m.cls := findClass_of_methodNamed B.named
  have hlocks := B.notSynchronized
  have hl := lv_entry ([.ref z, .int (nI k), .int (nI o)]) (n := 3) (Nat.le_of_ble_eq_true rfl)
  rw [lg_entry_eq]
  generalize (lg_sl ([.ref z, .int (nI k), .int (nI o)]) ++ List.replicate (3 - (lg_sl ([.ref z, .int (nI k), .int (nI o)])).length) Slot.unset).toArray = ls at hl ⊢
  have hl : lv_has ls 3 [(0, .ref z), (1, .int (nI k)), (2, .int (nI o))] := hl
  obtain ⟨bP, bN, bR, bO, bW, bL, bF⟩ := id hW
  have hPd := hP.sub (ws' := wDo cy q M) [1, 2, 3, 4, 5, 6, 7, 8, 9] rfl
  refine lv_aload_n hx hb dX7_order_0 rfl (lv_at hl 0 rfl) ?_
  refine va_get (D := G) (ci := 6) (v := .ref (q 0)) (C := RX7) (T := TX7) (N := 9) hx hb hts iX7_order_X7 hown hK hP 0 rfl rfl 0 (by decide) (hts (.fieldLink RX7 10 "NailedOrders" "door" "LNailedOrders$Door;") (by decide +kernel)) (fun _ h9 => h9) rfl dX7_order_1 ?_
  refine lv_iload_n hx hb dX7_order_4 rfl (lv_at hl 1 rfl) ?_
  refine o_VI (As := [.int (nI k)]) (rest := []) ⟨hx, hb, hml, hown, hts⟩ (kX1_isOrder l G cy hW hPd k (by omega)) (cwV 1 hts gX7_order_X1_isOrder rfl rfl rfl (by decide +kernel) ⟨Nat.le_of_ble_eq_true rfl, Nat.le_of_ble_eq_true rfl⟩) hK (va_recv hK hP (ci := 0) (q0 := 1) rfl rfl) rfl hl.1 rfl (Nat.le_of_ble_eq_true rfl) dX7_order_5 ⟨Nat.zero_le _, Nat.zero_le _⟩ ?_
  refine o_ifb_ne (tgt := 13) hx hb dX7_order_8 (by decide) (fun c8 => ?_) (fun c8 => ?_)
  · exact absurd c8 hk
  · refine lv_iconst (v := (-1)) hx hb dX7_order_11 (by decide +kernel) ?_
    exact o_endI hx hb hr hlocks dX7_order_12 rfl

set_option maxHeartbeats 4000000 in
set_option maxRecDepth 100000 in
theorem kX7_order_b (l : Launch) (G : va_G) (cy : Nat → ClassId) {H0 : Heap} {z : Nat} {q h x r y : Nat → Nat} {M : MT} (hW : WB M) (hP : va_P G vwCl ([oSy z q h x r y] ++ wDo cy q M) H0) (k : Nat) (hk : k < mN M) : MetI l yX7_order wsX7_order 1 21 [.ref z, .int (nI k), .int (nI 8)] H0 G cy ((-2)) := by
  refine Met.ofW (cc := cX7_order) (maxL := 3) (ret := (some .int)) (by decide) rfl ?_
  intro p e s m args below meth c s₁ B hml hv
  obtain ⟨rfl, hH, hK⟩ := hv
  subst hH
  have hx := B.exec
  have hb := B.bytes
  have hr := B.returns
  have hts := atoms_spec (ws := wsX7_order) B.pre
  have hown : s.vm.findClass RX7 = some m.cls := findClass_of_methodNamed B.named
  have hlocks := B.notSynchronized
  have hl := lv_entry ([.ref z, .int (nI k), .int (nI 8)]) (n := 3) (Nat.le_of_ble_eq_true rfl)
  rw [lg_entry_eq]
  generalize (lg_sl ([.ref z, .int (nI k), .int (nI 8)]) ++ List.replicate (3 - (lg_sl ([.ref z, .int (nI k), .int (nI 8)])).length) Slot.unset).toArray = ls at hl ⊢
  have hl : lv_has ls 3 [(0, .ref z), (1, .int (nI k)), (2, .int (nI 8))] := hl
  obtain ⟨bP, bN, bR, bO, bW, bL, bF⟩ := id hW
  have hPd := hP.sub (ws' := wDo cy q M) [1, 2, 3, 4, 5, 6, 7, 8, 9] rfl
  refine lv_aload_n hx hb dX7_order_0 rfl (lv_at hl 0 rfl) ?_
  refine va_get (D := G) (ci := 6) (v := .ref (q 0)) (C := RX7) (T := TX7) (N := 9) hx hb hts iX7_order_X7 hown hK hP 0 rfl rfl 0 (by decide) (hts (.fieldLink RX7 10 "NailedOrders" "door" "LNailedOrders$Door;") (by decide +kernel)) (fun _ h9 => h9) rfl dX7_order_1 ?_
  refine lv_iload_n hx hb dX7_order_4 rfl (lv_at hl 1 rfl) ?_
  refine o_VI (As := [.int (nI k)]) (rest := []) ⟨hx, hb, hml, hown, hts⟩ (kX1_isOrder l G cy hW hPd k (by omega)) (cwV 1 hts gX7_order_X1_isOrder rfl rfl rfl (by decide +kernel) ⟨Nat.le_of_ble_eq_true rfl, Nat.le_of_ble_eq_true rfl⟩) hK (va_recv hK hP (ci := 0) (q0 := 1) rfl rfl) rfl hl.1 rfl (Nat.le_of_ble_eq_true rfl) dX7_order_5 ⟨Nat.zero_le _, Nat.zero_le _⟩ ?_
  refine o_ifb_ne (tgt := 13) hx hb dX7_order_8 (by decide) (fun c8 => ?_) (fun c8 => ?_)
  · refine lv_iload_n hx hb dX7_order_13 rfl (lv_at hl 2 rfl) ?_
    refine lv_tableOut (x := nI 8) (tgt := 170) hx hb dX7_order_14 (by decide +kernel) (by decide) ?_
    refine lv_bipush (v := (-2)) hx hb dX7_order_170 (by decide +kernel) ?_
    exact o_endI hx hb hr hlocks dX7_order_172 rfl
  · exact absurd hk c8

set_option maxRecDepth 100000 in
theorem iX7_order_X1 : ∀ w ∈ u_ws RX1 TX1 13, w ∈ wsX7_order := by decide +kernel
set_option maxHeartbeats 4000000 in
set_option maxRecDepth 100000 in
theorem kX7_order_0 (l : Launch) (G : va_G) (cy : Nat → ClassId) {H0 : Heap} {z : Nat} {q h x r y : Nat → Nat} {M : MT} (hW : WB M) (hP : va_P G vwCl ([oSy z q h x r y] ++ wDo cy q M) H0) (k : Nat) (hk : k < mN M) : MetI l yX7_order wsX7_order 1 21 [.ref z, .int (nI k), .int (nI 0)] H0 G cy (nI (mO M k)) := by
  refine Met.ofW (cc := cX7_order) (maxL := 3) (ret := (some .int)) (by decide) rfl ?_
  intro p e s m args below meth c s₁ B hml hv
  obtain ⟨rfl, hH, hK⟩ := hv
  subst hH
  have hx := B.exec
  have hb := B.bytes
  have hr := B.returns
  have hts := atoms_spec (ws := wsX7_order) B.pre
  have hown : s.vm.findClass RX7 = some m.cls := findClass_of_methodNamed B.named
  have hlocks := B.notSynchronized
  have hl := lv_entry ([.ref z, .int (nI k), .int (nI 0)]) (n := 3) (Nat.le_of_ble_eq_true rfl)
  rw [lg_entry_eq]
  generalize (lg_sl ([.ref z, .int (nI k), .int (nI 0)]) ++ List.replicate (3 - (lg_sl ([.ref z, .int (nI k), .int (nI 0)])).length) Slot.unset).toArray = ls at hl ⊢
  have hl : lv_has ls 3 [(0, .ref z), (1, .int (nI k)), (2, .int (nI 0))] := hl
  obtain ⟨bP, bN, bR, bO, bW, bL, bF⟩ := id hW
  have hPd := hP.sub (ws' := wDo cy q M) [1, 2, 3, 4, 5, 6, 7, 8, 9] rfl
  refine lv_aload_n hx hb dX7_order_0 rfl (lv_at hl 0 rfl) ?_
  refine va_get (D := G) (ci := 6) (v := .ref (q 0)) (C := RX7) (T := TX7) (N := 9) hx hb hts iX7_order_X7 hown hK hP 0 rfl rfl 0 (by decide) (hts (.fieldLink RX7 10 "NailedOrders" "door" "LNailedOrders$Door;") (by decide +kernel)) (fun _ h9 => h9) rfl dX7_order_1 ?_
  refine lv_iload_n hx hb dX7_order_4 rfl (lv_at hl 1 rfl) ?_
  refine o_VI (As := [.int (nI k)]) (rest := []) ⟨hx, hb, hml, hown, hts⟩ (kX1_isOrder l G cy hW hPd k (by omega)) (cwV 1 hts gX7_order_X1_isOrder rfl rfl rfl (by decide +kernel) ⟨Nat.le_of_ble_eq_true rfl, Nat.le_of_ble_eq_true rfl⟩) hK (va_recv hK hP (ci := 0) (q0 := 1) rfl rfl) rfl hl.1 rfl (Nat.le_of_ble_eq_true rfl) dX7_order_5 ⟨Nat.zero_le _, Nat.zero_le _⟩ ?_
  refine o_ifb_ne (tgt := 13) hx hb dX7_order_8 (by decide) (fun c8 => ?_) (fun c8 => ?_)
  · refine lv_iload_n hx hb dX7_order_13 rfl (lv_at hl 2 rfl) ?_
    refine lv_tableIn (x := nI 0) (off := 46) (tgt := 60) hx hb dX7_order_14 (by decide +kernel) (by decide +kernel) (by decide +kernel) (by decide) ?_
    refine lv_aload_n hx hb dX7_order_60 rfl (lv_at hl 0 rfl) ?_
    refine va_get (D := G) (ci := 6) (v := .ref (q 0)) (C := RX7) (T := TX7) (N := 9) hx hb hts iX7_order_X7 hown hK hP 0 rfl rfl 0 (by decide) (hts (.fieldLink RX7 10 "NailedOrders" "door" "LNailedOrders$Door;") (by decide +kernel)) (fun _ h9 => h9) rfl dX7_order_61 ?_
    refine va_get (D := G) (ci := 0) (v := .ref (q 6)) (C := RX1) (T := TX1) (N := 13) hx hb hts iX7_order_X1 hown hK hP 1 rfl rfl 6 (by decide) (hts (.fieldLink RX7 228 "NailedOrders$Door" "owners" "[I") (by decide +kernel)) (fun _ h9 => h9) rfl dX7_order_64 ?_
    refine lv_iload_n hx hb dX7_order_67 rfl (lv_at hl 1 rfl) ?_
    refine o_iald hx hb hK hP 3 0 rfl rfl k (by omega) (by decide) dX7_order_68 ?_
    exact o_endI hx hb hr hlocks dX7_order_69 rfl
  · exact absurd hk c8

set_option maxHeartbeats 4000000 in
set_option maxRecDepth 100000 in
theorem kX7_order_1 (l : Launch) (G : va_G) (cy : Nat → ClassId) {H0 : Heap} {z : Nat} {q h x r y : Nat → Nat} {M : MT} (hW : WB M) (hP : va_P G vwCl ([oSy z q h x r y] ++ wDo cy q M) H0) (k : Nat) (hk : k < mN M) : MetI l yX7_order wsX7_order 1 21 [.ref z, .int (nI k), .int (nI 1)] H0 G cy (nI (mW M k)) := by
  refine Met.ofW (cc := cX7_order) (maxL := 3) (ret := (some .int)) (by decide) rfl ?_
  intro p e s m args below meth c s₁ B hml hv
  obtain ⟨rfl, hH, hK⟩ := hv
  subst hH
  have hx := B.exec
  have hb := B.bytes
  have hr := B.returns
  have hts := atoms_spec (ws := wsX7_order) B.pre
  have hown : s.vm.findClass RX7 = some m.cls := findClass_of_methodNamed B.named
  have hlocks := B.notSynchronized
  have hl := lv_entry ([.ref z, .int (nI k), .int (nI 1)]) (n := 3) (Nat.le_of_ble_eq_true rfl)
  rw [lg_entry_eq]
  generalize (lg_sl ([.ref z, .int (nI k), .int (nI 1)]) ++ List.replicate (3 - (lg_sl ([.ref z, .int (nI k), .int (nI 1)])).length) Slot.unset).toArray = ls at hl ⊢
  have hl : lv_has ls 3 [(0, .ref z), (1, .int (nI k)), (2, .int (nI 1))] := hl
  obtain ⟨bP, bN, bR, bO, bW, bL, bF⟩ := id hW
  have hPd := hP.sub (ws' := wDo cy q M) [1, 2, 3, 4, 5, 6, 7, 8, 9] rfl
  refine lv_aload_n hx hb dX7_order_0 rfl (lv_at hl 0 rfl) ?_
  refine va_get (D := G) (ci := 6) (v := .ref (q 0)) (C := RX7) (T := TX7) (N := 9) hx hb hts iX7_order_X7 hown hK hP 0 rfl rfl 0 (by decide) (hts (.fieldLink RX7 10 "NailedOrders" "door" "LNailedOrders$Door;") (by decide +kernel)) (fun _ h9 => h9) rfl dX7_order_1 ?_
  refine lv_iload_n hx hb dX7_order_4 rfl (lv_at hl 1 rfl) ?_
  refine o_VI (As := [.int (nI k)]) (rest := []) ⟨hx, hb, hml, hown, hts⟩ (kX1_isOrder l G cy hW hPd k (by omega)) (cwV 1 hts gX7_order_X1_isOrder rfl rfl rfl (by decide +kernel) ⟨Nat.le_of_ble_eq_true rfl, Nat.le_of_ble_eq_true rfl⟩) hK (va_recv hK hP (ci := 0) (q0 := 1) rfl rfl) rfl hl.1 rfl (Nat.le_of_ble_eq_true rfl) dX7_order_5 ⟨Nat.zero_le _, Nat.zero_le _⟩ ?_
  refine o_ifb_ne (tgt := 13) hx hb dX7_order_8 (by decide) (fun c8 => ?_) (fun c8 => ?_)
  · refine lv_iload_n hx hb dX7_order_13 rfl (lv_at hl 2 rfl) ?_
    refine lv_tableIn (x := nI 1) (off := 56) (tgt := 70) hx hb dX7_order_14 (by decide +kernel) (by decide +kernel) (by decide +kernel) (by decide) ?_
    refine lv_aload_n hx hb dX7_order_70 rfl (lv_at hl 0 rfl) ?_
    refine va_get (D := G) (ci := 6) (v := .ref (q 0)) (C := RX7) (T := TX7) (N := 9) hx hb hts iX7_order_X7 hown hK hP 0 rfl rfl 0 (by decide) (hts (.fieldLink RX7 10 "NailedOrders" "door" "LNailedOrders$Door;") (by decide +kernel)) (fun _ h9 => h9) rfl dX7_order_71 ?_
    refine va_get (D := G) (ci := 0) (v := .ref (q 7)) (C := RX1) (T := TX1) (N := 13) hx hb hts iX7_order_X1 hown hK hP 1 rfl rfl 7 (by decide) (hts (.fieldLink RX7 128 "NailedOrders$Door" "words" "[I") (by decide +kernel)) (fun _ h9 => h9) rfl dX7_order_74 ?_
    refine lv_iload_n hx hb dX7_order_77 rfl (lv_at hl 1 rfl) ?_
    refine o_iald hx hb hK hP 4 0 rfl rfl k (by omega) (by decide) dX7_order_78 ?_
    exact o_endI hx hb hr hlocks dX7_order_79 rfl
  · exact absurd hk c8

set_option maxHeartbeats 4000000 in
set_option maxRecDepth 100000 in
theorem kX7_order_2 (l : Launch) (G : va_G) (cy : Nat → ClassId) {H0 : Heap} {z : Nat} {q h x r y : Nat → Nat} {M : MT} (hW : WB M) (hP : va_P G vwCl ([oSy z q h x r y] ++ wDo cy q M) H0) (k : Nat) (hk : k < mN M) : MetI l yX7_order wsX7_order 1 21 [.ref z, .int (nI k), .int (nI 2)] H0 G cy (lkI (mL M k)) := by
  refine Met.ofW (cc := cX7_order) (maxL := 3) (ret := (some .int)) (by decide) rfl ?_
  intro p e s m args below meth c s₁ B hml hv
  obtain ⟨rfl, hH, hK⟩ := hv
  subst hH
  have hx := B.exec
  have hb := B.bytes
  have hr := B.returns
  have hts := atoms_spec (ws := wsX7_order) B.pre
  have hown : s.vm.findClass RX7 = some m.cls := findClass_of_methodNamed B.named
  have hlocks := B.notSynchronized
  have hl := lv_entry ([.ref z, .int (nI k), .int (nI 2)]) (n := 3) (Nat.le_of_ble_eq_true rfl)
  rw [lg_entry_eq]
  generalize (lg_sl ([.ref z, .int (nI k), .int (nI 2)]) ++ List.replicate (3 - (lg_sl ([.ref z, .int (nI k), .int (nI 2)])).length) Slot.unset).toArray = ls at hl ⊢
  have hl : lv_has ls 3 [(0, .ref z), (1, .int (nI k)), (2, .int (nI 2))] := hl
  obtain ⟨bP, bN, bR, bO, bW, bL, bF⟩ := id hW
  have hPd := hP.sub (ws' := wDo cy q M) [1, 2, 3, 4, 5, 6, 7, 8, 9] rfl
  refine lv_aload_n hx hb dX7_order_0 rfl (lv_at hl 0 rfl) ?_
  refine va_get (D := G) (ci := 6) (v := .ref (q 0)) (C := RX7) (T := TX7) (N := 9) hx hb hts iX7_order_X7 hown hK hP 0 rfl rfl 0 (by decide) (hts (.fieldLink RX7 10 "NailedOrders" "door" "LNailedOrders$Door;") (by decide +kernel)) (fun _ h9 => h9) rfl dX7_order_1 ?_
  refine lv_iload_n hx hb dX7_order_4 rfl (lv_at hl 1 rfl) ?_
  refine o_VI (As := [.int (nI k)]) (rest := []) ⟨hx, hb, hml, hown, hts⟩ (kX1_isOrder l G cy hW hPd k (by omega)) (cwV 1 hts gX7_order_X1_isOrder rfl rfl rfl (by decide +kernel) ⟨Nat.le_of_ble_eq_true rfl, Nat.le_of_ble_eq_true rfl⟩) hK (va_recv hK hP (ci := 0) (q0 := 1) rfl rfl) rfl hl.1 rfl (Nat.le_of_ble_eq_true rfl) dX7_order_5 ⟨Nat.zero_le _, Nat.zero_le _⟩ ?_
  refine o_ifb_ne (tgt := 13) hx hb dX7_order_8 (by decide) (fun c8 => ?_) (fun c8 => ?_)
  · refine lv_iload_n hx hb dX7_order_13 rfl (lv_at hl 2 rfl) ?_
    refine lv_tableIn (x := nI 2) (off := 66) (tgt := 80) hx hb dX7_order_14 (by decide +kernel) (by decide +kernel) (by decide +kernel) (by decide) ?_
    refine lv_aload_n hx hb dX7_order_80 rfl (lv_at hl 0 rfl) ?_
    refine va_get (D := G) (ci := 6) (v := .ref (q 0)) (C := RX7) (T := TX7) (N := 9) hx hb hts iX7_order_X7 hown hK hP 0 rfl rfl 0 (by decide) (hts (.fieldLink RX7 10 "NailedOrders" "door" "LNailedOrders$Door;") (by decide +kernel)) (fun _ h9 => h9) rfl dX7_order_81 ?_
    refine va_get (D := G) (ci := 0) (v := .ref (q 8)) (C := RX1) (T := TX1) (N := 13) hx hb hts iX7_order_X1 hown hK hP 1 rfl rfl 8 (by decide) (hts (.fieldLink RX7 231 "NailedOrders$Door" "links" "[I") (by decide +kernel)) (fun _ h9 => h9) rfl dX7_order_84 ?_
    refine lv_iload_n hx hb dX7_order_87 rfl (lv_at hl 1 rfl) ?_
    refine o_iald hx hb hK hP 5 0 rfl rfl k (by omega) (by decide) dX7_order_88 ?_
    exact o_endI hx hb hr hlocks dX7_order_89 rfl
  · exact absurd hk c8

set_option maxHeartbeats 4000000 in
set_option maxRecDepth 100000 in
theorem kX7_order_3 (l : Launch) (G : va_G) (cy : Nat → ClassId) {H0 : Heap} {z : Nat} {q h x r y : Nat → Nat} {M : MT} (hW : WB M) (hP : va_P G vwCl ([oSy z q h x r y] ++ wDo cy q M) H0) (k : Nat) (hk : k < mN M) : MetI l yX7_order wsX7_order 1 21 [.ref z, .int (nI k), .int (nI 3)] H0 G cy (bI (mF M k = 1)) := by
  refine Met.ofW (cc := cX7_order) (maxL := 3) (ret := (some .int)) (by decide) rfl ?_
  intro p e s m args below meth c s₁ B hml hv
  obtain ⟨rfl, hH, hK⟩ := hv
  subst hH
  have hx := B.exec
  have hb := B.bytes
  have hr := B.returns
  have hts := atoms_spec (ws := wsX7_order) B.pre
  have hown : s.vm.findClass RX7 = some m.cls := findClass_of_methodNamed B.named
  have hlocks := B.notSynchronized
  have hl := lv_entry ([.ref z, .int (nI k), .int (nI 3)]) (n := 3) (Nat.le_of_ble_eq_true rfl)
  rw [lg_entry_eq]
  generalize (lg_sl ([.ref z, .int (nI k), .int (nI 3)]) ++ List.replicate (3 - (lg_sl ([.ref z, .int (nI k), .int (nI 3)])).length) Slot.unset).toArray = ls at hl ⊢
  have hl : lv_has ls 3 [(0, .ref z), (1, .int (nI k)), (2, .int (nI 3))] := hl
  obtain ⟨bP, bN, bR, bO, bW, bL, bF⟩ := id hW
  have hPd := hP.sub (ws' := wDo cy q M) [1, 2, 3, 4, 5, 6, 7, 8, 9] rfl
  refine lv_aload_n hx hb dX7_order_0 rfl (lv_at hl 0 rfl) ?_
  refine va_get (D := G) (ci := 6) (v := .ref (q 0)) (C := RX7) (T := TX7) (N := 9) hx hb hts iX7_order_X7 hown hK hP 0 rfl rfl 0 (by decide) (hts (.fieldLink RX7 10 "NailedOrders" "door" "LNailedOrders$Door;") (by decide +kernel)) (fun _ h9 => h9) rfl dX7_order_1 ?_
  refine lv_iload_n hx hb dX7_order_4 rfl (lv_at hl 1 rfl) ?_
  refine o_VI (As := [.int (nI k)]) (rest := []) ⟨hx, hb, hml, hown, hts⟩ (kX1_isOrder l G cy hW hPd k (by omega)) (cwV 1 hts gX7_order_X1_isOrder rfl rfl rfl (by decide +kernel) ⟨Nat.le_of_ble_eq_true rfl, Nat.le_of_ble_eq_true rfl⟩) hK (va_recv hK hP (ci := 0) (q0 := 1) rfl rfl) rfl hl.1 rfl (Nat.le_of_ble_eq_true rfl) dX7_order_5 ⟨Nat.zero_le _, Nat.zero_le _⟩ ?_
  refine o_ifb_ne (tgt := 13) hx hb dX7_order_8 (by decide) (fun c8 => ?_) (fun c8 => ?_)
  · refine lv_iload_n hx hb dX7_order_13 rfl (lv_at hl 2 rfl) ?_
    refine lv_tableIn (x := nI 3) (off := 76) (tgt := 90) hx hb dX7_order_14 (by decide +kernel) (by decide +kernel) (by decide +kernel) (by decide) ?_
    refine lv_aload_n hx hb dX7_order_90 rfl (lv_at hl 0 rfl) ?_
    refine va_get (D := G) (ci := 6) (v := .ref (q 0)) (C := RX7) (T := TX7) (N := 9) hx hb hts iX7_order_X7 hown hK hP 0 rfl rfl 0 (by decide) (hts (.fieldLink RX7 10 "NailedOrders" "door" "LNailedOrders$Door;") (by decide +kernel)) (fun _ h9 => h9) rfl dX7_order_91 ?_
    refine lv_iload_n hx hb dX7_order_94 rfl (lv_at hl 1 rfl) ?_
    refine o_VI (As := [.int (nI k)]) (rest := []) ⟨hx, hb, hml, hown, hts⟩ (kX1_hangs l G cy hW hPd k (by omega)) (cwV 1 hts gX7_order_X1_hangs rfl rfl rfl (by decide +kernel) ⟨Nat.le_of_ble_eq_true rfl, Nat.le_of_ble_eq_true rfl⟩) hK (va_recv hK hP (ci := 0) (q0 := 1) rfl rfl) rfl hl.1 rfl (Nat.le_of_ble_eq_true rfl) dX7_order_95 ⟨Nat.zero_le _, Nat.zero_le _⟩ ?_
    refine o_SI (As := [.int (bI (mF M k = 1))]) (rest := []) ⟨hx, hb, hml, hown, hts⟩ (kX7_oneIf l G cy (mF M k = 1)) (va_cwS 1 hts gX7_order_X7_oneIf rfl rfl rfl (by decide +kernel) ⟨Nat.le_of_ble_eq_true rfl, Nat.le_of_ble_eq_true rfl⟩) hK rfl hl.1 rfl (Nat.le_of_ble_eq_true rfl) dX7_order_98 ⟨Nat.zero_le _, Nat.zero_le _⟩ ?_
    exact o_endI hx hb hr hlocks dX7_order_101 rfl
  · exact absurd hk c8

set_option maxHeartbeats 4000000 in
set_option maxRecDepth 100000 in
theorem kX7_order_4 (l : Launch) (G : va_G) (cy : Nat → ClassId) {H0 : Heap} {z : Nat} {q h x r y : Nat → Nat} {M : MT} (hW : WB M) (hP : va_P G vwCl ([oSy z q h x r y] ++ wDo cy q M) H0) (k : Nat) (hk : k < mN M) (hh : mF M k = 1) : MetI l yX7_order wsX7_order 4 89 [.ref z, .int (nI k), .int (nI 4)] H0 G cy (nI (cR (hfB M (mW M k)) (k + 1) (mN M - (k + 1)))) := by
  refine Met.ofW (cc := cX7_order) (maxL := 3) (ret := (some .int)) (by decide) rfl ?_
  intro p e s m args below meth c s₁ B hml hv
  obtain ⟨rfl, hH, hK⟩ := hv
  subst hH
  have hx := B.exec
  have hb := B.bytes
  have hr := B.returns
  have hts := atoms_spec (ws := wsX7_order) B.pre
  have hown : s.vm.findClass RX7 = some m.cls := findClass_of_methodNamed B.named
  have hlocks := B.notSynchronized
  have hl := lv_entry ([.ref z, .int (nI k), .int (nI 4)]) (n := 3) (Nat.le_of_ble_eq_true rfl)
  rw [lg_entry_eq]
  generalize (lg_sl ([.ref z, .int (nI k), .int (nI 4)]) ++ List.replicate (3 - (lg_sl ([.ref z, .int (nI k), .int (nI 4)])).length) Slot.unset).toArray = ls at hl ⊢
  have hl : lv_has ls 3 [(0, .ref z), (1, .int (nI k)), (2, .int (nI 4))] := hl
  obtain ⟨bP, bN, bR, bO, bW, bL, bF⟩ := id hW
  have hPd := hP.sub (ws' := wDo cy q M) [1, 2, 3, 4, 5, 6, 7, 8, 9] rfl
  refine lv_aload_n hx hb dX7_order_0 rfl (lv_at hl 0 rfl) ?_
  refine va_get (D := G) (ci := 6) (v := .ref (q 0)) (C := RX7) (T := TX7) (N := 9) hx hb hts iX7_order_X7 hown hK hP 0 rfl rfl 0 (by decide) (hts (.fieldLink RX7 10 "NailedOrders" "door" "LNailedOrders$Door;") (by decide +kernel)) (fun _ h9 => h9) rfl dX7_order_1 ?_
  refine lv_iload_n hx hb dX7_order_4 rfl (lv_at hl 1 rfl) ?_
  refine o_VI (As := [.int (nI k)]) (rest := []) ⟨hx, hb, hml, hown, hts⟩ (kX1_isOrder l G cy hW hPd k (by omega)) (cwV 1 hts gX7_order_X1_isOrder rfl rfl rfl (by decide +kernel) ⟨Nat.le_of_ble_eq_true rfl, Nat.le_of_ble_eq_true rfl⟩) hK (va_recv hK hP (ci := 0) (q0 := 1) rfl rfl) rfl hl.1 rfl (Nat.le_of_ble_eq_true rfl) dX7_order_5 ⟨Nat.zero_le _, Nat.zero_le _⟩ ?_
  refine o_ifb_ne (tgt := 13) hx hb dX7_order_8 (by decide) (fun c8 => ?_) (fun c8 => ?_)
  · refine lv_iload_n hx hb dX7_order_13 rfl (lv_at hl 2 rfl) ?_
    refine lv_tableIn (x := nI 4) (off := 88) (tgt := 102) hx hb dX7_order_14 (by decide +kernel) (by decide +kernel) (by decide +kernel) (by decide) ?_
    refine lv_aload_n hx hb dX7_order_102 rfl (lv_at hl 0 rfl) ?_
    refine va_get (D := G) (ci := 6) (v := .ref (q 0)) (C := RX7) (T := TX7) (N := 9) hx hb hts iX7_order_X7 hown hK hP 0 rfl rfl 0 (by decide) (hts (.fieldLink RX7 10 "NailedOrders" "door" "LNailedOrders$Door;") (by decide +kernel)) (fun _ h9 => h9) rfl dX7_order_103 ?_
    refine lv_iload_n hx hb dX7_order_106 rfl (lv_at hl 1 rfl) ?_
    refine o_VI (As := [.int (nI k)]) (rest := []) ⟨hx, hb, hml, hown, hts⟩ (kX1_hangs l G cy hW hPd k (by omega)) (cwV 1 hts gX7_order_X1_hangs rfl rfl rfl (by decide +kernel) ⟨Nat.le_of_ble_eq_true rfl, Nat.le_of_ble_eq_true rfl⟩) hK (va_recv hK hP (ci := 0) (q0 := 1) rfl rfl) rfl hl.1 rfl (Nat.le_of_ble_eq_true rfl) dX7_order_107 ⟨Nat.zero_le _, Nat.zero_le _⟩ ?_
    refine o_ifb_eq (tgt := 124) hx hb dX7_order_110 (by decide) (fun c110 => ?_) (fun c110 => ?_)
    · exact absurd hh c110
    · refine lv_aload_n hx hb dX7_order_113 rfl (lv_at hl 0 rfl) ?_
      refine va_get (D := G) (ci := 6) (v := .ref (q 0)) (C := RX7) (T := TX7) (N := 9) hx hb hts iX7_order_X7 hown hK hP 0 rfl rfl 0 (by decide) (hts (.fieldLink RX7 10 "NailedOrders" "door" "LNailedOrders$Door;") (by decide +kernel)) (fun _ h9 => h9) rfl dX7_order_114 ?_
      refine lv_iload_n hx hb dX7_order_117 rfl (lv_at hl 1 rfl) ?_
      refine o_VI (As := [.int (nI k)]) (rest := []) ⟨hx, hb, hml, hown, hts⟩ (kX1_over l G cy hW hPd k hk) (cwV 1 hts gX7_order_X1_over rfl rfl rfl (by decide +kernel) ⟨Nat.le_of_ble_eq_true rfl, Nat.le_of_ble_eq_true rfl⟩) hK (va_recv hK hP (ci := 0) (q0 := 1) rfl rfl) rfl hl.1 rfl (Nat.le_of_ble_eq_true rfl) dX7_order_118 ⟨Nat.zero_le _, Nat.zero_le _⟩ ?_
      refine lv_goto (tgt := 126) hx hb dX7_order_121 (by decide) ?_
      exact o_endI hx hb hr hlocks dX7_order_126 rfl
  · exact absurd hk c8

set_option maxHeartbeats 4000000 in
set_option maxRecDepth 100000 in
theorem kX7_order_4n (l : Launch) (G : va_G) (cy : Nat → ClassId) {H0 : Heap} {z : Nat} {q h x r y : Nat → Nat} {M : MT} (hW : WB M) (hP : va_P G vwCl ([oSy z q h x r y] ++ wDo cy q M) H0) (k : Nat) (hk : k < mN M) (hh : ¬ mF M k = 1) : MetI l yX7_order wsX7_order 1 21 [.ref z, .int (nI k), .int (nI 4)] H0 G cy ((-5)) := by
  refine Met.ofW (cc := cX7_order) (maxL := 3) (ret := (some .int)) (by decide) rfl ?_
  intro p e s m args below meth c s₁ B hml hv
  obtain ⟨rfl, hH, hK⟩ := hv
  subst hH
  have hx := B.exec
  have hb := B.bytes
  have hr := B.returns
  have hts := atoms_spec (ws := wsX7_order) B.pre
  have hown : s.vm.findClass RX7 = some m.cls := findClass_of_methodNamed B.named
  have hlocks := B.notSynchronized
  have hl := lv_entry ([.ref z, .int (nI k), .int (nI 4)]) (n := 3) (Nat.le_of_ble_eq_true rfl)
  rw [lg_entry_eq]
  generalize (lg_sl ([.ref z, .int (nI k), .int (nI 4)]) ++ List.replicate (3 - (lg_sl ([.ref z, .int (nI k), .int (nI 4)])).length) Slot.unset).toArray = ls at hl ⊢
  have hl : lv_has ls 3 [(0, .ref z), (1, .int (nI k)), (2, .int (nI 4))] := hl
  obtain ⟨bP, bN, bR, bO, bW, bL, bF⟩ := id hW
  have hPd := hP.sub (ws' := wDo cy q M) [1, 2, 3, 4, 5, 6, 7, 8, 9] rfl
  refine lv_aload_n hx hb dX7_order_0 rfl (lv_at hl 0 rfl) ?_
  refine va_get (D := G) (ci := 6) (v := .ref (q 0)) (C := RX7) (T := TX7) (N := 9) hx hb hts iX7_order_X7 hown hK hP 0 rfl rfl 0 (by decide) (hts (.fieldLink RX7 10 "NailedOrders" "door" "LNailedOrders$Door;") (by decide +kernel)) (fun _ h9 => h9) rfl dX7_order_1 ?_
  refine lv_iload_n hx hb dX7_order_4 rfl (lv_at hl 1 rfl) ?_
  refine o_VI (As := [.int (nI k)]) (rest := []) ⟨hx, hb, hml, hown, hts⟩ (kX1_isOrder l G cy hW hPd k (by omega)) (cwV 1 hts gX7_order_X1_isOrder rfl rfl rfl (by decide +kernel) ⟨Nat.le_of_ble_eq_true rfl, Nat.le_of_ble_eq_true rfl⟩) hK (va_recv hK hP (ci := 0) (q0 := 1) rfl rfl) rfl hl.1 rfl (Nat.le_of_ble_eq_true rfl) dX7_order_5 ⟨Nat.zero_le _, Nat.zero_le _⟩ ?_
  refine o_ifb_ne (tgt := 13) hx hb dX7_order_8 (by decide) (fun c8 => ?_) (fun c8 => ?_)
  · refine lv_iload_n hx hb dX7_order_13 rfl (lv_at hl 2 rfl) ?_
    refine lv_tableIn (x := nI 4) (off := 88) (tgt := 102) hx hb dX7_order_14 (by decide +kernel) (by decide +kernel) (by decide +kernel) (by decide) ?_
    refine lv_aload_n hx hb dX7_order_102 rfl (lv_at hl 0 rfl) ?_
    refine va_get (D := G) (ci := 6) (v := .ref (q 0)) (C := RX7) (T := TX7) (N := 9) hx hb hts iX7_order_X7 hown hK hP 0 rfl rfl 0 (by decide) (hts (.fieldLink RX7 10 "NailedOrders" "door" "LNailedOrders$Door;") (by decide +kernel)) (fun _ h9 => h9) rfl dX7_order_103 ?_
    refine lv_iload_n hx hb dX7_order_106 rfl (lv_at hl 1 rfl) ?_
    refine o_VI (As := [.int (nI k)]) (rest := []) ⟨hx, hb, hml, hown, hts⟩ (kX1_hangs l G cy hW hPd k (by omega)) (cwV 1 hts gX7_order_X1_hangs rfl rfl rfl (by decide +kernel) ⟨Nat.le_of_ble_eq_true rfl, Nat.le_of_ble_eq_true rfl⟩) hK (va_recv hK hP (ci := 0) (q0 := 1) rfl rfl) rfl hl.1 rfl (Nat.le_of_ble_eq_true rfl) dX7_order_107 ⟨Nat.zero_le _, Nat.zero_le _⟩ ?_
    refine o_ifb_eq (tgt := 124) hx hb dX7_order_110 (by decide) (fun c110 => ?_) (fun c110 => ?_)
    · refine lv_bipush (v := (-5)) hx hb dX7_order_124 (by decide +kernel) ?_
      exact o_endI hx hb hr hlocks dX7_order_126 rfl
    · exact absurd c110 hh
  · exact absurd hk c8

set_option maxHeartbeats 4000000 in
set_option maxRecDepth 100000 in
theorem kX7_order_5 (l : Launch) (G : va_G) (cy : Nat → ClassId) {H0 : Heap} {z : Nat} {q h x r y : Nat → Nat} {M : MT} (hW : WB M) (hP : va_P G vwCl ([oSy z q h x r y] ++ wDo cy q M) H0) (k : Nat) (hk : k < mN M) (hh : mF M k = 1) : MetI l yX7_order wsX7_order 4 89 [.ref z, .int (nI k), .int (nI 5)] H0 G cy (nI (cR (hfB M (mW M k)) 0 k)) := by
  refine Met.ofW (cc := cX7_order) (maxL := 3) (ret := (some .int)) (by decide) rfl ?_
  intro p e s m args below meth c s₁ B hml hv
  obtain ⟨rfl, hH, hK⟩ := hv
  subst hH
  have hx := B.exec
  have hb := B.bytes
  have hr := B.returns
  have hts := atoms_spec (ws := wsX7_order) B.pre
  have hown : s.vm.findClass RX7 = some m.cls := findClass_of_methodNamed B.named
  have hlocks := B.notSynchronized
  have hl := lv_entry ([.ref z, .int (nI k), .int (nI 5)]) (n := 3) (Nat.le_of_ble_eq_true rfl)
  rw [lg_entry_eq]
  generalize (lg_sl ([.ref z, .int (nI k), .int (nI 5)]) ++ List.replicate (3 - (lg_sl ([.ref z, .int (nI k), .int (nI 5)])).length) Slot.unset).toArray = ls at hl ⊢
  have hl : lv_has ls 3 [(0, .ref z), (1, .int (nI k)), (2, .int (nI 5))] := hl
  obtain ⟨bP, bN, bR, bO, bW, bL, bF⟩ := id hW
  have hPd := hP.sub (ws' := wDo cy q M) [1, 2, 3, 4, 5, 6, 7, 8, 9] rfl
  refine lv_aload_n hx hb dX7_order_0 rfl (lv_at hl 0 rfl) ?_
  refine va_get (D := G) (ci := 6) (v := .ref (q 0)) (C := RX7) (T := TX7) (N := 9) hx hb hts iX7_order_X7 hown hK hP 0 rfl rfl 0 (by decide) (hts (.fieldLink RX7 10 "NailedOrders" "door" "LNailedOrders$Door;") (by decide +kernel)) (fun _ h9 => h9) rfl dX7_order_1 ?_
  refine lv_iload_n hx hb dX7_order_4 rfl (lv_at hl 1 rfl) ?_
  refine o_VI (As := [.int (nI k)]) (rest := []) ⟨hx, hb, hml, hown, hts⟩ (kX1_isOrder l G cy hW hPd k (by omega)) (cwV 1 hts gX7_order_X1_isOrder rfl rfl rfl (by decide +kernel) ⟨Nat.le_of_ble_eq_true rfl, Nat.le_of_ble_eq_true rfl⟩) hK (va_recv hK hP (ci := 0) (q0 := 1) rfl rfl) rfl hl.1 rfl (Nat.le_of_ble_eq_true rfl) dX7_order_5 ⟨Nat.zero_le _, Nat.zero_le _⟩ ?_
  refine o_ifb_ne (tgt := 13) hx hb dX7_order_8 (by decide) (fun c8 => ?_) (fun c8 => ?_)
  · refine lv_iload_n hx hb dX7_order_13 rfl (lv_at hl 2 rfl) ?_
    refine lv_tableIn (x := nI 5) (off := 113) (tgt := 127) hx hb dX7_order_14 (by decide +kernel) (by decide +kernel) (by decide +kernel) (by decide) ?_
    refine lv_aload_n hx hb dX7_order_127 rfl (lv_at hl 0 rfl) ?_
    refine va_get (D := G) (ci := 6) (v := .ref (q 0)) (C := RX7) (T := TX7) (N := 9) hx hb hts iX7_order_X7 hown hK hP 0 rfl rfl 0 (by decide) (hts (.fieldLink RX7 10 "NailedOrders" "door" "LNailedOrders$Door;") (by decide +kernel)) (fun _ h9 => h9) rfl dX7_order_128 ?_
    refine lv_iload_n hx hb dX7_order_131 rfl (lv_at hl 1 rfl) ?_
    refine o_VI (As := [.int (nI k)]) (rest := []) ⟨hx, hb, hml, hown, hts⟩ (kX1_hangs l G cy hW hPd k (by omega)) (cwV 1 hts gX7_order_X1_hangs rfl rfl rfl (by decide +kernel) ⟨Nat.le_of_ble_eq_true rfl, Nat.le_of_ble_eq_true rfl⟩) hK (va_recv hK hP (ci := 0) (q0 := 1) rfl rfl) rfl hl.1 rfl (Nat.le_of_ble_eq_true rfl) dX7_order_132 ⟨Nat.zero_le _, Nat.zero_le _⟩ ?_
    refine o_ifb_eq (tgt := 149) hx hb dX7_order_135 (by decide) (fun c135 => ?_) (fun c135 => ?_)
    · exact absurd hh c135
    · refine lv_aload_n hx hb dX7_order_138 rfl (lv_at hl 0 rfl) ?_
      refine va_get (D := G) (ci := 6) (v := .ref (q 0)) (C := RX7) (T := TX7) (N := 9) hx hb hts iX7_order_X7 hown hK hP 0 rfl rfl 0 (by decide) (hts (.fieldLink RX7 10 "NailedOrders" "door" "LNailedOrders$Door;") (by decide +kernel)) (fun _ h9 => h9) rfl dX7_order_139 ?_
      refine lv_iload_n hx hb dX7_order_142 rfl (lv_at hl 1 rfl) ?_
      refine o_VI (As := [.int (nI k)]) (rest := []) ⟨hx, hb, hml, hown, hts⟩ (kX1_beneath l G cy hW hPd k (by omega)) (cwV 1 hts gX7_order_X1_beneath rfl rfl rfl (by decide +kernel) ⟨Nat.le_of_ble_eq_true rfl, Nat.le_of_ble_eq_true rfl⟩) hK (va_recv hK hP (ci := 0) (q0 := 1) rfl rfl) rfl hl.1 rfl (Nat.le_of_ble_eq_true rfl) dX7_order_143 ⟨Nat.zero_le _, Nat.zero_le _⟩ ?_
      refine lv_goto (tgt := 151) hx hb dX7_order_146 (by decide) ?_
      exact o_endI hx hb hr hlocks dX7_order_151 rfl
  · exact absurd hk c8

set_option maxHeartbeats 4000000 in
set_option maxRecDepth 100000 in
theorem kX7_order_5n (l : Launch) (G : va_G) (cy : Nat → ClassId) {H0 : Heap} {z : Nat} {q h x r y : Nat → Nat} {M : MT} (hW : WB M) (hP : va_P G vwCl ([oSy z q h x r y] ++ wDo cy q M) H0) (k : Nat) (hk : k < mN M) (hh : ¬ mF M k = 1) : MetI l yX7_order wsX7_order 1 21 [.ref z, .int (nI k), .int (nI 5)] H0 G cy ((-5)) := by
  refine Met.ofW (cc := cX7_order) (maxL := 3) (ret := (some .int)) (by decide) rfl ?_
  intro p e s m args below meth c s₁ B hml hv
  obtain ⟨rfl, hH, hK⟩ := hv
  subst hH
  have hx := B.exec
  have hb := B.bytes
  have hr := B.returns
  have hts := atoms_spec (ws := wsX7_order) B.pre
  have hown : s.vm.findClass RX7 = some m.cls := findClass_of_methodNamed B.named
  have hlocks := B.notSynchronized
  have hl := lv_entry ([.ref z, .int (nI k), .int (nI 5)]) (n := 3) (Nat.le_of_ble_eq_true rfl)
  rw [lg_entry_eq]
  generalize (lg_sl ([.ref z, .int (nI k), .int (nI 5)]) ++ List.replicate (3 - (lg_sl ([.ref z, .int (nI k), .int (nI 5)])).length) Slot.unset).toArray = ls at hl ⊢
  have hl : lv_has ls 3 [(0, .ref z), (1, .int (nI k)), (2, .int (nI 5))] := hl
  obtain ⟨bP, bN, bR, bO, bW, bL, bF⟩ := id hW
  have hPd := hP.sub (ws' := wDo cy q M) [1, 2, 3, 4, 5, 6, 7, 8, 9] rfl
  refine lv_aload_n hx hb dX7_order_0 rfl (lv_at hl 0 rfl) ?_
  refine va_get (D := G) (ci := 6) (v := .ref (q 0)) (C := RX7) (T := TX7) (N := 9) hx hb hts iX7_order_X7 hown hK hP 0 rfl rfl 0 (by decide) (hts (.fieldLink RX7 10 "NailedOrders" "door" "LNailedOrders$Door;") (by decide +kernel)) (fun _ h9 => h9) rfl dX7_order_1 ?_
  refine lv_iload_n hx hb dX7_order_4 rfl (lv_at hl 1 rfl) ?_
  refine o_VI (As := [.int (nI k)]) (rest := []) ⟨hx, hb, hml, hown, hts⟩ (kX1_isOrder l G cy hW hPd k (by omega)) (cwV 1 hts gX7_order_X1_isOrder rfl rfl rfl (by decide +kernel) ⟨Nat.le_of_ble_eq_true rfl, Nat.le_of_ble_eq_true rfl⟩) hK (va_recv hK hP (ci := 0) (q0 := 1) rfl rfl) rfl hl.1 rfl (Nat.le_of_ble_eq_true rfl) dX7_order_5 ⟨Nat.zero_le _, Nat.zero_le _⟩ ?_
  refine o_ifb_ne (tgt := 13) hx hb dX7_order_8 (by decide) (fun c8 => ?_) (fun c8 => ?_)
  · refine lv_iload_n hx hb dX7_order_13 rfl (lv_at hl 2 rfl) ?_
    refine lv_tableIn (x := nI 5) (off := 113) (tgt := 127) hx hb dX7_order_14 (by decide +kernel) (by decide +kernel) (by decide +kernel) (by decide) ?_
    refine lv_aload_n hx hb dX7_order_127 rfl (lv_at hl 0 rfl) ?_
    refine va_get (D := G) (ci := 6) (v := .ref (q 0)) (C := RX7) (T := TX7) (N := 9) hx hb hts iX7_order_X7 hown hK hP 0 rfl rfl 0 (by decide) (hts (.fieldLink RX7 10 "NailedOrders" "door" "LNailedOrders$Door;") (by decide +kernel)) (fun _ h9 => h9) rfl dX7_order_128 ?_
    refine lv_iload_n hx hb dX7_order_131 rfl (lv_at hl 1 rfl) ?_
    refine o_VI (As := [.int (nI k)]) (rest := []) ⟨hx, hb, hml, hown, hts⟩ (kX1_hangs l G cy hW hPd k (by omega)) (cwV 1 hts gX7_order_X1_hangs rfl rfl rfl (by decide +kernel) ⟨Nat.le_of_ble_eq_true rfl, Nat.le_of_ble_eq_true rfl⟩) hK (va_recv hK hP (ci := 0) (q0 := 1) rfl rfl) rfl hl.1 rfl (Nat.le_of_ble_eq_true rfl) dX7_order_132 ⟨Nat.zero_le _, Nat.zero_le _⟩ ?_
    refine o_ifb_eq (tgt := 149) hx hb dX7_order_135 (by decide) (fun c135 => ?_) (fun c135 => ?_)
    · refine lv_bipush (v := (-5)) hx hb dX7_order_149 (by decide +kernel) ?_
      exact o_endI hx hb hr hlocks dX7_order_151 rfl
    · exact absurd c135 hh
  · exact absurd hk c8

set_option maxHeartbeats 4000000 in
set_option maxRecDepth 100000 in
theorem kX7_order_6 (l : Launch) (G : va_G) (cy : Nat → ClassId) {H0 : Heap} {z : Nat} {q h x r y : Nat → Nat} {M : MT} (hW : WB M) (hP : va_P G vwCl ([oSy z q h x r y] ++ wDo cy q M) H0) (k : Nat) (hk : k < mN M) (hn : vf_n32 (FP.fmul (mH M k) 1120403456)) : MetI l yX7_order wsX7_order 1 21 [.ref z, .int (nI k), .int (nI 6)] H0 G cy (FP.f2i (FP.fmul (mH M k) 1120403456)) := by
  refine Met.ofW (cc := cX7_order) (maxL := 3) (ret := (some .int)) (by decide) rfl ?_
  intro p e s m args below meth c s₁ B hml hv
  obtain ⟨rfl, hH, hK⟩ := hv
  subst hH
  have hx := B.exec
  have hb := B.bytes
  have hr := B.returns
  have hts := atoms_spec (ws := wsX7_order) B.pre
  have hown : s.vm.findClass RX7 = some m.cls := findClass_of_methodNamed B.named
  have hlocks := B.notSynchronized
  have hl := lv_entry ([.ref z, .int (nI k), .int (nI 6)]) (n := 3) (Nat.le_of_ble_eq_true rfl)
  rw [lg_entry_eq]
  generalize (lg_sl ([.ref z, .int (nI k), .int (nI 6)]) ++ List.replicate (3 - (lg_sl ([.ref z, .int (nI k), .int (nI 6)])).length) Slot.unset).toArray = ls at hl ⊢
  have hl : lv_has ls 3 [(0, .ref z), (1, .int (nI k)), (2, .int (nI 6))] := hl
  obtain ⟨bP, bN, bR, bO, bW, bL, bF⟩ := id hW
  have hPd := hP.sub (ws' := wDo cy q M) [1, 2, 3, 4, 5, 6, 7, 8, 9] rfl
  refine lv_aload_n hx hb dX7_order_0 rfl (lv_at hl 0 rfl) ?_
  refine va_get (D := G) (ci := 6) (v := .ref (q 0)) (C := RX7) (T := TX7) (N := 9) hx hb hts iX7_order_X7 hown hK hP 0 rfl rfl 0 (by decide) (hts (.fieldLink RX7 10 "NailedOrders" "door" "LNailedOrders$Door;") (by decide +kernel)) (fun _ h9 => h9) rfl dX7_order_1 ?_
  refine lv_iload_n hx hb dX7_order_4 rfl (lv_at hl 1 rfl) ?_
  refine o_VI (As := [.int (nI k)]) (rest := []) ⟨hx, hb, hml, hown, hts⟩ (kX1_isOrder l G cy hW hPd k (by omega)) (cwV 1 hts gX7_order_X1_isOrder rfl rfl rfl (by decide +kernel) ⟨Nat.le_of_ble_eq_true rfl, Nat.le_of_ble_eq_true rfl⟩) hK (va_recv hK hP (ci := 0) (q0 := 1) rfl rfl) rfl hl.1 rfl (Nat.le_of_ble_eq_true rfl) dX7_order_5 ⟨Nat.zero_le _, Nat.zero_le _⟩ ?_
  refine o_ifb_ne (tgt := 13) hx hb dX7_order_8 (by decide) (fun c8 => ?_) (fun c8 => ?_)
  · refine lv_iload_n hx hb dX7_order_13 rfl (lv_at hl 2 rfl) ?_
    refine lv_tableIn (x := nI 6) (off := 138) (tgt := 152) hx hb dX7_order_14 (by decide +kernel) (by decide +kernel) (by decide +kernel) (by decide) ?_
    refine lv_aload_n hx hb dX7_order_152 rfl (lv_at hl 0 rfl) ?_
    refine va_get (D := G) (ci := 6) (v := .ref (q 0)) (C := RX7) (T := TX7) (N := 9) hx hb hts iX7_order_X7 hown hK hP 0 rfl rfl 0 (by decide) (hts (.fieldLink RX7 10 "NailedOrders" "door" "LNailedOrders$Door;") (by decide +kernel)) (fun _ h9 => h9) rfl dX7_order_153 ?_
    refine lv_iload_n hx hb dX7_order_156 rfl (lv_at hl 1 rfl) ?_
    refine o_VI (As := [.int (nI k)]) (rest := []) ⟨hx, hb, hml, hown, hts⟩ (kX1_hundredthsOfStrength l G cy hW hPd k (by omega) hn) (cwV 1 hts gX7_order_X1_hundredthsOfStrength rfl rfl rfl (by decide +kernel) ⟨Nat.le_of_ble_eq_true rfl, Nat.le_of_ble_eq_true rfl⟩) hK (va_recv hK hP (ci := 0) (q0 := 1) rfl rfl) rfl hl.1 rfl (Nat.le_of_ble_eq_true rfl) dX7_order_157 ⟨Nat.zero_le _, Nat.zero_le _⟩ ?_
    exact o_endI hx hb hr hlocks dX7_order_160 rfl
  · exact absurd hk c8

set_option maxRecDepth 100000 in
theorem iX7_real_X7 : ∀ w ∈ u_ws RX7 TX7 9, w ∈ wsX7_real := by decide +kernel
set_option maxRecDepth 100000 in
theorem iX7_real_X1 : ∀ w ∈ u_ws RX1 TX1 13, w ∈ wsX7_real := by decide +kernel
set_option maxHeartbeats 4000000 in
set_option maxRecDepth 100000 in
theorem kX7_real_0 (l : Launch) (G : va_G) (cy : Nat → ClassId) {H0 : Heap} {z : Nat} {q h x r y : Nat → Nat} {M : MT} (hW : WB M) (hP : va_P G vwCl ([oSy z q h x r y] ++ wDo cy q M) H0) (k : Nat) (hk : k < mN M) : MetF l yX7_real wsX7_real 1 21 [.ref z, .int (nI k), .int (nI 0)] H0 G cy (mU M k) := by
  refine Met.ofW (cc := cX7_real) (maxL := 3) (ret := (some .float)) (by decide) rfl ?_
  intro p e s m args below meth c s₁ B hml hv
  obtain ⟨rfl, hH, hK⟩ := hv
  subst hH
  have hx := B.exec
  have hb := B.bytes
  have hr := B.returns
  have hts := atoms_spec (ws := wsX7_real) B.pre
  have hown : s.vm.findClass RX7 = some m.cls := findClass_of_methodNamed B.named
  have hlocks := B.notSynchronized
  have hl := lv_entry ([.ref z, .int (nI k), .int (nI 0)]) (n := 3) (Nat.le_of_ble_eq_true rfl)
  rw [lg_entry_eq]
  generalize (lg_sl ([.ref z, .int (nI k), .int (nI 0)]) ++ List.replicate (3 - (lg_sl ([.ref z, .int (nI k), .int (nI 0)])).length) Slot.unset).toArray = ls at hl ⊢
  have hl : lv_has ls 3 [(0, .ref z), (1, .int (nI k)), (2, .int (nI 0))] := hl
  obtain ⟨bP, bN, bR, bO, bW, bL, bF⟩ := id hW
  have hPd := hP.sub (ws' := wDo cy q M) [1, 2, 3, 4, 5, 6, 7, 8, 9] rfl
  refine lv_aload_n hx hb dX7_real_0 rfl (lv_at hl 0 rfl) ?_
  refine va_get (D := G) (ci := 6) (v := .ref (q 0)) (C := RX7) (T := TX7) (N := 9) hx hb hts iX7_real_X7 hown hK hP 0 rfl rfl 0 (by decide) (hts (.fieldLink RX7 10 "NailedOrders" "door" "LNailedOrders$Door;") (by decide +kernel)) (fun _ h9 => h9) rfl dX7_real_1 ?_
  refine lv_iload_n hx hb dX7_real_4 rfl (lv_at hl 1 rfl) ?_
  refine o_VI (As := [.int (nI k)]) (rest := []) ⟨hx, hb, hml, hown, hts⟩ (kX1_isOrder l G cy hW hPd k (by omega)) (cwV 1 hts gX7_real_X1_isOrder rfl rfl rfl (by decide +kernel) ⟨Nat.le_of_ble_eq_true rfl, Nat.le_of_ble_eq_true rfl⟩) hK (va_recv hK hP (ci := 0) (q0 := 1) rfl rfl) rfl hl.1 rfl (Nat.le_of_ble_eq_true rfl) dX7_real_5 ⟨Nat.zero_le _, Nat.zero_le _⟩ ?_
  refine o_ifb_ne (tgt := 15) hx hb dX7_real_8 (by decide) (fun c8 => ?_) (fun c8 => ?_)
  · refine lv_iload_n hx hb dX7_real_15 rfl (lv_at hl 2 rfl) ?_
    refine lv_tableIn (x := nI 0) (off := 28) (tgt := 44) hx hb dX7_real_16 (by decide +kernel) (by decide +kernel) (by decide +kernel) (by decide) ?_
    refine lv_aload_n hx hb dX7_real_44 rfl (lv_at hl 0 rfl) ?_
    refine va_get (D := G) (ci := 6) (v := .ref (q 0)) (C := RX7) (T := TX7) (N := 9) hx hb hts iX7_real_X7 hown hK hP 0 rfl rfl 0 (by decide) (hts (.fieldLink RX7 10 "NailedOrders" "door" "LNailedOrders$Door;") (by decide +kernel)) (fun _ h9 => h9) rfl dX7_real_45 ?_
    refine va_get (D := G) (ci := 0) (v := .ref (q 10)) (C := RX1) (T := TX1) (N := 13) hx hb hts iX7_real_X1 hown hK hP 1 rfl rfl 10 (by decide) (hts (.fieldLink RX7 243 "NailedOrders$Door" "numbers" "[F") (by decide +kernel)) (fun _ h9 => h9) rfl dX7_real_48 ?_
    refine lv_iload_n hx hb dX7_real_51 rfl (lv_at hl 1 rfl) ?_
    refine o_fald hx hb hK hP 7 1 rfl rfl k (by omega) (by decide) dX7_real_52 ?_
    exact o_endF hx hb hr hlocks dX7_real_53 rfl
  · exact absurd hk c8

set_option maxHeartbeats 4000000 in
set_option maxRecDepth 100000 in
theorem kX7_real_1 (l : Launch) (G : va_G) (cy : Nat → ClassId) {H0 : Heap} {z : Nat} {q h x r y : Nat → Nat} {M : MT} (hW : WB M) (hP : va_P G vwCl ([oSy z q h x r y] ++ wDo cy q M) H0) (k : Nat) (hk : k < mN M) : MetF l yX7_real wsX7_real 1 21 [.ref z, .int (nI k), .int (nI 1)] H0 G cy (mA M k) := by
  refine Met.ofW (cc := cX7_real) (maxL := 3) (ret := (some .float)) (by decide) rfl ?_
  intro p e s m args below meth c s₁ B hml hv
  obtain ⟨rfl, hH, hK⟩ := hv
  subst hH
  have hx := B.exec
  have hb := B.bytes
  have hr := B.returns
  have hts := atoms_spec (ws := wsX7_real) B.pre
  have hown : s.vm.findClass RX7 = some m.cls := findClass_of_methodNamed B.named
  have hlocks := B.notSynchronized
  have hl := lv_entry ([.ref z, .int (nI k), .int (nI 1)]) (n := 3) (Nat.le_of_ble_eq_true rfl)
  rw [lg_entry_eq]
  generalize (lg_sl ([.ref z, .int (nI k), .int (nI 1)]) ++ List.replicate (3 - (lg_sl ([.ref z, .int (nI k), .int (nI 1)])).length) Slot.unset).toArray = ls at hl ⊢
  have hl : lv_has ls 3 [(0, .ref z), (1, .int (nI k)), (2, .int (nI 1))] := hl
  obtain ⟨bP, bN, bR, bO, bW, bL, bF⟩ := id hW
  have hPd := hP.sub (ws' := wDo cy q M) [1, 2, 3, 4, 5, 6, 7, 8, 9] rfl
  refine lv_aload_n hx hb dX7_real_0 rfl (lv_at hl 0 rfl) ?_
  refine va_get (D := G) (ci := 6) (v := .ref (q 0)) (C := RX7) (T := TX7) (N := 9) hx hb hts iX7_real_X7 hown hK hP 0 rfl rfl 0 (by decide) (hts (.fieldLink RX7 10 "NailedOrders" "door" "LNailedOrders$Door;") (by decide +kernel)) (fun _ h9 => h9) rfl dX7_real_1 ?_
  refine lv_iload_n hx hb dX7_real_4 rfl (lv_at hl 1 rfl) ?_
  refine o_VI (As := [.int (nI k)]) (rest := []) ⟨hx, hb, hml, hown, hts⟩ (kX1_isOrder l G cy hW hPd k (by omega)) (cwV 1 hts gX7_real_X1_isOrder rfl rfl rfl (by decide +kernel) ⟨Nat.le_of_ble_eq_true rfl, Nat.le_of_ble_eq_true rfl⟩) hK (va_recv hK hP (ci := 0) (q0 := 1) rfl rfl) rfl hl.1 rfl (Nat.le_of_ble_eq_true rfl) dX7_real_5 ⟨Nat.zero_le _, Nat.zero_le _⟩ ?_
  refine o_ifb_ne (tgt := 15) hx hb dX7_real_8 (by decide) (fun c8 => ?_) (fun c8 => ?_)
  · refine lv_iload_n hx hb dX7_real_15 rfl (lv_at hl 2 rfl) ?_
    refine lv_tableIn (x := nI 1) (off := 38) (tgt := 54) hx hb dX7_real_16 (by decide +kernel) (by decide +kernel) (by decide +kernel) (by decide) ?_
    refine lv_aload_n hx hb dX7_real_54 rfl (lv_at hl 0 rfl) ?_
    refine va_get (D := G) (ci := 6) (v := .ref (q 0)) (C := RX7) (T := TX7) (N := 9) hx hb hts iX7_real_X7 hown hK hP 0 rfl rfl 0 (by decide) (hts (.fieldLink RX7 10 "NailedOrders" "door" "LNailedOrders$Door;") (by decide +kernel)) (fun _ h9 => h9) rfl dX7_real_55 ?_
    refine va_get (D := G) (ci := 0) (v := .ref (q 9)) (C := RX1) (T := TX1) (N := 13) hx hb hts iX7_real_X1 hown hK hP 1 rfl rfl 9 (by decide) (hts (.fieldLink RX7 246 "NailedOrders$Door" "factors" "[F") (by decide +kernel)) (fun _ h9 => h9) rfl dX7_real_58 ?_
    refine lv_iload_n hx hb dX7_real_61 rfl (lv_at hl 1 rfl) ?_
    refine o_fald hx hb hK hP 6 1 rfl rfl k (by omega) (by decide) dX7_real_62 ?_
    exact o_endF hx hb hr hlocks dX7_real_63 rfl
  · exact absurd hk c8

set_option maxHeartbeats 4000000 in
set_option maxRecDepth 100000 in
theorem kX7_real_2 (l : Launch) (G : va_G) (cy : Nat → ClassId) {H0 : Heap} {z : Nat} {q h x r y : Nat → Nat} {M : MT} (hW : WB M) (hP : va_P G vwCl ([oSy z q h x r y] ++ wDo cy q M) H0) (k : Nat) (hk : k < mN M) : MetF l yX7_real wsX7_real 1 21 [.ref z, .int (nI k), .int (nI 2)] H0 G cy (mH M k) := by
  refine Met.ofW (cc := cX7_real) (maxL := 3) (ret := (some .float)) (by decide) rfl ?_
  intro p e s m args below meth c s₁ B hml hv
  obtain ⟨rfl, hH, hK⟩ := hv
  subst hH
  have hx := B.exec
  have hb := B.bytes
  have hr := B.returns
  have hts := atoms_spec (ws := wsX7_real) B.pre
  have hown : s.vm.findClass RX7 = some m.cls := findClass_of_methodNamed B.named
  have hlocks := B.notSynchronized
  have hl := lv_entry ([.ref z, .int (nI k), .int (nI 2)]) (n := 3) (Nat.le_of_ble_eq_true rfl)
  rw [lg_entry_eq]
  generalize (lg_sl ([.ref z, .int (nI k), .int (nI 2)]) ++ List.replicate (3 - (lg_sl ([.ref z, .int (nI k), .int (nI 2)])).length) Slot.unset).toArray = ls at hl ⊢
  have hl : lv_has ls 3 [(0, .ref z), (1, .int (nI k)), (2, .int (nI 2))] := hl
  obtain ⟨bP, bN, bR, bO, bW, bL, bF⟩ := id hW
  have hPd := hP.sub (ws' := wDo cy q M) [1, 2, 3, 4, 5, 6, 7, 8, 9] rfl
  refine lv_aload_n hx hb dX7_real_0 rfl (lv_at hl 0 rfl) ?_
  refine va_get (D := G) (ci := 6) (v := .ref (q 0)) (C := RX7) (T := TX7) (N := 9) hx hb hts iX7_real_X7 hown hK hP 0 rfl rfl 0 (by decide) (hts (.fieldLink RX7 10 "NailedOrders" "door" "LNailedOrders$Door;") (by decide +kernel)) (fun _ h9 => h9) rfl dX7_real_1 ?_
  refine lv_iload_n hx hb dX7_real_4 rfl (lv_at hl 1 rfl) ?_
  refine o_VI (As := [.int (nI k)]) (rest := []) ⟨hx, hb, hml, hown, hts⟩ (kX1_isOrder l G cy hW hPd k (by omega)) (cwV 1 hts gX7_real_X1_isOrder rfl rfl rfl (by decide +kernel) ⟨Nat.le_of_ble_eq_true rfl, Nat.le_of_ble_eq_true rfl⟩) hK (va_recv hK hP (ci := 0) (q0 := 1) rfl rfl) rfl hl.1 rfl (Nat.le_of_ble_eq_true rfl) dX7_real_5 ⟨Nat.zero_le _, Nat.zero_le _⟩ ?_
  refine o_ifb_ne (tgt := 15) hx hb dX7_real_8 (by decide) (fun c8 => ?_) (fun c8 => ?_)
  · refine lv_iload_n hx hb dX7_real_15 rfl (lv_at hl 2 rfl) ?_
    refine lv_tableIn (x := nI 2) (off := 48) (tgt := 64) hx hb dX7_real_16 (by decide +kernel) (by decide +kernel) (by decide +kernel) (by decide) ?_
    refine lv_aload_n hx hb dX7_real_64 rfl (lv_at hl 0 rfl) ?_
    refine va_get (D := G) (ci := 6) (v := .ref (q 0)) (C := RX7) (T := TX7) (N := 9) hx hb hts iX7_real_X7 hown hK hP 0 rfl rfl 0 (by decide) (hts (.fieldLink RX7 10 "NailedOrders" "door" "LNailedOrders$Door;") (by decide +kernel)) (fun _ h9 => h9) rfl dX7_real_65 ?_
    refine va_get (D := G) (ci := 0) (v := .ref (q 11)) (C := RX1) (T := TX1) (N := 13) hx hb hts iX7_real_X1 hown hK hP 1 rfl rfl 11 (by decide) (hts (.fieldLink RX7 134 "NailedOrders$Door" "strengths" "[F") (by decide +kernel)) (fun _ h9 => h9) rfl dX7_real_68 ?_
    refine lv_iload_n hx hb dX7_real_71 rfl (lv_at hl 1 rfl) ?_
    refine o_fald hx hb hK hP 8 1 rfl rfl k (by omega) (by decide) dX7_real_72 ?_
    exact o_endF hx hb hr hlocks dX7_real_73 rfl
  · exact absurd hk c8

set_option maxRecDepth 100000 in
theorem iX7_person_X7 : ∀ w ∈ u_ws RX7 TX7 9, w ∈ wsX7_person := by decide +kernel
set_option maxHeartbeats 4000000 in
set_option maxRecDepth 100000 in
theorem kX7_person_u (l : Launch) (G : va_G) (cy : Nat → ClassId) {H0 : Heap} {z : Nat} {q h x r y : Nat → Nat} {M : MT} (hW : WB M) (hP : va_P G vwCl ([oSy z q h x r y] ++ wDo cy q M) H0) (j o : Nat) (hj : ¬ j < mP M) (hj2 : j < 2 ^ 31) : MetI l yX7_person wsX7_person 1 21 [.ref z, .int (nI j), .int (nI o)] H0 G cy ((-1)) := by
  refine Met.ofW (cc := cX7_person) (maxL := 3) (ret := (some .int)) (by decide) rfl ?_
  intro p e s m args below meth c s₁ B hml hv
  obtain ⟨rfl, hH, hK⟩ := hv
  subst hH
  have hx := B.exec
  have hb := B.bytes
  have hr := B.returns
  have hts := atoms_spec (ws := wsX7_person) B.pre
  have hown : s.vm.findClass RX7 = some m.cls := findClass_of_methodNamed B.named
  have hlocks := B.notSynchronized
  have hl := lv_entry ([.ref z, .int (nI j), .int (nI o)]) (n := 3) (Nat.le_of_ble_eq_true rfl)
  rw [lg_entry_eq]
  generalize (lg_sl ([.ref z, .int (nI j), .int (nI o)]) ++ List.replicate (3 - (lg_sl ([.ref z, .int (nI j), .int (nI o)])).length) Slot.unset).toArray = ls at hl ⊢
  have hl : lv_has ls 3 [(0, .ref z), (1, .int (nI j)), (2, .int (nI o))] := hl
  obtain ⟨bP, bN, bR, bO, bW, bL, bF⟩ := id hW
  have hPd := hP.sub (ws' := wDo cy q M) [1, 2, 3, 4, 5, 6, 7, 8, 9] rfl
  refine lv_aload_n hx hb dX7_person_0 rfl (lv_at hl 0 rfl) ?_
  refine va_get (D := G) (ci := 6) (v := .ref (q 0)) (C := RX7) (T := TX7) (N := 9) hx hb hts iX7_person_X7 hown hK hP 0 rfl rfl 0 (by decide) (hts (.fieldLink RX7 10 "NailedOrders" "door" "LNailedOrders$Door;") (by decide +kernel)) (fun _ h9 => h9) rfl dX7_person_1 ?_
  refine lv_iload_n hx hb dX7_person_4 rfl (lv_at hl 1 rfl) ?_
  refine o_VI (As := [.int (nI j)]) (rest := []) ⟨hx, hb, hml, hown, hts⟩ (kX1_isPerson l G cy hW hPd j (by omega)) (cwV 1 hts gX7_person_X1_isPerson rfl rfl rfl (by decide +kernel) ⟨Nat.le_of_ble_eq_true rfl, Nat.le_of_ble_eq_true rfl⟩) hK (va_recv hK hP (ci := 0) (q0 := 1) rfl rfl) rfl hl.1 rfl (Nat.le_of_ble_eq_true rfl) dX7_person_5 ⟨Nat.zero_le _, Nat.zero_le _⟩ ?_
  refine o_ifb_ne (tgt := 13) hx hb dX7_person_8 (by decide) (fun c8 => ?_) (fun c8 => ?_)
  · exact absurd c8 hj
  · refine lv_iconst (v := (-1)) hx hb dX7_person_11 (by decide +kernel) ?_
    exact o_endI hx hb hr hlocks dX7_person_12 rfl

set_option maxRecDepth 100000 in
theorem iX7_person_X1 : ∀ w ∈ u_ws RX1 TX1 13, w ∈ wsX7_person := by decide +kernel
set_option maxHeartbeats 4000000 in
set_option maxRecDepth 100000 in
theorem kX7_person_0 (l : Launch) (G : va_G) (cy : Nat → ClassId) {H0 : Heap} {z : Nat} {q h x r y : Nat → Nat} {M : MT} (hW : WB M) (hP : va_P G vwCl ([oSy z q h x r y] ++ wDo cy q M) H0) (j : Nat) (hj : j < mP M) : MetI l yX7_person wsX7_person 1 21 [.ref z, .int (nI j), .int (nI 0)] H0 G cy (nI (mR M j)) := by
  refine Met.ofW (cc := cX7_person) (maxL := 3) (ret := (some .int)) (by decide) rfl ?_
  intro p e s m args below meth c s₁ B hml hv
  obtain ⟨rfl, hH, hK⟩ := hv
  subst hH
  have hx := B.exec
  have hb := B.bytes
  have hr := B.returns
  have hts := atoms_spec (ws := wsX7_person) B.pre
  have hown : s.vm.findClass RX7 = some m.cls := findClass_of_methodNamed B.named
  have hlocks := B.notSynchronized
  have hl := lv_entry ([.ref z, .int (nI j), .int (nI 0)]) (n := 3) (Nat.le_of_ble_eq_true rfl)
  rw [lg_entry_eq]
  generalize (lg_sl ([.ref z, .int (nI j), .int (nI 0)]) ++ List.replicate (3 - (lg_sl ([.ref z, .int (nI j), .int (nI 0)])).length) Slot.unset).toArray = ls at hl ⊢
  have hl : lv_has ls 3 [(0, .ref z), (1, .int (nI j)), (2, .int (nI 0))] := hl
  obtain ⟨bP, bN, bR, bO, bW, bL, bF⟩ := id hW
  have hPd := hP.sub (ws' := wDo cy q M) [1, 2, 3, 4, 5, 6, 7, 8, 9] rfl
  refine lv_aload_n hx hb dX7_person_0 rfl (lv_at hl 0 rfl) ?_
  refine va_get (D := G) (ci := 6) (v := .ref (q 0)) (C := RX7) (T := TX7) (N := 9) hx hb hts iX7_person_X7 hown hK hP 0 rfl rfl 0 (by decide) (hts (.fieldLink RX7 10 "NailedOrders" "door" "LNailedOrders$Door;") (by decide +kernel)) (fun _ h9 => h9) rfl dX7_person_1 ?_
  refine lv_iload_n hx hb dX7_person_4 rfl (lv_at hl 1 rfl) ?_
  refine o_VI (As := [.int (nI j)]) (rest := []) ⟨hx, hb, hml, hown, hts⟩ (kX1_isPerson l G cy hW hPd j (by omega)) (cwV 1 hts gX7_person_X1_isPerson rfl rfl rfl (by decide +kernel) ⟨Nat.le_of_ble_eq_true rfl, Nat.le_of_ble_eq_true rfl⟩) hK (va_recv hK hP (ci := 0) (q0 := 1) rfl rfl) rfl hl.1 rfl (Nat.le_of_ble_eq_true rfl) dX7_person_5 ⟨Nat.zero_le _, Nat.zero_le _⟩ ?_
  refine o_ifb_ne (tgt := 13) hx hb dX7_person_8 (by decide) (fun c8 => ?_) (fun c8 => ?_)
  · refine lv_iload_n hx hb dX7_person_13 rfl (lv_at hl 2 rfl) ?_
    refine lv_tableIn (x := nI 0) (off := 34) (tgt := 48) hx hb dX7_person_14 (by decide +kernel) (by decide +kernel) (by decide +kernel) (by decide) ?_
    refine lv_aload_n hx hb dX7_person_48 rfl (lv_at hl 0 rfl) ?_
    refine va_get (D := G) (ci := 6) (v := .ref (q 0)) (C := RX7) (T := TX7) (N := 9) hx hb hts iX7_person_X7 hown hK hP 0 rfl rfl 0 (by decide) (hts (.fieldLink RX7 10 "NailedOrders" "door" "LNailedOrders$Door;") (by decide +kernel)) (fun _ h9 => h9) rfl dX7_person_49 ?_
    refine va_get (D := G) (ci := 0) (v := .ref (q 1)) (C := RX1) (T := TX1) (N := 13) hx hb hts iX7_person_X1 hown hK hP 1 rfl rfl 1 (by decide) (hts (.fieldLink RX7 83 "NailedOrders$Door" "ranks" "[I") (by decide +kernel)) (fun _ h9 => h9) rfl dX7_person_52 ?_
    refine lv_iload_n hx hb dX7_person_55 rfl (lv_at hl 1 rfl) ?_
    refine o_iald hx hb hK hP 2 0 rfl rfl j (by omega) (by decide) dX7_person_56 ?_
    exact o_endI hx hb hr hlocks dX7_person_57 rfl
  · exact absurd hj c8

set_option maxHeartbeats 4000000 in
set_option maxRecDepth 100000 in
theorem kX7_person_1 (l : Launch) (G : va_G) (cy : Nat → ClassId) {H0 : Heap} {z : Nat} {q h x r y : Nat → Nat} {M : MT} (hW : WB M) (hP : va_P G vwCl ([oSy z q h x r y] ++ wDo cy q M) H0) (j : Nat) (hj : j < mP M) : MetI l yX7_person wsX7_person 1 23 [.ref z, .int (nI j), .int (nI 1)] H0 G cy (nI (cR (owB M j) 0 (mN M))) := by
  refine Met.ofW (cc := cX7_person) (maxL := 3) (ret := (some .int)) (by decide) rfl ?_
  intro p e s m args below meth c s₁ B hml hv
  obtain ⟨rfl, hH, hK⟩ := hv
  subst hH
  have hx := B.exec
  have hb := B.bytes
  have hr := B.returns
  have hts := atoms_spec (ws := wsX7_person) B.pre
  have hown : s.vm.findClass RX7 = some m.cls := findClass_of_methodNamed B.named
  have hlocks := B.notSynchronized
  have hl := lv_entry ([.ref z, .int (nI j), .int (nI 1)]) (n := 3) (Nat.le_of_ble_eq_true rfl)
  rw [lg_entry_eq]
  generalize (lg_sl ([.ref z, .int (nI j), .int (nI 1)]) ++ List.replicate (3 - (lg_sl ([.ref z, .int (nI j), .int (nI 1)])).length) Slot.unset).toArray = ls at hl ⊢
  have hl : lv_has ls 3 [(0, .ref z), (1, .int (nI j)), (2, .int (nI 1))] := hl
  obtain ⟨bP, bN, bR, bO, bW, bL, bF⟩ := id hW
  have hPd := hP.sub (ws' := wDo cy q M) [1, 2, 3, 4, 5, 6, 7, 8, 9] rfl
  refine lv_aload_n hx hb dX7_person_0 rfl (lv_at hl 0 rfl) ?_
  refine va_get (D := G) (ci := 6) (v := .ref (q 0)) (C := RX7) (T := TX7) (N := 9) hx hb hts iX7_person_X7 hown hK hP 0 rfl rfl 0 (by decide) (hts (.fieldLink RX7 10 "NailedOrders" "door" "LNailedOrders$Door;") (by decide +kernel)) (fun _ h9 => h9) rfl dX7_person_1 ?_
  refine lv_iload_n hx hb dX7_person_4 rfl (lv_at hl 1 rfl) ?_
  refine o_VI (As := [.int (nI j)]) (rest := []) ⟨hx, hb, hml, hown, hts⟩ (kX1_isPerson l G cy hW hPd j (by omega)) (cwV 1 hts gX7_person_X1_isPerson rfl rfl rfl (by decide +kernel) ⟨Nat.le_of_ble_eq_true rfl, Nat.le_of_ble_eq_true rfl⟩) hK (va_recv hK hP (ci := 0) (q0 := 1) rfl rfl) rfl hl.1 rfl (Nat.le_of_ble_eq_true rfl) dX7_person_5 ⟨Nat.zero_le _, Nat.zero_le _⟩ ?_
  refine o_ifb_ne (tgt := 13) hx hb dX7_person_8 (by decide) (fun c8 => ?_) (fun c8 => ?_)
  · refine lv_iload_n hx hb dX7_person_13 rfl (lv_at hl 2 rfl) ?_
    refine lv_tableIn (x := nI 1) (off := 44) (tgt := 58) hx hb dX7_person_14 (by decide +kernel) (by decide +kernel) (by decide +kernel) (by decide) ?_
    refine lv_aload_n hx hb dX7_person_58 rfl (lv_at hl 0 rfl) ?_
    refine va_get (D := G) (ci := 6) (v := .ref (q 0)) (C := RX7) (T := TX7) (N := 9) hx hb hts iX7_person_X7 hown hK hP 0 rfl rfl 0 (by decide) (hts (.fieldLink RX7 10 "NailedOrders" "door" "LNailedOrders$Door;") (by decide +kernel)) (fun _ h9 => h9) rfl dX7_person_59 ?_
    refine lv_iload_n hx hb dX7_person_62 rfl (lv_at hl 1 rfl) ?_
    refine o_VI (As := [.int (nI j)]) (rest := []) ⟨hx, hb, hml, hown, hts⟩ (kX1_nailedBy l G cy hW hPd j (by omega)) (cwV 1 hts gX7_person_X1_nailedBy rfl rfl rfl (by decide +kernel) ⟨Nat.le_of_ble_eq_true rfl, Nat.le_of_ble_eq_true rfl⟩) hK (va_recv hK hP (ci := 0) (q0 := 1) rfl rfl) rfl hl.1 rfl (Nat.le_of_ble_eq_true rfl) dX7_person_63 ⟨Nat.zero_le _, Nat.zero_le _⟩ ?_
    exact o_endI hx hb hr hlocks dX7_person_66 rfl
  · exact absurd hj c8

set_option maxHeartbeats 4000000 in
set_option maxRecDepth 100000 in
theorem kX7_person_2 (l : Launch) (G : va_G) (cy : Nat → ClassId) {H0 : Heap} {z : Nat} {q h x r y : Nat → Nat} {M : MT} (hW : WB M) (hP : va_P G vwCl ([oSy z q h x r y] ++ wDo cy q M) H0) (j : Nat) (hj : j < mP M) : MetI l yX7_person wsX7_person 2 44 [.ref z, .int (nI j), .int (nI 2)] H0 G cy (nI (cR (hoB M j) 0 (mN M))) := by
  refine Met.ofW (cc := cX7_person) (maxL := 3) (ret := (some .int)) (by decide) rfl ?_
  intro p e s m args below meth c s₁ B hml hv
  obtain ⟨rfl, hH, hK⟩ := hv
  subst hH
  have hx := B.exec
  have hb := B.bytes
  have hr := B.returns
  have hts := atoms_spec (ws := wsX7_person) B.pre
  have hown : s.vm.findClass RX7 = some m.cls := findClass_of_methodNamed B.named
  have hlocks := B.notSynchronized
  have hl := lv_entry ([.ref z, .int (nI j), .int (nI 2)]) (n := 3) (Nat.le_of_ble_eq_true rfl)
  rw [lg_entry_eq]
  generalize (lg_sl ([.ref z, .int (nI j), .int (nI 2)]) ++ List.replicate (3 - (lg_sl ([.ref z, .int (nI j), .int (nI 2)])).length) Slot.unset).toArray = ls at hl ⊢
  have hl : lv_has ls 3 [(0, .ref z), (1, .int (nI j)), (2, .int (nI 2))] := hl
  obtain ⟨bP, bN, bR, bO, bW, bL, bF⟩ := id hW
  have hPd := hP.sub (ws' := wDo cy q M) [1, 2, 3, 4, 5, 6, 7, 8, 9] rfl
  refine lv_aload_n hx hb dX7_person_0 rfl (lv_at hl 0 rfl) ?_
  refine va_get (D := G) (ci := 6) (v := .ref (q 0)) (C := RX7) (T := TX7) (N := 9) hx hb hts iX7_person_X7 hown hK hP 0 rfl rfl 0 (by decide) (hts (.fieldLink RX7 10 "NailedOrders" "door" "LNailedOrders$Door;") (by decide +kernel)) (fun _ h9 => h9) rfl dX7_person_1 ?_
  refine lv_iload_n hx hb dX7_person_4 rfl (lv_at hl 1 rfl) ?_
  refine o_VI (As := [.int (nI j)]) (rest := []) ⟨hx, hb, hml, hown, hts⟩ (kX1_isPerson l G cy hW hPd j (by omega)) (cwV 1 hts gX7_person_X1_isPerson rfl rfl rfl (by decide +kernel) ⟨Nat.le_of_ble_eq_true rfl, Nat.le_of_ble_eq_true rfl⟩) hK (va_recv hK hP (ci := 0) (q0 := 1) rfl rfl) rfl hl.1 rfl (Nat.le_of_ble_eq_true rfl) dX7_person_5 ⟨Nat.zero_le _, Nat.zero_le _⟩ ?_
  refine o_ifb_ne (tgt := 13) hx hb dX7_person_8 (by decide) (fun c8 => ?_) (fun c8 => ?_)
  · refine lv_iload_n hx hb dX7_person_13 rfl (lv_at hl 2 rfl) ?_
    refine lv_tableIn (x := nI 2) (off := 53) (tgt := 67) hx hb dX7_person_14 (by decide +kernel) (by decide +kernel) (by decide +kernel) (by decide) ?_
    refine lv_aload_n hx hb dX7_person_67 rfl (lv_at hl 0 rfl) ?_
    refine va_get (D := G) (ci := 6) (v := .ref (q 0)) (C := RX7) (T := TX7) (N := 9) hx hb hts iX7_person_X7 hown hK hP 0 rfl rfl 0 (by decide) (hts (.fieldLink RX7 10 "NailedOrders" "door" "LNailedOrders$Door;") (by decide +kernel)) (fun _ h9 => h9) rfl dX7_person_68 ?_
    refine lv_iload_n hx hb dX7_person_71 rfl (lv_at hl 1 rfl) ?_
    refine o_VI (As := [.int (nI j)]) (rest := []) ⟨hx, hb, hml, hown, hts⟩ (kX1_hangingBy l G cy hW hPd j (by omega)) (cwV 1 hts gX7_person_X1_hangingBy rfl rfl rfl (by decide +kernel) ⟨Nat.le_of_ble_eq_true rfl, Nat.le_of_ble_eq_true rfl⟩) hK (va_recv hK hP (ci := 0) (q0 := 1) rfl rfl) rfl hl.1 rfl (Nat.le_of_ble_eq_true rfl) dX7_person_72 ⟨Nat.zero_le _, Nat.zero_le _⟩ ?_
    exact o_endI hx hb hr hlocks dX7_person_75 rfl
  · exact absurd hj c8

set_option maxHeartbeats 4000000 in
set_option maxRecDepth 100000 in
theorem kX7_person_4 (l : Launch) (G : va_G) (cy : Nat → ClassId) {H0 : Heap} {z : Nat} {q h x r y : Nat → Nat} {M : MT} (hW : WB M) (hP : va_P G vwCl ([oSy z q h x r y] ++ wDo cy q M) H0) (j : Nat) (hj : j < mP M) : MetI l yX7_person wsX7_person 2 44 [.ref z, .int (nI j), .int (nI 4)] H0 G cy (wBt M j (mN M)) := by
  refine Met.ofW (cc := cX7_person) (maxL := 3) (ret := (some .int)) (by decide) rfl ?_
  intro p e s m args below meth c s₁ B hml hv
  obtain ⟨rfl, hH, hK⟩ := hv
  subst hH
  have hx := B.exec
  have hb := B.bytes
  have hr := B.returns
  have hts := atoms_spec (ws := wsX7_person) B.pre
  have hown : s.vm.findClass RX7 = some m.cls := findClass_of_methodNamed B.named
  have hlocks := B.notSynchronized
  have hl := lv_entry ([.ref z, .int (nI j), .int (nI 4)]) (n := 3) (Nat.le_of_ble_eq_true rfl)
  rw [lg_entry_eq]
  generalize (lg_sl ([.ref z, .int (nI j), .int (nI 4)]) ++ List.replicate (3 - (lg_sl ([.ref z, .int (nI j), .int (nI 4)])).length) Slot.unset).toArray = ls at hl ⊢
  have hl : lv_has ls 3 [(0, .ref z), (1, .int (nI j)), (2, .int (nI 4))] := hl
  obtain ⟨bP, bN, bR, bO, bW, bL, bF⟩ := id hW
  have hPd := hP.sub (ws' := wDo cy q M) [1, 2, 3, 4, 5, 6, 7, 8, 9] rfl
  refine lv_aload_n hx hb dX7_person_0 rfl (lv_at hl 0 rfl) ?_
  refine va_get (D := G) (ci := 6) (v := .ref (q 0)) (C := RX7) (T := TX7) (N := 9) hx hb hts iX7_person_X7 hown hK hP 0 rfl rfl 0 (by decide) (hts (.fieldLink RX7 10 "NailedOrders" "door" "LNailedOrders$Door;") (by decide +kernel)) (fun _ h9 => h9) rfl dX7_person_1 ?_
  refine lv_iload_n hx hb dX7_person_4 rfl (lv_at hl 1 rfl) ?_
  refine o_VI (As := [.int (nI j)]) (rest := []) ⟨hx, hb, hml, hown, hts⟩ (kX1_isPerson l G cy hW hPd j (by omega)) (cwV 1 hts gX7_person_X1_isPerson rfl rfl rfl (by decide +kernel) ⟨Nat.le_of_ble_eq_true rfl, Nat.le_of_ble_eq_true rfl⟩) hK (va_recv hK hP (ci := 0) (q0 := 1) rfl rfl) rfl hl.1 rfl (Nat.le_of_ble_eq_true rfl) dX7_person_5 ⟨Nat.zero_le _, Nat.zero_le _⟩ ?_
  refine o_ifb_ne (tgt := 13) hx hb dX7_person_8 (by decide) (fun c8 => ?_) (fun c8 => ?_)
  · refine lv_iload_n hx hb dX7_person_13 rfl (lv_at hl 2 rfl) ?_
    refine lv_tableIn (x := nI 4) (off := 68) (tgt := 82) hx hb dX7_person_14 (by decide +kernel) (by decide +kernel) (by decide +kernel) (by decide) ?_
    refine lv_aload_n hx hb dX7_person_82 rfl (lv_at hl 0 rfl) ?_
    refine va_get (D := G) (ci := 6) (v := .ref (q 0)) (C := RX7) (T := TX7) (N := 9) hx hb hts iX7_person_X7 hown hK hP 0 rfl rfl 0 (by decide) (hts (.fieldLink RX7 10 "NailedOrders" "door" "LNailedOrders$Door;") (by decide +kernel)) (fun _ h9 => h9) rfl dX7_person_83 ?_
    refine lv_iload_n hx hb dX7_person_86 rfl (lv_at hl 1 rfl) ?_
    refine o_VI (As := [.int (nI j)]) (rest := []) ⟨hx, hb, hml, hown, hts⟩ (kX1_wordsOf l G cy hW hPd j (by omega)) (cwV 1 hts gX7_person_X1_wordsOf rfl rfl rfl (by decide +kernel) ⟨Nat.le_of_ble_eq_true rfl, Nat.le_of_ble_eq_true rfl⟩) hK (va_recv hK hP (ci := 0) (q0 := 1) rfl rfl) rfl hl.1 rfl (Nat.le_of_ble_eq_true rfl) dX7_person_87 ⟨Nat.zero_le _, Nat.zero_le _⟩ ?_
    exact o_endI hx hb hr hlocks dX7_person_90 rfl
  · exact absurd hj c8

set_option maxHeartbeats 4000000 in
set_option maxRecDepth 100000 in
theorem kX7_value_u (l : Launch) (G : va_G) (cy : Nat → ClassId) {H0 : Heap} {z : Nat} {q h x r y : Nat → Nat} {M : MT} (hW : WB M) (hP : va_P G vwCl ([oSy z q h x r y] ++ wDo cy q M) H0) (w : Nat) (hw : ¬ w < 16) (hw2 : w < 2 ^ 31) : MetF l yX7_value wsX7_value 1 20 [.ref z, .int (nI w)] H0 G cy 2143289344 := by
  refine Met.ofW (cc := cX7_value) (maxL := 2) (ret := (some .float)) (by decide) rfl ?_
  intro p e s m args below meth c s₁ B hml hv
  obtain ⟨rfl, hH, hK⟩ := hv
  subst hH
  have hx := B.exec
  have hb := B.bytes
  have hr := B.returns
  have hts := atoms_spec (ws := wsX7_value) B.pre
  have hown : s.vm.findClass RX7 = some m.cls := findClass_of_methodNamed B.named
  have hlocks := B.notSynchronized
  have hl := lv_entry ([.ref z, .int (nI w)]) (n := 2) (Nat.le_of_ble_eq_true rfl)
  rw [lg_entry_eq]
  generalize (lg_sl ([.ref z, .int (nI w)]) ++ List.replicate (2 - (lg_sl ([.ref z, .int (nI w)])).length) Slot.unset).toArray = ls at hl ⊢
  have hl : lv_has ls 2 [(0, .ref z), (1, .int (nI w))] := hl
  obtain ⟨bP, bN, bR, bO, bW, bL, bF⟩ := id hW
  have hPd := hP.sub (ws' := wDo cy q M) [1, 2, 3, 4, 5, 6, 7, 8, 9] rfl
  refine lv_iload_n hx hb dX7_value_0 rfl (lv_at hl 1 rfl) ?_
  refine o_SI (As := [.int (nI w)]) (rest := []) ⟨hx, hb, hml, hown, hts⟩ (kX7_isWord l G cy w (by omega)) (va_cwS 1 hts gX7_value_X7_isWord rfl rfl rfl (by decide +kernel) ⟨Nat.le_of_ble_eq_true rfl, Nat.le_of_ble_eq_true rfl⟩) hK rfl hl.1 rfl (Nat.le_of_ble_eq_true rfl) dX7_value_1 ⟨Nat.zero_le _, Nat.zero_le _⟩ ?_
  refine o_ifb_ne (tgt := 11) hx hb dX7_value_4 (by decide) (fun c4 => ?_) (fun c4 => ?_)
  · exact absurd c4 hw
  · refine o_SF (As := []) (rest := []) ⟨hx, hb, hml, hown, hts⟩ (kX7_noFloat l G cy) (va_cwS 0 hts gX7_value_X7_noFloat rfl rfl rfl (by decide +kernel) ⟨Nat.le_of_ble_eq_true rfl, Nat.le_of_ble_eq_true rfl⟩) hK rfl hl.1 rfl (Nat.le_of_ble_eq_true rfl) dX7_value_7 ⟨Nat.zero_le _, Nat.zero_le _⟩ ?_
    exact o_endF hx hb hr hlocks dX7_value_10 rfl

set_option maxRecDepth 100000 in
theorem iX7_word_X7 : ∀ w ∈ u_ws RX7 TX7 9, w ∈ wsX7_word := by decide +kernel
set_option maxRecDepth 100000 in
theorem iX7_word_X4 : ∀ w ∈ u_ws RX4 TX4 4, w ∈ wsX7_word := by decide +kernel
set_option maxHeartbeats 4000000 in
set_option maxRecDepth 100000 in
theorem kX7_word_0 (l : Launch) (G : va_G) (cy : Nat → ClassId) {H0 : Heap} {z : Nat} {q h x r y : Nat → Nat} {M : MT} {ru : Nat → Option Nat} {kn : Nat → Bool} {va : Nat → UInt32} {A0 : Nat → Prop} (hW : WB M) (hF : WF M) (hP : va_P G vwCl ([oSy z q h x r y] ++ (wRe cy r (q 0) ru kn va ++ wDo cy q M)) H0) (hD0 : va_D A0 ([oSy z q h x r y] ++ (wRe cy r (q 0) ru kn va ++ wDo cy q M))) (w : Nat) (hw : w < 16) : MutI l yX7_word wsX7_word 4 110 [.ref z, .int (nI w), .int (nI 0)] H0 G cy (lkI (rl M w)) ([oSy z q h x r y] ++ (wRe cy r (q 0) ru kn va ++ wDo cy q M)) ([oSy z q h x r y] ++ (wRe cy r (q 0) (rl M) (kF M) (vF M) ++ wDo cy q M)) := by
  refine Met.ofW (cc := cX7_word) (maxL := 3) (ret := (some .int)) (by decide) rfl ?_
  intro p e s m args below meth c s₁ B hml hv
  obtain ⟨rfl, hH, hK⟩ := hv
  subst hH
  have hx := B.exec
  have hb := B.bytes
  have hr := B.returns
  have hts := atoms_spec (ws := wsX7_word) B.pre
  have hown : s.vm.findClass RX7 = some m.cls := findClass_of_methodNamed B.named
  have hlocks := B.notSynchronized
  have hl := lv_entry ([.ref z, .int (nI w), .int (nI 0)]) (n := 3) (Nat.le_of_ble_eq_true rfl)
  rw [lg_entry_eq]
  generalize (lg_sl ([.ref z, .int (nI w), .int (nI 0)]) ++ List.replicate (3 - (lg_sl ([.ref z, .int (nI w), .int (nI 0)])).length) Slot.unset).toArray = ls at hl ⊢
  have hl : lv_has ls 3 [(0, .ref z), (1, .int (nI w)), (2, .int (nI 0))] := hl
  obtain ⟨bP, bN, bR, bO, bW, bL, bF⟩ := id hW
  have hPd0 := hP.sub (ws' := wDo cy q M) [5, 6, 7, 8, 9, 10, 11, 12, 13] rfl
  have hD := hD0.self (sz := s.heap.size)
  generalize hAe : va_A ([oSy z q h x r y] ++ (wRe cy r (q 0) ru kn va ++ wDo cy q M)) s.heap.size = A at hD ⊢
  have hA : ∀ q : Nat, s.heap.size ≤ q → A q := fun q h => by rw [← hAe]; exact Or.inr h
  have hS : va_S A s.heap s.heap [] := va_S.rf
  refine lv_iload_n hx hb dX7_word_0 rfl (lv_at hl 1 rfl) ?_
  refine o_SI (As := [.int (nI w)]) (rest := []) ⟨hx, hb, hml, hown, hts⟩ (kX7_isWord l G cy w (by omega)) (va_cwS 1 hts gX7_word_X7_isWord rfl rfl rfl (by decide +kernel) ⟨Nat.le_of_ble_eq_true rfl, Nat.le_of_ble_eq_true rfl⟩) hK rfl hl.1 rfl (Nat.le_of_ble_eq_true rfl) dX7_word_1 ⟨Nat.zero_le _, Nat.zero_le _⟩ ?_
  refine o_ifb_ne (tgt := 9) hx hb dX7_word_4 (by decide) (fun c4 => ?_) (fun c4 => ?_)
  · refine lv_aload_n hx hb dX7_word_9 rfl (lv_at hl 0 rfl) ?_
    refine va_get (D := G) (ci := 6) (v := .ref (r 0)) (C := RX7) (T := TX7) (N := 9) hx hb hts iX7_word_X7 hown hK hP 0 rfl rfl 7 (by decide) (hts (.fieldLink RX7 58 "NailedOrders" "now" "LNailedOrders$Reckoning;") (by decide +kernel)) (fun _ h9 => h9) rfl dX7_word_10 ?_
    refine lv_bipush (v := (-5)) hx hb dX7_word_13 (by decide +kernel) ?_
    have hPc := hP.sub (ws' := wRe cy r (q 0) ru kn va ++ wDo cy q M) [1, 2, 3, 4, 5, 6, 7, 8, 9, 10, 11, 12, 13] rfl
    have hDc := hD.sub (ws' := wRe cy r (q 0) ru kn va ++ wDo cy q M) [1, 2, 3, 4, 5, 6, 7, 8, 9, 10, 11, 12, 13] (by decide) rfl
    have hFc := va_free (wc := wRe cy r (q 0) ru kn va ++ wDo cy q M) hD hS hA [1, 2, 3, 4, 5, 6, 7, 8, 9, 10, 11, 12, 13] rfl
    refine va_callv (va_runV (As := [.int ((-5))]) (rest := []) ⟨hx, hb, hml, hown, hts⟩ (kX4_settle l G cy hW hF hPc hDc) (cwV 1 hts gX7_word_X4_settle rfl rfl rfl (by decide +kernel) ⟨Nat.le_of_ble_eq_true rfl, Nat.le_of_ble_eq_true rfl⟩) ⟨pR_blind, va_recv hK hP (ci := 3) (q0 := 1) rfl rfl, pR_at hK⟩ rfl rfl hl.1 rfl (lv_room (Nat.le_of_ble_eq_true rfl)) dX7_word_15 ⟨Nat.zero_le _, Nat.zero_le _⟩) hS (fun q _ h => hFc q h) hFc (fun u_ t_ H locs ht hvm hw_ hB hz1 hk1 hS => ?_)
    rw [ht] at hB
    have hP : va_P G vwCl ([oSy z q h x r y] ++ wRe cy r (q 0) (rl M) (kF M) (vF M) ++ wDo cy q M) H := (o_join hP hD [1, 2, 3, 4, 5, 6, 7, 8, 9, 10, 11, 12, 13] [0] rfl (wr := [oSy z q h x r y]) rfl (by decide) (by decide) (by decide) hk1 hFc hB rfl).sub [0, 1, 2, 3, 4, 5, 6, 7, 8, 9, 10, 11, 12, 13] rfl
    have hD : va_D A ([oSy z q h x r y] ++ wRe cy r (q 0) (rl M) (kF M) (vF M) ++ wDo cy q M) := vd_same hD rfl
    have hPr := hP.sub (ws' := wRe cy r (q 0) (rl M) (kF M) (vF M) ++ wDo cy q M) [1, 2, 3, 4, 5, 6, 7, 8, 9, 10, 11, 12, 13] rfl
    have hPd := hP.sub (ws' := wDo cy q M) [5, 6, 7, 8, 9, 10, 11, 12, 13] rfl
    refine lv_iload_n hx hb dX7_word_18 rfl (lv_at hl 2 rfl) ?_
    refine lv_tableIn (x := nI 0) (off := 41) (tgt := 60) hx hb dX7_word_19 (by decide +kernel) (by decide +kernel) (by decide +kernel) (by decide) ?_
    refine lv_aload_n hx hb dX7_word_60 rfl (lv_at hl 0 rfl) ?_
    refine va_get (D := G) (ci := 6) (v := .ref (r 0)) (C := RX7) (T := TX7) (N := 9) hx hb hts iX7_word_X7 hown hK hP 0 rfl rfl 7 (by decide) (hts (.fieldLink RX7 58 "NailedOrders" "now" "LNailedOrders$Reckoning;") (by decide +kernel)) (fun _ h9 => h9) rfl dX7_word_61 ?_
    refine va_get (D := G) (ci := 3) (v := .ref (r 1)) (C := RX4) (T := TX4) (N := 4) hx hb hts iX7_word_X4 hown hK hP 1 rfl rfl 1 (by decide) (hts (.fieldLink RX7 208 "NailedOrders$Reckoning" "rulers" "[I") (by decide +kernel)) (fun _ h9 => h9) rfl dX7_word_64 ?_
    refine lv_iload_n hx hb dX7_word_67 rfl (lv_at hl 1 rfl) ?_
    refine o_iald hx hb hK hP 2 0 rfl rfl w (by omega) (by decide) dX7_word_68 ?_
    exact o_endIm hx hb hr hlocks dX7_word_69 hP hS rfl
  · exact absurd hw c4

set_option maxHeartbeats 4000000 in
set_option maxRecDepth 100000 in
theorem kX7_word_1 (l : Launch) (G : va_G) (cy : Nat → ClassId) {H0 : Heap} {z : Nat} {q h x r y : Nat → Nat} {M : MT} {ru : Nat → Option Nat} {kn : Nat → Bool} {va : Nat → UInt32} {A0 : Nat → Prop} (hW : WB M) (hF : WF M) (hP : va_P G vwCl ([oSy z q h x r y] ++ (wRe cy r (q 0) ru kn va ++ wDo cy q M)) H0) (hD0 : va_D A0 ([oSy z q h x r y] ++ (wRe cy r (q 0) ru kn va ++ wDo cy q M))) (w : Nat) (hw : w < 16) : MutI l yX7_word wsX7_word 4 110 [.ref z, .int (nI w), .int (nI 1)] H0 G cy (hAt (hfB M w) (mN M) 0) ([oSy z q h x r y] ++ (wRe cy r (q 0) ru kn va ++ wDo cy q M)) ([oSy z q h x r y] ++ (wRe cy r (q 0) (rl M) (kF M) (vF M) ++ wDo cy q M)) := by
  refine Met.ofW (cc := cX7_word) (maxL := 3) (ret := (some .int)) (by decide) rfl ?_
  intro p e s m args below meth c s₁ B hml hv
  obtain ⟨rfl, hH, hK⟩ := hv
  subst hH
  have hx := B.exec
  have hb := B.bytes
  have hr := B.returns
  have hts := atoms_spec (ws := wsX7_word) B.pre
  have hown : s.vm.findClass RX7 = some m.cls := findClass_of_methodNamed B.named
  have hlocks := B.notSynchronized
  have hl := lv_entry ([.ref z, .int (nI w), .int (nI 1)]) (n := 3) (Nat.le_of_ble_eq_true rfl)
  rw [lg_entry_eq]
  generalize (lg_sl ([.ref z, .int (nI w), .int (nI 1)]) ++ List.replicate (3 - (lg_sl ([.ref z, .int (nI w), .int (nI 1)])).length) Slot.unset).toArray = ls at hl ⊢
  have hl : lv_has ls 3 [(0, .ref z), (1, .int (nI w)), (2, .int (nI 1))] := hl
  obtain ⟨bP, bN, bR, bO, bW, bL, bF⟩ := id hW
  have hPd0 := hP.sub (ws' := wDo cy q M) [5, 6, 7, 8, 9, 10, 11, 12, 13] rfl
  have hD := hD0.self (sz := s.heap.size)
  generalize hAe : va_A ([oSy z q h x r y] ++ (wRe cy r (q 0) ru kn va ++ wDo cy q M)) s.heap.size = A at hD ⊢
  have hA : ∀ q : Nat, s.heap.size ≤ q → A q := fun q h => by rw [← hAe]; exact Or.inr h
  have hS : va_S A s.heap s.heap [] := va_S.rf
  refine lv_iload_n hx hb dX7_word_0 rfl (lv_at hl 1 rfl) ?_
  refine o_SI (As := [.int (nI w)]) (rest := []) ⟨hx, hb, hml, hown, hts⟩ (kX7_isWord l G cy w (by omega)) (va_cwS 1 hts gX7_word_X7_isWord rfl rfl rfl (by decide +kernel) ⟨Nat.le_of_ble_eq_true rfl, Nat.le_of_ble_eq_true rfl⟩) hK rfl hl.1 rfl (Nat.le_of_ble_eq_true rfl) dX7_word_1 ⟨Nat.zero_le _, Nat.zero_le _⟩ ?_
  refine o_ifb_ne (tgt := 9) hx hb dX7_word_4 (by decide) (fun c4 => ?_) (fun c4 => ?_)
  · refine lv_aload_n hx hb dX7_word_9 rfl (lv_at hl 0 rfl) ?_
    refine va_get (D := G) (ci := 6) (v := .ref (r 0)) (C := RX7) (T := TX7) (N := 9) hx hb hts iX7_word_X7 hown hK hP 0 rfl rfl 7 (by decide) (hts (.fieldLink RX7 58 "NailedOrders" "now" "LNailedOrders$Reckoning;") (by decide +kernel)) (fun _ h9 => h9) rfl dX7_word_10 ?_
    refine lv_bipush (v := (-5)) hx hb dX7_word_13 (by decide +kernel) ?_
    have hPc := hP.sub (ws' := wRe cy r (q 0) ru kn va ++ wDo cy q M) [1, 2, 3, 4, 5, 6, 7, 8, 9, 10, 11, 12, 13] rfl
    have hDc := hD.sub (ws' := wRe cy r (q 0) ru kn va ++ wDo cy q M) [1, 2, 3, 4, 5, 6, 7, 8, 9, 10, 11, 12, 13] (by decide) rfl
    have hFc := va_free (wc := wRe cy r (q 0) ru kn va ++ wDo cy q M) hD hS hA [1, 2, 3, 4, 5, 6, 7, 8, 9, 10, 11, 12, 13] rfl
    refine va_callv (va_runV (As := [.int ((-5))]) (rest := []) ⟨hx, hb, hml, hown, hts⟩ (kX4_settle l G cy hW hF hPc hDc) (cwV 1 hts gX7_word_X4_settle rfl rfl rfl (by decide +kernel) ⟨Nat.le_of_ble_eq_true rfl, Nat.le_of_ble_eq_true rfl⟩) ⟨pR_blind, va_recv hK hP (ci := 3) (q0 := 1) rfl rfl, pR_at hK⟩ rfl rfl hl.1 rfl (lv_room (Nat.le_of_ble_eq_true rfl)) dX7_word_15 ⟨Nat.zero_le _, Nat.zero_le _⟩) hS (fun q _ h => hFc q h) hFc (fun u_ t_ H locs ht hvm hw_ hB hz1 hk1 hS => ?_)
    rw [ht] at hB
    have hP : va_P G vwCl ([oSy z q h x r y] ++ wRe cy r (q 0) (rl M) (kF M) (vF M) ++ wDo cy q M) H := (o_join hP hD [1, 2, 3, 4, 5, 6, 7, 8, 9, 10, 11, 12, 13] [0] rfl (wr := [oSy z q h x r y]) rfl (by decide) (by decide) (by decide) hk1 hFc hB rfl).sub [0, 1, 2, 3, 4, 5, 6, 7, 8, 9, 10, 11, 12, 13] rfl
    have hD : va_D A ([oSy z q h x r y] ++ wRe cy r (q 0) (rl M) (kF M) (vF M) ++ wDo cy q M) := vd_same hD rfl
    have hPr := hP.sub (ws' := wRe cy r (q 0) (rl M) (kF M) (vF M) ++ wDo cy q M) [1, 2, 3, 4, 5, 6, 7, 8, 9, 10, 11, 12, 13] rfl
    have hPd := hP.sub (ws' := wDo cy q M) [5, 6, 7, 8, 9, 10, 11, 12, 13] rfl
    refine lv_iload_n hx hb dX7_word_18 rfl (lv_at hl 2 rfl) ?_
    refine lv_tableIn (x := nI 1) (off := 51) (tgt := 70) hx hb dX7_word_19 (by decide +kernel) (by decide +kernel) (by decide +kernel) (by decide) ?_
    refine lv_aload_n hx hb dX7_word_70 rfl (lv_at hl 0 rfl) ?_
    refine va_get (D := G) (ci := 6) (v := .ref (q 0)) (C := RX7) (T := TX7) (N := 9) hx hb hts iX7_word_X7 hown hK hP 0 rfl rfl 0 (by decide) (hts (.fieldLink RX7 10 "NailedOrders" "door" "LNailedOrders$Door;") (by decide +kernel)) (fun _ h9 => h9) rfl dX7_word_71 ?_
    refine lv_iload_n hx hb dX7_word_74 rfl (lv_at hl 1 rfl) ?_
    refine lv_iconst (v := nI 0) hx hb dX7_word_75 (by decide +kernel) ?_
    refine o_VI (As := [.int (nI w), .int (nI 0)]) (rest := []) ⟨hx, hb, hml, hown, hts⟩ (kX1_hangingAt l G cy hW hPd w 0 hw (by decide)) (cwV 2 hts gX7_word_X1_hangingAt rfl rfl rfl (by decide +kernel) ⟨Nat.le_of_ble_eq_true rfl, Nat.le_of_ble_eq_true rfl⟩) hK (va_recv hK hP (ci := 0) (q0 := 5) rfl rfl) rfl hl.1 rfl (Nat.le_of_ble_eq_true rfl) dX7_word_76 ⟨Nat.zero_le _, Nat.zero_le _⟩ ?_
    exact o_endIm hx hb hr hlocks dX7_word_79 hP hS rfl
  · exact absurd hw c4

set_option maxHeartbeats 4000000 in
set_option maxRecDepth 100000 in
theorem kX7_word_2 (l : Launch) (G : va_G) (cy : Nat → ClassId) {H0 : Heap} {z : Nat} {q h x r y : Nat → Nat} {M : MT} {ru : Nat → Option Nat} {kn : Nat → Bool} {va : Nat → UInt32} {A0 : Nat → Prop} (hW : WB M) (hF : WF M) (hP : va_P G vwCl ([oSy z q h x r y] ++ (wRe cy r (q 0) ru kn va ++ wDo cy q M)) H0) (hD0 : va_D A0 ([oSy z q h x r y] ++ (wRe cy r (q 0) ru kn va ++ wDo cy q M))) (w : Nat) (hw : w < 16) : MutI l yX7_word wsX7_word 4 110 [.ref z, .int (nI w), .int (nI 2)] H0 G cy (nI (cR (hfB M w) 0 (mN M))) ([oSy z q h x r y] ++ (wRe cy r (q 0) ru kn va ++ wDo cy q M)) ([oSy z q h x r y] ++ (wRe cy r (q 0) (rl M) (kF M) (vF M) ++ wDo cy q M)) := by
  refine Met.ofW (cc := cX7_word) (maxL := 3) (ret := (some .int)) (by decide) rfl ?_
  intro p e s m args below meth c s₁ B hml hv
  obtain ⟨rfl, hH, hK⟩ := hv
  subst hH
  have hx := B.exec
  have hb := B.bytes
  have hr := B.returns
  have hts := atoms_spec (ws := wsX7_word) B.pre
  have hown : s.vm.findClass RX7 = some m.cls := findClass_of_methodNamed B.named
  have hlocks := B.notSynchronized
  have hl := lv_entry ([.ref z, .int (nI w), .int (nI 2)]) (n := 3) (Nat.le_of_ble_eq_true rfl)
  rw [lg_entry_eq]
  generalize (lg_sl ([.ref z, .int (nI w), .int (nI 2)]) ++ List.replicate (3 - (lg_sl ([.ref z, .int (nI w), .int (nI 2)])).length) Slot.unset).toArray = ls at hl ⊢
  have hl : lv_has ls 3 [(0, .ref z), (1, .int (nI w)), (2, .int (nI 2))] := hl
  obtain ⟨bP, bN, bR, bO, bW, bL, bF⟩ := id hW
  have hPd0 := hP.sub (ws' := wDo cy q M) [5, 6, 7, 8, 9, 10, 11, 12, 13] rfl
  have hD := hD0.self (sz := s.heap.size)
  generalize hAe : va_A ([oSy z q h x r y] ++ (wRe cy r (q 0) ru kn va ++ wDo cy q M)) s.heap.size = A at hD ⊢
  have hA : ∀ q : Nat, s.heap.size ≤ q → A q := fun q h => by rw [← hAe]; exact Or.inr h
  have hS : va_S A s.heap s.heap [] := va_S.rf
  refine lv_iload_n hx hb dX7_word_0 rfl (lv_at hl 1 rfl) ?_
  refine o_SI (As := [.int (nI w)]) (rest := []) ⟨hx, hb, hml, hown, hts⟩ (kX7_isWord l G cy w (by omega)) (va_cwS 1 hts gX7_word_X7_isWord rfl rfl rfl (by decide +kernel) ⟨Nat.le_of_ble_eq_true rfl, Nat.le_of_ble_eq_true rfl⟩) hK rfl hl.1 rfl (Nat.le_of_ble_eq_true rfl) dX7_word_1 ⟨Nat.zero_le _, Nat.zero_le _⟩ ?_
  refine o_ifb_ne (tgt := 9) hx hb dX7_word_4 (by decide) (fun c4 => ?_) (fun c4 => ?_)
  · refine lv_aload_n hx hb dX7_word_9 rfl (lv_at hl 0 rfl) ?_
    refine va_get (D := G) (ci := 6) (v := .ref (r 0)) (C := RX7) (T := TX7) (N := 9) hx hb hts iX7_word_X7 hown hK hP 0 rfl rfl 7 (by decide) (hts (.fieldLink RX7 58 "NailedOrders" "now" "LNailedOrders$Reckoning;") (by decide +kernel)) (fun _ h9 => h9) rfl dX7_word_10 ?_
    refine lv_bipush (v := (-5)) hx hb dX7_word_13 (by decide +kernel) ?_
    have hPc := hP.sub (ws' := wRe cy r (q 0) ru kn va ++ wDo cy q M) [1, 2, 3, 4, 5, 6, 7, 8, 9, 10, 11, 12, 13] rfl
    have hDc := hD.sub (ws' := wRe cy r (q 0) ru kn va ++ wDo cy q M) [1, 2, 3, 4, 5, 6, 7, 8, 9, 10, 11, 12, 13] (by decide) rfl
    have hFc := va_free (wc := wRe cy r (q 0) ru kn va ++ wDo cy q M) hD hS hA [1, 2, 3, 4, 5, 6, 7, 8, 9, 10, 11, 12, 13] rfl
    refine va_callv (va_runV (As := [.int ((-5))]) (rest := []) ⟨hx, hb, hml, hown, hts⟩ (kX4_settle l G cy hW hF hPc hDc) (cwV 1 hts gX7_word_X4_settle rfl rfl rfl (by decide +kernel) ⟨Nat.le_of_ble_eq_true rfl, Nat.le_of_ble_eq_true rfl⟩) ⟨pR_blind, va_recv hK hP (ci := 3) (q0 := 1) rfl rfl, pR_at hK⟩ rfl rfl hl.1 rfl (lv_room (Nat.le_of_ble_eq_true rfl)) dX7_word_15 ⟨Nat.zero_le _, Nat.zero_le _⟩) hS (fun q _ h => hFc q h) hFc (fun u_ t_ H locs ht hvm hw_ hB hz1 hk1 hS => ?_)
    rw [ht] at hB
    have hP : va_P G vwCl ([oSy z q h x r y] ++ wRe cy r (q 0) (rl M) (kF M) (vF M) ++ wDo cy q M) H := (o_join hP hD [1, 2, 3, 4, 5, 6, 7, 8, 9, 10, 11, 12, 13] [0] rfl (wr := [oSy z q h x r y]) rfl (by decide) (by decide) (by decide) hk1 hFc hB rfl).sub [0, 1, 2, 3, 4, 5, 6, 7, 8, 9, 10, 11, 12, 13] rfl
    have hD : va_D A ([oSy z q h x r y] ++ wRe cy r (q 0) (rl M) (kF M) (vF M) ++ wDo cy q M) := vd_same hD rfl
    have hPr := hP.sub (ws' := wRe cy r (q 0) (rl M) (kF M) (vF M) ++ wDo cy q M) [1, 2, 3, 4, 5, 6, 7, 8, 9, 10, 11, 12, 13] rfl
    have hPd := hP.sub (ws' := wDo cy q M) [5, 6, 7, 8, 9, 10, 11, 12, 13] rfl
    refine lv_iload_n hx hb dX7_word_18 rfl (lv_at hl 2 rfl) ?_
    refine lv_tableIn (x := nI 2) (off := 61) (tgt := 80) hx hb dX7_word_19 (by decide +kernel) (by decide +kernel) (by decide +kernel) (by decide) ?_
    refine lv_aload_n hx hb dX7_word_80 rfl (lv_at hl 0 rfl) ?_
    refine va_get (D := G) (ci := 6) (v := .ref (q 0)) (C := RX7) (T := TX7) (N := 9) hx hb hts iX7_word_X7 hown hK hP 0 rfl rfl 0 (by decide) (hts (.fieldLink RX7 10 "NailedOrders" "door" "LNailedOrders$Door;") (by decide +kernel)) (fun _ h9 => h9) rfl dX7_word_81 ?_
    refine lv_iload_n hx hb dX7_word_84 rfl (lv_at hl 1 rfl) ?_
    refine o_VI (As := [.int (nI w)]) (rest := []) ⟨hx, hb, hml, hown, hts⟩ (kX1_hangingFor l G cy hW hPd w hw) (cwV 1 hts gX7_word_X1_hangingFor rfl rfl rfl (by decide +kernel) ⟨Nat.le_of_ble_eq_true rfl, Nat.le_of_ble_eq_true rfl⟩) hK (va_recv hK hP (ci := 0) (q0 := 5) rfl rfl) rfl hl.1 rfl (Nat.le_of_ble_eq_true rfl) dX7_word_85 ⟨Nat.zero_le _, Nat.zero_le _⟩ ?_
    exact o_endIm hx hb hr hlocks dX7_word_88 hP hS rfl
  · exact absurd hw c4

set_option maxHeartbeats 4000000 in
set_option maxRecDepth 100000 in
theorem kX7_word_3 (l : Launch) (G : va_G) (cy : Nat → ClassId) {H0 : Heap} {z : Nat} {q h x r y : Nat → Nat} {M : MT} {ru : Nat → Option Nat} {kn : Nat → Bool} {va : Nat → UInt32} {A0 : Nat → Prop} (hW : WB M) (hF : WF M) (hP : va_P G vwCl ([oSy z q h x r y] ++ (wRe cy r (q 0) ru kn va ++ wDo cy q M)) H0) (hD0 : va_D A0 ([oSy z q h x r y] ++ (wRe cy r (q 0) ru kn va ++ wDo cy q M))) (w : Nat) (hw : w < 16) : MutI l yX7_word wsX7_word 4 110 [.ref z, .int (nI w), .int (nI 3)] H0 G cy (bI (kF M w = true)) ([oSy z q h x r y] ++ (wRe cy r (q 0) ru kn va ++ wDo cy q M)) ([oSy z q h x r y] ++ (wRe cy r (q 0) (rl M) (kF M) (vF M) ++ wDo cy q M)) := by
  refine Met.ofW (cc := cX7_word) (maxL := 3) (ret := (some .int)) (by decide) rfl ?_
  intro p e s m args below meth c s₁ B hml hv
  obtain ⟨rfl, hH, hK⟩ := hv
  subst hH
  have hx := B.exec
  have hb := B.bytes
  have hr := B.returns
  have hts := atoms_spec (ws := wsX7_word) B.pre
  have hown : s.vm.findClass RX7 = some m.cls := findClass_of_methodNamed B.named
  have hlocks := B.notSynchronized
  have hl := lv_entry ([.ref z, .int (nI w), .int (nI 3)]) (n := 3) (Nat.le_of_ble_eq_true rfl)
  rw [lg_entry_eq]
  generalize (lg_sl ([.ref z, .int (nI w), .int (nI 3)]) ++ List.replicate (3 - (lg_sl ([.ref z, .int (nI w), .int (nI 3)])).length) Slot.unset).toArray = ls at hl ⊢
  have hl : lv_has ls 3 [(0, .ref z), (1, .int (nI w)), (2, .int (nI 3))] := hl
  obtain ⟨bP, bN, bR, bO, bW, bL, bF⟩ := id hW
  have hPd0 := hP.sub (ws' := wDo cy q M) [5, 6, 7, 8, 9, 10, 11, 12, 13] rfl
  have hD := hD0.self (sz := s.heap.size)
  generalize hAe : va_A ([oSy z q h x r y] ++ (wRe cy r (q 0) ru kn va ++ wDo cy q M)) s.heap.size = A at hD ⊢
  have hA : ∀ q : Nat, s.heap.size ≤ q → A q := fun q h => by rw [← hAe]; exact Or.inr h
  have hS : va_S A s.heap s.heap [] := va_S.rf
  refine lv_iload_n hx hb dX7_word_0 rfl (lv_at hl 1 rfl) ?_
  refine o_SI (As := [.int (nI w)]) (rest := []) ⟨hx, hb, hml, hown, hts⟩ (kX7_isWord l G cy w (by omega)) (va_cwS 1 hts gX7_word_X7_isWord rfl rfl rfl (by decide +kernel) ⟨Nat.le_of_ble_eq_true rfl, Nat.le_of_ble_eq_true rfl⟩) hK rfl hl.1 rfl (Nat.le_of_ble_eq_true rfl) dX7_word_1 ⟨Nat.zero_le _, Nat.zero_le _⟩ ?_
  refine o_ifb_ne (tgt := 9) hx hb dX7_word_4 (by decide) (fun c4 => ?_) (fun c4 => ?_)
  · refine lv_aload_n hx hb dX7_word_9 rfl (lv_at hl 0 rfl) ?_
    refine va_get (D := G) (ci := 6) (v := .ref (r 0)) (C := RX7) (T := TX7) (N := 9) hx hb hts iX7_word_X7 hown hK hP 0 rfl rfl 7 (by decide) (hts (.fieldLink RX7 58 "NailedOrders" "now" "LNailedOrders$Reckoning;") (by decide +kernel)) (fun _ h9 => h9) rfl dX7_word_10 ?_
    refine lv_bipush (v := (-5)) hx hb dX7_word_13 (by decide +kernel) ?_
    have hPc := hP.sub (ws' := wRe cy r (q 0) ru kn va ++ wDo cy q M) [1, 2, 3, 4, 5, 6, 7, 8, 9, 10, 11, 12, 13] rfl
    have hDc := hD.sub (ws' := wRe cy r (q 0) ru kn va ++ wDo cy q M) [1, 2, 3, 4, 5, 6, 7, 8, 9, 10, 11, 12, 13] (by decide) rfl
    have hFc := va_free (wc := wRe cy r (q 0) ru kn va ++ wDo cy q M) hD hS hA [1, 2, 3, 4, 5, 6, 7, 8, 9, 10, 11, 12, 13] rfl
    refine va_callv (va_runV (As := [.int ((-5))]) (rest := []) ⟨hx, hb, hml, hown, hts⟩ (kX4_settle l G cy hW hF hPc hDc) (cwV 1 hts gX7_word_X4_settle rfl rfl rfl (by decide +kernel) ⟨Nat.le_of_ble_eq_true rfl, Nat.le_of_ble_eq_true rfl⟩) ⟨pR_blind, va_recv hK hP (ci := 3) (q0 := 1) rfl rfl, pR_at hK⟩ rfl rfl hl.1 rfl (lv_room (Nat.le_of_ble_eq_true rfl)) dX7_word_15 ⟨Nat.zero_le _, Nat.zero_le _⟩) hS (fun q _ h => hFc q h) hFc (fun u_ t_ H locs ht hvm hw_ hB hz1 hk1 hS => ?_)
    rw [ht] at hB
    have hP : va_P G vwCl ([oSy z q h x r y] ++ wRe cy r (q 0) (rl M) (kF M) (vF M) ++ wDo cy q M) H := (o_join hP hD [1, 2, 3, 4, 5, 6, 7, 8, 9, 10, 11, 12, 13] [0] rfl (wr := [oSy z q h x r y]) rfl (by decide) (by decide) (by decide) hk1 hFc hB rfl).sub [0, 1, 2, 3, 4, 5, 6, 7, 8, 9, 10, 11, 12, 13] rfl
    have hD : va_D A ([oSy z q h x r y] ++ wRe cy r (q 0) (rl M) (kF M) (vF M) ++ wDo cy q M) := vd_same hD rfl
    have hPr := hP.sub (ws' := wRe cy r (q 0) (rl M) (kF M) (vF M) ++ wDo cy q M) [1, 2, 3, 4, 5, 6, 7, 8, 9, 10, 11, 12, 13] rfl
    have hPd := hP.sub (ws' := wDo cy q M) [5, 6, 7, 8, 9, 10, 11, 12, 13] rfl
    refine lv_iload_n hx hb dX7_word_18 rfl (lv_at hl 2 rfl) ?_
    refine lv_tableIn (x := nI 3) (off := 70) (tgt := 89) hx hb dX7_word_19 (by decide +kernel) (by decide +kernel) (by decide +kernel) (by decide) ?_
    refine lv_aload_n hx hb dX7_word_89 rfl (lv_at hl 0 rfl) ?_
    refine va_get (D := G) (ci := 6) (v := .ref (r 0)) (C := RX7) (T := TX7) (N := 9) hx hb hts iX7_word_X7 hown hK hP 0 rfl rfl 7 (by decide) (hts (.fieldLink RX7 58 "NailedOrders" "now" "LNailedOrders$Reckoning;") (by decide +kernel)) (fun _ h9 => h9) rfl dX7_word_90 ?_
    refine va_get (D := G) (ci := 3) (v := .ref (r 2)) (C := RX4) (T := TX4) (N := 4) hx hb hts iX7_word_X4 hown hK hP 1 rfl rfl 2 (by decide) (hts (.fieldLink RX7 195 "NailedOrders$Reckoning" "known" "[Z") (by decide +kernel)) (fun _ h9 => h9) rfl dX7_word_93 ?_
    refine lv_iload_n hx hb dX7_word_96 rfl (lv_at hl 1 rfl) ?_
    refine o_zald hx hb hK hP 3 2 rfl rfl w (by omega) (by decide) dX7_word_97 ?_
    refine o_SI (As := [.int (bI ((kF M) w = true))]) (rest := []) ⟨hx, hb, hml, hown, hts⟩ (kX7_oneIf l G cy (kF M w = true)) (va_cwS 1 hts gX7_word_X7_oneIf rfl rfl rfl (by decide +kernel) ⟨Nat.le_of_ble_eq_true rfl, Nat.le_of_ble_eq_true rfl⟩) hK rfl hl.1 rfl (Nat.le_of_ble_eq_true rfl) dX7_word_98 ⟨Nat.zero_le _, Nat.zero_le _⟩ ?_
    exact o_endIm hx hb hr hlocks dX7_word_101 hP hS rfl
  · exact absurd hw c4

set_option maxHeartbeats 4000000 in
set_option maxRecDepth 100000 in
theorem kX7_word_4 (l : Launch) (G : va_G) (cy : Nat → ClassId) {H0 : Heap} {z : Nat} {q h x r y : Nat → Nat} {M : MT} {ru : Nat → Option Nat} {kn : Nat → Bool} {va : Nat → UInt32} {A0 : Nat → Prop} (hW : WB M) (hF : WF M) (hP : va_P G vwCl ([oSy z q h x r y] ++ (wRe cy r (q 0) ru kn va ++ wDo cy q M)) H0) (hD0 : va_D A0 ([oSy z q h x r y] ++ (wRe cy r (q 0) ru kn va ++ wDo cy q M))) (w : Nat) (hw : w < 16) : MutI l yX7_word wsX7_word 4 110 [.ref z, .int (nI w), .int (nI 4)] H0 G cy (lkI (rivOf M (rl M) (kF M) (vF M) w)) ([oSy z q h x r y] ++ (wRe cy r (q 0) ru kn va ++ wDo cy q M)) ([oSy z q h x r y] ++ (wRe cy r (q 0) (rl M) (kF M) (vF M) ++ wDo cy q M)) := by
  refine Met.ofW (cc := cX7_word) (maxL := 3) (ret := (some .int)) (by decide) rfl ?_
  intro p e s m args below meth c s₁ B hml hv
  obtain ⟨rfl, hH, hK⟩ := hv
  subst hH
  have hx := B.exec
  have hb := B.bytes
  have hr := B.returns
  have hts := atoms_spec (ws := wsX7_word) B.pre
  have hown : s.vm.findClass RX7 = some m.cls := findClass_of_methodNamed B.named
  have hlocks := B.notSynchronized
  have hl := lv_entry ([.ref z, .int (nI w), .int (nI 4)]) (n := 3) (Nat.le_of_ble_eq_true rfl)
  rw [lg_entry_eq]
  generalize (lg_sl ([.ref z, .int (nI w), .int (nI 4)]) ++ List.replicate (3 - (lg_sl ([.ref z, .int (nI w), .int (nI 4)])).length) Slot.unset).toArray = ls at hl ⊢
  have hl : lv_has ls 3 [(0, .ref z), (1, .int (nI w)), (2, .int (nI 4))] := hl
  obtain ⟨bP, bN, bR, bO, bW, bL, bF⟩ := id hW
  have hPd0 := hP.sub (ws' := wDo cy q M) [5, 6, 7, 8, 9, 10, 11, 12, 13] rfl
  have hD := hD0.self (sz := s.heap.size)
  generalize hAe : va_A ([oSy z q h x r y] ++ (wRe cy r (q 0) ru kn va ++ wDo cy q M)) s.heap.size = A at hD ⊢
  have hA : ∀ q : Nat, s.heap.size ≤ q → A q := fun q h => by rw [← hAe]; exact Or.inr h
  have hS : va_S A s.heap s.heap [] := va_S.rf
  refine lv_iload_n hx hb dX7_word_0 rfl (lv_at hl 1 rfl) ?_
  refine o_SI (As := [.int (nI w)]) (rest := []) ⟨hx, hb, hml, hown, hts⟩ (kX7_isWord l G cy w (by omega)) (va_cwS 1 hts gX7_word_X7_isWord rfl rfl rfl (by decide +kernel) ⟨Nat.le_of_ble_eq_true rfl, Nat.le_of_ble_eq_true rfl⟩) hK rfl hl.1 rfl (Nat.le_of_ble_eq_true rfl) dX7_word_1 ⟨Nat.zero_le _, Nat.zero_le _⟩ ?_
  refine o_ifb_ne (tgt := 9) hx hb dX7_word_4 (by decide) (fun c4 => ?_) (fun c4 => ?_)
  · refine lv_aload_n hx hb dX7_word_9 rfl (lv_at hl 0 rfl) ?_
    refine va_get (D := G) (ci := 6) (v := .ref (r 0)) (C := RX7) (T := TX7) (N := 9) hx hb hts iX7_word_X7 hown hK hP 0 rfl rfl 7 (by decide) (hts (.fieldLink RX7 58 "NailedOrders" "now" "LNailedOrders$Reckoning;") (by decide +kernel)) (fun _ h9 => h9) rfl dX7_word_10 ?_
    refine lv_bipush (v := (-5)) hx hb dX7_word_13 (by decide +kernel) ?_
    have hPc := hP.sub (ws' := wRe cy r (q 0) ru kn va ++ wDo cy q M) [1, 2, 3, 4, 5, 6, 7, 8, 9, 10, 11, 12, 13] rfl
    have hDc := hD.sub (ws' := wRe cy r (q 0) ru kn va ++ wDo cy q M) [1, 2, 3, 4, 5, 6, 7, 8, 9, 10, 11, 12, 13] (by decide) rfl
    have hFc := va_free (wc := wRe cy r (q 0) ru kn va ++ wDo cy q M) hD hS hA [1, 2, 3, 4, 5, 6, 7, 8, 9, 10, 11, 12, 13] rfl
    refine va_callv (va_runV (As := [.int ((-5))]) (rest := []) ⟨hx, hb, hml, hown, hts⟩ (kX4_settle l G cy hW hF hPc hDc) (cwV 1 hts gX7_word_X4_settle rfl rfl rfl (by decide +kernel) ⟨Nat.le_of_ble_eq_true rfl, Nat.le_of_ble_eq_true rfl⟩) ⟨pR_blind, va_recv hK hP (ci := 3) (q0 := 1) rfl rfl, pR_at hK⟩ rfl rfl hl.1 rfl (lv_room (Nat.le_of_ble_eq_true rfl)) dX7_word_15 ⟨Nat.zero_le _, Nat.zero_le _⟩) hS (fun q _ h => hFc q h) hFc (fun u_ t_ H locs ht hvm hw_ hB hz1 hk1 hS => ?_)
    rw [ht] at hB
    have hP : va_P G vwCl ([oSy z q h x r y] ++ wRe cy r (q 0) (rl M) (kF M) (vF M) ++ wDo cy q M) H := (o_join hP hD [1, 2, 3, 4, 5, 6, 7, 8, 9, 10, 11, 12, 13] [0] rfl (wr := [oSy z q h x r y]) rfl (by decide) (by decide) (by decide) hk1 hFc hB rfl).sub [0, 1, 2, 3, 4, 5, 6, 7, 8, 9, 10, 11, 12, 13] rfl
    have hD : va_D A ([oSy z q h x r y] ++ wRe cy r (q 0) (rl M) (kF M) (vF M) ++ wDo cy q M) := vd_same hD rfl
    have hPr := hP.sub (ws' := wRe cy r (q 0) (rl M) (kF M) (vF M) ++ wDo cy q M) [1, 2, 3, 4, 5, 6, 7, 8, 9, 10, 11, 12, 13] rfl
    have hPd := hP.sub (ws' := wDo cy q M) [5, 6, 7, 8, 9, 10, 11, 12, 13] rfl
    refine lv_iload_n hx hb dX7_word_18 rfl (lv_at hl 2 rfl) ?_
    refine lv_tableIn (x := nI 4) (off := 83) (tgt := 102) hx hb dX7_word_19 (by decide +kernel) (by decide +kernel) (by decide +kernel) (by decide) ?_
    refine lv_aload_n hx hb dX7_word_102 rfl (lv_at hl 0 rfl) ?_
    refine va_get (D := G) (ci := 6) (v := .ref (r 0)) (C := RX7) (T := TX7) (N := 9) hx hb hts iX7_word_X7 hown hK hP 0 rfl rfl 7 (by decide) (hts (.fieldLink RX7 58 "NailedOrders" "now" "LNailedOrders$Reckoning;") (by decide +kernel)) (fun _ h9 => h9) rfl dX7_word_103 ?_
    refine lv_iload_n hx hb dX7_word_106 rfl (lv_at hl 1 rfl) ?_
    refine o_VI (As := [.int (nI w)]) (rest := []) ⟨hx, hb, hml, hown, hts⟩ (kX4_topmostRival l G cy hW hF (fun w => vaF_fin w) rl_lt hPr w hw) (cwV 1 hts gX7_word_X4_topmostRival rfl rfl rfl (by decide +kernel) ⟨Nat.le_of_ble_eq_true rfl, Nat.le_of_ble_eq_true rfl⟩) hK (va_recv hK hP (ci := 3) (q0 := 1) rfl rfl) rfl hl.1 rfl (Nat.le_of_ble_eq_true rfl) dX7_word_107 ⟨Nat.zero_le _, Nat.zero_le _⟩ ?_
    exact o_endIm hx hb hr hlocks dX7_word_110 hP hS rfl
  · exact absurd hw c4

set_option maxHeartbeats 4000000 in
set_option maxRecDepth 100000 in
theorem kX7_word_7 (l : Launch) (G : va_G) (cy : Nat → ClassId) {H0 : Heap} {z : Nat} {q h x r y : Nat → Nat} {M : MT} {ru : Nat → Option Nat} {kn : Nat → Bool} {va : Nat → UInt32} {A0 : Nat → Prop} (hW : WB M) (hF : WF M) (hP : va_P G vwCl ([oSy z q h x r y] ++ (wRe cy r (q 0) ru kn va ++ wDo cy q M)) H0) (hD0 : va_D A0 ([oSy z q h x r y] ++ (wRe cy r (q 0) ru kn va ++ wDo cy q M))) (w : Nat) (hw : w < 16) : MutI l yX7_word wsX7_word 4 110 [.ref z, .int (nI w), .int (nI 7)] H0 G cy ((-2)) ([oSy z q h x r y] ++ (wRe cy r (q 0) ru kn va ++ wDo cy q M)) ([oSy z q h x r y] ++ (wRe cy r (q 0) (rl M) (kF M) (vF M) ++ wDo cy q M)) := by
  refine Met.ofW (cc := cX7_word) (maxL := 3) (ret := (some .int)) (by decide) rfl ?_
  intro p e s m args below meth c s₁ B hml hv
  obtain ⟨rfl, hH, hK⟩ := hv
  subst hH
  have hx := B.exec
  have hb := B.bytes
  have hr := B.returns
  have hts := atoms_spec (ws := wsX7_word) B.pre
  have hown : s.vm.findClass RX7 = some m.cls := findClass_of_methodNamed B.named
  have hlocks := B.notSynchronized
  have hl := lv_entry ([.ref z, .int (nI w), .int (nI 7)]) (n := 3) (Nat.le_of_ble_eq_true rfl)
  rw [lg_entry_eq]
  generalize (lg_sl ([.ref z, .int (nI w), .int (nI 7)]) ++ List.replicate (3 - (lg_sl ([.ref z, .int (nI w), .int (nI 7)])).length) Slot.unset).toArray = ls at hl ⊢
  have hl : lv_has ls 3 [(0, .ref z), (1, .int (nI w)), (2, .int (nI 7))] := hl
  obtain ⟨bP, bN, bR, bO, bW, bL, bF⟩ := id hW
  have hPd0 := hP.sub (ws' := wDo cy q M) [5, 6, 7, 8, 9, 10, 11, 12, 13] rfl
  have hD := hD0.self (sz := s.heap.size)
  generalize hAe : va_A ([oSy z q h x r y] ++ (wRe cy r (q 0) ru kn va ++ wDo cy q M)) s.heap.size = A at hD ⊢
  have hA : ∀ q : Nat, s.heap.size ≤ q → A q := fun q h => by rw [← hAe]; exact Or.inr h
  have hS : va_S A s.heap s.heap [] := va_S.rf
  refine lv_iload_n hx hb dX7_word_0 rfl (lv_at hl 1 rfl) ?_
  refine o_SI (As := [.int (nI w)]) (rest := []) ⟨hx, hb, hml, hown, hts⟩ (kX7_isWord l G cy w (by omega)) (va_cwS 1 hts gX7_word_X7_isWord rfl rfl rfl (by decide +kernel) ⟨Nat.le_of_ble_eq_true rfl, Nat.le_of_ble_eq_true rfl⟩) hK rfl hl.1 rfl (Nat.le_of_ble_eq_true rfl) dX7_word_1 ⟨Nat.zero_le _, Nat.zero_le _⟩ ?_
  refine o_ifb_ne (tgt := 9) hx hb dX7_word_4 (by decide) (fun c4 => ?_) (fun c4 => ?_)
  · refine lv_aload_n hx hb dX7_word_9 rfl (lv_at hl 0 rfl) ?_
    refine va_get (D := G) (ci := 6) (v := .ref (r 0)) (C := RX7) (T := TX7) (N := 9) hx hb hts iX7_word_X7 hown hK hP 0 rfl rfl 7 (by decide) (hts (.fieldLink RX7 58 "NailedOrders" "now" "LNailedOrders$Reckoning;") (by decide +kernel)) (fun _ h9 => h9) rfl dX7_word_10 ?_
    refine lv_bipush (v := (-5)) hx hb dX7_word_13 (by decide +kernel) ?_
    have hPc := hP.sub (ws' := wRe cy r (q 0) ru kn va ++ wDo cy q M) [1, 2, 3, 4, 5, 6, 7, 8, 9, 10, 11, 12, 13] rfl
    have hDc := hD.sub (ws' := wRe cy r (q 0) ru kn va ++ wDo cy q M) [1, 2, 3, 4, 5, 6, 7, 8, 9, 10, 11, 12, 13] (by decide) rfl
    have hFc := va_free (wc := wRe cy r (q 0) ru kn va ++ wDo cy q M) hD hS hA [1, 2, 3, 4, 5, 6, 7, 8, 9, 10, 11, 12, 13] rfl
    refine va_callv (va_runV (As := [.int ((-5))]) (rest := []) ⟨hx, hb, hml, hown, hts⟩ (kX4_settle l G cy hW hF hPc hDc) (cwV 1 hts gX7_word_X4_settle rfl rfl rfl (by decide +kernel) ⟨Nat.le_of_ble_eq_true rfl, Nat.le_of_ble_eq_true rfl⟩) ⟨pR_blind, va_recv hK hP (ci := 3) (q0 := 1) rfl rfl, pR_at hK⟩ rfl rfl hl.1 rfl (lv_room (Nat.le_of_ble_eq_true rfl)) dX7_word_15 ⟨Nat.zero_le _, Nat.zero_le _⟩) hS (fun q _ h => hFc q h) hFc (fun u_ t_ H locs ht hvm hw_ hB hz1 hk1 hS => ?_)
    rw [ht] at hB
    have hP : va_P G vwCl ([oSy z q h x r y] ++ wRe cy r (q 0) (rl M) (kF M) (vF M) ++ wDo cy q M) H := (o_join hP hD [1, 2, 3, 4, 5, 6, 7, 8, 9, 10, 11, 12, 13] [0] rfl (wr := [oSy z q h x r y]) rfl (by decide) (by decide) (by decide) hk1 hFc hB rfl).sub [0, 1, 2, 3, 4, 5, 6, 7, 8, 9, 10, 11, 12, 13] rfl
    have hD : va_D A ([oSy z q h x r y] ++ wRe cy r (q 0) (rl M) (kF M) (vF M) ++ wDo cy q M) := vd_same hD rfl
    have hPr := hP.sub (ws' := wRe cy r (q 0) (rl M) (kF M) (vF M) ++ wDo cy q M) [1, 2, 3, 4, 5, 6, 7, 8, 9, 10, 11, 12, 13] rfl
    have hPd := hP.sub (ws' := wDo cy q M) [5, 6, 7, 8, 9, 10, 11, 12, 13] rfl
    refine lv_iload_n hx hb dX7_word_18 rfl (lv_at hl 2 rfl) ?_
    refine lv_tableOut (x := nI 7) (tgt := 129) hx hb dX7_word_19 (by decide +kernel) (by decide) ?_
    refine lv_bipush (v := (-2)) hx hb dX7_word_129 (by decide +kernel) ?_
    exact o_endIm hx hb hr hlocks dX7_word_131 hP hS rfl
  · exact absurd hw c4

set_option maxRecDepth 100000 in
theorem iX7_value_X7 : ∀ w ∈ u_ws RX7 TX7 9, w ∈ wsX7_value := by decide +kernel
set_option maxRecDepth 100000 in
theorem iX7_value_X4 : ∀ w ∈ u_ws RX4 TX4 4, w ∈ wsX7_value := by decide +kernel
set_option maxHeartbeats 4000000 in
set_option maxRecDepth 100000 in
theorem kX7_value_k (l : Launch) (G : va_G) (cy : Nat → ClassId) {H0 : Heap} {z : Nat} {q h x r y : Nat → Nat} {M : MT} {ru : Nat → Option Nat} {kn : Nat → Bool} {va : Nat → UInt32} {A0 : Nat → Prop} (hW : WB M) (hF : WF M) (hP : va_P G vwCl ([oSy z q h x r y] ++ (wRe cy r (q 0) ru kn va ++ wDo cy q M)) H0) (hD0 : va_D A0 ([oSy z q h x r y] ++ (wRe cy r (q 0) ru kn va ++ wDo cy q M))) (w : Nat) (hw : w < 16) (hk : kF M w = true) : MutF l yX7_value wsX7_value 4 110 [.ref z, .int (nI w)] H0 G cy (vF M w) ([oSy z q h x r y] ++ (wRe cy r (q 0) ru kn va ++ wDo cy q M)) ([oSy z q h x r y] ++ (wRe cy r (q 0) (rl M) (kF M) (vF M) ++ wDo cy q M)) := by
  refine Met.ofW (cc := cX7_value) (maxL := 2) (ret := (some .float)) (by decide) rfl ?_
  intro p e s m args below meth c s₁ B hml hv
  obtain ⟨rfl, hH, hK⟩ := hv
  subst hH
  have hx := B.exec
  have hb := B.bytes
  have hr := B.returns
  have hts := atoms_spec (ws := wsX7_value) B.pre
  have hown : s.vm.findClass RX7 = some m.cls := findClass_of_methodNamed B.named
  have hlocks := B.notSynchronized
  have hl := lv_entry ([.ref z, .int (nI w)]) (n := 2) (Nat.le_of_ble_eq_true rfl)
  rw [lg_entry_eq]
  generalize (lg_sl ([.ref z, .int (nI w)]) ++ List.replicate (2 - (lg_sl ([.ref z, .int (nI w)])).length) Slot.unset).toArray = ls at hl ⊢
  have hl : lv_has ls 2 [(0, .ref z), (1, .int (nI w))] := hl
  obtain ⟨bP, bN, bR, bO, bW, bL, bF⟩ := id hW
  have hPd0 := hP.sub (ws' := wDo cy q M) [5, 6, 7, 8, 9, 10, 11, 12, 13] rfl
  have hD := hD0.self (sz := s.heap.size)
  generalize hAe : va_A ([oSy z q h x r y] ++ (wRe cy r (q 0) ru kn va ++ wDo cy q M)) s.heap.size = A at hD ⊢
  have hA : ∀ q : Nat, s.heap.size ≤ q → A q := fun q h => by rw [← hAe]; exact Or.inr h
  have hS : va_S A s.heap s.heap [] := va_S.rf
  refine lv_iload_n hx hb dX7_value_0 rfl (lv_at hl 1 rfl) ?_
  refine o_SI (As := [.int (nI w)]) (rest := []) ⟨hx, hb, hml, hown, hts⟩ (kX7_isWord l G cy w (by omega)) (va_cwS 1 hts gX7_value_X7_isWord rfl rfl rfl (by decide +kernel) ⟨Nat.le_of_ble_eq_true rfl, Nat.le_of_ble_eq_true rfl⟩) hK rfl hl.1 rfl (Nat.le_of_ble_eq_true rfl) dX7_value_1 ⟨Nat.zero_le _, Nat.zero_le _⟩ ?_
  refine o_ifb_ne (tgt := 11) hx hb dX7_value_4 (by decide) (fun c4 => ?_) (fun c4 => ?_)
  · refine lv_aload_n hx hb dX7_value_11 rfl (lv_at hl 0 rfl) ?_
    refine va_get (D := G) (ci := 6) (v := .ref (r 0)) (C := RX7) (T := TX7) (N := 9) hx hb hts iX7_value_X7 hown hK hP 0 rfl rfl 7 (by decide) (hts (.fieldLink RX7 58 "NailedOrders" "now" "LNailedOrders$Reckoning;") (by decide +kernel)) (fun _ h9 => h9) rfl dX7_value_12 ?_
    refine lv_bipush (v := (-5)) hx hb dX7_value_15 (by decide +kernel) ?_
    have hPc := hP.sub (ws' := wRe cy r (q 0) ru kn va ++ wDo cy q M) [1, 2, 3, 4, 5, 6, 7, 8, 9, 10, 11, 12, 13] rfl
    have hDc := hD.sub (ws' := wRe cy r (q 0) ru kn va ++ wDo cy q M) [1, 2, 3, 4, 5, 6, 7, 8, 9, 10, 11, 12, 13] (by decide) rfl
    have hFc := va_free (wc := wRe cy r (q 0) ru kn va ++ wDo cy q M) hD hS hA [1, 2, 3, 4, 5, 6, 7, 8, 9, 10, 11, 12, 13] rfl
    refine va_callv (va_runV (As := [.int ((-5))]) (rest := []) ⟨hx, hb, hml, hown, hts⟩ (kX4_settle l G cy hW hF hPc hDc) (cwV 1 hts gX7_value_X4_settle rfl rfl rfl (by decide +kernel) ⟨Nat.le_of_ble_eq_true rfl, Nat.le_of_ble_eq_true rfl⟩) ⟨pR_blind, va_recv hK hP (ci := 3) (q0 := 1) rfl rfl, pR_at hK⟩ rfl rfl hl.1 rfl (lv_room (Nat.le_of_ble_eq_true rfl)) dX7_value_17 ⟨Nat.zero_le _, Nat.zero_le _⟩) hS (fun q _ h => hFc q h) hFc (fun u_ t_ H locs ht hvm hw_ hB hz1 hk1 hS => ?_)
    rw [ht] at hB
    have hP : va_P G vwCl ([oSy z q h x r y] ++ wRe cy r (q 0) (rl M) (kF M) (vF M) ++ wDo cy q M) H := (o_join hP hD [1, 2, 3, 4, 5, 6, 7, 8, 9, 10, 11, 12, 13] [0] rfl (wr := [oSy z q h x r y]) rfl (by decide) (by decide) (by decide) hk1 hFc hB rfl).sub [0, 1, 2, 3, 4, 5, 6, 7, 8, 9, 10, 11, 12, 13] rfl
    have hD : va_D A ([oSy z q h x r y] ++ wRe cy r (q 0) (rl M) (kF M) (vF M) ++ wDo cy q M) := vd_same hD rfl
    have hPr := hP.sub (ws' := wRe cy r (q 0) (rl M) (kF M) (vF M) ++ wDo cy q M) [1, 2, 3, 4, 5, 6, 7, 8, 9, 10, 11, 12, 13] rfl
    have hPd := hP.sub (ws' := wDo cy q M) [5, 6, 7, 8, 9, 10, 11, 12, 13] rfl
    refine lv_aload_n hx hb dX7_value_20 rfl (lv_at hl 0 rfl) ?_
    refine va_get (D := G) (ci := 6) (v := .ref (r 0)) (C := RX7) (T := TX7) (N := 9) hx hb hts iX7_value_X7 hown hK hP 0 rfl rfl 7 (by decide) (hts (.fieldLink RX7 58 "NailedOrders" "now" "LNailedOrders$Reckoning;") (by decide +kernel)) (fun _ h9 => h9) rfl dX7_value_21 ?_
    refine va_get (D := G) (ci := 3) (v := .ref (r 2)) (C := RX4) (T := TX4) (N := 4) hx hb hts iX7_value_X4 hown hK hP 1 rfl rfl 2 (by decide) (hts (.fieldLink RX7 195 "NailedOrders$Reckoning" "known" "[Z") (by decide +kernel)) (fun _ h9 => h9) rfl dX7_value_24 ?_
    refine lv_iload_n hx hb dX7_value_27 rfl (lv_at hl 1 rfl) ?_
    refine o_zald hx hb hK hP 3 2 rfl rfl w (by omega) (by decide) dX7_value_28 ?_
    refine o_ifb_eq (tgt := 44) hx hb dX7_value_29 (by decide) (fun c29 => ?_) (fun c29 => ?_)
    · exact absurd hk c29
    · refine lv_aload_n hx hb dX7_value_32 rfl (lv_at hl 0 rfl) ?_
      refine va_get (D := G) (ci := 6) (v := .ref (r 0)) (C := RX7) (T := TX7) (N := 9) hx hb hts iX7_value_X7 hown hK hP 0 rfl rfl 7 (by decide) (hts (.fieldLink RX7 58 "NailedOrders" "now" "LNailedOrders$Reckoning;") (by decide +kernel)) (fun _ h9 => h9) rfl dX7_value_33 ?_
      refine va_get (D := G) (ci := 3) (v := .ref (r 3)) (C := RX4) (T := TX4) (N := 4) hx hb hts iX7_value_X4 hown hK hP 1 rfl rfl 3 (by decide) (hts (.fieldLink RX7 199 "NailedOrders$Reckoning" "values" "[F") (by decide +kernel)) (fun _ h9 => h9) rfl dX7_value_36 ?_
      refine lv_iload_n hx hb dX7_value_39 rfl (lv_at hl 1 rfl) ?_
      refine o_fald hx hb hK hP 4 1 rfl rfl w (by omega) (by decide) dX7_value_40 ?_
      refine lv_goto (tgt := 47) hx hb dX7_value_41 (by decide) ?_
      exact o_endFm hx hb hr hlocks dX7_value_47 hP hS rfl
  · exact absurd hw c4

set_option maxHeartbeats 4000000 in
set_option maxRecDepth 100000 in
theorem kX7_value_n (l : Launch) (G : va_G) (cy : Nat → ClassId) {H0 : Heap} {z : Nat} {q h x r y : Nat → Nat} {M : MT} {ru : Nat → Option Nat} {kn : Nat → Bool} {va : Nat → UInt32} {A0 : Nat → Prop} (hW : WB M) (hF : WF M) (hP : va_P G vwCl ([oSy z q h x r y] ++ (wRe cy r (q 0) ru kn va ++ wDo cy q M)) H0) (hD0 : va_D A0 ([oSy z q h x r y] ++ (wRe cy r (q 0) ru kn va ++ wDo cy q M))) (w : Nat) (hw : w < 16) (hk : ¬ kF M w = true) : MutF l yX7_value wsX7_value 4 110 [.ref z, .int (nI w)] H0 G cy (2143289344) ([oSy z q h x r y] ++ (wRe cy r (q 0) ru kn va ++ wDo cy q M)) ([oSy z q h x r y] ++ (wRe cy r (q 0) (rl M) (kF M) (vF M) ++ wDo cy q M)) := by
  refine Met.ofW (cc := cX7_value) (maxL := 2) (ret := (some .float)) (by decide) rfl ?_
  intro p e s m args below meth c s₁ B hml hv
  obtain ⟨rfl, hH, hK⟩ := hv
  subst hH
  have hx := B.exec
  have hb := B.bytes
  have hr := B.returns
  have hts := atoms_spec (ws := wsX7_value) B.pre
  have hown : s.vm.findClass RX7 = some m.cls := findClass_of_methodNamed B.named
  have hlocks := B.notSynchronized
  have hl := lv_entry ([.ref z, .int (nI w)]) (n := 2) (Nat.le_of_ble_eq_true rfl)
  rw [lg_entry_eq]
  generalize (lg_sl ([.ref z, .int (nI w)]) ++ List.replicate (2 - (lg_sl ([.ref z, .int (nI w)])).length) Slot.unset).toArray = ls at hl ⊢
  have hl : lv_has ls 2 [(0, .ref z), (1, .int (nI w))] := hl
  obtain ⟨bP, bN, bR, bO, bW, bL, bF⟩ := id hW
  have hPd0 := hP.sub (ws' := wDo cy q M) [5, 6, 7, 8, 9, 10, 11, 12, 13] rfl
  have hD := hD0.self (sz := s.heap.size)
  generalize hAe : va_A ([oSy z q h x r y] ++ (wRe cy r (q 0) ru kn va ++ wDo cy q M)) s.heap.size = A at hD ⊢
  have hA : ∀ q : Nat, s.heap.size ≤ q → A q := fun q h => by rw [← hAe]; exact Or.inr h
  have hS : va_S A s.heap s.heap [] := va_S.rf
  refine lv_iload_n hx hb dX7_value_0 rfl (lv_at hl 1 rfl) ?_
  refine o_SI (As := [.int (nI w)]) (rest := []) ⟨hx, hb, hml, hown, hts⟩ (kX7_isWord l G cy w (by omega)) (va_cwS 1 hts gX7_value_X7_isWord rfl rfl rfl (by decide +kernel) ⟨Nat.le_of_ble_eq_true rfl, Nat.le_of_ble_eq_true rfl⟩) hK rfl hl.1 rfl (Nat.le_of_ble_eq_true rfl) dX7_value_1 ⟨Nat.zero_le _, Nat.zero_le _⟩ ?_
  refine o_ifb_ne (tgt := 11) hx hb dX7_value_4 (by decide) (fun c4 => ?_) (fun c4 => ?_)
  · refine lv_aload_n hx hb dX7_value_11 rfl (lv_at hl 0 rfl) ?_
    refine va_get (D := G) (ci := 6) (v := .ref (r 0)) (C := RX7) (T := TX7) (N := 9) hx hb hts iX7_value_X7 hown hK hP 0 rfl rfl 7 (by decide) (hts (.fieldLink RX7 58 "NailedOrders" "now" "LNailedOrders$Reckoning;") (by decide +kernel)) (fun _ h9 => h9) rfl dX7_value_12 ?_
    refine lv_bipush (v := (-5)) hx hb dX7_value_15 (by decide +kernel) ?_
    have hPc := hP.sub (ws' := wRe cy r (q 0) ru kn va ++ wDo cy q M) [1, 2, 3, 4, 5, 6, 7, 8, 9, 10, 11, 12, 13] rfl
    have hDc := hD.sub (ws' := wRe cy r (q 0) ru kn va ++ wDo cy q M) [1, 2, 3, 4, 5, 6, 7, 8, 9, 10, 11, 12, 13] (by decide) rfl
    have hFc := va_free (wc := wRe cy r (q 0) ru kn va ++ wDo cy q M) hD hS hA [1, 2, 3, 4, 5, 6, 7, 8, 9, 10, 11, 12, 13] rfl
    refine va_callv (va_runV (As := [.int ((-5))]) (rest := []) ⟨hx, hb, hml, hown, hts⟩ (kX4_settle l G cy hW hF hPc hDc) (cwV 1 hts gX7_value_X4_settle rfl rfl rfl (by decide +kernel) ⟨Nat.le_of_ble_eq_true rfl, Nat.le_of_ble_eq_true rfl⟩) ⟨pR_blind, va_recv hK hP (ci := 3) (q0 := 1) rfl rfl, pR_at hK⟩ rfl rfl hl.1 rfl (lv_room (Nat.le_of_ble_eq_true rfl)) dX7_value_17 ⟨Nat.zero_le _, Nat.zero_le _⟩) hS (fun q _ h => hFc q h) hFc (fun u_ t_ H locs ht hvm hw_ hB hz1 hk1 hS => ?_)
    rw [ht] at hB
    have hP : va_P G vwCl ([oSy z q h x r y] ++ wRe cy r (q 0) (rl M) (kF M) (vF M) ++ wDo cy q M) H := (o_join hP hD [1, 2, 3, 4, 5, 6, 7, 8, 9, 10, 11, 12, 13] [0] rfl (wr := [oSy z q h x r y]) rfl (by decide) (by decide) (by decide) hk1 hFc hB rfl).sub [0, 1, 2, 3, 4, 5, 6, 7, 8, 9, 10, 11, 12, 13] rfl
    have hD : va_D A ([oSy z q h x r y] ++ wRe cy r (q 0) (rl M) (kF M) (vF M) ++ wDo cy q M) := vd_same hD rfl
    have hPr := hP.sub (ws' := wRe cy r (q 0) (rl M) (kF M) (vF M) ++ wDo cy q M) [1, 2, 3, 4, 5, 6, 7, 8, 9, 10, 11, 12, 13] rfl
    have hPd := hP.sub (ws' := wDo cy q M) [5, 6, 7, 8, 9, 10, 11, 12, 13] rfl
    refine lv_aload_n hx hb dX7_value_20 rfl (lv_at hl 0 rfl) ?_
    refine va_get (D := G) (ci := 6) (v := .ref (r 0)) (C := RX7) (T := TX7) (N := 9) hx hb hts iX7_value_X7 hown hK hP 0 rfl rfl 7 (by decide) (hts (.fieldLink RX7 58 "NailedOrders" "now" "LNailedOrders$Reckoning;") (by decide +kernel)) (fun _ h9 => h9) rfl dX7_value_21 ?_
    refine va_get (D := G) (ci := 3) (v := .ref (r 2)) (C := RX4) (T := TX4) (N := 4) hx hb hts iX7_value_X4 hown hK hP 1 rfl rfl 2 (by decide) (hts (.fieldLink RX7 195 "NailedOrders$Reckoning" "known" "[Z") (by decide +kernel)) (fun _ h9 => h9) rfl dX7_value_24 ?_
    refine lv_iload_n hx hb dX7_value_27 rfl (lv_at hl 1 rfl) ?_
    refine o_zald hx hb hK hP 3 2 rfl rfl w (by omega) (by decide) dX7_value_28 ?_
    refine o_ifb_eq (tgt := 44) hx hb dX7_value_29 (by decide) (fun c29 => ?_) (fun c29 => ?_)
    · refine o_SF (As := []) (rest := []) ⟨hx, hb, hml, hown, hts⟩ (kX7_noFloat l G cy) (va_cwS 0 hts gX7_value_X7_noFloat rfl rfl rfl (by decide +kernel) ⟨Nat.le_of_ble_eq_true rfl, Nat.le_of_ble_eq_true rfl⟩) hK rfl hl.1 rfl (Nat.le_of_ble_eq_true rfl) dX7_value_44 ⟨Nat.zero_le _, Nat.zero_le _⟩ ?_
      exact o_endFm hx hb hr hlocks dX7_value_47 hP hS rfl
    · exact absurd c29 hk
  · exact absurd hw c4

set_option maxRecDepth 100000 in
theorem iX7_valueOf_X7 : ∀ w ∈ u_ws RX7 TX7 9, w ∈ wsX7_valueOf := by decide +kernel
set_option maxHeartbeats 4000000 in
set_option maxRecDepth 100000 in
theorem kX7_valueOf_k (l : Launch) (G : va_G) (cy : Nat → ClassId) {H0 : Heap} {z : Nat} {q h x r y : Nat → Nat} {M : MT} {ru : Nat → Option Nat} {kn : Nat → Bool} {va : Nat → UInt32} {A0 : Nat → Prop} (hW : WB M) (hF : WF M) (hP : va_P G vwCl ([oSy z q h x r y] ++ (wRe cy r (q 0) ru kn va ++ wDo cy q M)) H0) (hD0 : va_D A0 ([oSy z q h x r y] ++ (wRe cy r (q 0) ru kn va ++ wDo cy q M))) (k : Nat) (hk : k < mN M) (hh : oHas M (kF M) (vF M) k = true) : MutF l yX7_valueOf wsX7_valueOf 4 110 [.ref z, .int (nI k)] H0 G cy (oVal M (vF M) k) ([oSy z q h x r y] ++ (wRe cy r (q 0) ru kn va ++ wDo cy q M)) ([oSy z q h x r y] ++ (wRe cy r (q 0) (rl M) (kF M) (vF M) ++ wDo cy q M)) := by
  refine Met.ofW (cc := cX7_valueOf) (maxL := 2) (ret := (some .float)) (by decide) rfl ?_
  intro p e s m args below meth c s₁ B hml hv
  obtain ⟨rfl, hH, hK⟩ := hv
  subst hH
  have hx := B.exec
  have hb := B.bytes
  have hr := B.returns
  have hts := atoms_spec (ws := wsX7_valueOf) B.pre
  have hown : s.vm.findClass RX7 = some m.cls := findClass_of_methodNamed B.named
  have hlocks := B.notSynchronized
  have hl := lv_entry ([.ref z, .int (nI k)]) (n := 2) (Nat.le_of_ble_eq_true rfl)
  rw [lg_entry_eq]
  generalize (lg_sl ([.ref z, .int (nI k)]) ++ List.replicate (2 - (lg_sl ([.ref z, .int (nI k)])).length) Slot.unset).toArray = ls at hl ⊢
  have hl : lv_has ls 2 [(0, .ref z), (1, .int (nI k))] := hl
  obtain ⟨bP, bN, bR, bO, bW, bL, bF⟩ := id hW
  have hPd0 := hP.sub (ws' := wDo cy q M) [5, 6, 7, 8, 9, 10, 11, 12, 13] rfl
  have hD := hD0.self (sz := s.heap.size)
  generalize hAe : va_A ([oSy z q h x r y] ++ (wRe cy r (q 0) ru kn va ++ wDo cy q M)) s.heap.size = A at hD ⊢
  have hA : ∀ q : Nat, s.heap.size ≤ q → A q := fun q h => by rw [← hAe]; exact Or.inr h
  have hS : va_S A s.heap s.heap [] := va_S.rf
  refine lv_aload_n hx hb dX7_valueOf_0 rfl (lv_at hl 0 rfl) ?_
  refine va_get (D := G) (ci := 6) (v := .ref (q 0)) (C := RX7) (T := TX7) (N := 9) hx hb hts iX7_valueOf_X7 hown hK hP 0 rfl rfl 0 (by decide) (hts (.fieldLink RX7 10 "NailedOrders" "door" "LNailedOrders$Door;") (by decide +kernel)) (fun _ h9 => h9) rfl dX7_valueOf_1 ?_
  refine lv_iload_n hx hb dX7_valueOf_4 rfl (lv_at hl 1 rfl) ?_
  refine o_VI (As := [.int (nI k)]) (rest := []) ⟨hx, hb, hml, hown, hts⟩ (kX1_isOrder l G cy hW hPd0 k (by omega)) (cwV 1 hts gX7_valueOf_X1_isOrder rfl rfl rfl (by decide +kernel) ⟨Nat.le_of_ble_eq_true rfl, Nat.le_of_ble_eq_true rfl⟩) hK (va_recv hK hP (ci := 0) (q0 := 5) rfl rfl) rfl hl.1 rfl (Nat.le_of_ble_eq_true rfl) dX7_valueOf_5 ⟨Nat.zero_le _, Nat.zero_le _⟩ ?_
  refine o_ifb_ne (tgt := 15) hx hb dX7_valueOf_8 (by decide) (fun c8 => ?_) (fun c8 => ?_)
  · refine lv_aload_n hx hb dX7_valueOf_15 rfl (lv_at hl 0 rfl) ?_
    refine va_get (D := G) (ci := 6) (v := .ref (r 0)) (C := RX7) (T := TX7) (N := 9) hx hb hts iX7_valueOf_X7 hown hK hP 0 rfl rfl 7 (by decide) (hts (.fieldLink RX7 58 "NailedOrders" "now" "LNailedOrders$Reckoning;") (by decide +kernel)) (fun _ h9 => h9) rfl dX7_valueOf_16 ?_
    refine lv_bipush (v := (-5)) hx hb dX7_valueOf_19 (by decide +kernel) ?_
    have hPc := hP.sub (ws' := wRe cy r (q 0) ru kn va ++ wDo cy q M) [1, 2, 3, 4, 5, 6, 7, 8, 9, 10, 11, 12, 13] rfl
    have hDc := hD.sub (ws' := wRe cy r (q 0) ru kn va ++ wDo cy q M) [1, 2, 3, 4, 5, 6, 7, 8, 9, 10, 11, 12, 13] (by decide) rfl
    have hFc := va_free (wc := wRe cy r (q 0) ru kn va ++ wDo cy q M) hD hS hA [1, 2, 3, 4, 5, 6, 7, 8, 9, 10, 11, 12, 13] rfl
    refine va_callv (va_runV (As := [.int ((-5))]) (rest := []) ⟨hx, hb, hml, hown, hts⟩ (kX4_settle l G cy hW hF hPc hDc) (cwV 1 hts gX7_valueOf_X4_settle rfl rfl rfl (by decide +kernel) ⟨Nat.le_of_ble_eq_true rfl, Nat.le_of_ble_eq_true rfl⟩) ⟨pR_blind, va_recv hK hP (ci := 3) (q0 := 1) rfl rfl, pR_at hK⟩ rfl rfl hl.1 rfl (lv_room (Nat.le_of_ble_eq_true rfl)) dX7_valueOf_21 ⟨Nat.zero_le _, Nat.zero_le _⟩) hS (fun q _ h => hFc q h) hFc (fun u_ t_ H locs ht hvm hw_ hB hz1 hk1 hS => ?_)
    rw [ht] at hB
    have hP : va_P G vwCl ([oSy z q h x r y] ++ wRe cy r (q 0) (rl M) (kF M) (vF M) ++ wDo cy q M) H := (o_join hP hD [1, 2, 3, 4, 5, 6, 7, 8, 9, 10, 11, 12, 13] [0] rfl (wr := [oSy z q h x r y]) rfl (by decide) (by decide) (by decide) hk1 hFc hB rfl).sub [0, 1, 2, 3, 4, 5, 6, 7, 8, 9, 10, 11, 12, 13] rfl
    have hD : va_D A ([oSy z q h x r y] ++ wRe cy r (q 0) (rl M) (kF M) (vF M) ++ wDo cy q M) := vd_same hD rfl
    have hPr := hP.sub (ws' := wRe cy r (q 0) (rl M) (kF M) (vF M) ++ wDo cy q M) [1, 2, 3, 4, 5, 6, 7, 8, 9, 10, 11, 12, 13] rfl
    have hPd := hP.sub (ws' := wDo cy q M) [5, 6, 7, 8, 9, 10, 11, 12, 13] rfl
    refine lv_aload_n hx hb dX7_valueOf_24 rfl (lv_at hl 0 rfl) ?_
    refine va_get (D := G) (ci := 6) (v := .ref (r 0)) (C := RX7) (T := TX7) (N := 9) hx hb hts iX7_valueOf_X7 hown hK hP 0 rfl rfl 7 (by decide) (hts (.fieldLink RX7 58 "NailedOrders" "now" "LNailedOrders$Reckoning;") (by decide +kernel)) (fun _ h9 => h9) rfl dX7_valueOf_25 ?_
    refine lv_iload_n hx hb dX7_valueOf_28 rfl (lv_at hl 1 rfl) ?_
    refine o_VI (As := [.int (nI k)]) (rest := []) ⟨hx, hb, hml, hown, hts⟩ (kX4_orderHasValue l G cy hW hF (fun w => vaF_fin w) rl_lt hPr k (by omega)) (cwV 1 hts gX7_valueOf_X4_orderHasValue rfl rfl rfl (by decide +kernel) ⟨Nat.le_of_ble_eq_true rfl, Nat.le_of_ble_eq_true rfl⟩) hK (va_recv hK hP (ci := 3) (q0 := 1) rfl rfl) rfl hl.1 rfl (Nat.le_of_ble_eq_true rfl) dX7_valueOf_29 ⟨Nat.zero_le _, Nat.zero_le _⟩ ?_
    refine o_ifb_eq (tgt := 46) hx hb dX7_valueOf_32 (by decide) (fun c32 => ?_) (fun c32 => ?_)
    · exact absurd hh c32
    · refine lv_aload_n hx hb dX7_valueOf_35 rfl (lv_at hl 0 rfl) ?_
      refine va_get (D := G) (ci := 6) (v := .ref (r 0)) (C := RX7) (T := TX7) (N := 9) hx hb hts iX7_valueOf_X7 hown hK hP 0 rfl rfl 7 (by decide) (hts (.fieldLink RX7 58 "NailedOrders" "now" "LNailedOrders$Reckoning;") (by decide +kernel)) (fun _ h9 => h9) rfl dX7_valueOf_36 ?_
      refine lv_iload_n hx hb dX7_valueOf_39 rfl (lv_at hl 1 rfl) ?_
      refine o_VF (As := [.int (nI k)]) (rest := []) ⟨hx, hb, hml, hown, hts⟩ (kX4_orderValue l G cy hW hF (fun w => vaF_fin w) rl_lt hPr k (by omega)) (cwV 1 hts gX7_valueOf_X4_orderValue rfl rfl rfl (by decide +kernel) ⟨Nat.le_of_ble_eq_true rfl, Nat.le_of_ble_eq_true rfl⟩) hK (va_recv hK hP (ci := 3) (q0 := 1) rfl rfl) rfl hl.1 rfl (Nat.le_of_ble_eq_true rfl) dX7_valueOf_40 ⟨Nat.zero_le _, Nat.zero_le _⟩ ?_
      refine lv_goto (tgt := 49) hx hb dX7_valueOf_43 (by decide) ?_
      exact o_endFm hx hb hr hlocks dX7_valueOf_49 hP hS rfl
  · exact absurd hk c8

set_option maxHeartbeats 4000000 in
set_option maxRecDepth 100000 in
theorem kX7_valueOf_n (l : Launch) (G : va_G) (cy : Nat → ClassId) {H0 : Heap} {z : Nat} {q h x r y : Nat → Nat} {M : MT} {ru : Nat → Option Nat} {kn : Nat → Bool} {va : Nat → UInt32} {A0 : Nat → Prop} (hW : WB M) (hF : WF M) (hP : va_P G vwCl ([oSy z q h x r y] ++ (wRe cy r (q 0) ru kn va ++ wDo cy q M)) H0) (hD0 : va_D A0 ([oSy z q h x r y] ++ (wRe cy r (q 0) ru kn va ++ wDo cy q M))) (k : Nat) (hk : k < mN M) (hh : ¬ oHas M (kF M) (vF M) k = true) : MutF l yX7_valueOf wsX7_valueOf 4 110 [.ref z, .int (nI k)] H0 G cy (2143289344) ([oSy z q h x r y] ++ (wRe cy r (q 0) ru kn va ++ wDo cy q M)) ([oSy z q h x r y] ++ (wRe cy r (q 0) (rl M) (kF M) (vF M) ++ wDo cy q M)) := by
  refine Met.ofW (cc := cX7_valueOf) (maxL := 2) (ret := (some .float)) (by decide) rfl ?_
  intro p e s m args below meth c s₁ B hml hv
  obtain ⟨rfl, hH, hK⟩ := hv
  subst hH
  have hx := B.exec
  have hb := B.bytes
  have hr := B.returns
  have hts := atoms_spec (ws := wsX7_valueOf) B.pre
  have hown : s.vm.findClass RX7 = some m.cls := findClass_of_methodNamed B.named
  have hlocks := B.notSynchronized
  have hl := lv_entry ([.ref z, .int (nI k)]) (n := 2) (Nat.le_of_ble_eq_true rfl)
  rw [lg_entry_eq]
  generalize (lg_sl ([.ref z, .int (nI k)]) ++ List.replicate (2 - (lg_sl ([.ref z, .int (nI k)])).length) Slot.unset).toArray = ls at hl ⊢
  have hl : lv_has ls 2 [(0, .ref z), (1, .int (nI k))] := hl
  obtain ⟨bP, bN, bR, bO, bW, bL, bF⟩ := id hW
  have hPd0 := hP.sub (ws' := wDo cy q M) [5, 6, 7, 8, 9, 10, 11, 12, 13] rfl
  have hD := hD0.self (sz := s.heap.size)
  generalize hAe : va_A ([oSy z q h x r y] ++ (wRe cy r (q 0) ru kn va ++ wDo cy q M)) s.heap.size = A at hD ⊢
  have hA : ∀ q : Nat, s.heap.size ≤ q → A q := fun q h => by rw [← hAe]; exact Or.inr h
  have hS : va_S A s.heap s.heap [] := va_S.rf
  refine lv_aload_n hx hb dX7_valueOf_0 rfl (lv_at hl 0 rfl) ?_
  refine va_get (D := G) (ci := 6) (v := .ref (q 0)) (C := RX7) (T := TX7) (N := 9) hx hb hts iX7_valueOf_X7 hown hK hP 0 rfl rfl 0 (by decide) (hts (.fieldLink RX7 10 "NailedOrders" "door" "LNailedOrders$Door;") (by decide +kernel)) (fun _ h9 => h9) rfl dX7_valueOf_1 ?_
  refine lv_iload_n hx hb dX7_valueOf_4 rfl (lv_at hl 1 rfl) ?_
  refine o_VI (As := [.int (nI k)]) (rest := []) ⟨hx, hb, hml, hown, hts⟩ (kX1_isOrder l G cy hW hPd0 k (by omega)) (cwV 1 hts gX7_valueOf_X1_isOrder rfl rfl rfl (by decide +kernel) ⟨Nat.le_of_ble_eq_true rfl, Nat.le_of_ble_eq_true rfl⟩) hK (va_recv hK hP (ci := 0) (q0 := 5) rfl rfl) rfl hl.1 rfl (Nat.le_of_ble_eq_true rfl) dX7_valueOf_5 ⟨Nat.zero_le _, Nat.zero_le _⟩ ?_
  refine o_ifb_ne (tgt := 15) hx hb dX7_valueOf_8 (by decide) (fun c8 => ?_) (fun c8 => ?_)
  · refine lv_aload_n hx hb dX7_valueOf_15 rfl (lv_at hl 0 rfl) ?_
    refine va_get (D := G) (ci := 6) (v := .ref (r 0)) (C := RX7) (T := TX7) (N := 9) hx hb hts iX7_valueOf_X7 hown hK hP 0 rfl rfl 7 (by decide) (hts (.fieldLink RX7 58 "NailedOrders" "now" "LNailedOrders$Reckoning;") (by decide +kernel)) (fun _ h9 => h9) rfl dX7_valueOf_16 ?_
    refine lv_bipush (v := (-5)) hx hb dX7_valueOf_19 (by decide +kernel) ?_
    have hPc := hP.sub (ws' := wRe cy r (q 0) ru kn va ++ wDo cy q M) [1, 2, 3, 4, 5, 6, 7, 8, 9, 10, 11, 12, 13] rfl
    have hDc := hD.sub (ws' := wRe cy r (q 0) ru kn va ++ wDo cy q M) [1, 2, 3, 4, 5, 6, 7, 8, 9, 10, 11, 12, 13] (by decide) rfl
    have hFc := va_free (wc := wRe cy r (q 0) ru kn va ++ wDo cy q M) hD hS hA [1, 2, 3, 4, 5, 6, 7, 8, 9, 10, 11, 12, 13] rfl
    refine va_callv (va_runV (As := [.int ((-5))]) (rest := []) ⟨hx, hb, hml, hown, hts⟩ (kX4_settle l G cy hW hF hPc hDc) (cwV 1 hts gX7_valueOf_X4_settle rfl rfl rfl (by decide +kernel) ⟨Nat.le_of_ble_eq_true rfl, Nat.le_of_ble_eq_true rfl⟩) ⟨pR_blind, va_recv hK hP (ci := 3) (q0 := 1) rfl rfl, pR_at hK⟩ rfl rfl hl.1 rfl (lv_room (Nat.le_of_ble_eq_true rfl)) dX7_valueOf_21 ⟨Nat.zero_le _, Nat.zero_le _⟩) hS (fun q _ h => hFc q h) hFc (fun u_ t_ H locs ht hvm hw_ hB hz1 hk1 hS => ?_)
    rw [ht] at hB
    have hP : va_P G vwCl ([oSy z q h x r y] ++ wRe cy r (q 0) (rl M) (kF M) (vF M) ++ wDo cy q M) H := (o_join hP hD [1, 2, 3, 4, 5, 6, 7, 8, 9, 10, 11, 12, 13] [0] rfl (wr := [oSy z q h x r y]) rfl (by decide) (by decide) (by decide) hk1 hFc hB rfl).sub [0, 1, 2, 3, 4, 5, 6, 7, 8, 9, 10, 11, 12, 13] rfl
    have hD : va_D A ([oSy z q h x r y] ++ wRe cy r (q 0) (rl M) (kF M) (vF M) ++ wDo cy q M) := vd_same hD rfl
    have hPr := hP.sub (ws' := wRe cy r (q 0) (rl M) (kF M) (vF M) ++ wDo cy q M) [1, 2, 3, 4, 5, 6, 7, 8, 9, 10, 11, 12, 13] rfl
    have hPd := hP.sub (ws' := wDo cy q M) [5, 6, 7, 8, 9, 10, 11, 12, 13] rfl
    refine lv_aload_n hx hb dX7_valueOf_24 rfl (lv_at hl 0 rfl) ?_
    refine va_get (D := G) (ci := 6) (v := .ref (r 0)) (C := RX7) (T := TX7) (N := 9) hx hb hts iX7_valueOf_X7 hown hK hP 0 rfl rfl 7 (by decide) (hts (.fieldLink RX7 58 "NailedOrders" "now" "LNailedOrders$Reckoning;") (by decide +kernel)) (fun _ h9 => h9) rfl dX7_valueOf_25 ?_
    refine lv_iload_n hx hb dX7_valueOf_28 rfl (lv_at hl 1 rfl) ?_
    refine o_VI (As := [.int (nI k)]) (rest := []) ⟨hx, hb, hml, hown, hts⟩ (kX4_orderHasValue l G cy hW hF (fun w => vaF_fin w) rl_lt hPr k (by omega)) (cwV 1 hts gX7_valueOf_X4_orderHasValue rfl rfl rfl (by decide +kernel) ⟨Nat.le_of_ble_eq_true rfl, Nat.le_of_ble_eq_true rfl⟩) hK (va_recv hK hP (ci := 3) (q0 := 1) rfl rfl) rfl hl.1 rfl (Nat.le_of_ble_eq_true rfl) dX7_valueOf_29 ⟨Nat.zero_le _, Nat.zero_le _⟩ ?_
    refine o_ifb_eq (tgt := 46) hx hb dX7_valueOf_32 (by decide) (fun c32 => ?_) (fun c32 => ?_)
    · refine o_SF (As := []) (rest := []) ⟨hx, hb, hml, hown, hts⟩ (kX7_noFloat l G cy) (va_cwS 0 hts gX7_valueOf_X7_noFloat rfl rfl rfl (by decide +kernel) ⟨Nat.le_of_ble_eq_true rfl, Nat.le_of_ble_eq_true rfl⟩) hK rfl hl.1 rfl (Nat.le_of_ble_eq_true rfl) dX7_valueOf_46 ⟨Nat.zero_le _, Nat.zero_le _⟩ ?_
      exact o_endFm hx hb hr hlocks dX7_valueOf_49 hP hS rfl
    · exact absurd c32 hh
  · exact absurd hk c8

set_option maxRecDepth 100000 in
theorem iX7_count_X7 : ∀ w ∈ u_ws RX7 TX7 9, w ∈ wsX7_count := by decide +kernel
set_option maxRecDepth 100000 in
theorem iX7_count_X1 : ∀ w ∈ u_ws RX1 TX1 13, w ∈ wsX7_count := by decide +kernel
set_option maxHeartbeats 4000000 in
set_option maxRecDepth 100000 in
theorem kX7_count_0 (l : Launch) (G : va_G) (cy : Nat → ClassId) {H0 : Heap} {z : Nat} {q h x r y : Nat → Nat} {M : MT} {ru : Nat → Option Nat} {kn : Nat → Bool} {va : Nat → UInt32} {A0 : Nat → Prop} (hW : WB M) (hF : WF M) (hP : va_P G vwCl ([oSy z q h x r y] ++ (wRe cy r (q 0) ru kn va ++ wDo cy q M)) H0) (hD0 : va_D A0 ([oSy z q h x r y] ++ (wRe cy r (q 0) ru kn va ++ wDo cy q M)))  : MutI l yX7_count wsX7_count 5 113 [.ref z, .int (nI 0)] H0 G cy (nI (mP M)) ([oSy z q h x r y] ++ (wRe cy r (q 0) ru kn va ++ wDo cy q M)) ([oSy z q h x r y] ++ (wRe cy r (q 0) (rl M) (kF M) (vF M) ++ wDo cy q M)) := by
  refine Met.ofW (cc := cX7_count) (maxL := 2) (ret := (some .int)) (by decide) rfl ?_
  intro p e s m args below meth c s₁ B hml hv
  obtain ⟨rfl, hH, hK⟩ := hv
  subst hH
  have hx := B.exec
  have hb := B.bytes
  have hr := B.returns
  have hts := atoms_spec (ws := wsX7_count) B.pre
  have hown : s.vm.findClass RX7 = some m.cls := findClass_of_methodNamed B.named
  have hlocks := B.notSynchronized
  have hl := lv_entry ([.ref z, .int (nI 0)]) (n := 2) (Nat.le_of_ble_eq_true rfl)
  rw [lg_entry_eq]
  generalize (lg_sl ([.ref z, .int (nI 0)]) ++ List.replicate (2 - (lg_sl ([.ref z, .int (nI 0)])).length) Slot.unset).toArray = ls at hl ⊢
  have hl : lv_has ls 2 [(0, .ref z), (1, .int (nI 0))] := hl
  obtain ⟨bP, bN, bR, bO, bW, bL, bF⟩ := id hW
  have hPd0 := hP.sub (ws' := wDo cy q M) [5, 6, 7, 8, 9, 10, 11, 12, 13] rfl
  have hD := hD0.self (sz := s.heap.size)
  generalize hAe : va_A ([oSy z q h x r y] ++ (wRe cy r (q 0) ru kn va ++ wDo cy q M)) s.heap.size = A at hD ⊢
  have hA : ∀ q : Nat, s.heap.size ≤ q → A q := fun q h => by rw [← hAe]; exact Or.inr h
  have hS : va_S A s.heap s.heap [] := va_S.rf
  refine lv_aload_n hx hb dX7_count_0 rfl (lv_at hl 0 rfl) ?_
  refine va_get (D := G) (ci := 6) (v := .ref (r 0)) (C := RX7) (T := TX7) (N := 9) hx hb hts iX7_count_X7 hown hK hP 0 rfl rfl 7 (by decide) (hts (.fieldLink RX7 58 "NailedOrders" "now" "LNailedOrders$Reckoning;") (by decide +kernel)) (fun _ h9 => h9) rfl dX7_count_1 ?_
  refine lv_bipush (v := (-5)) hx hb dX7_count_4 (by decide +kernel) ?_
  have hPc := hP.sub (ws' := wRe cy r (q 0) ru kn va ++ wDo cy q M) [1, 2, 3, 4, 5, 6, 7, 8, 9, 10, 11, 12, 13] rfl
  have hDc := hD.sub (ws' := wRe cy r (q 0) ru kn va ++ wDo cy q M) [1, 2, 3, 4, 5, 6, 7, 8, 9, 10, 11, 12, 13] (by decide) rfl
  have hFc := va_free (wc := wRe cy r (q 0) ru kn va ++ wDo cy q M) hD hS hA [1, 2, 3, 4, 5, 6, 7, 8, 9, 10, 11, 12, 13] rfl
  refine va_callv (va_runV (As := [.int ((-5))]) (rest := []) ⟨hx, hb, hml, hown, hts⟩ (kX4_settle l G cy hW hF hPc hDc) (cwV 1 hts gX7_count_X4_settle rfl rfl rfl (by decide +kernel) ⟨Nat.le_of_ble_eq_true rfl, Nat.le_of_ble_eq_true rfl⟩) ⟨pR_blind, va_recv hK hP (ci := 3) (q0 := 1) rfl rfl, pR_at hK⟩ rfl rfl hl.1 rfl (lv_room (Nat.le_of_ble_eq_true rfl)) dX7_count_6 ⟨Nat.zero_le _, Nat.zero_le _⟩) hS (fun q _ h => hFc q h) hFc (fun u_ t_ H locs ht hvm hw_ hB hz1 hk1 hS => ?_)
  rw [ht] at hB
  have hP : va_P G vwCl ([oSy z q h x r y] ++ wRe cy r (q 0) (rl M) (kF M) (vF M) ++ wDo cy q M) H := (o_join hP hD [1, 2, 3, 4, 5, 6, 7, 8, 9, 10, 11, 12, 13] [0] rfl (wr := [oSy z q h x r y]) rfl (by decide) (by decide) (by decide) hk1 hFc hB rfl).sub [0, 1, 2, 3, 4, 5, 6, 7, 8, 9, 10, 11, 12, 13] rfl
  have hD : va_D A ([oSy z q h x r y] ++ wRe cy r (q 0) (rl M) (kF M) (vF M) ++ wDo cy q M) := vd_same hD rfl
  have hPr := hP.sub (ws' := wRe cy r (q 0) (rl M) (kF M) (vF M) ++ wDo cy q M) [1, 2, 3, 4, 5, 6, 7, 8, 9, 10, 11, 12, 13] rfl
  have hPd := hP.sub (ws' := wDo cy q M) [5, 6, 7, 8, 9, 10, 11, 12, 13] rfl
  refine lv_iload_n hx hb dX7_count_9 rfl (lv_at hl 1 rfl) ?_
  refine lv_tableIn (x := nI 0) (off := 66) (tgt := 76) hx hb dX7_count_10 (by decide +kernel) (by decide +kernel) (by decide +kernel) (by decide) ?_
  refine lv_aload_n hx hb dX7_count_76 rfl (lv_at hl 0 rfl) ?_
  refine va_get (D := G) (ci := 6) (v := .ref (q 0)) (C := RX7) (T := TX7) (N := 9) hx hb hts iX7_count_X7 hown hK hP 0 rfl rfl 0 (by decide) (hts (.fieldLink RX7 10 "NailedOrders" "door" "LNailedOrders$Door;") (by decide +kernel)) (fun _ h9 => h9) rfl dX7_count_77 ?_
  refine va_get (D := G) (ci := 0) (v := .int (nI (mP M))) (C := RX1) (T := TX1) (N := 13) hx hb hts iX7_count_X1 hown hK hP 5 rfl rfl 0 (by decide) (hts (.fieldLink RX7 69 "NailedOrders$Door" "persons" "I") (by decide +kernel)) (fun _ h9 => h9) rfl dX7_count_80 ?_
  exact o_endIm hx hb hr hlocks dX7_count_83 hP hS rfl

set_option maxHeartbeats 4000000 in
set_option maxRecDepth 100000 in
theorem kX7_count_1 (l : Launch) (G : va_G) (cy : Nat → ClassId) {H0 : Heap} {z : Nat} {q h x r y : Nat → Nat} {M : MT} {ru : Nat → Option Nat} {kn : Nat → Bool} {va : Nat → UInt32} {A0 : Nat → Prop} (hW : WB M) (hF : WF M) (hP : va_P G vwCl ([oSy z q h x r y] ++ (wRe cy r (q 0) ru kn va ++ wDo cy q M)) H0) (hD0 : va_D A0 ([oSy z q h x r y] ++ (wRe cy r (q 0) ru kn va ++ wDo cy q M)))  : MutI l yX7_count wsX7_count 5 113 [.ref z, .int (nI 1)] H0 G cy (nI (mN M)) ([oSy z q h x r y] ++ (wRe cy r (q 0) ru kn va ++ wDo cy q M)) ([oSy z q h x r y] ++ (wRe cy r (q 0) (rl M) (kF M) (vF M) ++ wDo cy q M)) := by
  refine Met.ofW (cc := cX7_count) (maxL := 2) (ret := (some .int)) (by decide) rfl ?_
  intro p e s m args below meth c s₁ B hml hv
  obtain ⟨rfl, hH, hK⟩ := hv
  subst hH
  have hx := B.exec
  have hb := B.bytes
  have hr := B.returns
  have hts := atoms_spec (ws := wsX7_count) B.pre
  have hown : s.vm.findClass RX7 = some m.cls := findClass_of_methodNamed B.named
  have hlocks := B.notSynchronized
  have hl := lv_entry ([.ref z, .int (nI 1)]) (n := 2) (Nat.le_of_ble_eq_true rfl)
  rw [lg_entry_eq]
  generalize (lg_sl ([.ref z, .int (nI 1)]) ++ List.replicate (2 - (lg_sl ([.ref z, .int (nI 1)])).length) Slot.unset).toArray = ls at hl ⊢
  have hl : lv_has ls 2 [(0, .ref z), (1, .int (nI 1))] := hl
  obtain ⟨bP, bN, bR, bO, bW, bL, bF⟩ := id hW
  have hPd0 := hP.sub (ws' := wDo cy q M) [5, 6, 7, 8, 9, 10, 11, 12, 13] rfl
  have hD := hD0.self (sz := s.heap.size)
  generalize hAe : va_A ([oSy z q h x r y] ++ (wRe cy r (q 0) ru kn va ++ wDo cy q M)) s.heap.size = A at hD ⊢
  have hA : ∀ q : Nat, s.heap.size ≤ q → A q := fun q h => by rw [← hAe]; exact Or.inr h
  have hS : va_S A s.heap s.heap [] := va_S.rf
  refine lv_aload_n hx hb dX7_count_0 rfl (lv_at hl 0 rfl) ?_
  refine va_get (D := G) (ci := 6) (v := .ref (r 0)) (C := RX7) (T := TX7) (N := 9) hx hb hts iX7_count_X7 hown hK hP 0 rfl rfl 7 (by decide) (hts (.fieldLink RX7 58 "NailedOrders" "now" "LNailedOrders$Reckoning;") (by decide +kernel)) (fun _ h9 => h9) rfl dX7_count_1 ?_
  refine lv_bipush (v := (-5)) hx hb dX7_count_4 (by decide +kernel) ?_
  have hPc := hP.sub (ws' := wRe cy r (q 0) ru kn va ++ wDo cy q M) [1, 2, 3, 4, 5, 6, 7, 8, 9, 10, 11, 12, 13] rfl
  have hDc := hD.sub (ws' := wRe cy r (q 0) ru kn va ++ wDo cy q M) [1, 2, 3, 4, 5, 6, 7, 8, 9, 10, 11, 12, 13] (by decide) rfl
  have hFc := va_free (wc := wRe cy r (q 0) ru kn va ++ wDo cy q M) hD hS hA [1, 2, 3, 4, 5, 6, 7, 8, 9, 10, 11, 12, 13] rfl
  refine va_callv (va_runV (As := [.int ((-5))]) (rest := []) ⟨hx, hb, hml, hown, hts⟩ (kX4_settle l G cy hW hF hPc hDc) (cwV 1 hts gX7_count_X4_settle rfl rfl rfl (by decide +kernel) ⟨Nat.le_of_ble_eq_true rfl, Nat.le_of_ble_eq_true rfl⟩) ⟨pR_blind, va_recv hK hP (ci := 3) (q0 := 1) rfl rfl, pR_at hK⟩ rfl rfl hl.1 rfl (lv_room (Nat.le_of_ble_eq_true rfl)) dX7_count_6 ⟨Nat.zero_le _, Nat.zero_le _⟩) hS (fun q _ h => hFc q h) hFc (fun u_ t_ H locs ht hvm hw_ hB hz1 hk1 hS => ?_)
  rw [ht] at hB
  have hP : va_P G vwCl ([oSy z q h x r y] ++ wRe cy r (q 0) (rl M) (kF M) (vF M) ++ wDo cy q M) H := (o_join hP hD [1, 2, 3, 4, 5, 6, 7, 8, 9, 10, 11, 12, 13] [0] rfl (wr := [oSy z q h x r y]) rfl (by decide) (by decide) (by decide) hk1 hFc hB rfl).sub [0, 1, 2, 3, 4, 5, 6, 7, 8, 9, 10, 11, 12, 13] rfl
  have hD : va_D A ([oSy z q h x r y] ++ wRe cy r (q 0) (rl M) (kF M) (vF M) ++ wDo cy q M) := vd_same hD rfl
  have hPr := hP.sub (ws' := wRe cy r (q 0) (rl M) (kF M) (vF M) ++ wDo cy q M) [1, 2, 3, 4, 5, 6, 7, 8, 9, 10, 11, 12, 13] rfl
  have hPd := hP.sub (ws' := wDo cy q M) [5, 6, 7, 8, 9, 10, 11, 12, 13] rfl
  refine lv_iload_n hx hb dX7_count_9 rfl (lv_at hl 1 rfl) ?_
  refine lv_tableIn (x := nI 1) (off := 74) (tgt := 84) hx hb dX7_count_10 (by decide +kernel) (by decide +kernel) (by decide +kernel) (by decide) ?_
  refine lv_aload_n hx hb dX7_count_84 rfl (lv_at hl 0 rfl) ?_
  refine va_get (D := G) (ci := 6) (v := .ref (q 0)) (C := RX7) (T := TX7) (N := 9) hx hb hts iX7_count_X7 hown hK hP 0 rfl rfl 0 (by decide) (hts (.fieldLink RX7 10 "NailedOrders" "door" "LNailedOrders$Door;") (by decide +kernel)) (fun _ h9 => h9) rfl dX7_count_85 ?_
  refine va_get (D := G) (ci := 0) (v := .int (nI (mN M))) (C := RX1) (T := TX1) (N := 13) hx hb hts iX7_count_X1 hown hK hP 5 rfl rfl 5 (by decide) (hts (.fieldLink RX7 272 "NailedOrders$Door" "orders" "I") (by decide +kernel)) (fun _ h9 => h9) rfl dX7_count_88 ?_
  exact o_endIm hx hb hr hlocks dX7_count_91 hP hS rfl

set_option maxHeartbeats 4000000 in
set_option maxRecDepth 100000 in
theorem kX7_count_2 (l : Launch) (G : va_G) (cy : Nat → ClassId) {H0 : Heap} {z : Nat} {q h x r y : Nat → Nat} {M : MT} {ru : Nat → Option Nat} {kn : Nat → Bool} {va : Nat → UInt32} {A0 : Nat → Prop} (hW : WB M) (hF : WF M) (hP : va_P G vwCl ([oSy z q h x r y] ++ (wRe cy r (q 0) ru kn va ++ wDo cy q M)) H0) (hD0 : va_D A0 ([oSy z q h x r y] ++ (wRe cy r (q 0) ru kn va ++ wDo cy q M)))  : MutI l yX7_count wsX7_count 5 113 [.ref z, .int (nI 2)] H0 G cy (nI (cR (ftB M 1) 0 (mN M))) ([oSy z q h x r y] ++ (wRe cy r (q 0) ru kn va ++ wDo cy q M)) ([oSy z q h x r y] ++ (wRe cy r (q 0) (rl M) (kF M) (vF M) ++ wDo cy q M)) := by
  refine Met.ofW (cc := cX7_count) (maxL := 2) (ret := (some .int)) (by decide) rfl ?_
  intro p e s m args below meth c s₁ B hml hv
  obtain ⟨rfl, hH, hK⟩ := hv
  subst hH
  have hx := B.exec
  have hb := B.bytes
  have hr := B.returns
  have hts := atoms_spec (ws := wsX7_count) B.pre
  have hown : s.vm.findClass RX7 = some m.cls := findClass_of_methodNamed B.named
  have hlocks := B.notSynchronized
  have hl := lv_entry ([.ref z, .int (nI 2)]) (n := 2) (Nat.le_of_ble_eq_true rfl)
  rw [lg_entry_eq]
  generalize (lg_sl ([.ref z, .int (nI 2)]) ++ List.replicate (2 - (lg_sl ([.ref z, .int (nI 2)])).length) Slot.unset).toArray = ls at hl ⊢
  have hl : lv_has ls 2 [(0, .ref z), (1, .int (nI 2))] := hl
  obtain ⟨bP, bN, bR, bO, bW, bL, bF⟩ := id hW
  have hPd0 := hP.sub (ws' := wDo cy q M) [5, 6, 7, 8, 9, 10, 11, 12, 13] rfl
  have hD := hD0.self (sz := s.heap.size)
  generalize hAe : va_A ([oSy z q h x r y] ++ (wRe cy r (q 0) ru kn va ++ wDo cy q M)) s.heap.size = A at hD ⊢
  have hA : ∀ q : Nat, s.heap.size ≤ q → A q := fun q h => by rw [← hAe]; exact Or.inr h
  have hS : va_S A s.heap s.heap [] := va_S.rf
  refine lv_aload_n hx hb dX7_count_0 rfl (lv_at hl 0 rfl) ?_
  refine va_get (D := G) (ci := 6) (v := .ref (r 0)) (C := RX7) (T := TX7) (N := 9) hx hb hts iX7_count_X7 hown hK hP 0 rfl rfl 7 (by decide) (hts (.fieldLink RX7 58 "NailedOrders" "now" "LNailedOrders$Reckoning;") (by decide +kernel)) (fun _ h9 => h9) rfl dX7_count_1 ?_
  refine lv_bipush (v := (-5)) hx hb dX7_count_4 (by decide +kernel) ?_
  have hPc := hP.sub (ws' := wRe cy r (q 0) ru kn va ++ wDo cy q M) [1, 2, 3, 4, 5, 6, 7, 8, 9, 10, 11, 12, 13] rfl
  have hDc := hD.sub (ws' := wRe cy r (q 0) ru kn va ++ wDo cy q M) [1, 2, 3, 4, 5, 6, 7, 8, 9, 10, 11, 12, 13] (by decide) rfl
  have hFc := va_free (wc := wRe cy r (q 0) ru kn va ++ wDo cy q M) hD hS hA [1, 2, 3, 4, 5, 6, 7, 8, 9, 10, 11, 12, 13] rfl
  refine va_callv (va_runV (As := [.int ((-5))]) (rest := []) ⟨hx, hb, hml, hown, hts⟩ (kX4_settle l G cy hW hF hPc hDc) (cwV 1 hts gX7_count_X4_settle rfl rfl rfl (by decide +kernel) ⟨Nat.le_of_ble_eq_true rfl, Nat.le_of_ble_eq_true rfl⟩) ⟨pR_blind, va_recv hK hP (ci := 3) (q0 := 1) rfl rfl, pR_at hK⟩ rfl rfl hl.1 rfl (lv_room (Nat.le_of_ble_eq_true rfl)) dX7_count_6 ⟨Nat.zero_le _, Nat.zero_le _⟩) hS (fun q _ h => hFc q h) hFc (fun u_ t_ H locs ht hvm hw_ hB hz1 hk1 hS => ?_)
  rw [ht] at hB
  have hP : va_P G vwCl ([oSy z q h x r y] ++ wRe cy r (q 0) (rl M) (kF M) (vF M) ++ wDo cy q M) H := (o_join hP hD [1, 2, 3, 4, 5, 6, 7, 8, 9, 10, 11, 12, 13] [0] rfl (wr := [oSy z q h x r y]) rfl (by decide) (by decide) (by decide) hk1 hFc hB rfl).sub [0, 1, 2, 3, 4, 5, 6, 7, 8, 9, 10, 11, 12, 13] rfl
  have hD : va_D A ([oSy z q h x r y] ++ wRe cy r (q 0) (rl M) (kF M) (vF M) ++ wDo cy q M) := vd_same hD rfl
  have hPr := hP.sub (ws' := wRe cy r (q 0) (rl M) (kF M) (vF M) ++ wDo cy q M) [1, 2, 3, 4, 5, 6, 7, 8, 9, 10, 11, 12, 13] rfl
  have hPd := hP.sub (ws' := wDo cy q M) [5, 6, 7, 8, 9, 10, 11, 12, 13] rfl
  refine lv_iload_n hx hb dX7_count_9 rfl (lv_at hl 1 rfl) ?_
  refine lv_tableIn (x := nI 2) (off := 82) (tgt := 92) hx hb dX7_count_10 (by decide +kernel) (by decide +kernel) (by decide +kernel) (by decide) ?_
  refine lv_aload_n hx hb dX7_count_92 rfl (lv_at hl 0 rfl) ?_
  refine va_get (D := G) (ci := 6) (v := .ref (q 0)) (C := RX7) (T := TX7) (N := 9) hx hb hts iX7_count_X7 hown hK hP 0 rfl rfl 0 (by decide) (hts (.fieldLink RX7 10 "NailedOrders" "door" "LNailedOrders$Door;") (by decide +kernel)) (fun _ h9 => h9) rfl dX7_count_93 ?_
  refine o_VI (As := []) (rest := []) ⟨hx, hb, hml, hown, hts⟩ (kX1_hanging l G cy hW hPd) (cwV 0 hts gX7_count_X1_hanging rfl rfl rfl (by decide +kernel) ⟨Nat.le_of_ble_eq_true rfl, Nat.le_of_ble_eq_true rfl⟩) hK (va_recv hK hP (ci := 0) (q0 := 5) rfl rfl) rfl hl.1 rfl (Nat.le_of_ble_eq_true rfl) dX7_count_96 ⟨Nat.zero_le _, Nat.zero_le _⟩ ?_
  exact o_endIm hx hb hr hlocks dX7_count_99 hP hS rfl

set_option maxHeartbeats 4000000 in
set_option maxRecDepth 100000 in
theorem kX7_count_3 (l : Launch) (G : va_G) (cy : Nat → ClassId) {H0 : Heap} {z : Nat} {q h x r y : Nat → Nat} {M : MT} {ru : Nat → Option Nat} {kn : Nat → Bool} {va : Nat → UInt32} {A0 : Nat → Prop} (hW : WB M) (hF : WF M) (hP : va_P G vwCl ([oSy z q h x r y] ++ (wRe cy r (q 0) ru kn va ++ wDo cy q M)) H0) (hD0 : va_D A0 ([oSy z q h x r y] ++ (wRe cy r (q 0) ru kn va ++ wDo cy q M)))  : MutI l yX7_count wsX7_count 5 113 [.ref z, .int (nI 3)] H0 G cy (nI (cR (ftB M 2) 0 (mN M))) ([oSy z q h x r y] ++ (wRe cy r (q 0) ru kn va ++ wDo cy q M)) ([oSy z q h x r y] ++ (wRe cy r (q 0) (rl M) (kF M) (vF M) ++ wDo cy q M)) := by
  refine Met.ofW (cc := cX7_count) (maxL := 2) (ret := (some .int)) (by decide) rfl ?_
  intro p e s m args below meth c s₁ B hml hv
  obtain ⟨rfl, hH, hK⟩ := hv
  subst hH
  have hx := B.exec
  have hb := B.bytes
  have hr := B.returns
  have hts := atoms_spec (ws := wsX7_count) B.pre
  have hown : s.vm.findClass RX7 = some m.cls := findClass_of_methodNamed B.named
  have hlocks := B.notSynchronized
  have hl := lv_entry ([.ref z, .int (nI 3)]) (n := 2) (Nat.le_of_ble_eq_true rfl)
  rw [lg_entry_eq]
  generalize (lg_sl ([.ref z, .int (nI 3)]) ++ List.replicate (2 - (lg_sl ([.ref z, .int (nI 3)])).length) Slot.unset).toArray = ls at hl ⊢
  have hl : lv_has ls 2 [(0, .ref z), (1, .int (nI 3))] := hl
  obtain ⟨bP, bN, bR, bO, bW, bL, bF⟩ := id hW
  have hPd0 := hP.sub (ws' := wDo cy q M) [5, 6, 7, 8, 9, 10, 11, 12, 13] rfl
  have hD := hD0.self (sz := s.heap.size)
  generalize hAe : va_A ([oSy z q h x r y] ++ (wRe cy r (q 0) ru kn va ++ wDo cy q M)) s.heap.size = A at hD ⊢
  have hA : ∀ q : Nat, s.heap.size ≤ q → A q := fun q h => by rw [← hAe]; exact Or.inr h
  have hS : va_S A s.heap s.heap [] := va_S.rf
  refine lv_aload_n hx hb dX7_count_0 rfl (lv_at hl 0 rfl) ?_
  refine va_get (D := G) (ci := 6) (v := .ref (r 0)) (C := RX7) (T := TX7) (N := 9) hx hb hts iX7_count_X7 hown hK hP 0 rfl rfl 7 (by decide) (hts (.fieldLink RX7 58 "NailedOrders" "now" "LNailedOrders$Reckoning;") (by decide +kernel)) (fun _ h9 => h9) rfl dX7_count_1 ?_
  refine lv_bipush (v := (-5)) hx hb dX7_count_4 (by decide +kernel) ?_
  have hPc := hP.sub (ws' := wRe cy r (q 0) ru kn va ++ wDo cy q M) [1, 2, 3, 4, 5, 6, 7, 8, 9, 10, 11, 12, 13] rfl
  have hDc := hD.sub (ws' := wRe cy r (q 0) ru kn va ++ wDo cy q M) [1, 2, 3, 4, 5, 6, 7, 8, 9, 10, 11, 12, 13] (by decide) rfl
  have hFc := va_free (wc := wRe cy r (q 0) ru kn va ++ wDo cy q M) hD hS hA [1, 2, 3, 4, 5, 6, 7, 8, 9, 10, 11, 12, 13] rfl
  refine va_callv (va_runV (As := [.int ((-5))]) (rest := []) ⟨hx, hb, hml, hown, hts⟩ (kX4_settle l G cy hW hF hPc hDc) (cwV 1 hts gX7_count_X4_settle rfl rfl rfl (by decide +kernel) ⟨Nat.le_of_ble_eq_true rfl, Nat.le_of_ble_eq_true rfl⟩) ⟨pR_blind, va_recv hK hP (ci := 3) (q0 := 1) rfl rfl, pR_at hK⟩ rfl rfl hl.1 rfl (lv_room (Nat.le_of_ble_eq_true rfl)) dX7_count_6 ⟨Nat.zero_le _, Nat.zero_le _⟩) hS (fun q _ h => hFc q h) hFc (fun u_ t_ H locs ht hvm hw_ hB hz1 hk1 hS => ?_)
  rw [ht] at hB
  have hP : va_P G vwCl ([oSy z q h x r y] ++ wRe cy r (q 0) (rl M) (kF M) (vF M) ++ wDo cy q M) H := (o_join hP hD [1, 2, 3, 4, 5, 6, 7, 8, 9, 10, 11, 12, 13] [0] rfl (wr := [oSy z q h x r y]) rfl (by decide) (by decide) (by decide) hk1 hFc hB rfl).sub [0, 1, 2, 3, 4, 5, 6, 7, 8, 9, 10, 11, 12, 13] rfl
  have hD : va_D A ([oSy z q h x r y] ++ wRe cy r (q 0) (rl M) (kF M) (vF M) ++ wDo cy q M) := vd_same hD rfl
  have hPr := hP.sub (ws' := wRe cy r (q 0) (rl M) (kF M) (vF M) ++ wDo cy q M) [1, 2, 3, 4, 5, 6, 7, 8, 9, 10, 11, 12, 13] rfl
  have hPd := hP.sub (ws' := wDo cy q M) [5, 6, 7, 8, 9, 10, 11, 12, 13] rfl
  refine lv_iload_n hx hb dX7_count_9 rfl (lv_at hl 1 rfl) ?_
  refine lv_tableIn (x := nI 3) (off := 90) (tgt := 100) hx hb dX7_count_10 (by decide +kernel) (by decide +kernel) (by decide +kernel) (by decide) ?_
  refine lv_aload_n hx hb dX7_count_100 rfl (lv_at hl 0 rfl) ?_
  refine va_get (D := G) (ci := 6) (v := .ref (q 0)) (C := RX7) (T := TX7) (N := 9) hx hb hts iX7_count_X7 hown hK hP 0 rfl rfl 0 (by decide) (hts (.fieldLink RX7 10 "NailedOrders" "door" "LNailedOrders$Door;") (by decide +kernel)) (fun _ h9 => h9) rfl dX7_count_101 ?_
  refine lv_iconst (v := nI 2) hx hb dX7_count_104 (by decide +kernel) ?_
  refine o_VI (As := [.int (nI 2)]) (rest := []) ⟨hx, hb, hml, hown, hts⟩ (kX1_withFate l G cy hW hPd 2 (by decide)) (cwV 1 hts gX7_count_X1_withFate rfl rfl rfl (by decide +kernel) ⟨Nat.le_of_ble_eq_true rfl, Nat.le_of_ble_eq_true rfl⟩) hK (va_recv hK hP (ci := 0) (q0 := 5) rfl rfl) rfl hl.1 rfl (Nat.le_of_ble_eq_true rfl) dX7_count_105 ⟨Nat.zero_le _, Nat.zero_le _⟩ ?_
  exact o_endIm hx hb hr hlocks dX7_count_108 hP hS rfl

set_option maxHeartbeats 4000000 in
set_option maxRecDepth 100000 in
theorem kX7_count_4 (l : Launch) (G : va_G) (cy : Nat → ClassId) {H0 : Heap} {z : Nat} {q h x r y : Nat → Nat} {M : MT} {ru : Nat → Option Nat} {kn : Nat → Bool} {va : Nat → UInt32} {A0 : Nat → Prop} (hW : WB M) (hF : WF M) (hP : va_P G vwCl ([oSy z q h x r y] ++ (wRe cy r (q 0) ru kn va ++ wDo cy q M)) H0) (hD0 : va_D A0 ([oSy z q h x r y] ++ (wRe cy r (q 0) ru kn va ++ wDo cy q M)))  : MutI l yX7_count wsX7_count 5 113 [.ref z, .int (nI 4)] H0 G cy (nI (cR (ftB M 3) 0 (mN M))) ([oSy z q h x r y] ++ (wRe cy r (q 0) ru kn va ++ wDo cy q M)) ([oSy z q h x r y] ++ (wRe cy r (q 0) (rl M) (kF M) (vF M) ++ wDo cy q M)) := by
  refine Met.ofW (cc := cX7_count) (maxL := 2) (ret := (some .int)) (by decide) rfl ?_
  intro p e s m args below meth c s₁ B hml hv
  obtain ⟨rfl, hH, hK⟩ := hv
  subst hH
  have hx := B.exec
  have hb := B.bytes
  have hr := B.returns
  have hts := atoms_spec (ws := wsX7_count) B.pre
  have hown : s.vm.findClass RX7 = some m.cls := findClass_of_methodNamed B.named
  have hlocks := B.notSynchronized
  have hl := lv_entry ([.ref z, .int (nI 4)]) (n := 2) (Nat.le_of_ble_eq_true rfl)
  rw [lg_entry_eq]
  generalize (lg_sl ([.ref z, .int (nI 4)]) ++ List.replicate (2 - (lg_sl ([.ref z, .int (nI 4)])).length) Slot.unset).toArray = ls at hl ⊢
  have hl : lv_has ls 2 [(0, .ref z), (1, .int (nI 4))] := hl
  obtain ⟨bP, bN, bR, bO, bW, bL, bF⟩ := id hW
  have hPd0 := hP.sub (ws' := wDo cy q M) [5, 6, 7, 8, 9, 10, 11, 12, 13] rfl
  have hD := hD0.self (sz := s.heap.size)
  generalize hAe : va_A ([oSy z q h x r y] ++ (wRe cy r (q 0) ru kn va ++ wDo cy q M)) s.heap.size = A at hD ⊢
  have hA : ∀ q : Nat, s.heap.size ≤ q → A q := fun q h => by rw [← hAe]; exact Or.inr h
  have hS : va_S A s.heap s.heap [] := va_S.rf
  refine lv_aload_n hx hb dX7_count_0 rfl (lv_at hl 0 rfl) ?_
  refine va_get (D := G) (ci := 6) (v := .ref (r 0)) (C := RX7) (T := TX7) (N := 9) hx hb hts iX7_count_X7 hown hK hP 0 rfl rfl 7 (by decide) (hts (.fieldLink RX7 58 "NailedOrders" "now" "LNailedOrders$Reckoning;") (by decide +kernel)) (fun _ h9 => h9) rfl dX7_count_1 ?_
  refine lv_bipush (v := (-5)) hx hb dX7_count_4 (by decide +kernel) ?_
  have hPc := hP.sub (ws' := wRe cy r (q 0) ru kn va ++ wDo cy q M) [1, 2, 3, 4, 5, 6, 7, 8, 9, 10, 11, 12, 13] rfl
  have hDc := hD.sub (ws' := wRe cy r (q 0) ru kn va ++ wDo cy q M) [1, 2, 3, 4, 5, 6, 7, 8, 9, 10, 11, 12, 13] (by decide) rfl
  have hFc := va_free (wc := wRe cy r (q 0) ru kn va ++ wDo cy q M) hD hS hA [1, 2, 3, 4, 5, 6, 7, 8, 9, 10, 11, 12, 13] rfl
  refine va_callv (va_runV (As := [.int ((-5))]) (rest := []) ⟨hx, hb, hml, hown, hts⟩ (kX4_settle l G cy hW hF hPc hDc) (cwV 1 hts gX7_count_X4_settle rfl rfl rfl (by decide +kernel) ⟨Nat.le_of_ble_eq_true rfl, Nat.le_of_ble_eq_true rfl⟩) ⟨pR_blind, va_recv hK hP (ci := 3) (q0 := 1) rfl rfl, pR_at hK⟩ rfl rfl hl.1 rfl (lv_room (Nat.le_of_ble_eq_true rfl)) dX7_count_6 ⟨Nat.zero_le _, Nat.zero_le _⟩) hS (fun q _ h => hFc q h) hFc (fun u_ t_ H locs ht hvm hw_ hB hz1 hk1 hS => ?_)
  rw [ht] at hB
  have hP : va_P G vwCl ([oSy z q h x r y] ++ wRe cy r (q 0) (rl M) (kF M) (vF M) ++ wDo cy q M) H := (o_join hP hD [1, 2, 3, 4, 5, 6, 7, 8, 9, 10, 11, 12, 13] [0] rfl (wr := [oSy z q h x r y]) rfl (by decide) (by decide) (by decide) hk1 hFc hB rfl).sub [0, 1, 2, 3, 4, 5, 6, 7, 8, 9, 10, 11, 12, 13] rfl
  have hD : va_D A ([oSy z q h x r y] ++ wRe cy r (q 0) (rl M) (kF M) (vF M) ++ wDo cy q M) := vd_same hD rfl
  have hPr := hP.sub (ws' := wRe cy r (q 0) (rl M) (kF M) (vF M) ++ wDo cy q M) [1, 2, 3, 4, 5, 6, 7, 8, 9, 10, 11, 12, 13] rfl
  have hPd := hP.sub (ws' := wDo cy q M) [5, 6, 7, 8, 9, 10, 11, 12, 13] rfl
  refine lv_iload_n hx hb dX7_count_9 rfl (lv_at hl 1 rfl) ?_
  refine lv_tableIn (x := nI 4) (off := 99) (tgt := 109) hx hb dX7_count_10 (by decide +kernel) (by decide +kernel) (by decide +kernel) (by decide) ?_
  refine lv_aload_n hx hb dX7_count_109 rfl (lv_at hl 0 rfl) ?_
  refine va_get (D := G) (ci := 6) (v := .ref (q 0)) (C := RX7) (T := TX7) (N := 9) hx hb hts iX7_count_X7 hown hK hP 0 rfl rfl 0 (by decide) (hts (.fieldLink RX7 10 "NailedOrders" "door" "LNailedOrders$Door;") (by decide +kernel)) (fun _ h9 => h9) rfl dX7_count_110 ?_
  refine lv_iconst (v := nI 3) hx hb dX7_count_113 (by decide +kernel) ?_
  refine o_VI (As := [.int (nI 3)]) (rest := []) ⟨hx, hb, hml, hown, hts⟩ (kX1_withFate l G cy hW hPd 3 (by decide)) (cwV 1 hts gX7_count_X1_withFate rfl rfl rfl (by decide +kernel) ⟨Nat.le_of_ble_eq_true rfl, Nat.le_of_ble_eq_true rfl⟩) hK (va_recv hK hP (ci := 0) (q0 := 5) rfl rfl) rfl hl.1 rfl (Nat.le_of_ble_eq_true rfl) dX7_count_114 ⟨Nat.zero_le _, Nat.zero_le _⟩ ?_
  exact o_endIm hx hb hr hlocks dX7_count_117 hP hS rfl

set_option maxHeartbeats 4000000 in
set_option maxRecDepth 100000 in
theorem kX7_count_5 (l : Launch) (G : va_G) (cy : Nat → ClassId) {H0 : Heap} {z : Nat} {q h x r y : Nat → Nat} {M : MT} {ru : Nat → Option Nat} {kn : Nat → Bool} {va : Nat → UInt32} {A0 : Nat → Prop} (hW : WB M) (hF : WF M) (hP : va_P G vwCl ([oSy z q h x r y] ++ (wRe cy r (q 0) ru kn va ++ wDo cy q M)) H0) (hD0 : va_D A0 ([oSy z q h x r y] ++ (wRe cy r (q 0) ru kn va ++ wDo cy q M)))  : MutI l yX7_count wsX7_count 5 113 [.ref z, .int (nI 5)] H0 G cy (nI (cR (kF M) 0 16)) ([oSy z q h x r y] ++ (wRe cy r (q 0) ru kn va ++ wDo cy q M)) ([oSy z q h x r y] ++ (wRe cy r (q 0) (rl M) (kF M) (vF M) ++ wDo cy q M)) := by
  refine Met.ofW (cc := cX7_count) (maxL := 2) (ret := (some .int)) (by decide) rfl ?_
  intro p e s m args below meth c s₁ B hml hv
  obtain ⟨rfl, hH, hK⟩ := hv
  subst hH
  have hx := B.exec
  have hb := B.bytes
  have hr := B.returns
  have hts := atoms_spec (ws := wsX7_count) B.pre
  have hown : s.vm.findClass RX7 = some m.cls := findClass_of_methodNamed B.named
  have hlocks := B.notSynchronized
  have hl := lv_entry ([.ref z, .int (nI 5)]) (n := 2) (Nat.le_of_ble_eq_true rfl)
  rw [lg_entry_eq]
  generalize (lg_sl ([.ref z, .int (nI 5)]) ++ List.replicate (2 - (lg_sl ([.ref z, .int (nI 5)])).length) Slot.unset).toArray = ls at hl ⊢
  have hl : lv_has ls 2 [(0, .ref z), (1, .int (nI 5))] := hl
  obtain ⟨bP, bN, bR, bO, bW, bL, bF⟩ := id hW
  have hPd0 := hP.sub (ws' := wDo cy q M) [5, 6, 7, 8, 9, 10, 11, 12, 13] rfl
  have hD := hD0.self (sz := s.heap.size)
  generalize hAe : va_A ([oSy z q h x r y] ++ (wRe cy r (q 0) ru kn va ++ wDo cy q M)) s.heap.size = A at hD ⊢
  have hA : ∀ q : Nat, s.heap.size ≤ q → A q := fun q h => by rw [← hAe]; exact Or.inr h
  have hS : va_S A s.heap s.heap [] := va_S.rf
  refine lv_aload_n hx hb dX7_count_0 rfl (lv_at hl 0 rfl) ?_
  refine va_get (D := G) (ci := 6) (v := .ref (r 0)) (C := RX7) (T := TX7) (N := 9) hx hb hts iX7_count_X7 hown hK hP 0 rfl rfl 7 (by decide) (hts (.fieldLink RX7 58 "NailedOrders" "now" "LNailedOrders$Reckoning;") (by decide +kernel)) (fun _ h9 => h9) rfl dX7_count_1 ?_
  refine lv_bipush (v := (-5)) hx hb dX7_count_4 (by decide +kernel) ?_
  have hPc := hP.sub (ws' := wRe cy r (q 0) ru kn va ++ wDo cy q M) [1, 2, 3, 4, 5, 6, 7, 8, 9, 10, 11, 12, 13] rfl
  have hDc := hD.sub (ws' := wRe cy r (q 0) ru kn va ++ wDo cy q M) [1, 2, 3, 4, 5, 6, 7, 8, 9, 10, 11, 12, 13] (by decide) rfl
  have hFc := va_free (wc := wRe cy r (q 0) ru kn va ++ wDo cy q M) hD hS hA [1, 2, 3, 4, 5, 6, 7, 8, 9, 10, 11, 12, 13] rfl
  refine va_callv (va_runV (As := [.int ((-5))]) (rest := []) ⟨hx, hb, hml, hown, hts⟩ (kX4_settle l G cy hW hF hPc hDc) (cwV 1 hts gX7_count_X4_settle rfl rfl rfl (by decide +kernel) ⟨Nat.le_of_ble_eq_true rfl, Nat.le_of_ble_eq_true rfl⟩) ⟨pR_blind, va_recv hK hP (ci := 3) (q0 := 1) rfl rfl, pR_at hK⟩ rfl rfl hl.1 rfl (lv_room (Nat.le_of_ble_eq_true rfl)) dX7_count_6 ⟨Nat.zero_le _, Nat.zero_le _⟩) hS (fun q _ h => hFc q h) hFc (fun u_ t_ H locs ht hvm hw_ hB hz1 hk1 hS => ?_)
  rw [ht] at hB
  have hP : va_P G vwCl ([oSy z q h x r y] ++ wRe cy r (q 0) (rl M) (kF M) (vF M) ++ wDo cy q M) H := (o_join hP hD [1, 2, 3, 4, 5, 6, 7, 8, 9, 10, 11, 12, 13] [0] rfl (wr := [oSy z q h x r y]) rfl (by decide) (by decide) (by decide) hk1 hFc hB rfl).sub [0, 1, 2, 3, 4, 5, 6, 7, 8, 9, 10, 11, 12, 13] rfl
  have hD : va_D A ([oSy z q h x r y] ++ wRe cy r (q 0) (rl M) (kF M) (vF M) ++ wDo cy q M) := vd_same hD rfl
  have hPr := hP.sub (ws' := wRe cy r (q 0) (rl M) (kF M) (vF M) ++ wDo cy q M) [1, 2, 3, 4, 5, 6, 7, 8, 9, 10, 11, 12, 13] rfl
  have hPd := hP.sub (ws' := wDo cy q M) [5, 6, 7, 8, 9, 10, 11, 12, 13] rfl
  refine lv_iload_n hx hb dX7_count_9 rfl (lv_at hl 1 rfl) ?_
  refine lv_tableIn (x := nI 5) (off := 108) (tgt := 118) hx hb dX7_count_10 (by decide +kernel) (by decide +kernel) (by decide +kernel) (by decide) ?_
  refine lv_aload_n hx hb dX7_count_118 rfl (lv_at hl 0 rfl) ?_
  refine va_get (D := G) (ci := 6) (v := .ref (r 0)) (C := RX7) (T := TX7) (N := 9) hx hb hts iX7_count_X7 hown hK hP 0 rfl rfl 7 (by decide) (hts (.fieldLink RX7 58 "NailedOrders" "now" "LNailedOrders$Reckoning;") (by decide +kernel)) (fun _ h9 => h9) rfl dX7_count_119 ?_
  refine o_VI (As := []) (rest := []) ⟨hx, hb, hml, hown, hts⟩ (kX4_wordsWithValue l G cy hW hF (fun w => vaF_fin w) rl_lt hPr) (cwV 0 hts gX7_count_X4_wordsWithValue rfl rfl rfl (by decide +kernel) ⟨Nat.le_of_ble_eq_true rfl, Nat.le_of_ble_eq_true rfl⟩) hK (va_recv hK hP (ci := 3) (q0 := 1) rfl rfl) rfl hl.1 rfl (Nat.le_of_ble_eq_true rfl) dX7_count_122 ⟨Nat.zero_le _, Nat.zero_le _⟩ ?_
  exact o_endIm hx hb hr hlocks dX7_count_125 hP hS rfl

set_option maxHeartbeats 4000000 in
set_option maxRecDepth 100000 in
theorem kX7_count_6 (l : Launch) (G : va_G) (cy : Nat → ClassId) {H0 : Heap} {z : Nat} {q h x r y : Nat → Nat} {M : MT} {ru : Nat → Option Nat} {kn : Nat → Bool} {va : Nat → UInt32} {A0 : Nat → Prop} (hW : WB M) (hF : WF M) (hP : va_P G vwCl ([oSy z q h x r y] ++ (wRe cy r (q 0) ru kn va ++ wDo cy q M)) H0) (hD0 : va_D A0 ([oSy z q h x r y] ++ (wRe cy r (q 0) ru kn va ++ wDo cy q M)))  : MutI l yX7_count wsX7_count 5 113 [.ref z, .int (nI 6)] H0 G cy (nI (cR (rwB (rl M) (kF M)) 0 16)) ([oSy z q h x r y] ++ (wRe cy r (q 0) ru kn va ++ wDo cy q M)) ([oSy z q h x r y] ++ (wRe cy r (q 0) (rl M) (kF M) (vF M) ++ wDo cy q M)) := by
  refine Met.ofW (cc := cX7_count) (maxL := 2) (ret := (some .int)) (by decide) rfl ?_
  intro p e s m args below meth c s₁ B hml hv
  obtain ⟨rfl, hH, hK⟩ := hv
  subst hH
  have hx := B.exec
  have hb := B.bytes
  have hr := B.returns
  have hts := atoms_spec (ws := wsX7_count) B.pre
  have hown : s.vm.findClass RX7 = some m.cls := findClass_of_methodNamed B.named
  have hlocks := B.notSynchronized
  have hl := lv_entry ([.ref z, .int (nI 6)]) (n := 2) (Nat.le_of_ble_eq_true rfl)
  rw [lg_entry_eq]
  generalize (lg_sl ([.ref z, .int (nI 6)]) ++ List.replicate (2 - (lg_sl ([.ref z, .int (nI 6)])).length) Slot.unset).toArray = ls at hl ⊢
  have hl : lv_has ls 2 [(0, .ref z), (1, .int (nI 6))] := hl
  obtain ⟨bP, bN, bR, bO, bW, bL, bF⟩ := id hW
  have hPd0 := hP.sub (ws' := wDo cy q M) [5, 6, 7, 8, 9, 10, 11, 12, 13] rfl
  have hD := hD0.self (sz := s.heap.size)
  generalize hAe : va_A ([oSy z q h x r y] ++ (wRe cy r (q 0) ru kn va ++ wDo cy q M)) s.heap.size = A at hD ⊢
  have hA : ∀ q : Nat, s.heap.size ≤ q → A q := fun q h => by rw [← hAe]; exact Or.inr h
  have hS : va_S A s.heap s.heap [] := va_S.rf
  refine lv_aload_n hx hb dX7_count_0 rfl (lv_at hl 0 rfl) ?_
  refine va_get (D := G) (ci := 6) (v := .ref (r 0)) (C := RX7) (T := TX7) (N := 9) hx hb hts iX7_count_X7 hown hK hP 0 rfl rfl 7 (by decide) (hts (.fieldLink RX7 58 "NailedOrders" "now" "LNailedOrders$Reckoning;") (by decide +kernel)) (fun _ h9 => h9) rfl dX7_count_1 ?_
  refine lv_bipush (v := (-5)) hx hb dX7_count_4 (by decide +kernel) ?_
  have hPc := hP.sub (ws' := wRe cy r (q 0) ru kn va ++ wDo cy q M) [1, 2, 3, 4, 5, 6, 7, 8, 9, 10, 11, 12, 13] rfl
  have hDc := hD.sub (ws' := wRe cy r (q 0) ru kn va ++ wDo cy q M) [1, 2, 3, 4, 5, 6, 7, 8, 9, 10, 11, 12, 13] (by decide) rfl
  have hFc := va_free (wc := wRe cy r (q 0) ru kn va ++ wDo cy q M) hD hS hA [1, 2, 3, 4, 5, 6, 7, 8, 9, 10, 11, 12, 13] rfl
  refine va_callv (va_runV (As := [.int ((-5))]) (rest := []) ⟨hx, hb, hml, hown, hts⟩ (kX4_settle l G cy hW hF hPc hDc) (cwV 1 hts gX7_count_X4_settle rfl rfl rfl (by decide +kernel) ⟨Nat.le_of_ble_eq_true rfl, Nat.le_of_ble_eq_true rfl⟩) ⟨pR_blind, va_recv hK hP (ci := 3) (q0 := 1) rfl rfl, pR_at hK⟩ rfl rfl hl.1 rfl (lv_room (Nat.le_of_ble_eq_true rfl)) dX7_count_6 ⟨Nat.zero_le _, Nat.zero_le _⟩) hS (fun q _ h => hFc q h) hFc (fun u_ t_ H locs ht hvm hw_ hB hz1 hk1 hS => ?_)
  rw [ht] at hB
  have hP : va_P G vwCl ([oSy z q h x r y] ++ wRe cy r (q 0) (rl M) (kF M) (vF M) ++ wDo cy q M) H := (o_join hP hD [1, 2, 3, 4, 5, 6, 7, 8, 9, 10, 11, 12, 13] [0] rfl (wr := [oSy z q h x r y]) rfl (by decide) (by decide) (by decide) hk1 hFc hB rfl).sub [0, 1, 2, 3, 4, 5, 6, 7, 8, 9, 10, 11, 12, 13] rfl
  have hD : va_D A ([oSy z q h x r y] ++ wRe cy r (q 0) (rl M) (kF M) (vF M) ++ wDo cy q M) := vd_same hD rfl
  have hPr := hP.sub (ws' := wRe cy r (q 0) (rl M) (kF M) (vF M) ++ wDo cy q M) [1, 2, 3, 4, 5, 6, 7, 8, 9, 10, 11, 12, 13] rfl
  have hPd := hP.sub (ws' := wDo cy q M) [5, 6, 7, 8, 9, 10, 11, 12, 13] rfl
  refine lv_iload_n hx hb dX7_count_9 rfl (lv_at hl 1 rfl) ?_
  refine lv_tableIn (x := nI 6) (off := 116) (tgt := 126) hx hb dX7_count_10 (by decide +kernel) (by decide +kernel) (by decide +kernel) (by decide) ?_
  refine lv_aload_n hx hb dX7_count_126 rfl (lv_at hl 0 rfl) ?_
  refine va_get (D := G) (ci := 6) (v := .ref (r 0)) (C := RX7) (T := TX7) (N := 9) hx hb hts iX7_count_X7 hown hK hP 0 rfl rfl 7 (by decide) (hts (.fieldLink RX7 58 "NailedOrders" "now" "LNailedOrders$Reckoning;") (by decide +kernel)) (fun _ h9 => h9) rfl dX7_count_127 ?_
  refine o_VI (As := []) (rest := []) ⟨hx, hb, hml, hown, hts⟩ (kX4_wordsRuledWithoutValue l G cy hW hF (fun w => vaF_fin w) rl_lt hPr) (cwV 0 hts gX7_count_X4_wordsRuledWithoutValue rfl rfl rfl (by decide +kernel) ⟨Nat.le_of_ble_eq_true rfl, Nat.le_of_ble_eq_true rfl⟩) hK (va_recv hK hP (ci := 3) (q0 := 1) rfl rfl) rfl hl.1 rfl (Nat.le_of_ble_eq_true rfl) dX7_count_130 ⟨Nat.zero_le _, Nat.zero_le _⟩ ?_
  exact o_endIm hx hb hr hlocks dX7_count_133 hP hS rfl

set_option maxHeartbeats 4000000 in
set_option maxRecDepth 100000 in
theorem kX7_count_7 (l : Launch) (G : va_G) (cy : Nat → ClassId) {H0 : Heap} {z : Nat} {q h x r y : Nat → Nat} {M : MT} {ru : Nat → Option Nat} {kn : Nat → Bool} {va : Nat → UInt32} {A0 : Nat → Prop} (hW : WB M) (hF : WF M) (hP : va_P G vwCl ([oSy z q h x r y] ++ (wRe cy r (q 0) ru kn va ++ wDo cy q M)) H0) (hD0 : va_D A0 ([oSy z q h x r y] ++ (wRe cy r (q 0) ru kn va ++ wDo cy q M)))  : MutI l yX7_count wsX7_count 5 113 [.ref z, .int (nI 7)] H0 G cy (nI (cR (cfB M (rl M) (kF M) (vF M)) 0 16)) ([oSy z q h x r y] ++ (wRe cy r (q 0) ru kn va ++ wDo cy q M)) ([oSy z q h x r y] ++ (wRe cy r (q 0) (rl M) (kF M) (vF M) ++ wDo cy q M)) := by
  refine Met.ofW (cc := cX7_count) (maxL := 2) (ret := (some .int)) (by decide) rfl ?_
  intro p e s m args below meth c s₁ B hml hv
  obtain ⟨rfl, hH, hK⟩ := hv
  subst hH
  have hx := B.exec
  have hb := B.bytes
  have hr := B.returns
  have hts := atoms_spec (ws := wsX7_count) B.pre
  have hown : s.vm.findClass RX7 = some m.cls := findClass_of_methodNamed B.named
  have hlocks := B.notSynchronized
  have hl := lv_entry ([.ref z, .int (nI 7)]) (n := 2) (Nat.le_of_ble_eq_true rfl)
  rw [lg_entry_eq]
  generalize (lg_sl ([.ref z, .int (nI 7)]) ++ List.replicate (2 - (lg_sl ([.ref z, .int (nI 7)])).length) Slot.unset).toArray = ls at hl ⊢
  have hl : lv_has ls 2 [(0, .ref z), (1, .int (nI 7))] := hl
  obtain ⟨bP, bN, bR, bO, bW, bL, bF⟩ := id hW
  have hPd0 := hP.sub (ws' := wDo cy q M) [5, 6, 7, 8, 9, 10, 11, 12, 13] rfl
  have hD := hD0.self (sz := s.heap.size)
  generalize hAe : va_A ([oSy z q h x r y] ++ (wRe cy r (q 0) ru kn va ++ wDo cy q M)) s.heap.size = A at hD ⊢
  have hA : ∀ q : Nat, s.heap.size ≤ q → A q := fun q h => by rw [← hAe]; exact Or.inr h
  have hS : va_S A s.heap s.heap [] := va_S.rf
  refine lv_aload_n hx hb dX7_count_0 rfl (lv_at hl 0 rfl) ?_
  refine va_get (D := G) (ci := 6) (v := .ref (r 0)) (C := RX7) (T := TX7) (N := 9) hx hb hts iX7_count_X7 hown hK hP 0 rfl rfl 7 (by decide) (hts (.fieldLink RX7 58 "NailedOrders" "now" "LNailedOrders$Reckoning;") (by decide +kernel)) (fun _ h9 => h9) rfl dX7_count_1 ?_
  refine lv_bipush (v := (-5)) hx hb dX7_count_4 (by decide +kernel) ?_
  have hPc := hP.sub (ws' := wRe cy r (q 0) ru kn va ++ wDo cy q M) [1, 2, 3, 4, 5, 6, 7, 8, 9, 10, 11, 12, 13] rfl
  have hDc := hD.sub (ws' := wRe cy r (q 0) ru kn va ++ wDo cy q M) [1, 2, 3, 4, 5, 6, 7, 8, 9, 10, 11, 12, 13] (by decide) rfl
  have hFc := va_free (wc := wRe cy r (q 0) ru kn va ++ wDo cy q M) hD hS hA [1, 2, 3, 4, 5, 6, 7, 8, 9, 10, 11, 12, 13] rfl
  refine va_callv (va_runV (As := [.int ((-5))]) (rest := []) ⟨hx, hb, hml, hown, hts⟩ (kX4_settle l G cy hW hF hPc hDc) (cwV 1 hts gX7_count_X4_settle rfl rfl rfl (by decide +kernel) ⟨Nat.le_of_ble_eq_true rfl, Nat.le_of_ble_eq_true rfl⟩) ⟨pR_blind, va_recv hK hP (ci := 3) (q0 := 1) rfl rfl, pR_at hK⟩ rfl rfl hl.1 rfl (lv_room (Nat.le_of_ble_eq_true rfl)) dX7_count_6 ⟨Nat.zero_le _, Nat.zero_le _⟩) hS (fun q _ h => hFc q h) hFc (fun u_ t_ H locs ht hvm hw_ hB hz1 hk1 hS => ?_)
  rw [ht] at hB
  have hP : va_P G vwCl ([oSy z q h x r y] ++ wRe cy r (q 0) (rl M) (kF M) (vF M) ++ wDo cy q M) H := (o_join hP hD [1, 2, 3, 4, 5, 6, 7, 8, 9, 10, 11, 12, 13] [0] rfl (wr := [oSy z q h x r y]) rfl (by decide) (by decide) (by decide) hk1 hFc hB rfl).sub [0, 1, 2, 3, 4, 5, 6, 7, 8, 9, 10, 11, 12, 13] rfl
  have hD : va_D A ([oSy z q h x r y] ++ wRe cy r (q 0) (rl M) (kF M) (vF M) ++ wDo cy q M) := vd_same hD rfl
  have hPr := hP.sub (ws' := wRe cy r (q 0) (rl M) (kF M) (vF M) ++ wDo cy q M) [1, 2, 3, 4, 5, 6, 7, 8, 9, 10, 11, 12, 13] rfl
  have hPd := hP.sub (ws' := wDo cy q M) [5, 6, 7, 8, 9, 10, 11, 12, 13] rfl
  refine lv_iload_n hx hb dX7_count_9 rfl (lv_at hl 1 rfl) ?_
  refine lv_tableIn (x := nI 7) (off := 124) (tgt := 134) hx hb dX7_count_10 (by decide +kernel) (by decide +kernel) (by decide +kernel) (by decide) ?_
  refine lv_aload_n hx hb dX7_count_134 rfl (lv_at hl 0 rfl) ?_
  refine va_get (D := G) (ci := 6) (v := .ref (r 0)) (C := RX7) (T := TX7) (N := 9) hx hb hts iX7_count_X7 hown hK hP 0 rfl rfl 7 (by decide) (hts (.fieldLink RX7 58 "NailedOrders" "now" "LNailedOrders$Reckoning;") (by decide +kernel)) (fun _ h9 => h9) rfl dX7_count_135 ?_
  refine o_VI (As := []) (rest := []) ⟨hx, hb, hml, hown, hts⟩ (kX4_wordsInConflict l G cy hW hF (fun w => vaF_fin w) rl_lt hPr) (cwV 0 hts gX7_count_X4_wordsInConflict rfl rfl rfl (by decide +kernel) ⟨Nat.le_of_ble_eq_true rfl, Nat.le_of_ble_eq_true rfl⟩) hK (va_recv hK hP (ci := 3) (q0 := 1) rfl rfl) rfl hl.1 rfl (Nat.le_of_ble_eq_true rfl) dX7_count_138 ⟨Nat.zero_le _, Nat.zero_le _⟩ ?_
  exact o_endIm hx hb hr hlocks dX7_count_141 hP hS rfl

set_option maxHeartbeats 4000000 in
set_option maxRecDepth 100000 in
theorem kX7_count_9 (l : Launch) (G : va_G) (cy : Nat → ClassId) {H0 : Heap} {z : Nat} {q h x r y : Nat → Nat} {M : MT} {ru : Nat → Option Nat} {kn : Nat → Bool} {va : Nat → UInt32} {A0 : Nat → Prop} (hW : WB M) (hF : WF M) (hP : va_P G vwCl ([oSy z q h x r y] ++ (wRe cy r (q 0) ru kn va ++ wDo cy q M)) H0) (hD0 : va_D A0 ([oSy z q h x r y] ++ (wRe cy r (q 0) ru kn va ++ wDo cy q M)))  : MutI l yX7_count wsX7_count 5 113 [.ref z, .int (nI 9)] H0 G cy (nI (mS M)) ([oSy z q h x r y] ++ (wRe cy r (q 0) ru kn va ++ wDo cy q M)) ([oSy z q h x r y] ++ (wRe cy r (q 0) (rl M) (kF M) (vF M) ++ wDo cy q M)) := by
  refine Met.ofW (cc := cX7_count) (maxL := 2) (ret := (some .int)) (by decide) rfl ?_
  intro p e s m args below meth c s₁ B hml hv
  obtain ⟨rfl, hH, hK⟩ := hv
  subst hH
  have hx := B.exec
  have hb := B.bytes
  have hr := B.returns
  have hts := atoms_spec (ws := wsX7_count) B.pre
  have hown : s.vm.findClass RX7 = some m.cls := findClass_of_methodNamed B.named
  have hlocks := B.notSynchronized
  have hl := lv_entry ([.ref z, .int (nI 9)]) (n := 2) (Nat.le_of_ble_eq_true rfl)
  rw [lg_entry_eq]
  generalize (lg_sl ([.ref z, .int (nI 9)]) ++ List.replicate (2 - (lg_sl ([.ref z, .int (nI 9)])).length) Slot.unset).toArray = ls at hl ⊢
  have hl : lv_has ls 2 [(0, .ref z), (1, .int (nI 9))] := hl
  obtain ⟨bP, bN, bR, bO, bW, bL, bF⟩ := id hW
  have hPd0 := hP.sub (ws' := wDo cy q M) [5, 6, 7, 8, 9, 10, 11, 12, 13] rfl
  have hD := hD0.self (sz := s.heap.size)
  generalize hAe : va_A ([oSy z q h x r y] ++ (wRe cy r (q 0) ru kn va ++ wDo cy q M)) s.heap.size = A at hD ⊢
  have hA : ∀ q : Nat, s.heap.size ≤ q → A q := fun q h => by rw [← hAe]; exact Or.inr h
  have hS : va_S A s.heap s.heap [] := va_S.rf
  refine lv_aload_n hx hb dX7_count_0 rfl (lv_at hl 0 rfl) ?_
  refine va_get (D := G) (ci := 6) (v := .ref (r 0)) (C := RX7) (T := TX7) (N := 9) hx hb hts iX7_count_X7 hown hK hP 0 rfl rfl 7 (by decide) (hts (.fieldLink RX7 58 "NailedOrders" "now" "LNailedOrders$Reckoning;") (by decide +kernel)) (fun _ h9 => h9) rfl dX7_count_1 ?_
  refine lv_bipush (v := (-5)) hx hb dX7_count_4 (by decide +kernel) ?_
  have hPc := hP.sub (ws' := wRe cy r (q 0) ru kn va ++ wDo cy q M) [1, 2, 3, 4, 5, 6, 7, 8, 9, 10, 11, 12, 13] rfl
  have hDc := hD.sub (ws' := wRe cy r (q 0) ru kn va ++ wDo cy q M) [1, 2, 3, 4, 5, 6, 7, 8, 9, 10, 11, 12, 13] (by decide) rfl
  have hFc := va_free (wc := wRe cy r (q 0) ru kn va ++ wDo cy q M) hD hS hA [1, 2, 3, 4, 5, 6, 7, 8, 9, 10, 11, 12, 13] rfl
  refine va_callv (va_runV (As := [.int ((-5))]) (rest := []) ⟨hx, hb, hml, hown, hts⟩ (kX4_settle l G cy hW hF hPc hDc) (cwV 1 hts gX7_count_X4_settle rfl rfl rfl (by decide +kernel) ⟨Nat.le_of_ble_eq_true rfl, Nat.le_of_ble_eq_true rfl⟩) ⟨pR_blind, va_recv hK hP (ci := 3) (q0 := 1) rfl rfl, pR_at hK⟩ rfl rfl hl.1 rfl (lv_room (Nat.le_of_ble_eq_true rfl)) dX7_count_6 ⟨Nat.zero_le _, Nat.zero_le _⟩) hS (fun q _ h => hFc q h) hFc (fun u_ t_ H locs ht hvm hw_ hB hz1 hk1 hS => ?_)
  rw [ht] at hB
  have hP : va_P G vwCl ([oSy z q h x r y] ++ wRe cy r (q 0) (rl M) (kF M) (vF M) ++ wDo cy q M) H := (o_join hP hD [1, 2, 3, 4, 5, 6, 7, 8, 9, 10, 11, 12, 13] [0] rfl (wr := [oSy z q h x r y]) rfl (by decide) (by decide) (by decide) hk1 hFc hB rfl).sub [0, 1, 2, 3, 4, 5, 6, 7, 8, 9, 10, 11, 12, 13] rfl
  have hD : va_D A ([oSy z q h x r y] ++ wRe cy r (q 0) (rl M) (kF M) (vF M) ++ wDo cy q M) := vd_same hD rfl
  have hPr := hP.sub (ws' := wRe cy r (q 0) (rl M) (kF M) (vF M) ++ wDo cy q M) [1, 2, 3, 4, 5, 6, 7, 8, 9, 10, 11, 12, 13] rfl
  have hPd := hP.sub (ws' := wDo cy q M) [5, 6, 7, 8, 9, 10, 11, 12, 13] rfl
  refine lv_iload_n hx hb dX7_count_9 rfl (lv_at hl 1 rfl) ?_
  refine lv_tableIn (x := nI 9) (off := 140) (tgt := 150) hx hb dX7_count_10 (by decide +kernel) (by decide +kernel) (by decide +kernel) (by decide) ?_
  refine lv_aload_n hx hb dX7_count_150 rfl (lv_at hl 0 rfl) ?_
  refine va_get (D := G) (ci := 6) (v := .ref (q 0)) (C := RX7) (T := TX7) (N := 9) hx hb hts iX7_count_X7 hown hK hP 0 rfl rfl 0 (by decide) (hts (.fieldLink RX7 10 "NailedOrders" "door" "LNailedOrders$Door;") (by decide +kernel)) (fun _ h9 => h9) rfl dX7_count_151 ?_
  refine va_get (D := G) (ci := 0) (v := .int (nI (mS M))) (C := RX1) (T := TX1) (N := 13) hx hb hts iX7_count_X1 hown hK hP 5 rfl rfl 4 (by decide) (hts (.fieldLink RX7 290 "NailedOrders$Door" "storms" "I") (by decide +kernel)) (fun _ h9 => h9) rfl dX7_count_154 ?_
  exact o_endIm hx hb hr hlocks dX7_count_157 hP hS rfl

set_option maxHeartbeats 4000000 in
set_option maxRecDepth 100000 in
theorem kX7_count_10 (l : Launch) (G : va_G) (cy : Nat → ClassId) {H0 : Heap} {z : Nat} {q h x r y : Nat → Nat} {M : MT} {ru : Nat → Option Nat} {kn : Nat → Bool} {va : Nat → UInt32} {A0 : Nat → Prop} (hW : WB M) (hF : WF M) (hP : va_P G vwCl ([oSy z q h x r y] ++ (wRe cy r (q 0) ru kn va ++ wDo cy q M)) H0) (hD0 : va_D A0 ([oSy z q h x r y] ++ (wRe cy r (q 0) ru kn va ++ wDo cy q M)))  : MutI l yX7_count wsX7_count 5 113 [.ref z, .int (nI 10)] H0 G cy (mB M) ([oSy z q h x r y] ++ (wRe cy r (q 0) ru kn va ++ wDo cy q M)) ([oSy z q h x r y] ++ (wRe cy r (q 0) (rl M) (kF M) (vF M) ++ wDo cy q M)) := by
  refine Met.ofW (cc := cX7_count) (maxL := 2) (ret := (some .int)) (by decide) rfl ?_
  intro p e s m args below meth c s₁ B hml hv
  obtain ⟨rfl, hH, hK⟩ := hv
  subst hH
  have hx := B.exec
  have hb := B.bytes
  have hr := B.returns
  have hts := atoms_spec (ws := wsX7_count) B.pre
  have hown : s.vm.findClass RX7 = some m.cls := findClass_of_methodNamed B.named
  have hlocks := B.notSynchronized
  have hl := lv_entry ([.ref z, .int (nI 10)]) (n := 2) (Nat.le_of_ble_eq_true rfl)
  rw [lg_entry_eq]
  generalize (lg_sl ([.ref z, .int (nI 10)]) ++ List.replicate (2 - (lg_sl ([.ref z, .int (nI 10)])).length) Slot.unset).toArray = ls at hl ⊢
  have hl : lv_has ls 2 [(0, .ref z), (1, .int (nI 10))] := hl
  obtain ⟨bP, bN, bR, bO, bW, bL, bF⟩ := id hW
  have hPd0 := hP.sub (ws' := wDo cy q M) [5, 6, 7, 8, 9, 10, 11, 12, 13] rfl
  have hD := hD0.self (sz := s.heap.size)
  generalize hAe : va_A ([oSy z q h x r y] ++ (wRe cy r (q 0) ru kn va ++ wDo cy q M)) s.heap.size = A at hD ⊢
  have hA : ∀ q : Nat, s.heap.size ≤ q → A q := fun q h => by rw [← hAe]; exact Or.inr h
  have hS : va_S A s.heap s.heap [] := va_S.rf
  refine lv_aload_n hx hb dX7_count_0 rfl (lv_at hl 0 rfl) ?_
  refine va_get (D := G) (ci := 6) (v := .ref (r 0)) (C := RX7) (T := TX7) (N := 9) hx hb hts iX7_count_X7 hown hK hP 0 rfl rfl 7 (by decide) (hts (.fieldLink RX7 58 "NailedOrders" "now" "LNailedOrders$Reckoning;") (by decide +kernel)) (fun _ h9 => h9) rfl dX7_count_1 ?_
  refine lv_bipush (v := (-5)) hx hb dX7_count_4 (by decide +kernel) ?_
  have hPc := hP.sub (ws' := wRe cy r (q 0) ru kn va ++ wDo cy q M) [1, 2, 3, 4, 5, 6, 7, 8, 9, 10, 11, 12, 13] rfl
  have hDc := hD.sub (ws' := wRe cy r (q 0) ru kn va ++ wDo cy q M) [1, 2, 3, 4, 5, 6, 7, 8, 9, 10, 11, 12, 13] (by decide) rfl
  have hFc := va_free (wc := wRe cy r (q 0) ru kn va ++ wDo cy q M) hD hS hA [1, 2, 3, 4, 5, 6, 7, 8, 9, 10, 11, 12, 13] rfl
  refine va_callv (va_runV (As := [.int ((-5))]) (rest := []) ⟨hx, hb, hml, hown, hts⟩ (kX4_settle l G cy hW hF hPc hDc) (cwV 1 hts gX7_count_X4_settle rfl rfl rfl (by decide +kernel) ⟨Nat.le_of_ble_eq_true rfl, Nat.le_of_ble_eq_true rfl⟩) ⟨pR_blind, va_recv hK hP (ci := 3) (q0 := 1) rfl rfl, pR_at hK⟩ rfl rfl hl.1 rfl (lv_room (Nat.le_of_ble_eq_true rfl)) dX7_count_6 ⟨Nat.zero_le _, Nat.zero_le _⟩) hS (fun q _ h => hFc q h) hFc (fun u_ t_ H locs ht hvm hw_ hB hz1 hk1 hS => ?_)
  rw [ht] at hB
  have hP : va_P G vwCl ([oSy z q h x r y] ++ wRe cy r (q 0) (rl M) (kF M) (vF M) ++ wDo cy q M) H := (o_join hP hD [1, 2, 3, 4, 5, 6, 7, 8, 9, 10, 11, 12, 13] [0] rfl (wr := [oSy z q h x r y]) rfl (by decide) (by decide) (by decide) hk1 hFc hB rfl).sub [0, 1, 2, 3, 4, 5, 6, 7, 8, 9, 10, 11, 12, 13] rfl
  have hD : va_D A ([oSy z q h x r y] ++ wRe cy r (q 0) (rl M) (kF M) (vF M) ++ wDo cy q M) := vd_same hD rfl
  have hPr := hP.sub (ws' := wRe cy r (q 0) (rl M) (kF M) (vF M) ++ wDo cy q M) [1, 2, 3, 4, 5, 6, 7, 8, 9, 10, 11, 12, 13] rfl
  have hPd := hP.sub (ws' := wDo cy q M) [5, 6, 7, 8, 9, 10, 11, 12, 13] rfl
  refine lv_iload_n hx hb dX7_count_9 rfl (lv_at hl 1 rfl) ?_
  refine lv_tableIn (x := nI 10) (off := 148) (tgt := 158) hx hb dX7_count_10 (by decide +kernel) (by decide +kernel) (by decide +kernel) (by decide) ?_
  refine lv_aload_n hx hb dX7_count_158 rfl (lv_at hl 0 rfl) ?_
  refine va_get (D := G) (ci := 6) (v := .ref (q 0)) (C := RX7) (T := TX7) (N := 9) hx hb hts iX7_count_X7 hown hK hP 0 rfl rfl 0 (by decide) (hts (.fieldLink RX7 10 "NailedOrders" "door" "LNailedOrders$Door;") (by decide +kernel)) (fun _ h9 => h9) rfl dX7_count_159 ?_
  refine va_get (D := G) (ci := 0) (v := .int (mB M)) (C := RX1) (T := TX1) (N := 13) hx hb hts iX7_count_X1 hown hK hP 5 rfl rfl 2 (by decide) (hts (.fieldLink RX7 92 "NailedOrders$Door" "toleranceBits" "I") (by decide +kernel)) (fun _ h9 => h9) rfl dX7_count_162 ?_
  exact o_endIm hx hb hr hlocks dX7_count_165 hP hS rfl

set_option maxHeartbeats 4000000 in
set_option maxRecDepth 100000 in
theorem kX7_count_13 (l : Launch) (G : va_G) (cy : Nat → ClassId) {H0 : Heap} {z : Nat} {q h x r y : Nat → Nat} {M : MT} {ru : Nat → Option Nat} {kn : Nat → Bool} {va : Nat → UInt32} {A0 : Nat → Prop} (hW : WB M) (hF : WF M) (hP : va_P G vwCl ([oSy z q h x r y] ++ (wRe cy r (q 0) ru kn va ++ wDo cy q M)) H0) (hD0 : va_D A0 ([oSy z q h x r y] ++ (wRe cy r (q 0) ru kn va ++ wDo cy q M)))  : MutI l yX7_count wsX7_count 5 113 [.ref z, .int (nI 13)] H0 G cy ((-2)) ([oSy z q h x r y] ++ (wRe cy r (q 0) ru kn va ++ wDo cy q M)) ([oSy z q h x r y] ++ (wRe cy r (q 0) (rl M) (kF M) (vF M) ++ wDo cy q M)) := by
  refine Met.ofW (cc := cX7_count) (maxL := 2) (ret := (some .int)) (by decide) rfl ?_
  intro p e s m args below meth c s₁ B hml hv
  obtain ⟨rfl, hH, hK⟩ := hv
  subst hH
  have hx := B.exec
  have hb := B.bytes
  have hr := B.returns
  have hts := atoms_spec (ws := wsX7_count) B.pre
  have hown : s.vm.findClass RX7 = some m.cls := findClass_of_methodNamed B.named
  have hlocks := B.notSynchronized
  have hl := lv_entry ([.ref z, .int (nI 13)]) (n := 2) (Nat.le_of_ble_eq_true rfl)
  rw [lg_entry_eq]
  generalize (lg_sl ([.ref z, .int (nI 13)]) ++ List.replicate (2 - (lg_sl ([.ref z, .int (nI 13)])).length) Slot.unset).toArray = ls at hl ⊢
  have hl : lv_has ls 2 [(0, .ref z), (1, .int (nI 13))] := hl
  obtain ⟨bP, bN, bR, bO, bW, bL, bF⟩ := id hW
  have hPd0 := hP.sub (ws' := wDo cy q M) [5, 6, 7, 8, 9, 10, 11, 12, 13] rfl
  have hD := hD0.self (sz := s.heap.size)
  generalize hAe : va_A ([oSy z q h x r y] ++ (wRe cy r (q 0) ru kn va ++ wDo cy q M)) s.heap.size = A at hD ⊢
  have hA : ∀ q : Nat, s.heap.size ≤ q → A q := fun q h => by rw [← hAe]; exact Or.inr h
  have hS : va_S A s.heap s.heap [] := va_S.rf
  refine lv_aload_n hx hb dX7_count_0 rfl (lv_at hl 0 rfl) ?_
  refine va_get (D := G) (ci := 6) (v := .ref (r 0)) (C := RX7) (T := TX7) (N := 9) hx hb hts iX7_count_X7 hown hK hP 0 rfl rfl 7 (by decide) (hts (.fieldLink RX7 58 "NailedOrders" "now" "LNailedOrders$Reckoning;") (by decide +kernel)) (fun _ h9 => h9) rfl dX7_count_1 ?_
  refine lv_bipush (v := (-5)) hx hb dX7_count_4 (by decide +kernel) ?_
  have hPc := hP.sub (ws' := wRe cy r (q 0) ru kn va ++ wDo cy q M) [1, 2, 3, 4, 5, 6, 7, 8, 9, 10, 11, 12, 13] rfl
  have hDc := hD.sub (ws' := wRe cy r (q 0) ru kn va ++ wDo cy q M) [1, 2, 3, 4, 5, 6, 7, 8, 9, 10, 11, 12, 13] (by decide) rfl
  have hFc := va_free (wc := wRe cy r (q 0) ru kn va ++ wDo cy q M) hD hS hA [1, 2, 3, 4, 5, 6, 7, 8, 9, 10, 11, 12, 13] rfl
  refine va_callv (va_runV (As := [.int ((-5))]) (rest := []) ⟨hx, hb, hml, hown, hts⟩ (kX4_settle l G cy hW hF hPc hDc) (cwV 1 hts gX7_count_X4_settle rfl rfl rfl (by decide +kernel) ⟨Nat.le_of_ble_eq_true rfl, Nat.le_of_ble_eq_true rfl⟩) ⟨pR_blind, va_recv hK hP (ci := 3) (q0 := 1) rfl rfl, pR_at hK⟩ rfl rfl hl.1 rfl (lv_room (Nat.le_of_ble_eq_true rfl)) dX7_count_6 ⟨Nat.zero_le _, Nat.zero_le _⟩) hS (fun q _ h => hFc q h) hFc (fun u_ t_ H locs ht hvm hw_ hB hz1 hk1 hS => ?_)
  rw [ht] at hB
  have hP : va_P G vwCl ([oSy z q h x r y] ++ wRe cy r (q 0) (rl M) (kF M) (vF M) ++ wDo cy q M) H := (o_join hP hD [1, 2, 3, 4, 5, 6, 7, 8, 9, 10, 11, 12, 13] [0] rfl (wr := [oSy z q h x r y]) rfl (by decide) (by decide) (by decide) hk1 hFc hB rfl).sub [0, 1, 2, 3, 4, 5, 6, 7, 8, 9, 10, 11, 12, 13] rfl
  have hD : va_D A ([oSy z q h x r y] ++ wRe cy r (q 0) (rl M) (kF M) (vF M) ++ wDo cy q M) := vd_same hD rfl
  have hPr := hP.sub (ws' := wRe cy r (q 0) (rl M) (kF M) (vF M) ++ wDo cy q M) [1, 2, 3, 4, 5, 6, 7, 8, 9, 10, 11, 12, 13] rfl
  have hPd := hP.sub (ws' := wDo cy q M) [5, 6, 7, 8, 9, 10, 11, 12, 13] rfl
  refine lv_iload_n hx hb dX7_count_9 rfl (lv_at hl 1 rfl) ?_
  refine lv_tableOut (x := nI 13) (tgt := 182) hx hb dX7_count_10 (by decide +kernel) (by decide) ?_
  refine lv_bipush (v := (-2)) hx hb dX7_count_182 (by decide +kernel) ?_
  exact o_endIm hx hb hr hlocks dX7_count_184 hP hS rfl

set_option maxRecDepth 100000 in
theorem iX7_rules_X7 : ∀ w ∈ u_ws RX7 TX7 9, w ∈ wsX7_rules := by decide +kernel
set_option maxRecDepth 100000 in
theorem iX7_rules_X4 : ∀ w ∈ u_ws RX4 TX4 4, w ∈ wsX7_rules := by decide +kernel
set_option maxRecDepth 100000 in
theorem iX7_rules_X1 : ∀ w ∈ u_ws RX1 TX1 13, w ∈ wsX7_rules := by decide +kernel
set_option maxHeartbeats 4000000 in
set_option maxRecDepth 100000 in
theorem kX7_rules (l : Launch) (G : va_G) (cy : Nat → ClassId) {H0 : Heap} {z : Nat} {q h x r y : Nat → Nat} {M : MT} {ru : Nat → Option Nat} {kn : Nat → Bool} {va : Nat → UInt32} {A0 : Nat → Prop} (hW : WB M) (hF : WF M) (hP : va_P G vwCl ([oSy z q h x r y] ++ (wRe cy r (q 0) ru kn va ++ wDo cy q M)) H0) (hD0 : va_D A0 ([oSy z q h x r y] ++ (wRe cy r (q 0) ru kn va ++ wDo cy q M))) (k : Nat) (hk : k < mN M) : MutI l yX7_rules wsX7_rules 4 110 [.ref z, .int (nI k)] H0 G cy (bI (rl M (mW M k) = some k)) ([oSy z q h x r y] ++ (wRe cy r (q 0) ru kn va ++ wDo cy q M)) ([oSy z q h x r y] ++ (wRe cy r (q 0) (rl M) (kF M) (vF M) ++ wDo cy q M)) := by
  refine Met.ofW (cc := cX7_rules) (maxL := 2) (ret := (some .boolean)) (by decide) rfl ?_
  intro p e s m args below meth c s₁ B hml hv
  obtain ⟨rfl, hH, hK⟩ := hv
  subst hH
  have hx := B.exec
  have hb := B.bytes
  have hr := B.returns
  have hts := atoms_spec (ws := wsX7_rules) B.pre
  have hown : s.vm.findClass RX7 = some m.cls := findClass_of_methodNamed B.named
  have hlocks := B.notSynchronized
  have hl := lv_entry ([.ref z, .int (nI k)]) (n := 2) (Nat.le_of_ble_eq_true rfl)
  rw [lg_entry_eq]
  generalize (lg_sl ([.ref z, .int (nI k)]) ++ List.replicate (2 - (lg_sl ([.ref z, .int (nI k)])).length) Slot.unset).toArray = ls at hl ⊢
  have hl : lv_has ls 2 [(0, .ref z), (1, .int (nI k))] := hl
  obtain ⟨bP, bN, bR, bO, bW, bL, bF⟩ := id hW
  have hPd0 := hP.sub (ws' := wDo cy q M) [5, 6, 7, 8, 9, 10, 11, 12, 13] rfl
  have hD := hD0.self (sz := s.heap.size)
  generalize hAe : va_A ([oSy z q h x r y] ++ (wRe cy r (q 0) ru kn va ++ wDo cy q M)) s.heap.size = A at hD ⊢
  have hA : ∀ q : Nat, s.heap.size ≤ q → A q := fun q h => by rw [← hAe]; exact Or.inr h
  have hS : va_S A s.heap s.heap [] := va_S.rf
  refine lv_aload_n hx hb dX7_rules_0 rfl (lv_at hl 0 rfl) ?_
  refine va_get (D := G) (ci := 6) (v := .ref (r 0)) (C := RX7) (T := TX7) (N := 9) hx hb hts iX7_rules_X7 hown hK hP 0 rfl rfl 7 (by decide) (hts (.fieldLink RX7 58 "NailedOrders" "now" "LNailedOrders$Reckoning;") (by decide +kernel)) (fun _ h9 => h9) rfl dX7_rules_1 ?_
  refine lv_bipush (v := (-5)) hx hb dX7_rules_4 (by decide +kernel) ?_
  have hPc := hP.sub (ws' := wRe cy r (q 0) ru kn va ++ wDo cy q M) [1, 2, 3, 4, 5, 6, 7, 8, 9, 10, 11, 12, 13] rfl
  have hDc := hD.sub (ws' := wRe cy r (q 0) ru kn va ++ wDo cy q M) [1, 2, 3, 4, 5, 6, 7, 8, 9, 10, 11, 12, 13] (by decide) rfl
  have hFc := va_free (wc := wRe cy r (q 0) ru kn va ++ wDo cy q M) hD hS hA [1, 2, 3, 4, 5, 6, 7, 8, 9, 10, 11, 12, 13] rfl
  refine va_callv (va_runV (As := [.int ((-5))]) (rest := []) ⟨hx, hb, hml, hown, hts⟩ (kX4_settle l G cy hW hF hPc hDc) (cwV 1 hts gX7_rules_X4_settle rfl rfl rfl (by decide +kernel) ⟨Nat.le_of_ble_eq_true rfl, Nat.le_of_ble_eq_true rfl⟩) ⟨pR_blind, va_recv hK hP (ci := 3) (q0 := 1) rfl rfl, pR_at hK⟩ rfl rfl hl.1 rfl (lv_room (Nat.le_of_ble_eq_true rfl)) dX7_rules_6 ⟨Nat.zero_le _, Nat.zero_le _⟩) hS (fun q _ h => hFc q h) hFc (fun u_ t_ H locs ht hvm hw_ hB hz1 hk1 hS => ?_)
  rw [ht] at hB
  have hP : va_P G vwCl ([oSy z q h x r y] ++ wRe cy r (q 0) (rl M) (kF M) (vF M) ++ wDo cy q M) H := (o_join hP hD [1, 2, 3, 4, 5, 6, 7, 8, 9, 10, 11, 12, 13] [0] rfl (wr := [oSy z q h x r y]) rfl (by decide) (by decide) (by decide) hk1 hFc hB rfl).sub [0, 1, 2, 3, 4, 5, 6, 7, 8, 9, 10, 11, 12, 13] rfl
  have hD : va_D A ([oSy z q h x r y] ++ wRe cy r (q 0) (rl M) (kF M) (vF M) ++ wDo cy q M) := vd_same hD rfl
  have hPr := hP.sub (ws' := wRe cy r (q 0) (rl M) (kF M) (vF M) ++ wDo cy q M) [1, 2, 3, 4, 5, 6, 7, 8, 9, 10, 11, 12, 13] rfl
  have hPd := hP.sub (ws' := wDo cy q M) [5, 6, 7, 8, 9, 10, 11, 12, 13] rfl
  have b1 := bW k
  refine lv_aload_n hx hb dX7_rules_9 rfl (lv_at hl 0 rfl) ?_
  refine va_get (D := G) (ci := 6) (v := .ref (r 0)) (C := RX7) (T := TX7) (N := 9) hx hb hts iX7_rules_X7 hown hK hP 0 rfl rfl 7 (by decide) (hts (.fieldLink RX7 58 "NailedOrders" "now" "LNailedOrders$Reckoning;") (by decide +kernel)) (fun _ h9 => h9) rfl dX7_rules_10 ?_
  refine va_get (D := G) (ci := 3) (v := .ref (r 1)) (C := RX4) (T := TX4) (N := 4) hx hb hts iX7_rules_X4 hown hK hP 1 rfl rfl 1 (by decide) (hts (.fieldLink RX7 208 "NailedOrders$Reckoning" "rulers" "[I") (by decide +kernel)) (fun _ h9 => h9) rfl dX7_rules_13 ?_
  refine lv_aload_n hx hb dX7_rules_16 rfl (lv_at hl 0 rfl) ?_
  refine va_get (D := G) (ci := 6) (v := .ref (q 0)) (C := RX7) (T := TX7) (N := 9) hx hb hts iX7_rules_X7 hown hK hP 0 rfl rfl 0 (by decide) (hts (.fieldLink RX7 10 "NailedOrders" "door" "LNailedOrders$Door;") (by decide +kernel)) (fun _ h9 => h9) rfl dX7_rules_17 ?_
  refine va_get (D := G) (ci := 0) (v := .ref (q 7)) (C := RX1) (T := TX1) (N := 13) hx hb hts iX7_rules_X1 hown hK hP 5 rfl rfl 7 (by decide) (hts (.fieldLink RX7 128 "NailedOrders$Door" "words" "[I") (by decide +kernel)) (fun _ h9 => h9) rfl dX7_rules_20 ?_
  refine lv_iload_n hx hb dX7_rules_23 rfl (lv_at hl 1 rfl) ?_
  refine o_iald hx hb hK hP 8 0 rfl rfl k (by omega) (by decide) dX7_rules_24 ?_
  refine o_iald hx hb hK hP 2 0 rfl rfl (mW M k) (by omega) (by decide) dX7_rules_25 ?_
  refine lv_iload_n hx hb dX7_rules_26 rfl (lv_at hl 1 rfl) ?_
  refine lv_icmp_ne (tgt := 34) hx hb dX7_rules_27 (by decide) (fun c27 => ?_) (fun c27 => ?_)
  · refine lv_iconst (v := nI 0) hx hb dX7_rules_34 (by decide +kernel) ?_
    exact o_endZm hx hb hr hlocks dX7_rules_35 (by decide) hP hS (by rw [bI_f (fun z => c27 ((lk_eq (by omega) (fun j hj => by have := rl_lt _ j hj; omega)).mpr z))]; decide)
  · refine lv_iconst (v := nI 1) hx hb dX7_rules_30 (by decide +kernel) ?_
    refine lv_goto (tgt := 35) hx hb dX7_rules_31 (by decide) ?_
    exact o_endZm hx hb hr hlocks dX7_rules_35 (by decide) hP hS (by rw [bI_t ((lk_eq (by omega) (fun j hj => by have := rl_lt _ j hj; omega)).mp c27)]; decide)

set_option maxRecDepth 100000 in
theorem iX7_wordsRuledBy_X7 : ∀ w ∈ u_ws RX7 TX7 9, w ∈ wsX7_wordsRuledBy := by decide +kernel
set_option maxRecDepth 100000 in
theorem iX7_wordsRuledBy_X4 : ∀ w ∈ u_ws RX4 TX4 4, w ∈ wsX7_wordsRuledBy := by decide +kernel
set_option maxRecDepth 100000 in
theorem iX7_wordsRuledBy_X1 : ∀ w ∈ u_ws RX1 TX1 13, w ∈ wsX7_wordsRuledBy := by decide +kernel
set_option maxHeartbeats 4000000 in
set_option maxRecDepth 100000 in
theorem kX7_wordsRuledBy (l : Launch) (G : va_G) (cy : Nat → ClassId) {H0 : Heap} {z : Nat} {q h x r y : Nat → Nat} {M : MT} {ru : Nat → Option Nat} {kn : Nat → Bool} {va : Nat → UInt32} {A0 : Nat → Prop} (hW : WB M) (hF : WF M) (hP : va_P G vwCl ([oSy z q h x r y] ++ (wRe cy r (q 0) ru kn va ++ wDo cy q M)) H0) (hD0 : va_D A0 ([oSy z q h x r y] ++ (wRe cy r (q 0) ru kn va ++ wDo cy q M))) (j : Nat) (hj : j < 6) : MutI l yX7_wordsRuledBy wsX7_wordsRuledBy 4 110 [.ref z, .int (nI j)] H0 G cy (nI (cR (rbB M (rl M) j) 0 16)) ([oSy z q h x r y] ++ (wRe cy r (q 0) ru kn va ++ wDo cy q M)) ([oSy z q h x r y] ++ (wRe cy r (q 0) (rl M) (kF M) (vF M) ++ wDo cy q M)) := by
  refine Met.ofW (cc := cX7_wordsRuledBy) (maxL := 5) (ret := (some .int)) (by decide) rfl ?_
  intro p e s m args below meth c s₁ B hml hv
  obtain ⟨rfl, hH, hK⟩ := hv
  subst hH
  have hx := B.exec
  have hb := B.bytes
  have hr := B.returns
  have hts := atoms_spec (ws := wsX7_wordsRuledBy) B.pre
  have hown : s.vm.findClass RX7 = some m.cls := findClass_of_methodNamed B.named
  have hlocks := B.notSynchronized
  have hl := lv_entry ([.ref z, .int (nI j)]) (n := 5) (Nat.le_of_ble_eq_true rfl)
  rw [lg_entry_eq]
  generalize (lg_sl ([.ref z, .int (nI j)]) ++ List.replicate (5 - (lg_sl ([.ref z, .int (nI j)])).length) Slot.unset).toArray = ls at hl ⊢
  have hl : lv_has ls 5 [(0, .ref z), (1, .int (nI j))] := hl
  obtain ⟨bP, bN, bR, bO, bW, bL, bF⟩ := id hW
  have hPd0 := hP.sub (ws' := wDo cy q M) [5, 6, 7, 8, 9, 10, 11, 12, 13] rfl
  have hD := hD0.self (sz := s.heap.size)
  generalize hAe : va_A ([oSy z q h x r y] ++ (wRe cy r (q 0) ru kn va ++ wDo cy q M)) s.heap.size = A at hD ⊢
  have hA : ∀ q : Nat, s.heap.size ≤ q → A q := fun q h => by rw [← hAe]; exact Or.inr h
  have hS : va_S A s.heap s.heap [] := va_S.rf
  refine lv_aload_n hx hb dX7_wordsRuledBy_0 rfl (lv_at hl 0 rfl) ?_
  refine va_get (D := G) (ci := 6) (v := .ref (r 0)) (C := RX7) (T := TX7) (N := 9) hx hb hts iX7_wordsRuledBy_X7 hown hK hP 0 rfl rfl 7 (by decide) (hts (.fieldLink RX7 58 "NailedOrders" "now" "LNailedOrders$Reckoning;") (by decide +kernel)) (fun _ h9 => h9) rfl dX7_wordsRuledBy_1 ?_
  refine lv_bipush (v := (-5)) hx hb dX7_wordsRuledBy_4 (by decide +kernel) ?_
  have hPc := hP.sub (ws' := wRe cy r (q 0) ru kn va ++ wDo cy q M) [1, 2, 3, 4, 5, 6, 7, 8, 9, 10, 11, 12, 13] rfl
  have hDc := hD.sub (ws' := wRe cy r (q 0) ru kn va ++ wDo cy q M) [1, 2, 3, 4, 5, 6, 7, 8, 9, 10, 11, 12, 13] (by decide) rfl
  have hFc := va_free (wc := wRe cy r (q 0) ru kn va ++ wDo cy q M) hD hS hA [1, 2, 3, 4, 5, 6, 7, 8, 9, 10, 11, 12, 13] rfl
  refine va_callv (va_runV (As := [.int ((-5))]) (rest := []) ⟨hx, hb, hml, hown, hts⟩ (kX4_settle l G cy hW hF hPc hDc) (cwV 1 hts gX7_wordsRuledBy_X4_settle rfl rfl rfl (by decide +kernel) ⟨Nat.le_of_ble_eq_true rfl, Nat.le_of_ble_eq_true rfl⟩) ⟨pR_blind, va_recv hK hP (ci := 3) (q0 := 1) rfl rfl, pR_at hK⟩ rfl rfl hl.1 rfl (lv_room (Nat.le_of_ble_eq_true rfl)) dX7_wordsRuledBy_6 ⟨Nat.zero_le _, Nat.zero_le _⟩) hS (fun q _ h => hFc q h) hFc (fun u_ t_ H locs ht hvm hw_ hB hz1 hk1 hS => ?_)
  rw [ht] at hB
  have hP : va_P G vwCl ([oSy z q h x r y] ++ wRe cy r (q 0) (rl M) (kF M) (vF M) ++ wDo cy q M) H := (o_join hP hD [1, 2, 3, 4, 5, 6, 7, 8, 9, 10, 11, 12, 13] [0] rfl (wr := [oSy z q h x r y]) rfl (by decide) (by decide) (by decide) hk1 hFc hB rfl).sub [0, 1, 2, 3, 4, 5, 6, 7, 8, 9, 10, 11, 12, 13] rfl
  have hD : va_D A ([oSy z q h x r y] ++ wRe cy r (q 0) (rl M) (kF M) (vF M) ++ wDo cy q M) := vd_same hD rfl
  have hPr := hP.sub (ws' := wRe cy r (q 0) (rl M) (kF M) (vF M) ++ wDo cy q M) [1, 2, 3, 4, 5, 6, 7, 8, 9, 10, 11, 12, 13] rfl
  have hPd := hP.sub (ws' := wDo cy q M) [5, 6, 7, 8, 9, 10, 11, 12, 13] rfl
  refine lv_iconst (v := nI 0) hx hb dX7_wordsRuledBy_9 (by decide +kernel) ?_
  refine lv_istore_n (lv' := [(2, .int (nI 0)), (0, .ref z), (1, .int (nI j))]) hx hb dX7_wordsRuledBy_10 rfl hl (by decide) rfl (fun ls hl => ?_)
  refine lv_iconst (v := nI 0) hx hb dX7_wordsRuledBy_11 (by decide +kernel) ?_
  refine lv_istore_n (lv' := [(3, .int (nI 0)), (2, .int (nI 0)), (0, .ref z), (1, .int (nI j))]) hx hb dX7_wordsRuledBy_12 rfl hl (by decide) rfl (fun ls hl => ?_)
  refine o_loop (σ := Nat) (fun (i : Nat) => i ≤ 16) (fun (i : Nat) => [(3, .int (nI i)), (2, .int (nI (cR (rbB M (rl M) j) 0 i))), (0, .ref z), (1, .int (nI j))]) (fun (i : Nat) => 16 - i) 0 (Nat.zero_le _) (lv_sub hl [0, 1, 2, 3] rfl) ?_
  rintro i ls h1 hl ih13
  have hl : lv_has ls 5 [(3, .int (nI i)), (2, .int (nI (cR (rbB M (rl M) j) 0 i))), (0, .ref z), (1, .int (nI j))] := hl
  refine lv_iload_n hx hb dX7_wordsRuledBy_13 rfl (lv_at hl 0 rfl) ?_
  refine lv_bipush (v := nI 16) hx hb dX7_wordsRuledBy_14 (by decide +kernel) ?_
  refine o_icmp_ge (tgt := 58) hx hb dX7_wordsRuledBy_16 (by decide) (by omega) (by omega) (fun c16 => ?_) (fun c16 => ?_)
  · obtain rfl : i = 16 := by omega
    refine lv_iload_n hx hb dX7_wordsRuledBy_58 rfl (lv_at hl 1 rfl) ?_
    exact o_endIm hx hb hr hlocks dX7_wordsRuledBy_59 hP hS rfl
  · refine lv_aload_n hx hb dX7_wordsRuledBy_19 rfl (lv_at hl 2 rfl) ?_
    refine va_get (D := G) (ci := 6) (v := .ref (r 0)) (C := RX7) (T := TX7) (N := 9) hx hb hts iX7_wordsRuledBy_X7 hown hK hP 0 rfl rfl 7 (by decide) (hts (.fieldLink RX7 58 "NailedOrders" "now" "LNailedOrders$Reckoning;") (by decide +kernel)) (fun _ h9 => h9) rfl dX7_wordsRuledBy_20 ?_
    refine va_get (D := G) (ci := 3) (v := .ref (r 1)) (C := RX4) (T := TX4) (N := 4) hx hb hts iX7_wordsRuledBy_X4 hown hK hP 1 rfl rfl 1 (by decide) (hts (.fieldLink RX7 208 "NailedOrders$Reckoning" "rulers" "[I") (by decide +kernel)) (fun _ h9 => h9) rfl dX7_wordsRuledBy_23 ?_
    refine lv_iload_n hx hb dX7_wordsRuledBy_26 rfl (lv_at hl 0 rfl) ?_
    refine o_iald hx hb hK hP 2 0 rfl rfl i (by omega) (by decide) dX7_wordsRuledBy_27 ?_
    refine lv_istore (lv' := [(4, .int (lkI ((rl M) i))), (3, .int (nI i)), (2, .int (nI (cR (rbB M (rl M) j) 0 i))), (0, .ref z), (1, .int (nI j))]) hx hb dX7_wordsRuledBy_28 hl (by decide) rfl (fun ls hl => ?_)
    refine lv_iload hx hb dX7_wordsRuledBy_30 (lv_at hl 0 rfl) ?_
    refine o_lk_lt (tgt := 52) hx hb dX7_wordsRuledBy_32 (by decide) (fun j hj => by have := rl_lt _ j hj; omega) (fun c32 => ?_) (fun c32 => ?_)
    · refine lv_iinc (v := nI (i + 1)) (lv' := [(3, .int (nI (i + 1))), (4, .int (lkI ((rl M) i))), (2, .int (nI (cR (rbB M (rl M) j) 0 i))), (0, .ref z), (1, .int (nI j))]) hx hb dX7_wordsRuledBy_52 hl (k := 1) rfl (nI_1 i) (by decide) rfl (fun ls hl => ?_)
      refine lv_goto (tgt := 13) hx hb dX7_wordsRuledBy_55 (by decide) ?_
      refine ih13 (i + 1) ls ?_ ?_ ?_
      · omega
      · show lv_has ls 5 [(3, .int (nI (i + 1))), (2, .int (nI (cR (rbB M (rl M) j) 0 (i + 1)))), (0, .ref z), (1, .int (nI j))]
        rw [cZ_f (p := (rbB M (rl M) j)) (j := i) (rbB_n c32)]
        exact lv_sub hl [0, 2, 3, 4] rfl
      · omega
    · obtain ⟨o, hj1⟩ := c32
      rw [hj1] at hl
      have hl : lv_has ls 5 [(4, .int (nI o)), (3, .int (nI i)), (2, .int (nI (cR (rbB M (rl M) j) 0 i))), (0, .ref z), (1, .int (nI j))] := hl
      have b1 := rl_lt _ _ hj1
      have b2 := bO o
      refine lv_aload_n hx hb dX7_wordsRuledBy_35 rfl (lv_at hl 3 rfl) ?_
      refine va_get (D := G) (ci := 6) (v := .ref (q 0)) (C := RX7) (T := TX7) (N := 9) hx hb hts iX7_wordsRuledBy_X7 hown hK hP 0 rfl rfl 0 (by decide) (hts (.fieldLink RX7 10 "NailedOrders" "door" "LNailedOrders$Door;") (by decide +kernel)) (fun _ h9 => h9) rfl dX7_wordsRuledBy_36 ?_
      refine va_get (D := G) (ci := 0) (v := .ref (q 6)) (C := RX1) (T := TX1) (N := 13) hx hb hts iX7_wordsRuledBy_X1 hown hK hP 5 rfl rfl 6 (by decide) (hts (.fieldLink RX7 228 "NailedOrders$Door" "owners" "[I") (by decide +kernel)) (fun _ h9 => h9) rfl dX7_wordsRuledBy_39 ?_
      refine lv_iload hx hb dX7_wordsRuledBy_42 (lv_at hl 0 rfl) ?_
      refine o_iald hx hb hK hP 7 0 rfl rfl o (by omega) (by decide) dX7_wordsRuledBy_44 ?_
      refine lv_iload_n hx hb dX7_wordsRuledBy_45 rfl (lv_at hl 4 rfl) ?_
      refine o_icmp_ne (tgt := 52) hx hb dX7_wordsRuledBy_46 (by decide) (by omega) (by omega) (fun c46 => ?_) (fun c46 => ?_)
      · refine lv_iinc (v := nI (i + 1)) (lv' := [(3, .int (nI (i + 1))), (4, .int (nI o)), (2, .int (nI (cR (rbB M (rl M) j) 0 i))), (0, .ref z), (1, .int (nI j))]) hx hb dX7_wordsRuledBy_52 hl (k := 1) rfl (nI_1 i) (by decide) rfl (fun ls hl => ?_)
        refine lv_goto (tgt := 13) hx hb dX7_wordsRuledBy_55 (by decide) ?_
        refine ih13 (i + 1) ls ?_ ?_ ?_
        · omega
        · show lv_has ls 5 [(3, .int (nI (i + 1))), (2, .int (nI (cR (rbB M (rl M) j) 0 (i + 1)))), (0, .ref z), (1, .int (nI j))]
          rw [cZ_f (p := (rbB M (rl M) j)) (j := i) (fun z => c46 ((rbB_s hj1).mp z))]
          exact lv_sub hl [0, 2, 3, 4] rfl
        · omega
      · refine lv_iinc (v := nI (cR (rbB M (rl M) j) 0 i + 1)) (lv' := [(2, .int (nI (cR (rbB M (rl M) j) 0 i + 1))), (4, .int (nI o)), (3, .int (nI i)), (0, .ref z), (1, .int (nI j))]) hx hb dX7_wordsRuledBy_49 hl (k := 2) rfl (nI_1 (cR (rbB M (rl M) j) 0 i)) (by decide) rfl (fun ls hl => ?_)
        refine lv_iinc (v := nI (i + 1)) (lv' := [(3, .int (nI (i + 1))), (2, .int (nI (cR (rbB M (rl M) j) 0 i + 1))), (4, .int (nI o)), (0, .ref z), (1, .int (nI j))]) hx hb dX7_wordsRuledBy_52 hl (k := 2) rfl (nI_1 i) (by decide) rfl (fun ls hl => ?_)
        refine lv_goto (tgt := 13) hx hb dX7_wordsRuledBy_55 (by decide) ?_
        refine ih13 (i + 1) ls ?_ ?_ ?_
        · omega
        · show lv_has ls 5 [(3, .int (nI (i + 1))), (2, .int (nI (cR (rbB M (rl M) j) 0 (i + 1)))), (0, .ref z), (1, .int (nI j))]
          rw [cZ_t (p := (rbB M (rl M) j)) (j := i) ((rbB_s hj1).mpr c46)]
          exact lv_sub hl [0, 1, 3, 4] rfl
        · omega

set_option maxHeartbeats 4000000 in
set_option maxRecDepth 100000 in
theorem kX7_order_7 (l : Launch) (G : va_G) (cy : Nat → ClassId) {H0 : Heap} {z : Nat} {q h x r y : Nat → Nat} {M : MT} {ru : Nat → Option Nat} {kn : Nat → Bool} {va : Nat → UInt32} {A0 : Nat → Prop} (hW : WB M) (hF : WF M) (hP : va_P G vwCl ([oSy z q h x r y] ++ (wRe cy r (q 0) ru kn va ++ wDo cy q M)) H0) (hD0 : va_D A0 ([oSy z q h x r y] ++ (wRe cy r (q 0) ru kn va ++ wDo cy q M))) (k : Nat) (hk : k < mN M) : MutI l yX7_order wsX7_order 5 131 [.ref z, .int (nI k), .int (nI 7)] H0 G cy (bI (rl M (mW M k) = some k)) ([oSy z q h x r y] ++ (wRe cy r (q 0) ru kn va ++ wDo cy q M)) ([oSy z q h x r y] ++ (wRe cy r (q 0) (rl M) (kF M) (vF M) ++ wDo cy q M)) := by
  refine Met.ofW (cc := cX7_order) (maxL := 3) (ret := (some .int)) (by decide) rfl ?_
  intro p e s m args below meth c s₁ B hml hv
  obtain ⟨rfl, hH, hK⟩ := hv
  subst hH
  have hx := B.exec
  have hb := B.bytes
  have hr := B.returns
  have hts := atoms_spec (ws := wsX7_order) B.pre
  have hown : s.vm.findClass RX7 = some m.cls := findClass_of_methodNamed B.named
  have hlocks := B.notSynchronized
  have hl := lv_entry ([.ref z, .int (nI k), .int (nI 7)]) (n := 3) (Nat.le_of_ble_eq_true rfl)
  rw [lg_entry_eq]
  generalize (lg_sl ([.ref z, .int (nI k), .int (nI 7)]) ++ List.replicate (3 - (lg_sl ([.ref z, .int (nI k), .int (nI 7)])).length) Slot.unset).toArray = ls at hl ⊢
  have hl : lv_has ls 3 [(0, .ref z), (1, .int (nI k)), (2, .int (nI 7))] := hl
  obtain ⟨bP, bN, bR, bO, bW, bL, bF⟩ := id hW
  have hPd0 := hP.sub (ws' := wDo cy q M) [5, 6, 7, 8, 9, 10, 11, 12, 13] rfl
  have hD := hD0.self (sz := s.heap.size)
  generalize hAe : va_A ([oSy z q h x r y] ++ (wRe cy r (q 0) ru kn va ++ wDo cy q M)) s.heap.size = A at hD ⊢
  have hA : ∀ q : Nat, s.heap.size ≤ q → A q := fun q h => by rw [← hAe]; exact Or.inr h
  have hS : va_S A s.heap s.heap [] := va_S.rf
  refine lv_aload_n hx hb dX7_order_0 rfl (lv_at hl 0 rfl) ?_
  refine va_get (D := G) (ci := 6) (v := .ref (q 0)) (C := RX7) (T := TX7) (N := 9) hx hb hts iX7_order_X7 hown hK hP 0 rfl rfl 0 (by decide) (hts (.fieldLink RX7 10 "NailedOrders" "door" "LNailedOrders$Door;") (by decide +kernel)) (fun _ h9 => h9) rfl dX7_order_1 ?_
  refine lv_iload_n hx hb dX7_order_4 rfl (lv_at hl 1 rfl) ?_
  refine o_VI (As := [.int (nI k)]) (rest := []) ⟨hx, hb, hml, hown, hts⟩ (kX1_isOrder l G cy hW hPd0 k (by omega)) (cwV 1 hts gX7_order_X1_isOrder rfl rfl rfl (by decide +kernel) ⟨Nat.le_of_ble_eq_true rfl, Nat.le_of_ble_eq_true rfl⟩) hK (va_recv hK hP (ci := 0) (q0 := 5) rfl rfl) rfl hl.1 rfl (Nat.le_of_ble_eq_true rfl) dX7_order_5 ⟨Nat.zero_le _, Nat.zero_le _⟩ ?_
  refine o_ifb_ne (tgt := 13) hx hb dX7_order_8 (by decide) (fun c8 => ?_) (fun c8 => ?_)
  · refine lv_iload_n hx hb dX7_order_13 rfl (lv_at hl 2 rfl) ?_
    refine lv_tableIn (x := nI 7) (off := 147) (tgt := 161) hx hb dX7_order_14 (by decide +kernel) (by decide +kernel) (by decide +kernel) (by decide) ?_
    refine lv_aload_n hx hb dX7_order_161 rfl (lv_at hl 0 rfl) ?_
    refine lv_iload_n hx hb dX7_order_162 rfl (lv_at hl 1 rfl) ?_
    have hPc := hP.sub (ws' := [oSy z q h x r y] ++ wRe cy r (q 0) ru kn va ++ wDo cy q M) [0, 1, 2, 3, 4, 5, 6, 7, 8, 9, 10, 11, 12, 13] rfl
    have hDc := hD.sub (ws' := [oSy z q h x r y] ++ wRe cy r (q 0) ru kn va ++ wDo cy q M) [0, 1, 2, 3, 4, 5, 6, 7, 8, 9, 10, 11, 12, 13] (by decide) rfl
    have hFc := va_free (wc := [oSy z q h x r y] ++ wRe cy r (q 0) ru kn va ++ wDo cy q M) hD hS hA [0, 1, 2, 3, 4, 5, 6, 7, 8, 9, 10, 11, 12, 13] rfl
    refine va_calli (va_runV (As := [.int (nI k)]) (rest := []) ⟨hx, hb, hml, hown, hts⟩ (kX7_rules l G cy hW hF hPc hDc k hk) (cwV 1 hts gX7_order_X7_rules rfl rfl rfl (by decide +kernel) ⟨Nat.le_of_ble_eq_true rfl, Nat.le_of_ble_eq_true rfl⟩) ⟨pR_blind, va_recv hK hP (ci := 6) (q0 := 0) rfl rfl, pR_at hK⟩ rfl rfl hl.1 rfl (lv_room (Nat.le_of_ble_eq_true rfl)) dX7_order_163 ⟨Nat.zero_le _, Nat.zero_le _⟩) hS (fun q _ h => hFc q h) hFc (fun r_ u_ t_ H locs ht hvm hw_ hB hz1 hk1 hS => ?_)
    rw [ht] at hB
    have hP : va_P G vwCl ([oSy z q h x r y] ++ wRe cy r (q 0) (rl M) (kF M) (vF M) ++ wDo cy q M) H := (o_join hP hD [0, 1, 2, 3, 4, 5, 6, 7, 8, 9, 10, 11, 12, 13] [] rfl (wr := []) rfl (by decide) (by decide) (by decide) hk1 hFc hB rfl).sub [0, 1, 2, 3, 4, 5, 6, 7, 8, 9, 10, 11, 12, 13] rfl
    have hD : va_D A ([oSy z q h x r y] ++ wRe cy r (q 0) (rl M) (kF M) (vF M) ++ wDo cy q M) := vd_same hD rfl
    obtain rfl : r_ = bI (rl M (mW M k) = some k) := hw_
    refine o_SI (As := [.int (bI (rl M (mW M k) = some k))]) (rest := []) ⟨hx, hb, hml, hown, hts⟩ (kX7_oneIf l G cy (rl M (mW M k) = some k)) (va_cwS 1 hts gX7_order_X7_oneIf rfl rfl rfl (by decide +kernel) ⟨Nat.le_of_ble_eq_true rfl, Nat.le_of_ble_eq_true rfl⟩) hK rfl hl.1 rfl (Nat.le_of_ble_eq_true rfl) dX7_order_166 ⟨Nat.zero_le _, Nat.zero_le _⟩ ?_
    exact o_endIm hx hb hr hlocks dX7_order_169 hP hS rfl
  · exact absurd hk c8

set_option maxHeartbeats 4000000 in
set_option maxRecDepth 100000 in
theorem kX7_person_3 (l : Launch) (G : va_G) (cy : Nat → ClassId) {H0 : Heap} {z : Nat} {q h x r y : Nat → Nat} {M : MT} {ru : Nat → Option Nat} {kn : Nat → Bool} {va : Nat → UInt32} {A0 : Nat → Prop} (hW : WB M) (hF : WF M) (hP : va_P G vwCl ([oSy z q h x r y] ++ (wRe cy r (q 0) ru kn va ++ wDo cy q M)) H0) (hD0 : va_D A0 ([oSy z q h x r y] ++ (wRe cy r (q 0) ru kn va ++ wDo cy q M))) (j : Nat) (hj : j < mP M) : MutI l yX7_person wsX7_person 5 134 [.ref z, .int (nI j), .int (nI 3)] H0 G cy (nI (cR (rbB M (rl M) j) 0 16)) ([oSy z q h x r y] ++ (wRe cy r (q 0) ru kn va ++ wDo cy q M)) ([oSy z q h x r y] ++ (wRe cy r (q 0) (rl M) (kF M) (vF M) ++ wDo cy q M)) := by
  refine Met.ofW (cc := cX7_person) (maxL := 3) (ret := (some .int)) (by decide) rfl ?_
  intro p e s m args below meth c s₁ B hml hv
  obtain ⟨rfl, hH, hK⟩ := hv
  subst hH
  have hx := B.exec
  have hb := B.bytes
  have hr := B.returns
  have hts := atoms_spec (ws := wsX7_person) B.pre
  have hown : s.vm.findClass RX7 = some m.cls := findClass_of_methodNamed B.named
  have hlocks := B.notSynchronized
  have hl := lv_entry ([.ref z, .int (nI j), .int (nI 3)]) (n := 3) (Nat.le_of_ble_eq_true rfl)
  rw [lg_entry_eq]
  generalize (lg_sl ([.ref z, .int (nI j), .int (nI 3)]) ++ List.replicate (3 - (lg_sl ([.ref z, .int (nI j), .int (nI 3)])).length) Slot.unset).toArray = ls at hl ⊢
  have hl : lv_has ls 3 [(0, .ref z), (1, .int (nI j)), (2, .int (nI 3))] := hl
  obtain ⟨bP, bN, bR, bO, bW, bL, bF⟩ := id hW
  have hPd0 := hP.sub (ws' := wDo cy q M) [5, 6, 7, 8, 9, 10, 11, 12, 13] rfl
  have hD := hD0.self (sz := s.heap.size)
  generalize hAe : va_A ([oSy z q h x r y] ++ (wRe cy r (q 0) ru kn va ++ wDo cy q M)) s.heap.size = A at hD ⊢
  have hA : ∀ q : Nat, s.heap.size ≤ q → A q := fun q h => by rw [← hAe]; exact Or.inr h
  have hS : va_S A s.heap s.heap [] := va_S.rf
  refine lv_aload_n hx hb dX7_person_0 rfl (lv_at hl 0 rfl) ?_
  refine va_get (D := G) (ci := 6) (v := .ref (q 0)) (C := RX7) (T := TX7) (N := 9) hx hb hts iX7_person_X7 hown hK hP 0 rfl rfl 0 (by decide) (hts (.fieldLink RX7 10 "NailedOrders" "door" "LNailedOrders$Door;") (by decide +kernel)) (fun _ h9 => h9) rfl dX7_person_1 ?_
  refine lv_iload_n hx hb dX7_person_4 rfl (lv_at hl 1 rfl) ?_
  refine o_VI (As := [.int (nI j)]) (rest := []) ⟨hx, hb, hml, hown, hts⟩ (kX1_isPerson l G cy hW hPd0 j (by omega)) (cwV 1 hts gX7_person_X1_isPerson rfl rfl rfl (by decide +kernel) ⟨Nat.le_of_ble_eq_true rfl, Nat.le_of_ble_eq_true rfl⟩) hK (va_recv hK hP (ci := 0) (q0 := 5) rfl rfl) rfl hl.1 rfl (Nat.le_of_ble_eq_true rfl) dX7_person_5 ⟨Nat.zero_le _, Nat.zero_le _⟩ ?_
  refine o_ifb_ne (tgt := 13) hx hb dX7_person_8 (by decide) (fun c8 => ?_) (fun c8 => ?_)
  · refine lv_iload_n hx hb dX7_person_13 rfl (lv_at hl 2 rfl) ?_
    refine lv_tableIn (x := nI 3) (off := 62) (tgt := 76) hx hb dX7_person_14 (by decide +kernel) (by decide +kernel) (by decide +kernel) (by decide) ?_
    refine lv_aload_n hx hb dX7_person_76 rfl (lv_at hl 0 rfl) ?_
    refine lv_iload_n hx hb dX7_person_77 rfl (lv_at hl 1 rfl) ?_
    have hPc := hP.sub (ws' := [oSy z q h x r y] ++ wRe cy r (q 0) ru kn va ++ wDo cy q M) [0, 1, 2, 3, 4, 5, 6, 7, 8, 9, 10, 11, 12, 13] rfl
    have hDc := hD.sub (ws' := [oSy z q h x r y] ++ wRe cy r (q 0) ru kn va ++ wDo cy q M) [0, 1, 2, 3, 4, 5, 6, 7, 8, 9, 10, 11, 12, 13] (by decide) rfl
    have hFc := va_free (wc := [oSy z q h x r y] ++ wRe cy r (q 0) ru kn va ++ wDo cy q M) hD hS hA [0, 1, 2, 3, 4, 5, 6, 7, 8, 9, 10, 11, 12, 13] rfl
    refine va_calli (va_runV (As := [.int (nI j)]) (rest := []) ⟨hx, hb, hml, hown, hts⟩ (kX7_wordsRuledBy l G cy hW hF hPc hDc j (by omega)) (cwV 1 hts gX7_person_X7_wordsRuledBy rfl rfl rfl (by decide +kernel) ⟨Nat.le_of_ble_eq_true rfl, Nat.le_of_ble_eq_true rfl⟩) ⟨pR_blind, va_recv hK hP (ci := 6) (q0 := 0) rfl rfl, pR_at hK⟩ rfl rfl hl.1 rfl (lv_room (Nat.le_of_ble_eq_true rfl)) dX7_person_78 ⟨Nat.zero_le _, Nat.zero_le _⟩) hS (fun q _ h => hFc q h) hFc (fun r_ u_ t_ H locs ht hvm hw_ hB hz1 hk1 hS => ?_)
    rw [ht] at hB
    have hP : va_P G vwCl ([oSy z q h x r y] ++ wRe cy r (q 0) (rl M) (kF M) (vF M) ++ wDo cy q M) H := (o_join hP hD [0, 1, 2, 3, 4, 5, 6, 7, 8, 9, 10, 11, 12, 13] [] rfl (wr := []) rfl (by decide) (by decide) (by decide) hk1 hFc hB rfl).sub [0, 1, 2, 3, 4, 5, 6, 7, 8, 9, 10, 11, 12, 13] rfl
    have hD : va_D A ([oSy z q h x r y] ++ wRe cy r (q 0) (rl M) (kF M) (vF M) ++ wDo cy q M) := vd_same hD rfl
    obtain rfl : r_ = nI (cR (rbB M (rl M) j) 0 16) := hw_
    exact o_endIm hx hb hr hlocks dX7_person_81 hP hS rfl
  · exact absurd hj c8
