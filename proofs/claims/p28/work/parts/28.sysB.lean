set_option maxRecDepth 100000 in
theorem iX7_addPerson_X7 : ∀ w ∈ u_ws RX7 TX7 9, w ∈ wsX7_addPerson := by decide +kernel
set_option maxHeartbeats 4000000 in
set_option maxRecDepth 100000 in
theorem kX7_addPerson_b (l : Launch) (G : va_G) (cy : Nat → ClassId) {H0 : Heap} {z : Nat} {q h x r y : Nat → Nat} {M : MT} (hW : WB M) (hP : va_P G vwCl ([oSy z q h x r y] ++ wDo cy q M) H0) (u : Nat) (hu : u < 2 ^ 31) (hb0 : ¬ (1 ≤ u ∧ u ≤ 5)) : MetI l yX7_addPerson wsX7_addPerson 1 20 [.ref z, .int (nI u)] H0 G cy ((-2)) := by
  refine Met.ofW (cc := cX7_addPerson) (maxL := 2) (ret := (some .int)) (by decide) rfl ?_
  intro p e s m args below meth c s₁ B hml hv
  obtain ⟨rfl, hH, hK⟩ := hv
  subst hH
  have hx := B.exec
  have hb := B.bytes
  have hr := B.returns
  have hts := atoms_spec (ws := wsX7_addPerson) B.pre
  have hown : s.vm.findClass RX7 = some m.cls := findClass_of_methodNamed B.named
  have hlocks := B.notSynchronized
  have hl := lv_entry ([.ref z, .int (nI u)]) (n := 2) (Nat.le_of_ble_eq_true rfl)
  rw [lg_entry_eq]
  generalize (lg_sl ([.ref z, .int (nI u)]) ++ List.replicate (2 - (lg_sl ([.ref z, .int (nI u)])).length) Slot.unset).toArray = ls at hl ⊢
  have hl : lv_has ls 2 [(0, .ref z), (1, .int (nI u))] := hl
  obtain ⟨bP, bN, bR, bO, bW, bL, bF⟩ := id hW
  have hPd := hP.sub (ws' := wDo cy q M) [1, 2, 3, 4, 5, 6, 7, 8, 9] rfl
  refine lv_iload_n hx hb dX7_addPerson_0 rfl (lv_at hl 1 rfl) ?_
  refine o_SI (As := [.int (nI u)]) (rest := []) ⟨hx, hb, hml, hown, hts⟩ (kX7_isRank l G cy u (by omega)) (va_cwS 1 hts gX7_addPerson_X7_isRank rfl rfl rfl (by decide +kernel) ⟨Nat.le_of_ble_eq_true rfl, Nat.le_of_ble_eq_true rfl⟩) hK rfl hl.1 rfl (Nat.le_of_ble_eq_true rfl) dX7_addPerson_1 ⟨Nat.zero_le _, Nat.zero_le _⟩ ?_
  refine o_ifb_ne (tgt := 10) hx hb dX7_addPerson_4 (by decide) (fun c4 => ?_) (fun c4 => ?_)
  · exact absurd c4 hb0
  · refine lv_bipush (v := (-2)) hx hb dX7_addPerson_7 (by decide +kernel) ?_
    exact o_endI hx hb hr hlocks dX7_addPerson_9 rfl

set_option maxRecDepth 100000 in
theorem iX7_setRank_X7 : ∀ w ∈ u_ws RX7 TX7 9, w ∈ wsX7_setRank := by decide +kernel
set_option maxHeartbeats 4000000 in
set_option maxRecDepth 100000 in
theorem kX7_setRank_b (l : Launch) (G : va_G) (cy : Nat → ClassId) {H0 : Heap} {z : Nat} {q h x r y : Nat → Nat} {M : MT} (hW : WB M) (hP : va_P G vwCl ([oSy z q h x r y] ++ wDo cy q M) H0) (k u : Nat) (hk : k < mP M) (hu : u < 2 ^ 31) (hb0 : ¬ (1 ≤ u ∧ u ≤ 5)) : MetI l yX7_setRank wsX7_setRank 1 21 [.ref z, .int (nI k), .int (nI u)] H0 G cy ((-2)) := by
  refine Met.ofW (cc := cX7_setRank) (maxL := 4) (ret := (some .int)) (by decide) rfl ?_
  intro p e s m args below meth c s₁ B hml hv
  obtain ⟨rfl, hH, hK⟩ := hv
  subst hH
  have hx := B.exec
  have hb := B.bytes
  have hr := B.returns
  have hts := atoms_spec (ws := wsX7_setRank) B.pre
  have hown : s.vm.findClass RX7 = some m.cls := findClass_of_methodNamed B.named
  have hlocks := B.notSynchronized
  have hl := lv_entry ([.ref z, .int (nI k), .int (nI u)]) (n := 4) (Nat.le_of_ble_eq_true rfl)
  rw [lg_entry_eq]
  generalize (lg_sl ([.ref z, .int (nI k), .int (nI u)]) ++ List.replicate (4 - (lg_sl ([.ref z, .int (nI k), .int (nI u)])).length) Slot.unset).toArray = ls at hl ⊢
  have hl : lv_has ls 4 [(0, .ref z), (1, .int (nI k)), (2, .int (nI u))] := hl
  obtain ⟨bP, bN, bR, bO, bW, bL, bF⟩ := id hW
  have hPd := hP.sub (ws' := wDo cy q M) [1, 2, 3, 4, 5, 6, 7, 8, 9] rfl
  refine lv_aload_n hx hb dX7_setRank_0 rfl (lv_at hl 0 rfl) ?_
  refine va_get (D := G) (ci := 6) (v := .ref (q 0)) (C := RX7) (T := TX7) (N := 9) hx hb hts iX7_setRank_X7 hown hK hP 0 rfl rfl 0 (by decide) (hts (.fieldLink RX7 10 "NailedOrders" "door" "LNailedOrders$Door;") (by decide +kernel)) (fun _ h9 => h9) rfl dX7_setRank_1 ?_
  refine lv_iload_n hx hb dX7_setRank_4 rfl (lv_at hl 1 rfl) ?_
  refine o_VI (As := [.int (nI k)]) (rest := []) ⟨hx, hb, hml, hown, hts⟩ (kX1_isPerson l G cy hW hPd k (by omega)) (cwV 1 hts gX7_setRank_X1_isPerson rfl rfl rfl (by decide +kernel) ⟨Nat.le_of_ble_eq_true rfl, Nat.le_of_ble_eq_true rfl⟩) hK (va_recv hK hP (ci := 0) (q0 := 1) rfl rfl) rfl hl.1 rfl (Nat.le_of_ble_eq_true rfl) dX7_setRank_5 ⟨Nat.zero_le _, Nat.zero_le _⟩ ?_
  refine o_ifb_ne (tgt := 13) hx hb dX7_setRank_8 (by decide) (fun c8 => ?_) (fun c8 => ?_)
  · refine lv_iload_n hx hb dX7_setRank_13 rfl (lv_at hl 2 rfl) ?_
    refine o_SI (As := [.int (nI u)]) (rest := []) ⟨hx, hb, hml, hown, hts⟩ (kX7_isRank l G cy u (by omega)) (va_cwS 1 hts gX7_setRank_X7_isRank rfl rfl rfl (by decide +kernel) ⟨Nat.le_of_ble_eq_true rfl, Nat.le_of_ble_eq_true rfl⟩) hK rfl hl.1 rfl (Nat.le_of_ble_eq_true rfl) dX7_setRank_14 ⟨Nat.zero_le _, Nat.zero_le _⟩ ?_
    refine o_ifb_ne (tgt := 23) hx hb dX7_setRank_17 (by decide) (fun c17 => ?_) (fun c17 => ?_)
    · exact absurd c17 hb0
    · refine lv_bipush (v := (-2)) hx hb dX7_setRank_20 (by decide +kernel) ?_
      exact o_endI hx hb hr hlocks dX7_setRank_22 rfl
  · exact absurd hk c8

set_option maxHeartbeats 4000000 in
set_option maxRecDepth 100000 in
theorem kX7_setRank_u (l : Launch) (G : va_G) (cy : Nat → ClassId) {H0 : Heap} {z : Nat} {q h x r y : Nat → Nat} {M : MT} (hW : WB M) (hP : va_P G vwCl ([oSy z q h x r y] ++ wDo cy q M) H0) (k u : Nat) (hk : ¬ k < mP M) (hk2 : k < 2 ^ 31) : MetI l yX7_setRank wsX7_setRank 1 21 [.ref z, .int (nI k), .int (nI u)] H0 G cy ((-1)) := by
  refine Met.ofW (cc := cX7_setRank) (maxL := 4) (ret := (some .int)) (by decide) rfl ?_
  intro p e s m args below meth c s₁ B hml hv
  obtain ⟨rfl, hH, hK⟩ := hv
  subst hH
  have hx := B.exec
  have hb := B.bytes
  have hr := B.returns
  have hts := atoms_spec (ws := wsX7_setRank) B.pre
  have hown : s.vm.findClass RX7 = some m.cls := findClass_of_methodNamed B.named
  have hlocks := B.notSynchronized
  have hl := lv_entry ([.ref z, .int (nI k), .int (nI u)]) (n := 4) (Nat.le_of_ble_eq_true rfl)
  rw [lg_entry_eq]
  generalize (lg_sl ([.ref z, .int (nI k), .int (nI u)]) ++ List.replicate (4 - (lg_sl ([.ref z, .int (nI k), .int (nI u)])).length) Slot.unset).toArray = ls at hl ⊢
  have hl : lv_has ls 4 [(0, .ref z), (1, .int (nI k)), (2, .int (nI u))] := hl
  obtain ⟨bP, bN, bR, bO, bW, bL, bF⟩ := id hW
  have hPd := hP.sub (ws' := wDo cy q M) [1, 2, 3, 4, 5, 6, 7, 8, 9] rfl
  refine lv_aload_n hx hb dX7_setRank_0 rfl (lv_at hl 0 rfl) ?_
  refine va_get (D := G) (ci := 6) (v := .ref (q 0)) (C := RX7) (T := TX7) (N := 9) hx hb hts iX7_setRank_X7 hown hK hP 0 rfl rfl 0 (by decide) (hts (.fieldLink RX7 10 "NailedOrders" "door" "LNailedOrders$Door;") (by decide +kernel)) (fun _ h9 => h9) rfl dX7_setRank_1 ?_
  refine lv_iload_n hx hb dX7_setRank_4 rfl (lv_at hl 1 rfl) ?_
  refine o_VI (As := [.int (nI k)]) (rest := []) ⟨hx, hb, hml, hown, hts⟩ (kX1_isPerson l G cy hW hPd k (by omega)) (cwV 1 hts gX7_setRank_X1_isPerson rfl rfl rfl (by decide +kernel) ⟨Nat.le_of_ble_eq_true rfl, Nat.le_of_ble_eq_true rfl⟩) hK (va_recv hK hP (ci := 0) (q0 := 1) rfl rfl) rfl hl.1 rfl (Nat.le_of_ble_eq_true rfl) dX7_setRank_5 ⟨Nat.zero_le _, Nat.zero_le _⟩ ?_
  refine o_ifb_ne (tgt := 13) hx hb dX7_setRank_8 (by decide) (fun c8 => ?_) (fun c8 => ?_)
  · exact absurd c8 hk
  · refine lv_iconst (v := (-1)) hx hb dX7_setRank_11 (by decide +kernel) ?_
    exact o_endI hx hb hr hlocks dX7_setRank_12 rfl

set_option maxRecDepth 100000 in
theorem iX7_setRank_X1 : ∀ w ∈ u_ws RX1 TX1 13, w ∈ wsX7_setRank := by decide +kernel
set_option maxHeartbeats 4000000 in
set_option maxRecDepth 100000 in
theorem kX7_setRank_n (l : Launch) (G : va_G) (cy : Nat → ClassId) {H0 : Heap} {z : Nat} {q h x r y : Nat → Nat} {M : MT} (hW : WB M) (hP : va_P G vwCl ([oSy z q h x r y] ++ wDo cy q M) H0) (k u : Nat) (hk : k < mP M) (hu : 1 ≤ u ∧ u ≤ 5) (he : mR M k = u) : MetI l yX7_setRank wsX7_setRank 1 21 [.ref z, .int (nI k), .int (nI u)] H0 G cy ((-5)) := by
  refine Met.ofW (cc := cX7_setRank) (maxL := 4) (ret := (some .int)) (by decide) rfl ?_
  intro p e s m args below meth c s₁ B hml hv
  obtain ⟨rfl, hH, hK⟩ := hv
  subst hH
  have hx := B.exec
  have hb := B.bytes
  have hr := B.returns
  have hts := atoms_spec (ws := wsX7_setRank) B.pre
  have hown : s.vm.findClass RX7 = some m.cls := findClass_of_methodNamed B.named
  have hlocks := B.notSynchronized
  have hl := lv_entry ([.ref z, .int (nI k), .int (nI u)]) (n := 4) (Nat.le_of_ble_eq_true rfl)
  rw [lg_entry_eq]
  generalize (lg_sl ([.ref z, .int (nI k), .int (nI u)]) ++ List.replicate (4 - (lg_sl ([.ref z, .int (nI k), .int (nI u)])).length) Slot.unset).toArray = ls at hl ⊢
  have hl : lv_has ls 4 [(0, .ref z), (1, .int (nI k)), (2, .int (nI u))] := hl
  obtain ⟨bP, bN, bR, bO, bW, bL, bF⟩ := id hW
  have hPd := hP.sub (ws' := wDo cy q M) [1, 2, 3, 4, 5, 6, 7, 8, 9] rfl
  refine lv_aload_n hx hb dX7_setRank_0 rfl (lv_at hl 0 rfl) ?_
  refine va_get (D := G) (ci := 6) (v := .ref (q 0)) (C := RX7) (T := TX7) (N := 9) hx hb hts iX7_setRank_X7 hown hK hP 0 rfl rfl 0 (by decide) (hts (.fieldLink RX7 10 "NailedOrders" "door" "LNailedOrders$Door;") (by decide +kernel)) (fun _ h9 => h9) rfl dX7_setRank_1 ?_
  refine lv_iload_n hx hb dX7_setRank_4 rfl (lv_at hl 1 rfl) ?_
  refine o_VI (As := [.int (nI k)]) (rest := []) ⟨hx, hb, hml, hown, hts⟩ (kX1_isPerson l G cy hW hPd k (by omega)) (cwV 1 hts gX7_setRank_X1_isPerson rfl rfl rfl (by decide +kernel) ⟨Nat.le_of_ble_eq_true rfl, Nat.le_of_ble_eq_true rfl⟩) hK (va_recv hK hP (ci := 0) (q0 := 1) rfl rfl) rfl hl.1 rfl (Nat.le_of_ble_eq_true rfl) dX7_setRank_5 ⟨Nat.zero_le _, Nat.zero_le _⟩ ?_
  refine o_ifb_ne (tgt := 13) hx hb dX7_setRank_8 (by decide) (fun c8 => ?_) (fun c8 => ?_)
  · refine lv_iload_n hx hb dX7_setRank_13 rfl (lv_at hl 2 rfl) ?_
    refine o_SI (As := [.int (nI u)]) (rest := []) ⟨hx, hb, hml, hown, hts⟩ (kX7_isRank l G cy u (by omega)) (va_cwS 1 hts gX7_setRank_X7_isRank rfl rfl rfl (by decide +kernel) ⟨Nat.le_of_ble_eq_true rfl, Nat.le_of_ble_eq_true rfl⟩) hK rfl hl.1 rfl (Nat.le_of_ble_eq_true rfl) dX7_setRank_14 ⟨Nat.zero_le _, Nat.zero_le _⟩ ?_
    refine o_ifb_ne (tgt := 23) hx hb dX7_setRank_17 (by decide) (fun c17 => ?_) (fun c17 => ?_)
    · refine lv_aload_n hx hb dX7_setRank_23 rfl (lv_at hl 0 rfl) ?_
      have b1 := bR k
      refine va_get (D := G) (ci := 6) (v := .ref (q 0)) (C := RX7) (T := TX7) (N := 9) hx hb hts iX7_setRank_X7 hown hK hP 0 rfl rfl 0 (by decide) (hts (.fieldLink RX7 10 "NailedOrders" "door" "LNailedOrders$Door;") (by decide +kernel)) (fun _ h9 => h9) rfl dX7_setRank_24 ?_
      refine va_get (D := G) (ci := 0) (v := .ref (q 1)) (C := RX1) (T := TX1) (N := 13) hx hb hts iX7_setRank_X1 hown hK hP 1 rfl rfl 1 (by decide) (hts (.fieldLink RX7 83 "NailedOrders$Door" "ranks" "[I") (by decide +kernel)) (fun _ h9 => h9) rfl dX7_setRank_27 ?_
      refine lv_iload_n hx hb dX7_setRank_30 rfl (lv_at hl 1 rfl) ?_
      refine o_iald hx hb hK hP 2 0 rfl rfl k (by omega) (by decide) dX7_setRank_31 ?_
      refine lv_istore_n (lv' := [(3, .int (nI (mR M k))), (0, .ref z), (1, .int (nI k)), (2, .int (nI u))]) hx hb dX7_setRank_32 rfl hl (by decide) rfl (fun ls hl => ?_)
      refine lv_iload_n hx hb dX7_setRank_33 rfl (lv_at hl 0 rfl) ?_
      refine lv_iload_n hx hb dX7_setRank_34 rfl (lv_at hl 3 rfl) ?_
      refine o_icmp_ne (tgt := 41) hx hb dX7_setRank_35 (by decide) (by omega) (by omega) (fun c35 => ?_) (fun c35 => ?_)
      · exact absurd he c35
      · refine lv_bipush (v := (-5)) hx hb dX7_setRank_38 (by decide +kernel) ?_
        exact o_endI hx hb hr hlocks dX7_setRank_40 rfl
    · exact absurd hu c17
  · exact absurd hk c8

set_option maxRecDepth 100000 in
theorem iX7_setTolerance_X7 : ∀ w ∈ u_ws RX7 TX7 9, w ∈ wsX7_setTolerance := by decide +kernel
set_option maxHeartbeats 4000000 in
set_option maxRecDepth 100000 in
theorem kX7_setTolerance_b (l : Launch) (G : va_G) (cy : Nat → ClassId) {H0 : Heap} {z : Nat} {q h x r y : Nat → Nat} {M : MT} (hW : WB M) (hP : va_P G vwCl ([oSy z q h x r y] ++ wDo cy q M) H0) (b : Int32) (hb0 : ¬ (¬ b < 0 ∧ frB b FP.fconst0 1120403456 = true)) : MetI l yX7_setTolerance wsX7_setTolerance 4 87 [.ref z, .int b] H0 G cy ((-2)) := by
  refine Met.ofW (cc := cX7_setTolerance) (maxL := 2) (ret := (some .int)) (by decide) rfl ?_
  intro p e s m args below meth c s₁ B hml hv
  obtain ⟨rfl, hH, hK⟩ := hv
  subst hH
  have hx := B.exec
  have hb := B.bytes
  have hr := B.returns
  have hts := atoms_spec (ws := wsX7_setTolerance) B.pre
  have hown : s.vm.findClass RX7 = some m.cls := findClass_of_methodNamed B.named
  have hlocks := B.notSynchronized
  have hl := lv_entry ([.ref z, .int b]) (n := 2) (Nat.le_of_ble_eq_true rfl)
  rw [lg_entry_eq]
  generalize (lg_sl ([.ref z, .int b]) ++ List.replicate (2 - (lg_sl ([.ref z, .int b])).length) Slot.unset).toArray = ls at hl ⊢
  have hl : lv_has ls 2 [(0, .ref z), (1, .int b)] := hl
  obtain ⟨bP, bN, bR, bO, bW, bL, bF⟩ := id hW
  have hPd := hP.sub (ws' := wDo cy q M) [1, 2, 3, 4, 5, 6, 7, 8, 9] rfl
  refine lv_iload_n hx hb dX7_setTolerance_0 rfl (lv_at hl 1 rfl) ?_
  refine o_SI (As := [.int b]) (rest := []) ⟨hx, hb, hml, hown, hts⟩ (kX0_areTolerance l G cy b) (va_cwS 1 hts gX7_setTolerance_X0_areTolerance rfl rfl rfl (by decide +kernel) ⟨Nat.le_of_ble_eq_true rfl, Nat.le_of_ble_eq_true rfl⟩) hK rfl hl.1 rfl (Nat.le_of_ble_eq_true rfl) dX7_setTolerance_1 ⟨Nat.zero_le _, Nat.zero_le _⟩ ?_
  refine o_ifb_ne (tgt := 10) hx hb dX7_setTolerance_4 (by decide) (fun c4 => ?_) (fun c4 => ?_)
  · exact absurd c4 hb0
  · refine lv_bipush (v := (-2)) hx hb dX7_setTolerance_7 (by decide +kernel) ?_
    exact o_endI hx hb hr hlocks dX7_setTolerance_9 rfl

set_option maxRecDepth 100000 in
theorem iX7_setTolerance_X1 : ∀ w ∈ u_ws RX1 TX1 13, w ∈ wsX7_setTolerance := by decide +kernel
set_option maxHeartbeats 4000000 in
set_option maxRecDepth 100000 in
theorem kX7_setTolerance_n (l : Launch) (G : va_G) (cy : Nat → ClassId) {H0 : Heap} {z : Nat} {q h x r y : Nat → Nat} {M : MT} (hW : WB M) (hP : va_P G vwCl ([oSy z q h x r y] ++ wDo cy q M) H0) (b : Int32) (hb0 : ¬ b < 0 ∧ frB b FP.fconst0 1120403456 = true) (he : b = mB M) : MetI l yX7_setTolerance wsX7_setTolerance 4 87 [.ref z, .int b] H0 G cy ((-5)) := by
  refine Met.ofW (cc := cX7_setTolerance) (maxL := 2) (ret := (some .int)) (by decide) rfl ?_
  intro p e s m args below meth c s₁ B hml hv
  obtain ⟨rfl, hH, hK⟩ := hv
  subst hH
  have hx := B.exec
  have hb := B.bytes
  have hr := B.returns
  have hts := atoms_spec (ws := wsX7_setTolerance) B.pre
  have hown : s.vm.findClass RX7 = some m.cls := findClass_of_methodNamed B.named
  have hlocks := B.notSynchronized
  have hl := lv_entry ([.ref z, .int b]) (n := 2) (Nat.le_of_ble_eq_true rfl)
  rw [lg_entry_eq]
  generalize (lg_sl ([.ref z, .int b]) ++ List.replicate (2 - (lg_sl ([.ref z, .int b])).length) Slot.unset).toArray = ls at hl ⊢
  have hl : lv_has ls 2 [(0, .ref z), (1, .int b)] := hl
  obtain ⟨bP, bN, bR, bO, bW, bL, bF⟩ := id hW
  have hPd := hP.sub (ws' := wDo cy q M) [1, 2, 3, 4, 5, 6, 7, 8, 9] rfl
  refine lv_iload_n hx hb dX7_setTolerance_0 rfl (lv_at hl 1 rfl) ?_
  refine o_SI (As := [.int b]) (rest := []) ⟨hx, hb, hml, hown, hts⟩ (kX0_areTolerance l G cy b) (va_cwS 1 hts gX7_setTolerance_X0_areTolerance rfl rfl rfl (by decide +kernel) ⟨Nat.le_of_ble_eq_true rfl, Nat.le_of_ble_eq_true rfl⟩) hK rfl hl.1 rfl (Nat.le_of_ble_eq_true rfl) dX7_setTolerance_1 ⟨Nat.zero_le _, Nat.zero_le _⟩ ?_
  refine o_ifb_ne (tgt := 10) hx hb dX7_setTolerance_4 (by decide) (fun c4 => ?_) (fun c4 => ?_)
  · refine lv_iload_n hx hb dX7_setTolerance_10 rfl (lv_at hl 1 rfl) ?_
    refine lv_aload_n hx hb dX7_setTolerance_11 rfl (lv_at hl 0 rfl) ?_
    refine va_get (D := G) (ci := 6) (v := .ref (q 0)) (C := RX7) (T := TX7) (N := 9) hx hb hts iX7_setTolerance_X7 hown hK hP 0 rfl rfl 0 (by decide) (hts (.fieldLink RX7 10 "NailedOrders" "door" "LNailedOrders$Door;") (by decide +kernel)) (fun _ h9 => h9) rfl dX7_setTolerance_12 ?_
    refine va_get (D := G) (ci := 0) (v := .int (mB M)) (C := RX1) (T := TX1) (N := 13) hx hb hts iX7_setTolerance_X1 hown hK hP 1 rfl rfl 2 (by decide) (hts (.fieldLink RX7 92 "NailedOrders$Door" "toleranceBits" "I") (by decide +kernel)) (fun _ h9 => h9) rfl dX7_setTolerance_15 ?_
    refine lv_icmp_ne (tgt := 24) hx hb dX7_setTolerance_18 (by decide) (fun c18 => ?_) (fun c18 => ?_)
    · exact absurd he c18
    · refine lv_bipush (v := (-5)) hx hb dX7_setTolerance_21 (by decide +kernel) ?_
      exact o_endI hx hb hr hlocks dX7_setTolerance_23 rfl
  · exact absurd hb0 c4

set_option maxRecDepth 100000 in
theorem iX7_nail_X7 : ∀ w ∈ u_ws RX7 TX7 9, w ∈ wsX7_nail := by decide +kernel
set_option maxHeartbeats 4000000 in
set_option maxRecDepth 100000 in
theorem kX7_nail_u (l : Launch) (G : va_G) (cy : Nat → ClassId) {H0 : Heap} {z : Nat} {q h x r y : Nat → Nat} {M : MT} (hW : WB M) (hP : va_P G vwCl ([oSy z q h x r y] ++ wDo cy q M) H0) (k w : Nat) (b c0 : Int32) (hk2 : k < 2 ^ 31) (hw2 : w < 2 ^ 31) (hu : ¬ (k < mP M ∧ w < 16)) : MetI l yX7_nail wsX7_nail 1 21 [.ref z, .int (nI k), .int (nI w), .int b, .int c0] H0 G cy ((-1)) := by
  refine Met.ofW (cc := cX7_nail) (maxL := 5) (ret := (some .int)) (by decide) rfl ?_
  intro p e s m args below meth c s₁ B hml hv
  obtain ⟨rfl, hH, hK⟩ := hv
  subst hH
  have hx := B.exec
  have hb := B.bytes
  have hr := B.returns
  have hts := atoms_spec (ws := wsX7_nail) B.pre
  have hown : s.vm.findClass RX7 = some m.cls := findClass_of_methodNamed B.named
  have hlocks := B.notSynchronized
  have hl := lv_entry ([.ref z, .int (nI k), .int (nI w), .int b, .int c0]) (n := 5) (Nat.le_of_ble_eq_true rfl)
  rw [lg_entry_eq]
  generalize (lg_sl ([.ref z, .int (nI k), .int (nI w), .int b, .int c0]) ++ List.replicate (5 - (lg_sl ([.ref z, .int (nI k), .int (nI w), .int b, .int c0])).length) Slot.unset).toArray = ls at hl ⊢
  have hl : lv_has ls 5 [(0, .ref z), (1, .int (nI k)), (2, .int (nI w)), (3, .int b), (4, .int c0)] := hl
  obtain ⟨bP, bN, bR, bO, bW, bL, bF⟩ := id hW
  have hPd := hP.sub (ws' := wDo cy q M) [1, 2, 3, 4, 5, 6, 7, 8, 9] rfl
  refine lv_aload_n hx hb dX7_nail_0 rfl (lv_at hl 0 rfl) ?_
  refine va_get (D := G) (ci := 6) (v := .ref (q 0)) (C := RX7) (T := TX7) (N := 9) hx hb hts iX7_nail_X7 hown hK hP 0 rfl rfl 0 (by decide) (hts (.fieldLink RX7 10 "NailedOrders" "door" "LNailedOrders$Door;") (by decide +kernel)) (fun _ h9 => h9) rfl dX7_nail_1 ?_
  refine lv_iload_n hx hb dX7_nail_4 rfl (lv_at hl 1 rfl) ?_
  refine o_VI (As := [.int (nI k)]) (rest := []) ⟨hx, hb, hml, hown, hts⟩ (kX1_isPerson l G cy hW hPd k (by omega)) (cwV 1 hts gX7_nail_X1_isPerson rfl rfl rfl (by decide +kernel) ⟨Nat.le_of_ble_eq_true rfl, Nat.le_of_ble_eq_true rfl⟩) hK (va_recv hK hP (ci := 0) (q0 := 1) rfl rfl) rfl hl.1 rfl (Nat.le_of_ble_eq_true rfl) dX7_nail_5 ⟨Nat.zero_le _, Nat.zero_le _⟩ ?_
  refine o_ifb_eq (tgt := 18) hx hb dX7_nail_8 (by decide) (fun c8 => ?_) (fun c8 => ?_)
  · refine lv_iconst (v := (-1)) hx hb dX7_nail_18 (by decide +kernel) ?_
    exact o_endI hx hb hr hlocks dX7_nail_19 rfl
  · refine lv_iload_n hx hb dX7_nail_11 rfl (lv_at hl 2 rfl) ?_
    refine o_SI (As := [.int (nI w)]) (rest := []) ⟨hx, hb, hml, hown, hts⟩ (kX7_isWord l G cy w (by omega)) (va_cwS 1 hts gX7_nail_X7_isWord rfl rfl rfl (by decide +kernel) ⟨Nat.le_of_ble_eq_true rfl, Nat.le_of_ble_eq_true rfl⟩) hK rfl hl.1 rfl (Nat.le_of_ble_eq_true rfl) dX7_nail_12 ⟨Nat.zero_le _, Nat.zero_le _⟩ ?_
    refine o_ifb_ne (tgt := 20) hx hb dX7_nail_15 (by decide) (fun c15 => ?_) (fun c15 => ?_)
    · exact absurd ⟨c8, c15⟩ hu
    · refine lv_iconst (v := (-1)) hx hb dX7_nail_18 (by decide +kernel) ?_
      exact o_endI hx hb hr hlocks dX7_nail_19 rfl

set_option maxHeartbeats 4000000 in
set_option maxRecDepth 100000 in
theorem kX7_nail_b (l : Launch) (G : va_G) (cy : Nat → ClassId) {H0 : Heap} {z : Nat} {q h x r y : Nat → Nat} {M : MT} (hW : WB M) (hP : va_P G vwCl ([oSy z q h x r y] ++ wDo cy q M) H0) (k w : Nat) (b c0 : Int32) (hk : k < mP M) (hw : w < 16) (hb0 : ¬ (frB b 3296329728 1148846080 = true ∧ frB c0 1036831949 1092616192 = true)) : MetI l yX7_nail wsX7_nail 4 87 [.ref z, .int (nI k), .int (nI w), .int b, .int c0] H0 G cy ((-2)) := by
  refine Met.ofW (cc := cX7_nail) (maxL := 5) (ret := (some .int)) (by decide) rfl ?_
  intro p e s m args below meth c s₁ B hml hv
  obtain ⟨rfl, hH, hK⟩ := hv
  subst hH
  have hx := B.exec
  have hb := B.bytes
  have hr := B.returns
  have hts := atoms_spec (ws := wsX7_nail) B.pre
  have hown : s.vm.findClass RX7 = some m.cls := findClass_of_methodNamed B.named
  have hlocks := B.notSynchronized
  have hl := lv_entry ([.ref z, .int (nI k), .int (nI w), .int b, .int c0]) (n := 5) (Nat.le_of_ble_eq_true rfl)
  rw [lg_entry_eq]
  generalize (lg_sl ([.ref z, .int (nI k), .int (nI w), .int b, .int c0]) ++ List.replicate (5 - (lg_sl ([.ref z, .int (nI k), .int (nI w), .int b, .int c0])).length) Slot.unset).toArray = ls at hl ⊢
  have hl : lv_has ls 5 [(0, .ref z), (1, .int (nI k)), (2, .int (nI w)), (3, .int b), (4, .int c0)] := hl
  obtain ⟨bP, bN, bR, bO, bW, bL, bF⟩ := id hW
  have hPd := hP.sub (ws' := wDo cy q M) [1, 2, 3, 4, 5, 6, 7, 8, 9] rfl
  refine lv_aload_n hx hb dX7_nail_0 rfl (lv_at hl 0 rfl) ?_
  refine va_get (D := G) (ci := 6) (v := .ref (q 0)) (C := RX7) (T := TX7) (N := 9) hx hb hts iX7_nail_X7 hown hK hP 0 rfl rfl 0 (by decide) (hts (.fieldLink RX7 10 "NailedOrders" "door" "LNailedOrders$Door;") (by decide +kernel)) (fun _ h9 => h9) rfl dX7_nail_1 ?_
  refine lv_iload_n hx hb dX7_nail_4 rfl (lv_at hl 1 rfl) ?_
  refine o_VI (As := [.int (nI k)]) (rest := []) ⟨hx, hb, hml, hown, hts⟩ (kX1_isPerson l G cy hW hPd k (by omega)) (cwV 1 hts gX7_nail_X1_isPerson rfl rfl rfl (by decide +kernel) ⟨Nat.le_of_ble_eq_true rfl, Nat.le_of_ble_eq_true rfl⟩) hK (va_recv hK hP (ci := 0) (q0 := 1) rfl rfl) rfl hl.1 rfl (Nat.le_of_ble_eq_true rfl) dX7_nail_5 ⟨Nat.zero_le _, Nat.zero_le _⟩ ?_
  refine o_ifb_eq (tgt := 18) hx hb dX7_nail_8 (by decide) (fun c8 => ?_) (fun c8 => ?_)
  · exact absurd hk c8
  · refine lv_iload_n hx hb dX7_nail_11 rfl (lv_at hl 2 rfl) ?_
    refine o_SI (As := [.int (nI w)]) (rest := []) ⟨hx, hb, hml, hown, hts⟩ (kX7_isWord l G cy w (by omega)) (va_cwS 1 hts gX7_nail_X7_isWord rfl rfl rfl (by decide +kernel) ⟨Nat.le_of_ble_eq_true rfl, Nat.le_of_ble_eq_true rfl⟩) hK rfl hl.1 rfl (Nat.le_of_ble_eq_true rfl) dX7_nail_12 ⟨Nat.zero_le _, Nat.zero_le _⟩ ?_
    refine o_ifb_ne (tgt := 20) hx hb dX7_nail_15 (by decide) (fun c15 => ?_) (fun c15 => ?_)
    · refine lv_iload_n hx hb dX7_nail_20 rfl (lv_at hl 3 rfl) ?_
      refine o_SI (As := [.int b]) (rest := []) ⟨hx, hb, hml, hown, hts⟩ (kX0_areNumber l G cy b) (va_cwS 1 hts gX7_nail_X0_areNumber rfl rfl rfl (by decide +kernel) ⟨Nat.le_of_ble_eq_true rfl, Nat.le_of_ble_eq_true rfl⟩) hK rfl hl.1 rfl (Nat.le_of_ble_eq_true rfl) dX7_nail_21 ⟨Nat.zero_le _, Nat.zero_le _⟩ ?_
      refine o_ifb_eq (tgt := 35) hx hb dX7_nail_24 (by decide) (fun c24 => ?_) (fun c24 => ?_)
      · refine lv_bipush (v := (-2)) hx hb dX7_nail_35 (by decide +kernel) ?_
        exact o_endI hx hb hr hlocks dX7_nail_37 rfl
      · refine lv_iload hx hb dX7_nail_27 (lv_at hl 4 rfl) ?_
        refine o_SI (As := [.int c0]) (rest := []) ⟨hx, hb, hml, hown, hts⟩ (kX0_areStrength l G cy c0) (va_cwS 1 hts gX7_nail_X0_areStrength rfl rfl rfl (by decide +kernel) ⟨Nat.le_of_ble_eq_true rfl, Nat.le_of_ble_eq_true rfl⟩) hK rfl hl.1 rfl (Nat.le_of_ble_eq_true rfl) dX7_nail_29 ⟨Nat.zero_le _, Nat.zero_le _⟩ ?_
        refine o_ifb_ne (tgt := 38) hx hb dX7_nail_32 (by decide) (fun c32 => ?_) (fun c32 => ?_)
        · exact absurd ⟨c24, c32⟩ hb0
        · refine lv_bipush (v := (-2)) hx hb dX7_nail_35 (by decide +kernel) ?_
          exact o_endI hx hb hr hlocks dX7_nail_37 rfl
    · exact absurd hw c15

set_option maxRecDepth 100000 in
theorem iX7_nailLink_X7 : ∀ w ∈ u_ws RX7 TX7 9, w ∈ wsX7_nailLink := by decide +kernel
set_option maxHeartbeats 4000000 in
set_option maxRecDepth 100000 in
theorem kX7_nailLink_u (l : Launch) (G : va_G) (cy : Nat → ClassId) {H0 : Heap} {z : Nat} {q h x r y : Nat → Nat} {M : MT} (hW : WB M) (hP : va_P G vwCl ([oSy z q h x r y] ++ wDo cy q M) H0) (k w o : Nat) (b1 b2 b3 : Int32) (hk2 : k < 2 ^ 31) (hw2 : w < 2 ^ 31) (ho2 : o < 2 ^ 31) (hu : ¬ (k < mP M ∧ w < 16 ∧ o < 16)) : MetI l yX7_nailLink wsX7_nailLink 1 21 [.ref z, .int (nI k), .int (nI w), .int (nI o), .int b1, .int b2, .int b3] H0 G cy ((-1)) := by
  refine Met.ofW (cc := cX7_nailLink) (maxL := 7) (ret := (some .int)) (by decide) rfl ?_
  intro p e s m args below meth c s₁ B hml hv
  obtain ⟨rfl, hH, hK⟩ := hv
  subst hH
  have hx := B.exec
  have hb := B.bytes
  have hr := B.returns
  have hts := atoms_spec (ws := wsX7_nailLink) B.pre
  have hown : s.vm.findClass RX7 = some m.cls := findClass_of_methodNamed B.named
  have hlocks := B.notSynchronized
  have hl := lv_entry ([.ref z, .int (nI k), .int (nI w), .int (nI o), .int b1, .int b2, .int b3]) (n := 7) (Nat.le_of_ble_eq_true rfl)
  rw [lg_entry_eq]
  generalize (lg_sl ([.ref z, .int (nI k), .int (nI w), .int (nI o), .int b1, .int b2, .int b3]) ++ List.replicate (7 - (lg_sl ([.ref z, .int (nI k), .int (nI w), .int (nI o), .int b1, .int b2, .int b3])).length) Slot.unset).toArray = ls at hl ⊢
  have hl : lv_has ls 7 [(0, .ref z), (1, .int (nI k)), (2, .int (nI w)), (3, .int (nI o)), (4, .int b1), (5, .int b2), (6, .int b3)] := hl
  obtain ⟨bP, bN, bR, bO, bW, bL, bF⟩ := id hW
  have hPd := hP.sub (ws' := wDo cy q M) [1, 2, 3, 4, 5, 6, 7, 8, 9] rfl
  refine lv_aload_n hx hb dX7_nailLink_0 rfl (lv_at hl 0 rfl) ?_
  refine va_get (D := G) (ci := 6) (v := .ref (q 0)) (C := RX7) (T := TX7) (N := 9) hx hb hts iX7_nailLink_X7 hown hK hP 0 rfl rfl 0 (by decide) (hts (.fieldLink RX7 10 "NailedOrders" "door" "LNailedOrders$Door;") (by decide +kernel)) (fun _ h9 => h9) rfl dX7_nailLink_1 ?_
  refine lv_iload_n hx hb dX7_nailLink_4 rfl (lv_at hl 1 rfl) ?_
  refine o_VI (As := [.int (nI k)]) (rest := []) ⟨hx, hb, hml, hown, hts⟩ (kX1_isPerson l G cy hW hPd k (by omega)) (cwV 1 hts gX7_nailLink_X1_isPerson rfl rfl rfl (by decide +kernel) ⟨Nat.le_of_ble_eq_true rfl, Nat.le_of_ble_eq_true rfl⟩) hK (va_recv hK hP (ci := 0) (q0 := 1) rfl rfl) rfl hl.1 rfl (Nat.le_of_ble_eq_true rfl) dX7_nailLink_5 ⟨Nat.zero_le _, Nat.zero_le _⟩ ?_
  refine o_ifb_eq (tgt := 25) hx hb dX7_nailLink_8 (by decide) (fun c8 => ?_) (fun c8 => ?_)
  · refine lv_iconst (v := (-1)) hx hb dX7_nailLink_25 (by decide +kernel) ?_
    exact o_endI hx hb hr hlocks dX7_nailLink_26 rfl
  · refine lv_iload_n hx hb dX7_nailLink_11 rfl (lv_at hl 2 rfl) ?_
    refine o_SI (As := [.int (nI w)]) (rest := []) ⟨hx, hb, hml, hown, hts⟩ (kX7_isWord l G cy w (by omega)) (va_cwS 1 hts gX7_nailLink_X7_isWord rfl rfl rfl (by decide +kernel) ⟨Nat.le_of_ble_eq_true rfl, Nat.le_of_ble_eq_true rfl⟩) hK rfl hl.1 rfl (Nat.le_of_ble_eq_true rfl) dX7_nailLink_12 ⟨Nat.zero_le _, Nat.zero_le _⟩ ?_
    refine o_ifb_eq (tgt := 25) hx hb dX7_nailLink_15 (by decide) (fun c15 => ?_) (fun c15 => ?_)
    · refine lv_iconst (v := (-1)) hx hb dX7_nailLink_25 (by decide +kernel) ?_
      exact o_endI hx hb hr hlocks dX7_nailLink_26 rfl
    · refine lv_iload_n hx hb dX7_nailLink_18 rfl (lv_at hl 3 rfl) ?_
      refine o_SI (As := [.int (nI o)]) (rest := []) ⟨hx, hb, hml, hown, hts⟩ (kX7_isWord l G cy o (by omega)) (va_cwS 1 hts gX7_nailLink_X7_isWord rfl rfl rfl (by decide +kernel) ⟨Nat.le_of_ble_eq_true rfl, Nat.le_of_ble_eq_true rfl⟩) hK rfl hl.1 rfl (Nat.le_of_ble_eq_true rfl) dX7_nailLink_19 ⟨Nat.zero_le _, Nat.zero_le _⟩ ?_
      refine o_ifb_ne (tgt := 27) hx hb dX7_nailLink_22 (by decide) (fun c22 => ?_) (fun c22 => ?_)
      · exact absurd ⟨c8, c15, c22⟩ hu
      · refine lv_iconst (v := (-1)) hx hb dX7_nailLink_25 (by decide +kernel) ?_
        exact o_endI hx hb hr hlocks dX7_nailLink_26 rfl

set_option maxHeartbeats 4000000 in
set_option maxRecDepth 100000 in
theorem kX7_nailLink_b (l : Launch) (G : va_G) (cy : Nat → ClassId) {H0 : Heap} {z : Nat} {q h x r y : Nat → Nat} {M : MT} (hW : WB M) (hP : va_P G vwCl ([oSy z q h x r y] ++ wDo cy q M) H0) (k w o : Nat) (b1 b2 b3 : Int32) (hk : k < mP M) (hw : w < 16) (ho : o < 16) (he : w = o) : MetI l yX7_nailLink wsX7_nailLink 4 87 [.ref z, .int (nI k), .int (nI w), .int (nI o), .int b1, .int b2, .int b3] H0 G cy ((-2)) := by
  refine Met.ofW (cc := cX7_nailLink) (maxL := 7) (ret := (some .int)) (by decide) rfl ?_
  intro p e s m args below meth c s₁ B hml hv
  obtain ⟨rfl, hH, hK⟩ := hv
  subst hH
  have hx := B.exec
  have hb := B.bytes
  have hr := B.returns
  have hts := atoms_spec (ws := wsX7_nailLink) B.pre
  have hown : s.vm.findClass RX7 = some m.cls := findClass_of_methodNamed B.named
  have hlocks := B.notSynchronized
  have hl := lv_entry ([.ref z, .int (nI k), .int (nI w), .int (nI o), .int b1, .int b2, .int b3]) (n := 7) (Nat.le_of_ble_eq_true rfl)
  rw [lg_entry_eq]
  generalize (lg_sl ([.ref z, .int (nI k), .int (nI w), .int (nI o), .int b1, .int b2, .int b3]) ++ List.replicate (7 - (lg_sl ([.ref z, .int (nI k), .int (nI w), .int (nI o), .int b1, .int b2, .int b3])).length) Slot.unset).toArray = ls at hl ⊢
  have hl : lv_has ls 7 [(0, .ref z), (1, .int (nI k)), (2, .int (nI w)), (3, .int (nI o)), (4, .int b1), (5, .int b2), (6, .int b3)] := hl
  obtain ⟨bP, bN, bR, bO, bW, bL, bF⟩ := id hW
  have hPd := hP.sub (ws' := wDo cy q M) [1, 2, 3, 4, 5, 6, 7, 8, 9] rfl
  refine lv_aload_n hx hb dX7_nailLink_0 rfl (lv_at hl 0 rfl) ?_
  refine va_get (D := G) (ci := 6) (v := .ref (q 0)) (C := RX7) (T := TX7) (N := 9) hx hb hts iX7_nailLink_X7 hown hK hP 0 rfl rfl 0 (by decide) (hts (.fieldLink RX7 10 "NailedOrders" "door" "LNailedOrders$Door;") (by decide +kernel)) (fun _ h9 => h9) rfl dX7_nailLink_1 ?_
  refine lv_iload_n hx hb dX7_nailLink_4 rfl (lv_at hl 1 rfl) ?_
  refine o_VI (As := [.int (nI k)]) (rest := []) ⟨hx, hb, hml, hown, hts⟩ (kX1_isPerson l G cy hW hPd k (by omega)) (cwV 1 hts gX7_nailLink_X1_isPerson rfl rfl rfl (by decide +kernel) ⟨Nat.le_of_ble_eq_true rfl, Nat.le_of_ble_eq_true rfl⟩) hK (va_recv hK hP (ci := 0) (q0 := 1) rfl rfl) rfl hl.1 rfl (Nat.le_of_ble_eq_true rfl) dX7_nailLink_5 ⟨Nat.zero_le _, Nat.zero_le _⟩ ?_
  refine o_ifb_eq (tgt := 25) hx hb dX7_nailLink_8 (by decide) (fun c8 => ?_) (fun c8 => ?_)
  · exact absurd hk c8
  · refine lv_iload_n hx hb dX7_nailLink_11 rfl (lv_at hl 2 rfl) ?_
    refine o_SI (As := [.int (nI w)]) (rest := []) ⟨hx, hb, hml, hown, hts⟩ (kX7_isWord l G cy w (by omega)) (va_cwS 1 hts gX7_nailLink_X7_isWord rfl rfl rfl (by decide +kernel) ⟨Nat.le_of_ble_eq_true rfl, Nat.le_of_ble_eq_true rfl⟩) hK rfl hl.1 rfl (Nat.le_of_ble_eq_true rfl) dX7_nailLink_12 ⟨Nat.zero_le _, Nat.zero_le _⟩ ?_
    refine o_ifb_eq (tgt := 25) hx hb dX7_nailLink_15 (by decide) (fun c15 => ?_) (fun c15 => ?_)
    · exact absurd hw c15
    · refine lv_iload_n hx hb dX7_nailLink_18 rfl (lv_at hl 3 rfl) ?_
      refine o_SI (As := [.int (nI o)]) (rest := []) ⟨hx, hb, hml, hown, hts⟩ (kX7_isWord l G cy o (by omega)) (va_cwS 1 hts gX7_nailLink_X7_isWord rfl rfl rfl (by decide +kernel) ⟨Nat.le_of_ble_eq_true rfl, Nat.le_of_ble_eq_true rfl⟩) hK rfl hl.1 rfl (Nat.le_of_ble_eq_true rfl) dX7_nailLink_19 ⟨Nat.zero_le _, Nat.zero_le _⟩ ?_
      refine o_ifb_ne (tgt := 27) hx hb dX7_nailLink_22 (by decide) (fun c22 => ?_) (fun c22 => ?_)
      · refine lv_iload hx hb dX7_nailLink_27 (lv_at hl 4 rfl) ?_
        refine o_SI (As := [.int b1]) (rest := []) ⟨hx, hb, hml, hown, hts⟩ (kX0_areNumber l G cy b1) (va_cwS 1 hts gX7_nailLink_X0_areNumber rfl rfl rfl (by decide +kernel) ⟨Nat.le_of_ble_eq_true rfl, Nat.le_of_ble_eq_true rfl⟩) hK rfl hl.1 rfl (Nat.le_of_ble_eq_true rfl) dX7_nailLink_29 ⟨Nat.zero_le _, Nat.zero_le _⟩ ?_
        refine o_ifb_eq (tgt := 56) hx hb dX7_nailLink_32 (by decide) (fun c32 => ?_) (fun c32 => ?_)
        · refine lv_bipush (v := (-2)) hx hb dX7_nailLink_56 (by decide +kernel) ?_
          exact o_endI hx hb hr hlocks dX7_nailLink_58 rfl
        · refine lv_iload hx hb dX7_nailLink_35 (lv_at hl 5 rfl) ?_
          refine o_SI (As := [.int b2]) (rest := []) ⟨hx, hb, hml, hown, hts⟩ (kX0_areNumber l G cy b2) (va_cwS 1 hts gX7_nailLink_X0_areNumber rfl rfl rfl (by decide +kernel) ⟨Nat.le_of_ble_eq_true rfl, Nat.le_of_ble_eq_true rfl⟩) hK rfl hl.1 rfl (Nat.le_of_ble_eq_true rfl) dX7_nailLink_37 ⟨Nat.zero_le _, Nat.zero_le _⟩ ?_
          refine o_ifb_eq (tgt := 56) hx hb dX7_nailLink_40 (by decide) (fun c40 => ?_) (fun c40 => ?_)
          · refine lv_bipush (v := (-2)) hx hb dX7_nailLink_56 (by decide +kernel) ?_
            exact o_endI hx hb hr hlocks dX7_nailLink_58 rfl
          · refine lv_iload hx hb dX7_nailLink_43 (lv_at hl 6 rfl) ?_
            refine o_SI (As := [.int b3]) (rest := []) ⟨hx, hb, hml, hown, hts⟩ (kX0_areStrength l G cy b3) (va_cwS 1 hts gX7_nailLink_X0_areStrength rfl rfl rfl (by decide +kernel) ⟨Nat.le_of_ble_eq_true rfl, Nat.le_of_ble_eq_true rfl⟩) hK rfl hl.1 rfl (Nat.le_of_ble_eq_true rfl) dX7_nailLink_45 ⟨Nat.zero_le _, Nat.zero_le _⟩ ?_
            refine o_ifb_eq (tgt := 56) hx hb dX7_nailLink_48 (by decide) (fun c48 => ?_) (fun c48 => ?_)
            · refine lv_bipush (v := (-2)) hx hb dX7_nailLink_56 (by decide +kernel) ?_
              exact o_endI hx hb hr hlocks dX7_nailLink_58 rfl
            · refine lv_iload_n hx hb dX7_nailLink_51 rfl (lv_at hl 2 rfl) ?_
              refine lv_iload_n hx hb dX7_nailLink_52 rfl (lv_at hl 3 rfl) ?_
              refine o_icmp_ne (tgt := 59) hx hb dX7_nailLink_53 (by decide) (by omega) (by omega) (fun c53 => ?_) (fun c53 => ?_)
              · exact absurd he c53
              · refine lv_bipush (v := (-2)) hx hb dX7_nailLink_56 (by decide +kernel) ?_
                exact o_endI hx hb hr hlocks dX7_nailLink_58 rfl
      · exact absurd ho c22

set_option maxRecDepth 100000 in
theorem iX7_tear_X7 : ∀ w ∈ u_ws RX7 TX7 9, w ∈ wsX7_tear := by decide +kernel
set_option maxHeartbeats 4000000 in
set_option maxRecDepth 100000 in
theorem kX7_tear_u (l : Launch) (G : va_G) (cy : Nat → ClassId) {H0 : Heap} {z : Nat} {q h x r y : Nat → Nat} {M : MT} (hW : WB M) (hP : va_P G vwCl ([oSy z q h x r y] ++ wDo cy q M) H0) (k : Nat) (hk : ¬ k < mN M) (hk2 : k < 2 ^ 31) : MetI l yX7_tear wsX7_tear 1 21 [.ref z, .int (nI k)] H0 G cy ((-1)) := by
  refine Met.ofW (cc := cX7_tear) (maxL := 2) (ret := (some .int)) (by decide) rfl ?_
  intro p e s m args below meth c s₁ B hml hv
  obtain ⟨rfl, hH, hK⟩ := hv
  subst hH
  have hx := B.exec
  have hb := B.bytes
  have hr := B.returns
  have hts := atoms_spec (ws := wsX7_tear) B.pre
  have hown : s.vm.findClass RX7 = some m.cls := findClass_of_methodNamed B.named
  have hlocks := B.notSynchronized
  have hl := lv_entry ([.ref z, .int (nI k)]) (n := 2) (Nat.le_of_ble_eq_true rfl)
  rw [lg_entry_eq]
  generalize (lg_sl ([.ref z, .int (nI k)]) ++ List.replicate (2 - (lg_sl ([.ref z, .int (nI k)])).length) Slot.unset).toArray = ls at hl ⊢
  have hl : lv_has ls 2 [(0, .ref z), (1, .int (nI k))] := hl
  obtain ⟨bP, bN, bR, bO, bW, bL, bF⟩ := id hW
  have hPd := hP.sub (ws' := wDo cy q M) [1, 2, 3, 4, 5, 6, 7, 8, 9] rfl
  refine lv_aload_n hx hb dX7_tear_0 rfl (lv_at hl 0 rfl) ?_
  refine va_get (D := G) (ci := 6) (v := .ref (q 0)) (C := RX7) (T := TX7) (N := 9) hx hb hts iX7_tear_X7 hown hK hP 0 rfl rfl 0 (by decide) (hts (.fieldLink RX7 10 "NailedOrders" "door" "LNailedOrders$Door;") (by decide +kernel)) (fun _ h9 => h9) rfl dX7_tear_1 ?_
  refine lv_iload_n hx hb dX7_tear_4 rfl (lv_at hl 1 rfl) ?_
  refine o_VI (As := [.int (nI k)]) (rest := []) ⟨hx, hb, hml, hown, hts⟩ (kX1_isOrder l G cy hW hPd k (by omega)) (cwV 1 hts gX7_tear_X1_isOrder rfl rfl rfl (by decide +kernel) ⟨Nat.le_of_ble_eq_true rfl, Nat.le_of_ble_eq_true rfl⟩) hK (va_recv hK hP (ci := 0) (q0 := 1) rfl rfl) rfl hl.1 rfl (Nat.le_of_ble_eq_true rfl) dX7_tear_5 ⟨Nat.zero_le _, Nat.zero_le _⟩ ?_
  refine o_ifb_ne (tgt := 13) hx hb dX7_tear_8 (by decide) (fun c8 => ?_) (fun c8 => ?_)
  · exact absurd c8 hk
  · refine lv_iconst (v := (-1)) hx hb dX7_tear_11 (by decide +kernel) ?_
    exact o_endI hx hb hr hlocks dX7_tear_12 rfl

set_option maxHeartbeats 4000000 in
set_option maxRecDepth 100000 in
theorem kX7_tear_n (l : Launch) (G : va_G) (cy : Nat → ClassId) {H0 : Heap} {z : Nat} {q h x r y : Nat → Nat} {M : MT} (hW : WB M) (hP : va_P G vwCl ([oSy z q h x r y] ++ wDo cy q M) H0) (k : Nat) (hk : k < mN M) (hh : ¬ mF M k = 1) : MetI l yX7_tear wsX7_tear 1 21 [.ref z, .int (nI k)] H0 G cy ((-5)) := by
  refine Met.ofW (cc := cX7_tear) (maxL := 2) (ret := (some .int)) (by decide) rfl ?_
  intro p e s m args below meth c s₁ B hml hv
  obtain ⟨rfl, hH, hK⟩ := hv
  subst hH
  have hx := B.exec
  have hb := B.bytes
  have hr := B.returns
  have hts := atoms_spec (ws := wsX7_tear) B.pre
  have hown : s.vm.findClass RX7 = some m.cls := findClass_of_methodNamed B.named
  have hlocks := B.notSynchronized
  have hl := lv_entry ([.ref z, .int (nI k)]) (n := 2) (Nat.le_of_ble_eq_true rfl)
  rw [lg_entry_eq]
  generalize (lg_sl ([.ref z, .int (nI k)]) ++ List.replicate (2 - (lg_sl ([.ref z, .int (nI k)])).length) Slot.unset).toArray = ls at hl ⊢
  have hl : lv_has ls 2 [(0, .ref z), (1, .int (nI k))] := hl
  obtain ⟨bP, bN, bR, bO, bW, bL, bF⟩ := id hW
  have hPd := hP.sub (ws' := wDo cy q M) [1, 2, 3, 4, 5, 6, 7, 8, 9] rfl
  refine lv_aload_n hx hb dX7_tear_0 rfl (lv_at hl 0 rfl) ?_
  refine va_get (D := G) (ci := 6) (v := .ref (q 0)) (C := RX7) (T := TX7) (N := 9) hx hb hts iX7_tear_X7 hown hK hP 0 rfl rfl 0 (by decide) (hts (.fieldLink RX7 10 "NailedOrders" "door" "LNailedOrders$Door;") (by decide +kernel)) (fun _ h9 => h9) rfl dX7_tear_1 ?_
  refine lv_iload_n hx hb dX7_tear_4 rfl (lv_at hl 1 rfl) ?_
  refine o_VI (As := [.int (nI k)]) (rest := []) ⟨hx, hb, hml, hown, hts⟩ (kX1_isOrder l G cy hW hPd k (by omega)) (cwV 1 hts gX7_tear_X1_isOrder rfl rfl rfl (by decide +kernel) ⟨Nat.le_of_ble_eq_true rfl, Nat.le_of_ble_eq_true rfl⟩) hK (va_recv hK hP (ci := 0) (q0 := 1) rfl rfl) rfl hl.1 rfl (Nat.le_of_ble_eq_true rfl) dX7_tear_5 ⟨Nat.zero_le _, Nat.zero_le _⟩ ?_
  refine o_ifb_ne (tgt := 13) hx hb dX7_tear_8 (by decide) (fun c8 => ?_) (fun c8 => ?_)
  · refine lv_aload_n hx hb dX7_tear_13 rfl (lv_at hl 0 rfl) ?_
    refine va_get (D := G) (ci := 6) (v := .ref (q 0)) (C := RX7) (T := TX7) (N := 9) hx hb hts iX7_tear_X7 hown hK hP 0 rfl rfl 0 (by decide) (hts (.fieldLink RX7 10 "NailedOrders" "door" "LNailedOrders$Door;") (by decide +kernel)) (fun _ h9 => h9) rfl dX7_tear_14 ?_
    refine lv_iload_n hx hb dX7_tear_17 rfl (lv_at hl 1 rfl) ?_
    refine o_VI (As := [.int (nI k)]) (rest := []) ⟨hx, hb, hml, hown, hts⟩ (kX1_hangs l G cy hW hPd k (by omega)) (cwV 1 hts gX7_tear_X1_hangs rfl rfl rfl (by decide +kernel) ⟨Nat.le_of_ble_eq_true rfl, Nat.le_of_ble_eq_true rfl⟩) hK (va_recv hK hP (ci := 0) (q0 := 1) rfl rfl) rfl hl.1 rfl (Nat.le_of_ble_eq_true rfl) dX7_tear_18 ⟨Nat.zero_le _, Nat.zero_le _⟩ ?_
    refine o_ifb_ne (tgt := 27) hx hb dX7_tear_21 (by decide) (fun c21 => ?_) (fun c21 => ?_)
    · exact absurd c21 hh
    · refine lv_bipush (v := (-5)) hx hb dX7_tear_24 (by decide +kernel) ?_
      exact o_endI hx hb hr hlocks dX7_tear_26 rfl
  · exact absurd hk c8

set_option maxRecDepth 100000 in
theorem iX7_hammer_X7 : ∀ w ∈ u_ws RX7 TX7 9, w ∈ wsX7_hammer := by decide +kernel
set_option maxHeartbeats 4000000 in
set_option maxRecDepth 100000 in
theorem kX7_hammer_u (l : Launch) (G : va_G) (cy : Nat → ClassId) {H0 : Heap} {z : Nat} {q h x r y : Nat → Nat} {M : MT} (hW : WB M) (hP : va_P G vwCl ([oSy z q h x r y] ++ wDo cy q M) H0) (k : Nat) (hk : ¬ k < mN M) (hk2 : k < 2 ^ 31) : MetI l yX7_hammer wsX7_hammer 1 21 [.ref z, .int (nI k)] H0 G cy ((-1)) := by
  refine Met.ofW (cc := cX7_hammer) (maxL := 3) (ret := (some .int)) (by decide) rfl ?_
  intro p e s m args below meth c s₁ B hml hv
  obtain ⟨rfl, hH, hK⟩ := hv
  subst hH
  have hx := B.exec
  have hb := B.bytes
  have hr := B.returns
  have hts := atoms_spec (ws := wsX7_hammer) B.pre
  have hown : s.vm.findClass RX7 = some m.cls := findClass_of_methodNamed B.named
  have hlocks := B.notSynchronized
  have hl := lv_entry ([.ref z, .int (nI k)]) (n := 3) (Nat.le_of_ble_eq_true rfl)
  rw [lg_entry_eq]
  generalize (lg_sl ([.ref z, .int (nI k)]) ++ List.replicate (3 - (lg_sl ([.ref z, .int (nI k)])).length) Slot.unset).toArray = ls at hl ⊢
  have hl : lv_has ls 3 [(0, .ref z), (1, .int (nI k))] := hl
  obtain ⟨bP, bN, bR, bO, bW, bL, bF⟩ := id hW
  have hPd := hP.sub (ws' := wDo cy q M) [1, 2, 3, 4, 5, 6, 7, 8, 9] rfl
  refine lv_aload_n hx hb dX7_hammer_0 rfl (lv_at hl 0 rfl) ?_
  refine va_get (D := G) (ci := 6) (v := .ref (q 0)) (C := RX7) (T := TX7) (N := 9) hx hb hts iX7_hammer_X7 hown hK hP 0 rfl rfl 0 (by decide) (hts (.fieldLink RX7 10 "NailedOrders" "door" "LNailedOrders$Door;") (by decide +kernel)) (fun _ h9 => h9) rfl dX7_hammer_1 ?_
  refine lv_iload_n hx hb dX7_hammer_4 rfl (lv_at hl 1 rfl) ?_
  refine o_VI (As := [.int (nI k)]) (rest := []) ⟨hx, hb, hml, hown, hts⟩ (kX1_isOrder l G cy hW hPd k (by omega)) (cwV 1 hts gX7_hammer_X1_isOrder rfl rfl rfl (by decide +kernel) ⟨Nat.le_of_ble_eq_true rfl, Nat.le_of_ble_eq_true rfl⟩) hK (va_recv hK hP (ci := 0) (q0 := 1) rfl rfl) rfl hl.1 rfl (Nat.le_of_ble_eq_true rfl) dX7_hammer_5 ⟨Nat.zero_le _, Nat.zero_le _⟩ ?_
  refine o_ifb_ne (tgt := 13) hx hb dX7_hammer_8 (by decide) (fun c8 => ?_) (fun c8 => ?_)
  · exact absurd c8 hk
  · refine lv_iconst (v := (-1)) hx hb dX7_hammer_11 (by decide +kernel) ?_
    exact o_endI hx hb hr hlocks dX7_hammer_12 rfl

set_option maxHeartbeats 4000000 in
set_option maxRecDepth 100000 in
theorem kX7_hammer_n (l : Launch) (G : va_G) (cy : Nat → ClassId) {H0 : Heap} {z : Nat} {q h x r y : Nat → Nat} {M : MT} (hW : WB M) (hP : va_P G vwCl ([oSy z q h x r y] ++ wDo cy q M) H0) (k : Nat) (hk : k < mN M) (hh : ¬ mF M k = 1) : MetI l yX7_hammer wsX7_hammer 1 21 [.ref z, .int (nI k)] H0 G cy ((-4)) := by
  refine Met.ofW (cc := cX7_hammer) (maxL := 3) (ret := (some .int)) (by decide) rfl ?_
  intro p e s m args below meth c s₁ B hml hv
  obtain ⟨rfl, hH, hK⟩ := hv
  subst hH
  have hx := B.exec
  have hb := B.bytes
  have hr := B.returns
  have hts := atoms_spec (ws := wsX7_hammer) B.pre
  have hown : s.vm.findClass RX7 = some m.cls := findClass_of_methodNamed B.named
  have hlocks := B.notSynchronized
  have hl := lv_entry ([.ref z, .int (nI k)]) (n := 3) (Nat.le_of_ble_eq_true rfl)
  rw [lg_entry_eq]
  generalize (lg_sl ([.ref z, .int (nI k)]) ++ List.replicate (3 - (lg_sl ([.ref z, .int (nI k)])).length) Slot.unset).toArray = ls at hl ⊢
  have hl : lv_has ls 3 [(0, .ref z), (1, .int (nI k))] := hl
  obtain ⟨bP, bN, bR, bO, bW, bL, bF⟩ := id hW
  have hPd := hP.sub (ws' := wDo cy q M) [1, 2, 3, 4, 5, 6, 7, 8, 9] rfl
  refine lv_aload_n hx hb dX7_hammer_0 rfl (lv_at hl 0 rfl) ?_
  refine va_get (D := G) (ci := 6) (v := .ref (q 0)) (C := RX7) (T := TX7) (N := 9) hx hb hts iX7_hammer_X7 hown hK hP 0 rfl rfl 0 (by decide) (hts (.fieldLink RX7 10 "NailedOrders" "door" "LNailedOrders$Door;") (by decide +kernel)) (fun _ h9 => h9) rfl dX7_hammer_1 ?_
  refine lv_iload_n hx hb dX7_hammer_4 rfl (lv_at hl 1 rfl) ?_
  refine o_VI (As := [.int (nI k)]) (rest := []) ⟨hx, hb, hml, hown, hts⟩ (kX1_isOrder l G cy hW hPd k (by omega)) (cwV 1 hts gX7_hammer_X1_isOrder rfl rfl rfl (by decide +kernel) ⟨Nat.le_of_ble_eq_true rfl, Nat.le_of_ble_eq_true rfl⟩) hK (va_recv hK hP (ci := 0) (q0 := 1) rfl rfl) rfl hl.1 rfl (Nat.le_of_ble_eq_true rfl) dX7_hammer_5 ⟨Nat.zero_le _, Nat.zero_le _⟩ ?_
  refine o_ifb_ne (tgt := 13) hx hb dX7_hammer_8 (by decide) (fun c8 => ?_) (fun c8 => ?_)
  · refine lv_aload_n hx hb dX7_hammer_13 rfl (lv_at hl 0 rfl) ?_
    refine va_get (D := G) (ci := 6) (v := .ref (q 0)) (C := RX7) (T := TX7) (N := 9) hx hb hts iX7_hammer_X7 hown hK hP 0 rfl rfl 0 (by decide) (hts (.fieldLink RX7 10 "NailedOrders" "door" "LNailedOrders$Door;") (by decide +kernel)) (fun _ h9 => h9) rfl dX7_hammer_14 ?_
    refine lv_iload_n hx hb dX7_hammer_17 rfl (lv_at hl 1 rfl) ?_
    refine o_VI (As := [.int (nI k)]) (rest := []) ⟨hx, hb, hml, hown, hts⟩ (kX1_hangs l G cy hW hPd k (by omega)) (cwV 1 hts gX7_hammer_X1_hangs rfl rfl rfl (by decide +kernel) ⟨Nat.le_of_ble_eq_true rfl, Nat.le_of_ble_eq_true rfl⟩) hK (va_recv hK hP (ci := 0) (q0 := 1) rfl rfl) rfl hl.1 rfl (Nat.le_of_ble_eq_true rfl) dX7_hammer_18 ⟨Nat.zero_le _, Nat.zero_le _⟩ ?_
    refine o_ifb_ne (tgt := 27) hx hb dX7_hammer_21 (by decide) (fun c21 => ?_) (fun c21 => ?_)
    · exact absurd c21 hh
    · refine lv_bipush (v := (-4)) hx hb dX7_hammer_24 (by decide +kernel) ?_
      exact o_endI hx hb hr hlocks dX7_hammer_26 rfl
  · exact absurd hk c8

set_option maxRecDepth 100000 in
theorem iX7_storm_X7 : ∀ w ∈ u_ws RX7 TX7 9, w ∈ wsX7_storm := by decide +kernel
set_option maxHeartbeats 4000000 in
set_option maxRecDepth 100000 in
theorem kX7_storm_b (l : Launch) (G : va_G) (cy : Nat → ClassId) {H0 : Heap} {z : Nat} {q h x r y : Nat → Nat} {M : MT} (hW : WB M) (hP : va_P G vwCl ([oSy z q h x r y] ++ wDo cy q M) H0) (b : Int32) (hb0 : ¬ frB b 1036831949 1092616192 = true) : MetI l yX7_storm wsX7_storm 4 87 [.ref z, .int b] H0 G cy ((-2)) := by
  refine Met.ofW (cc := cX7_storm) (maxL := 2) (ret := (some .int)) (by decide) rfl ?_
  intro p e s m args below meth c s₁ B hml hv
  obtain ⟨rfl, hH, hK⟩ := hv
  subst hH
  have hx := B.exec
  have hb := B.bytes
  have hr := B.returns
  have hts := atoms_spec (ws := wsX7_storm) B.pre
  have hown : s.vm.findClass RX7 = some m.cls := findClass_of_methodNamed B.named
  have hlocks := B.notSynchronized
  have hl := lv_entry ([.ref z, .int b]) (n := 2) (Nat.le_of_ble_eq_true rfl)
  rw [lg_entry_eq]
  generalize (lg_sl ([.ref z, .int b]) ++ List.replicate (2 - (lg_sl ([.ref z, .int b])).length) Slot.unset).toArray = ls at hl ⊢
  have hl : lv_has ls 2 [(0, .ref z), (1, .int b)] := hl
  obtain ⟨bP, bN, bR, bO, bW, bL, bF⟩ := id hW
  have hPd := hP.sub (ws' := wDo cy q M) [1, 2, 3, 4, 5, 6, 7, 8, 9] rfl
  refine lv_iload_n hx hb dX7_storm_0 rfl (lv_at hl 1 rfl) ?_
  refine o_SI (As := [.int b]) (rest := []) ⟨hx, hb, hml, hown, hts⟩ (kX0_areForce l G cy b) (va_cwS 1 hts gX7_storm_X0_areForce rfl rfl rfl (by decide +kernel) ⟨Nat.le_of_ble_eq_true rfl, Nat.le_of_ble_eq_true rfl⟩) hK rfl hl.1 rfl (Nat.le_of_ble_eq_true rfl) dX7_storm_1 ⟨Nat.zero_le _, Nat.zero_le _⟩ ?_
  refine o_ifb_ne (tgt := 10) hx hb dX7_storm_4 (by decide) (fun c4 => ?_) (fun c4 => ?_)
  · exact absurd c4 hb0
  · refine lv_bipush (v := (-2)) hx hb dX7_storm_7 (by decide +kernel) ?_
    exact o_endI hx hb hr hlocks dX7_storm_9 rfl
