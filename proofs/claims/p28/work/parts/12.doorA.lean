set_option maxRecDepth 100000 in
theorem iX1_isPerson_X1 : ∀ w ∈ u_ws RX1 TX1 13, w ∈ wsX1_isPerson := by decide +kernel
set_option maxHeartbeats 4000000 in
set_option maxRecDepth 100000 in
theorem kX1_isPerson (l : Launch) (G : va_G) (cy : Nat → ClassId) {H0 : Heap} {q : Nat → Nat} {M : MT} (hW : WB M) (hP : va_P G vwCl (wDo cy q M) H0) (k : Nat) (hk : k < 2 ^ 31) : MetI l yX1_isPerson wsX1_isPerson 0 0 [.ref (q 0), .int (nI k)] H0 G cy (bI (k < mP M)) := by
  refine Met.ofW (cc := cX1_isPerson) (maxL := 2) (ret := (some .boolean)) (by decide) rfl ?_
  intro p e s m args below meth c s₁ B hml hv
  obtain ⟨rfl, hH, hK⟩ := hv
  subst hH
  have hx := B.exec
  have hb := B.bytes
  have hr := B.returns
  have hts := atoms_spec (ws := wsX1_isPerson) B.pre
  have hown : s.vm.findClass RX1 = some m.cls := findClass_of_methodNamed B.named
  have hlocks := B.notSynchronized
  have hl := lv_entry ([.ref (q 0), .int (nI k)]) (n := 2) (Nat.le_of_ble_eq_true rfl)
  rw [lg_entry_eq]
  generalize (lg_sl ([.ref (q 0), .int (nI k)]) ++ List.replicate (2 - (lg_sl ([.ref (q 0), .int (nI k)])).length) Slot.unset).toArray = ls at hl ⊢
  have hl : lv_has ls 2 [(0, .ref (q 0)), (1, .int (nI k))] := hl
  obtain ⟨bP, bN, bR, bO, bW, bL, bF⟩ := id hW
  refine lv_iload_n hx hb dX1_isPerson_0 rfl (lv_at hl 1 rfl) ?_
  refine o_if_lt (tgt := 16) hx hb dX1_isPerson_1 (by decide) (by omega) ?_
  refine lv_iload_n hx hb dX1_isPerson_4 rfl (lv_at hl 1 rfl) ?_
  refine lv_aload_n hx hb dX1_isPerson_5 rfl (lv_at hl 0 rfl) ?_
  refine va_get (D := G) (ci := 0) (v := .int (nI (mP M))) (C := RX1) (T := TX1) (N := 13) hx hb hts iX1_isPerson_X1 hown hK hP 0 rfl rfl 0 (by decide) (hts (.fieldLink RX1 37 "NailedOrders$Door" "persons" "I") (by decide +kernel)) (fun _ h9 => h9) rfl dX1_isPerson_6 ?_
  refine o_icmp_ge (tgt := 16) hx hb dX1_isPerson_9 (by decide) (by omega) (by omega) (fun c9 => ?_) (fun c9 => ?_)
  · refine lv_iconst (v := nI 0) hx hb dX1_isPerson_16 (by decide +kernel) ?_
    exact o_endZ hx hb hr hlocks dX1_isPerson_17 (by decide) ((by rw [bI_f (by omega)]; decide))
  · refine lv_iconst (v := nI 1) hx hb dX1_isPerson_12 (by decide +kernel) ?_
    refine lv_goto (tgt := 17) hx hb dX1_isPerson_13 (by decide) ?_
    exact o_endZ hx hb hr hlocks dX1_isPerson_17 (by decide) ((by rw [bI_t (by omega)]; decide))

set_option maxRecDepth 100000 in
theorem iX1_isOrder_X1 : ∀ w ∈ u_ws RX1 TX1 13, w ∈ wsX1_isOrder := by decide +kernel
set_option maxHeartbeats 4000000 in
set_option maxRecDepth 100000 in
theorem kX1_isOrder (l : Launch) (G : va_G) (cy : Nat → ClassId) {H0 : Heap} {q : Nat → Nat} {M : MT} (hW : WB M) (hP : va_P G vwCl (wDo cy q M) H0) (k : Nat) (hk : k < 2 ^ 31) : MetI l yX1_isOrder wsX1_isOrder 0 0 [.ref (q 0), .int (nI k)] H0 G cy (bI (k < mN M)) := by
  refine Met.ofW (cc := cX1_isOrder) (maxL := 2) (ret := (some .boolean)) (by decide) rfl ?_
  intro p e s m args below meth c s₁ B hml hv
  obtain ⟨rfl, hH, hK⟩ := hv
  subst hH
  have hx := B.exec
  have hb := B.bytes
  have hr := B.returns
  have hts := atoms_spec (ws := wsX1_isOrder) B.pre
  have hown : s.vm.findClass RX1 = some m.cls := findClass_of_methodNamed B.named
  have hlocks := B.notSynchronized
  have hl := lv_entry ([.ref (q 0), .int (nI k)]) (n := 2) (Nat.le_of_ble_eq_true rfl)
  rw [lg_entry_eq]
  generalize (lg_sl ([.ref (q 0), .int (nI k)]) ++ List.replicate (2 - (lg_sl ([.ref (q 0), .int (nI k)])).length) Slot.unset).toArray = ls at hl ⊢
  have hl : lv_has ls 2 [(0, .ref (q 0)), (1, .int (nI k))] := hl
  obtain ⟨bP, bN, bR, bO, bW, bL, bF⟩ := id hW
  refine lv_iload_n hx hb dX1_isOrder_0 rfl (lv_at hl 1 rfl) ?_
  refine o_if_lt (tgt := 16) hx hb dX1_isOrder_1 (by decide) (by omega) ?_
  refine lv_iload_n hx hb dX1_isOrder_4 rfl (lv_at hl 1 rfl) ?_
  refine lv_aload_n hx hb dX1_isOrder_5 rfl (lv_at hl 0 rfl) ?_
  refine va_get (D := G) (ci := 0) (v := .int (nI (mN M))) (C := RX1) (T := TX1) (N := 13) hx hb hts iX1_isOrder_X1 hown hK hP 0 rfl rfl 5 (by decide) (hts (.fieldLink RX1 51 "NailedOrders$Door" "orders" "I") (by decide +kernel)) (fun _ h9 => h9) rfl dX1_isOrder_6 ?_
  refine o_icmp_ge (tgt := 16) hx hb dX1_isOrder_9 (by decide) (by omega) (by omega) (fun c9 => ?_) (fun c9 => ?_)
  · refine lv_iconst (v := nI 0) hx hb dX1_isOrder_16 (by decide +kernel) ?_
    exact o_endZ hx hb hr hlocks dX1_isOrder_17 (by decide) ((by rw [bI_f (by omega)]; decide))
  · refine lv_iconst (v := nI 1) hx hb dX1_isOrder_12 (by decide +kernel) ?_
    refine lv_goto (tgt := 17) hx hb dX1_isOrder_13 (by decide) ?_
    exact o_endZ hx hb hr hlocks dX1_isOrder_17 (by decide) ((by rw [bI_t (by omega)]; decide))

set_option maxRecDepth 100000 in
theorem iX1_hangs_X1 : ∀ w ∈ u_ws RX1 TX1 13, w ∈ wsX1_hangs := by decide +kernel
set_option maxHeartbeats 4000000 in
set_option maxRecDepth 100000 in
theorem kX1_hangs (l : Launch) (G : va_G) (cy : Nat → ClassId) {H0 : Heap} {q : Nat → Nat} {M : MT} (hW : WB M) (hP : va_P G vwCl (wDo cy q M) H0) (k : Nat) (hk : k < 40) : MetI l yX1_hangs wsX1_hangs 0 0 [.ref (q 0), .int (nI k)] H0 G cy (bI (mF M k = 1)) := by
  refine Met.ofW (cc := cX1_hangs) (maxL := 2) (ret := (some .boolean)) (by decide) rfl ?_
  intro p e s m args below meth c s₁ B hml hv
  obtain ⟨rfl, hH, hK⟩ := hv
  subst hH
  have hx := B.exec
  have hb := B.bytes
  have hr := B.returns
  have hts := atoms_spec (ws := wsX1_hangs) B.pre
  have hown : s.vm.findClass RX1 = some m.cls := findClass_of_methodNamed B.named
  have hlocks := B.notSynchronized
  have hl := lv_entry ([.ref (q 0), .int (nI k)]) (n := 2) (Nat.le_of_ble_eq_true rfl)
  rw [lg_entry_eq]
  generalize (lg_sl ([.ref (q 0), .int (nI k)]) ++ List.replicate (2 - (lg_sl ([.ref (q 0), .int (nI k)])).length) Slot.unset).toArray = ls at hl ⊢
  have hl : lv_has ls 2 [(0, .ref (q 0)), (1, .int (nI k))] := hl
  obtain ⟨bP, bN, bR, bO, bW, bL, bF⟩ := id hW
  have b1 := bF k
  refine lv_aload_n hx hb dX1_hangs_0 rfl (lv_at hl 0 rfl) ?_
  refine va_get (D := G) (ci := 0) (v := .ref (q 12)) (C := RX1) (T := TX1) (N := 13) hx hb hts iX1_hangs_X1 hown hK hP 0 rfl rfl 12 (by decide) (hts (.fieldLink RX1 34 "NailedOrders$Door" "fates" "[I") (by decide +kernel)) (fun _ h9 => h9) rfl dX1_hangs_1 ?_
  refine lv_iload_n hx hb dX1_hangs_4 rfl (lv_at hl 1 rfl) ?_
  refine o_iald hx hb hK hP 8 0 rfl rfl k (by omega) (by decide) dX1_hangs_5 ?_
  refine lv_iconst (v := nI 1) hx hb dX1_hangs_6 (by decide +kernel) ?_
  refine o_icmp_ne (tgt := 14) hx hb dX1_hangs_7 (by decide) (by omega) (by omega) (fun c7 => ?_) (fun c7 => ?_)
  · refine lv_iconst (v := nI 0) hx hb dX1_hangs_14 (by decide +kernel) ?_
    exact o_endZ hx hb hr hlocks dX1_hangs_15 (by decide) ((by rw [bI_f (by omega)]; decide))
  · refine lv_iconst (v := nI 1) hx hb dX1_hangs_10 (by decide +kernel) ?_
    refine lv_goto (tgt := 15) hx hb dX1_hangs_11 (by decide) ?_
    exact o_endZ hx hb hr hlocks dX1_hangs_15 (by decide) ((by rw [bI_t (by omega)]; decide))

set_option maxRecDepth 100000 in
theorem iX1_hangsFor_X1 : ∀ w ∈ u_ws RX1 TX1 13, w ∈ wsX1_hangsFor := by decide +kernel
set_option maxHeartbeats 4000000 in
set_option maxRecDepth 100000 in
theorem kX1_hangsFor (l : Launch) (G : va_G) (cy : Nat → ClassId) {H0 : Heap} {q : Nat → Nat} {M : MT} (hW : WB M) (hP : va_P G vwCl (wDo cy q M) H0) (k w : Nat) (hk : k < 40) (hw : w < 16) : MetI l yX1_hangsFor wsX1_hangsFor 1 21 [.ref (q 0), .int (nI k), .int (nI w)] H0 G cy (bI (mF M k = 1 ∧ mW M k = w)) := by
  refine Met.ofW (cc := cX1_hangsFor) (maxL := 3) (ret := (some .boolean)) (by decide) rfl ?_
  intro p e s m args below meth c s₁ B hml hv
  obtain ⟨rfl, hH, hK⟩ := hv
  subst hH
  have hx := B.exec
  have hb := B.bytes
  have hr := B.returns
  have hts := atoms_spec (ws := wsX1_hangsFor) B.pre
  have hown : s.vm.findClass RX1 = some m.cls := findClass_of_methodNamed B.named
  have hlocks := B.notSynchronized
  have hl := lv_entry ([.ref (q 0), .int (nI k), .int (nI w)]) (n := 3) (Nat.le_of_ble_eq_true rfl)
  rw [lg_entry_eq]
  generalize (lg_sl ([.ref (q 0), .int (nI k), .int (nI w)]) ++ List.replicate (3 - (lg_sl ([.ref (q 0), .int (nI k), .int (nI w)])).length) Slot.unset).toArray = ls at hl ⊢
  have hl : lv_has ls 3 [(0, .ref (q 0)), (1, .int (nI k)), (2, .int (nI w))] := hl
  obtain ⟨bP, bN, bR, bO, bW, bL, bF⟩ := id hW
  have b1 := bW k
  refine lv_aload_n hx hb dX1_hangsFor_0 rfl (lv_at hl 0 rfl) ?_
  refine lv_iload_n hx hb dX1_hangsFor_1 rfl (lv_at hl 1 rfl) ?_
  refine o_VI (As := [.int (nI k)]) (rest := []) ⟨hx, hb, hml, hown, hts⟩ (kX1_hangs l G cy hW hP k hk) (cwV 1 hts gX1_hangsFor_X1_hangs rfl rfl rfl (by decide +kernel) ⟨Nat.le_of_ble_eq_true rfl, Nat.le_of_ble_eq_true rfl⟩) hK (va_recv hK hP (ci := 0) (q0 := 0) rfl rfl) rfl hl.1 rfl (Nat.le_of_ble_eq_true rfl) dX1_hangsFor_2 ⟨Nat.zero_le _, Nat.zero_le _⟩ ?_
  refine o_ifb_eq (tgt := 22) hx hb dX1_hangsFor_5 (by decide) (fun c5 => ?_) (fun c5 => ?_)
  · refine lv_iconst (v := nI 0) hx hb dX1_hangsFor_22 (by decide +kernel) ?_
    exact o_endZ hx hb hr hlocks dX1_hangsFor_23 (by decide) ((by rw [bI_f (by omega)]; decide))
  · refine lv_aload_n hx hb dX1_hangsFor_8 rfl (lv_at hl 0 rfl) ?_
    refine va_get (D := G) (ci := 0) (v := .ref (q 7)) (C := RX1) (T := TX1) (N := 13) hx hb hts iX1_hangsFor_X1 hown hK hP 0 rfl rfl 7 (by decide) (hts (.fieldLink RX1 18 "NailedOrders$Door" "words" "[I") (by decide +kernel)) (fun _ h9 => h9) rfl dX1_hangsFor_9 ?_
    refine lv_iload_n hx hb dX1_hangsFor_12 rfl (lv_at hl 1 rfl) ?_
    refine o_iald hx hb hK hP 3 0 rfl rfl k (by omega) (by decide) dX1_hangsFor_13 ?_
    refine lv_iload_n hx hb dX1_hangsFor_14 rfl (lv_at hl 2 rfl) ?_
    refine o_icmp_ne (tgt := 22) hx hb dX1_hangsFor_15 (by decide) (by omega) (by omega) (fun c15 => ?_) (fun c15 => ?_)
    · refine lv_iconst (v := nI 0) hx hb dX1_hangsFor_22 (by decide +kernel) ?_
      exact o_endZ hx hb hr hlocks dX1_hangsFor_23 (by decide) ((by rw [bI_f (by omega)]; decide))
    · refine lv_iconst (v := nI 1) hx hb dX1_hangsFor_18 (by decide +kernel) ?_
      refine lv_goto (tgt := 23) hx hb dX1_hangsFor_19 (by decide) ?_
      exact o_endZ hx hb hr hlocks dX1_hangsFor_23 (by decide) ((by rw [bI_t (by omega)]; decide))

set_option maxRecDepth 100000 in
theorem iX1_rankOf_X1 : ∀ w ∈ u_ws RX1 TX1 13, w ∈ wsX1_rankOf := by decide +kernel
set_option maxHeartbeats 4000000 in
set_option maxRecDepth 100000 in
theorem kX1_rankOf (l : Launch) (G : va_G) (cy : Nat → ClassId) {H0 : Heap} {q : Nat → Nat} {M : MT} (hW : WB M) (hP : va_P G vwCl (wDo cy q M) H0) (k : Nat) (hk : k < 40) : MetI l yX1_rankOf wsX1_rankOf 0 0 [.ref (q 0), .int (nI k)] H0 G cy (nI (mR M (mO M k))) := by
  refine Met.ofW (cc := cX1_rankOf) (maxL := 2) (ret := (some .int)) (by decide) rfl ?_
  intro p e s m args below meth c s₁ B hml hv
  obtain ⟨rfl, hH, hK⟩ := hv
  subst hH
  have hx := B.exec
  have hb := B.bytes
  have hr := B.returns
  have hts := atoms_spec (ws := wsX1_rankOf) B.pre
  have hown : s.vm.findClass RX1 = some m.cls := findClass_of_methodNamed B.named
  have hlocks := B.notSynchronized
  have hl := lv_entry ([.ref (q 0), .int (nI k)]) (n := 2) (Nat.le_of_ble_eq_true rfl)
  rw [lg_entry_eq]
  generalize (lg_sl ([.ref (q 0), .int (nI k)]) ++ List.replicate (2 - (lg_sl ([.ref (q 0), .int (nI k)])).length) Slot.unset).toArray = ls at hl ⊢
  have hl : lv_has ls 2 [(0, .ref (q 0)), (1, .int (nI k))] := hl
  obtain ⟨bP, bN, bR, bO, bW, bL, bF⟩ := id hW
  have b1 := bO k
  refine lv_aload_n hx hb dX1_rankOf_0 rfl (lv_at hl 0 rfl) ?_
  refine va_get (D := G) (ci := 0) (v := .ref (q 1)) (C := RX1) (T := TX1) (N := 13) hx hb hts iX1_rankOf_X1 hown hK hP 0 rfl rfl 1 (by decide) (hts (.fieldLink RX1 9 "NailedOrders$Door" "ranks" "[I") (by decide +kernel)) (fun _ h9 => h9) rfl dX1_rankOf_1 ?_
  refine lv_aload_n hx hb dX1_rankOf_4 rfl (lv_at hl 0 rfl) ?_
  refine va_get (D := G) (ci := 0) (v := .ref (q 6)) (C := RX1) (T := TX1) (N := 13) hx hb hts iX1_rankOf_X1 hown hK hP 0 rfl rfl 6 (by decide) (hts (.fieldLink RX1 15 "NailedOrders$Door" "owners" "[I") (by decide +kernel)) (fun _ h9 => h9) rfl dX1_rankOf_5 ?_
  refine lv_iload_n hx hb dX1_rankOf_8 rfl (lv_at hl 1 rfl) ?_
  refine o_iald hx hb hK hP 2 0 rfl rfl k (by omega) (by decide) dX1_rankOf_9 ?_
  refine o_iald hx hb hK hP 1 0 rfl rfl (mO M k) (by omega) (by decide) dX1_rankOf_10 ?_
  exact o_endI hx hb hr hlocks dX1_rankOf_11 rfl

set_option maxRecDepth 100000 in
theorem iX1_hundredthsOfStrength_X1 : ∀ w ∈ u_ws RX1 TX1 13, w ∈ wsX1_hundredthsOfStrength := by decide +kernel
set_option maxHeartbeats 4000000 in
set_option maxRecDepth 100000 in
theorem kX1_hundredthsOfStrength (l : Launch) (G : va_G) (cy : Nat → ClassId) {H0 : Heap} {q : Nat → Nat} {M : MT} (hW : WB M) (hP : va_P G vwCl (wDo cy q M) H0) (k : Nat) (hk : k < 40) (hn : vf_n32 (FP.fmul (mH M k) 1120403456)) : MetI l yX1_hundredthsOfStrength wsX1_hundredthsOfStrength 0 0 [.ref (q 0), .int (nI k)] H0 G cy (FP.f2i (FP.fmul (mH M k) 1120403456)) := by
  refine Met.ofW (cc := cX1_hundredthsOfStrength) (maxL := 2) (ret := (some .int)) (by decide) rfl ?_
  intro p e s m args below meth c s₁ B hml hv
  obtain ⟨rfl, hH, hK⟩ := hv
  subst hH
  have hx := B.exec
  have hb := B.bytes
  have hr := B.returns
  have hts := atoms_spec (ws := wsX1_hundredthsOfStrength) B.pre
  have hown : s.vm.findClass RX1 = some m.cls := findClass_of_methodNamed B.named
  have hlocks := B.notSynchronized
  have hl := lv_entry ([.ref (q 0), .int (nI k)]) (n := 2) (Nat.le_of_ble_eq_true rfl)
  rw [lg_entry_eq]
  generalize (lg_sl ([.ref (q 0), .int (nI k)]) ++ List.replicate (2 - (lg_sl ([.ref (q 0), .int (nI k)])).length) Slot.unset).toArray = ls at hl ⊢
  have hl : lv_has ls 2 [(0, .ref (q 0)), (1, .int (nI k))] := hl
  obtain ⟨bP, bN, bR, bO, bW, bL, bF⟩ := id hW
  refine lv_aload_n hx hb dX1_hundredthsOfStrength_0 rfl (lv_at hl 0 rfl) ?_
  refine va_get (D := G) (ci := 0) (v := .ref (q 11)) (C := RX1) (T := TX1) (N := 13) hx hb hts iX1_hundredthsOfStrength_X1 hown hK hP 0 rfl rfl 11 (by decide) (hts (.fieldLink RX1 31 "NailedOrders$Door" "strengths" "[F") (by decide +kernel)) (fun _ h9 => h9) rfl dX1_hundredthsOfStrength_1 ?_
  refine lv_iload_n hx hb dX1_hundredthsOfStrength_4 rfl (lv_at hl 1 rfl) ?_
  refine o_fald hx hb hK hP 7 1 rfl rfl k (by omega) (by decide) dX1_hundredthsOfStrength_5 ?_
  refine lv_ldcf hx hb hown (hts (.constantFloat RX1 68 (1120403456)) (by decide +kernel)) dX1_hundredthsOfStrength_6 ?_
  refine lv_fmul hx hb dX1_hundredthsOfStrength_8 hn ?_
  refine lv_f2i hx hb dX1_hundredthsOfStrength_9 ?_
  exact o_endI hx hb hr hlocks dX1_hundredthsOfStrength_10 rfl

set_option maxRecDepth 100000 in
theorem iX1_hangingBetween_X1 : ∀ w ∈ u_ws RX1 TX1 13, w ∈ wsX1_hangingBetween := by decide +kernel
set_option maxHeartbeats 4000000 in
set_option maxRecDepth 100000 in
theorem kX1_hangingBetween (l : Launch) (G : va_G) (cy : Nat → ClassId) {H0 : Heap} {q : Nat → Nat} {M : MT} (hW : WB M) (hP : va_P G vwCl (wDo cy q M) H0) (f j w : Nat) (hj : f + j ≤ 40) (hw : w < 16) : MetI l yX1_hangingBetween wsX1_hangingBetween 2 43 [.ref (q 0), .int (nI f), .int (nI (f + j)), .int (nI w)] H0 G cy (nI (cR (hfB M w) f j)) := by
  refine Met.ofW (cc := cX1_hangingBetween) (maxL := 6) (ret := (some .int)) (by decide) rfl ?_
  intro p e s m args below meth c s₁ B hml hv
  obtain ⟨rfl, hH, hK⟩ := hv
  subst hH
  have hx := B.exec
  have hb := B.bytes
  have hr := B.returns
  have hts := atoms_spec (ws := wsX1_hangingBetween) B.pre
  have hown : s.vm.findClass RX1 = some m.cls := findClass_of_methodNamed B.named
  have hlocks := B.notSynchronized
  have hl := lv_entry ([.ref (q 0), .int (nI f), .int (nI (f + j)), .int (nI w)]) (n := 6) (Nat.le_of_ble_eq_true rfl)
  rw [lg_entry_eq]
  generalize (lg_sl ([.ref (q 0), .int (nI f), .int (nI (f + j)), .int (nI w)]) ++ List.replicate (6 - (lg_sl ([.ref (q 0), .int (nI f), .int (nI (f + j)), .int (nI w)])).length) Slot.unset).toArray = ls at hl ⊢
  have hl : lv_has ls 6 [(0, .ref (q 0)), (1, .int (nI f)), (2, .int (nI (f + j))), (3, .int (nI w))] := hl
  obtain ⟨bP, bN, bR, bO, bW, bL, bF⟩ := id hW
  refine lv_iconst (v := nI 0) hx hb dX1_hangingBetween_0 (by decide +kernel) ?_
  refine lv_istore (lv' := [(4, .int (nI 0)), (0, .ref (q 0)), (1, .int (nI f)), (2, .int (nI (f + j))), (3, .int (nI w))]) hx hb dX1_hangingBetween_1 hl (by decide) rfl (fun ls hl => ?_)
  refine lv_iload_n hx hb dX1_hangingBetween_3 rfl (lv_at hl 2 rfl) ?_
  refine lv_istore (lv' := [(5, .int (nI f)), (4, .int (nI 0)), (0, .ref (q 0)), (1, .int (nI f)), (2, .int (nI (f + j))), (3, .int (nI w))]) hx hb dX1_hangingBetween_4 hl (by decide) rfl (fun ls hl => ?_)
  refine o_loop (σ := Nat) (fun (i : Nat) => i ≤ j) (fun (i : Nat) => [(4, .int (nI (cR (hfB M w) f i))), (5, .int (nI (f + i))), (0, .ref (q 0)), (1, .int (nI f)), (2, .int (nI (f + j))), (3, .int (nI w))]) (fun (i : Nat) => j - i) 0 (Nat.zero_le _) (lv_sub hl [1, 0, 2, 3, 4, 5] rfl) ?_
  rintro i ls h1 hl ih6
  have hl : lv_has ls 6 [(4, .int (nI (cR (hfB M w) f i))), (5, .int (nI (f + i))), (0, .ref (q 0)), (1, .int (nI f)), (2, .int (nI (f + j))), (3, .int (nI w))] := hl
  refine lv_iload hx hb dX1_hangingBetween_6 (lv_at hl 1 rfl) ?_
  refine lv_iload_n hx hb dX1_hangingBetween_8 rfl (lv_at hl 4 rfl) ?_
  refine o_icmp_ge (tgt := 31) hx hb dX1_hangingBetween_9 (by decide) (by omega) (by omega) (fun c9 => ?_) (fun c9 => ?_)
  · obtain rfl : i = j := by omega
    refine lv_iload hx hb dX1_hangingBetween_31 (lv_at hl 0 rfl) ?_
    exact o_endI hx hb hr hlocks dX1_hangingBetween_33 rfl
  · refine lv_aload_n hx hb dX1_hangingBetween_12 rfl (lv_at hl 2 rfl) ?_
    refine lv_iload hx hb dX1_hangingBetween_13 (lv_at hl 1 rfl) ?_
    refine lv_iload_n hx hb dX1_hangingBetween_15 rfl (lv_at hl 5 rfl) ?_
    refine o_VI (As := [.int (nI (f + i)), .int (nI w)]) (rest := []) ⟨hx, hb, hml, hown, hts⟩ (kX1_hangsFor l G cy hW hP (f + i) w (by omega) hw) (cwV 2 hts gX1_hangingBetween_X1_hangsFor rfl rfl rfl (by decide +kernel) ⟨Nat.le_of_ble_eq_true rfl, Nat.le_of_ble_eq_true rfl⟩) hK (va_recv hK hP (ci := 0) (q0 := 0) rfl rfl) rfl hl.1 rfl (Nat.le_of_ble_eq_true rfl) dX1_hangingBetween_16 ⟨Nat.zero_le _, Nat.zero_le _⟩ ?_
    refine o_ifb_eq (tgt := 25) hx hb dX1_hangingBetween_19 (by decide) (fun c19 => ?_) (fun c19 => ?_)
    · refine lv_iinc (v := nI (f + i + 1)) (lv' := [(5, .int (nI (f + i + 1))), (4, .int (nI (cR (hfB M w) f i))), (0, .ref (q 0)), (1, .int (nI f)), (2, .int (nI (f + j))), (3, .int (nI w))]) hx hb dX1_hangingBetween_25 hl (k := 1) rfl (nI_1 (f + i)) (by decide) rfl (fun ls hl => ?_)
      refine lv_goto (tgt := 6) hx hb dX1_hangingBetween_28 (by decide) ?_
      refine ih6 (i + 1) ls ?_ ?_ ?_
      · omega
      · show lv_has ls 6 [(4, .int (nI (cR (hfB M w) f (i + 1)))), (5, .int (nI (f + (i + 1)))), (0, .ref (q 0)), (1, .int (nI f)), (2, .int (nI (f + j))), (3, .int (nI w))]
        rw [cR_f (p := hfB M w) (f := f) (j := i) (fun z => c19 (hfB_iff.mp z))]
        exact lv_sub hl [1, 0, 2, 3, 4, 5] rfl
      · omega
    · refine lv_iinc (v := nI (cR (hfB M w) f i + 1)) (lv' := [(4, .int (nI (cR (hfB M w) f i + 1))), (5, .int (nI (f + i))), (0, .ref (q 0)), (1, .int (nI f)), (2, .int (nI (f + j))), (3, .int (nI w))]) hx hb dX1_hangingBetween_22 hl (k := 0) rfl (nI_1 (cR (hfB M w) f i)) (by decide) rfl (fun ls hl => ?_)
      refine lv_iinc (v := nI (f + i + 1)) (lv' := [(5, .int (nI (f + i + 1))), (4, .int (nI (cR (hfB M w) f i + 1))), (0, .ref (q 0)), (1, .int (nI f)), (2, .int (nI (f + j))), (3, .int (nI w))]) hx hb dX1_hangingBetween_25 hl (k := 1) rfl (nI_1 (f + i)) (by decide) rfl (fun ls hl => ?_)
      refine lv_goto (tgt := 6) hx hb dX1_hangingBetween_28 (by decide) ?_
      refine ih6 (i + 1) ls ?_ ?_ ?_
      · omega
      · show lv_has ls 6 [(4, .int (nI (cR (hfB M w) f (i + 1)))), (5, .int (nI (f + (i + 1)))), (0, .ref (q 0)), (1, .int (nI f)), (2, .int (nI (f + j))), (3, .int (nI w))]
        rw [cR_t (p := hfB M w) (f := f) (j := i) (hfB_iff.mpr c19)]
        exact lv_sub hl [1, 0, 2, 3, 4, 5] rfl
      · omega
