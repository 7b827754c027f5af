set_option maxRecDepth 100000 in
theorem iX1_isPerson_X1 : ∀ w ∈ u_ws RX1 TX1 13, w ∈ wsX1_isPerson := by decide +kernel
set_option maxHeartbeats 4000000 in
set_option maxRecDepth 100000 in
theorem kX1_isPerson (l : Launch) (G : va_G) (cy : Nat → ClassId) {H0 : Heap} {q : Nat → Nat} {M : MT} (hW : WB M) (hP : va_P G vwCl (wDo cy q M) H0) (k : Nat) (hk : k < 2 ^ 31) : MetI l yX1_isPerson wsX1_isPerson 0 0 [.ref (q 0), .int (nI k)] H0 G cy (bI (k < mP M)) := by
  refine Met.ofW (cc := cX1_isPerson) (maxL := 2) (ret := (some .boolean)) (by decide) rfl ?_
  intro p e s m args below meth c s₁ B hml hv
  obtain ⟨rfl, hH, hK⟩ := hv
  subst hH
  have hx := B.exec
  have hb := B.bytes
  have hr := B.returns
  have hts := atoms_spec (ws := wsX1_isPerson) B.pre
  have hown : s.vm.findClass RX1 = some m.cls := findClass_of_methodNamed B.named
  have hlocks := B.notSynchronized
  have hl := lv_entry ([.ref (q 0), .int (nI k)]) (n := 2) (Nat.le_of_ble_eq_true rfl)
  rw [lg_entry_eq]
  generalize (lg_sl ([.ref (q 0), .int (nI k)]) ++ List.replicate (2 - (lg_sl ([.ref (q 0), .int (nI k)])).length) Slot.unset).toArray = ls at hl ⊢
  have hl : lv_has ls 2 [(0, .ref (q 0)), (1, .int (nI k))] := hl
  obtain ⟨bP, bN, bR, bO, bW, bL, bF⟩ := id hW
  refine lv_iload_n hx hb dX1_isPerson_0 rfl (lv_at hl 1 rfl) ?_
  refine o_if_lt (tgt := 16) hx hb dX1_isPerson_1 (by decide) (by omega) ?_
  refine lv_iload_n hx hb dX1_isPerson_4 rfl (lv_at hl 1 rfl) ?_
  refine lv_aload_n hx hb dX1_isPerson_5 rfl (lv_at hl 0 rfl) ?_
  refine va_get (D := G) (ci := 0) (v := .int (nI (mP M))) (C := RX1) (T := TX1) (N := 13) hx hb hts iX1_isPerson_X1 hown hK hP 0 rfl rfl 0 (by decide) (hts (.fieldLink RX1 37 "NailedOrders$Door" "persons" "I") (by decide +kernel)) (fun _ h9 => h9) rfl dX1_isPerson_6 ?_
  refine o_icmp_ge (tgt := 16) hx hb dX1_isPerson_9 (by decide) (by omega) (by omega) (fun c9 => ?_) (fun c9 => ?_)
  · refine lv_iconst (v := nI 0) hx hb dX1_isPerson_16 (by decide +kernel) ?_
    exact o_endZ hx hb hr hlocks dX1_isPerson_17 (by decide) ((by rw [bI_f (by omega)]; decide))
  · refine lv_iconst (v := nI 1) hx hb dX1_isPerson_12 (by decide +kernel) ?_
    refine lv_goto (tgt := 17) hx hb dX1_isPerson_13 (by decide) ?_
    exact o_endZ hx hb hr hlocks dX1_isPerson_17 (by decide) ((by rw [bI_t (by omega)]; decide))

set_option maxRecDepth 100000 in
theorem iX1_isOrder_X1 : ∀ w ∈ u_ws RX1 TX1 13, w ∈ wsX1_isOrder := by decide +kernel
set_option maxHeartbeats 4000000 in
set_option maxRecDepth 100000 in
theorem kX1_isOrder (l : Launch) (G : va_G) (cy : Nat → ClassId) {H0 : Heap} {q : Nat → Nat} {M : MT} (hW : WB M) (hP : va_P G vwCl (wDo cy q M) H0) (k : Nat) (hk : k < 2 ^ 31) : MetI l yX1_isOrder wsX1_isOrder 0 0 [.ref (q 0), .int (nI k)] H0 G cy (bI (k < mN M)) := by
  refine Met.ofW (cc := cX1_isOrder) (maxL := 2) (ret := (some .boolean)) (by decide) rfl ?_
  intro p e s m args below meth c s₁ B hml hv
  obtain ⟨rfl, hH, hK⟩ := hv
  subst hH
  have hx := B.exec
  have hb := B.bytes
  have hr := B.returns
  have hts := atoms_spec (ws := wsX1_isOrder) B.pre
  have hown : s.vm.findClass RX1 = some m.cls := findClass_of_methodNamed B.named
  have hlocks := B.notSynchronized
  have hl := lv_entry ([.ref (q 0), .int (nI k)]) (n := 2) (Nat.le_of_ble_eq_true rfl)
  rw [lg_entry_eq]
  generalize (lg_sl ([.ref (q 0), .int (nI k)]) ++ List.replicate (2 - (lg_sl ([.ref (q 0), .int (nI k)])).length) Slot.unset).toArray = ls at hl ⊢
  have hl : lv_has ls 2 [(0, .ref (q 0)), (1, .int (nI k))] := hl
  obtain ⟨bP, bN, bR, bO, bW, bL, bF⟩ := id hW
  refine lv_iload_n hx hb dX1_isOrder_0 rfl (lv_at hl 1 rfl) ?_
  refine o_if_lt (tgt := 16) hx hb dX1_isOrder_1 (by decide) (by omega) ?_
  refine lv_iload_n hx hb dX1_isOrder_4 rfl (lv_at hl 1 rfl) ?_
  refine lv_aload_n hx hb dX1_isOrder_5 rfl (lv_at hl 0 rfl) ?_
  refine va_get (D := G) (ci := 0) (v := .int (nI (mN M))) (C := RX1) (T := TX1) (N := 13) hx hb hts iX1_isOrder_X1 hown hK hP 0 rfl rfl 5 (by decide) (hts (.fieldLink RX1 51 "NailedOrders$Door" "orders" "I") (by decide +kernel)) (fun _ h9 => h9) rfl dX1_isOrder_6 ?_
  refine o_icmp_ge (tgt := 16) hx hb dX1_isOrder_9 (by decide) (by omega) (by omega) (fun c9 => ?_) (fun c9 => ?_)
  · refine lv_iconst (v := nI 0) hx hb dX1_isOrder_16 (by decide +kernel) ?_
    exact o_endZ hx hb hr hlocks dX1_isOrder_17 (by decide) ((by rw [bI_f (by omega)]; decide))
  · refine lv_iconst (v := nI 1) hx hb dX1_isOrder_12 (by decide +kernel) ?_
    refine lv_goto (tgt := 17) hx hb dX1_isOrder_13 (by decide) ?_
    exact o_endZ hx hb hr hlocks dX1_isOrder_17 (by decide) ((by rw [bI_t (by omega)]; decide))

set_option maxRecDepth 100000 in
theorem iX1_hangs_X1 : ∀ w ∈ u_ws RX1 TX1 13, w ∈ wsX1_hangs := by decide +kernel
set_option maxHeartbeats 4000000 in
set_option maxRecDepth 100000 in
theorem kX1_hangs (l : Launch) (G : va_G) (cy : Nat → ClassId) {H0 : Heap} {q : Nat → Nat} {M : MT} (hW : WB M) (hP : va_P G vwCl (wDo cy q M) H0) (k : Nat) (hk : k < 40) : MetI l yX1_hangs wsX1_hangs 0 0 [.ref (q 0), .int (nI k)] H0 G cy (bI (mF M k = 1)) := by
  refine Met.ofW (cc := cX1_hangs) (maxL := 2) (ret := (some .boolean)) (by decide) rfl ?_
  intro p e s m args below meth c s₁ B hml hv
  obtain ⟨rfl, hH, hK⟩ := hv
  subst hH
  have hx := B.exec
  have hb := B.bytes
  have hr := B.returns
  have hts := atoms_spec (ws := wsX1_hangs) B.pre
  have hown : s.vm.findClass RX1 = some m.cls := findClass_of_methodNamed B.named
  have hlocks := B.notSynchronized
  have hl := lv_entry ([.ref (q 0), .int (nI k)]) (n := 2) (Nat.le_of_ble_eq_true rfl)
  rw [lg_entry_eq]
  generalize (lg_sl ([.ref (q 0), .int (nI k)]) ++ List.replicate (2 - (lg_sl ([.ref (q 0), .int (nI k)])).length) Slot.unset).toArray = ls at hl ⊢
  have hl : lv_has ls 2 [(0, .ref (q 0)), (1, .int (nI k))] := hl
  obtain ⟨bP, bN, bR, bO, bW, bL, bF⟩ := id hW
  have b1 := bF k
  refine lv_aload_n hx hb dX1_hangs_0 rfl (lv_at hl 0 rfl) ?_
  refine va_get (D := G) (ci := 0) (v := .ref (q 12)) (C := RX1) (T := TX1) (N := 13) hx hb hts iX1_hangs_X1 hown hK hP 0 rfl rfl 12 (by decide) (hts (.fieldLink RX1 34 "NailedOrders$Door" "fates" "[I") (by decide +kernel)) (fun _ h9 => h9) rfl dX1_hangs_1 ?_
  refine lv_iload_n hx hb dX1_hangs_4 rfl (lv_at hl 1 rfl) ?_
  refine o_iald hx hb hK hP 8 0 rfl rfl k (by omega) (by decide) dX1_hangs_5 ?_
  refine lv_iconst (v := nI 1) hx hb dX1_hangs_6 (by decide +kernel) ?_
  refine o_icmp_ne (tgt := 14) hx hb dX1_hangs_7 (by decide) (by omega) (by omega) (fun c7 => ?_) (fun c7 => ?_)
  · refine lv_iconst (v := nI 0) hx hb dX1_hangs_14 (by decide +kernel) ?_
    exact o_endZ hx hb hr hlocks dX1_hangs_15 (by decide) ((by rw [bI_f (by omega)]; decide))
  · refine lv_iconst (v := nI 1) hx hb dX1_hangs_10 (by decide +kernel) ?_
    refine lv_goto (tgt := 15) hx hb dX1_hangs_11 (by decide) ?_
    exact o_endZ hx hb hr hlocks dX1_hangs_15 (by decide) ((by rw [bI_t (by omega)]; decide))

set_option maxRecDepth 100000 in
theorem iX1_hangsFor_X1 : ∀ w ∈ u_ws RX1 TX1 13, w ∈ wsX1_hangsFor := by decide +kernel
set_option maxHeartbeats 4000000 in
set_option maxRecDepth 100000 in
theorem kX1_hangsFor (l : Launch) (G : va_G) (cy : Nat → ClassId) {H0 : Heap} {q : Nat → Nat} {M : MT} (hW : WB M) (hP : va_P G vwCl (wDo cy q M) H0) (k w : Nat) (hk : k < 40) (hw : w < 16) : MetI l yX1_hangsFor wsX1_hangsFor 1 21 [.ref (q 0), .int (nI k), .int (nI w)] H0 G cy (bI (mF M k = 1 ∧ mW M k = w)) := by
  refine Met.ofW (cc := cX1_hangsFor) (maxL := 3) (ret := (some .boolean)) (by decide) rfl ?_
  intro p e s m args below meth c s₁ B hml hv
  obtain ⟨rfl, hH, hK⟩ := hv
  subst hH
  have hx := B.exec
  have hb := B.bytes
  have hr := B.returns
  have hts := atoms_spec (ws := wsX1_hangsFor) B.pre
  have hown : s.vm.findClass RX1 = some m.cls := findClass_of_methodNamed B.named
  have hlocks := B.notSynchronized
  have hl := lv_entry ([.ref (q 0), .int (nI k), .int (nI w)]) (n := 3) (Nat.le_of_ble_eq_true rfl)
  rw [lg_entry_eq]
  generalize (lg_sl ([.ref (q 0), .int (nI k), .int (nI w)]) ++ List.replicate (3 - (lg_sl ([.ref (q 0), .int (nI k), .int (nI w)])).length) Slot.unset).toArray = ls at hl ⊢
  have hl : lv_has ls 3 [(0, .ref (q 0)), (1, .int (nI k)), (2, .int (nI w))] := hl
  obtain ⟨bP, bN, bR, bO, bW, bL, bF⟩ := id hW
  have b1 := bW k
  refine lv_aload_n hx hb dX1_hangsFor_0 rfl (lv_at hl 0 rfl) ?_
  refine lv_iload_n hx hb dX1_hangsFor_1 rfl (lv_at hl 1 rfl) ?_
  refine o_VI (As := [.int (nI k)]) (rest := []) ⟨hx, hb, hml, hown, hts⟩ (kX1_hangs l G cy hW hP k hk) (cwV 1 hts gX1_hangsFor_X1_hangs rfl rfl rfl (by decide +kernel) ⟨Nat.le_of_ble_eq_true rfl, Nat.le_of_ble_eq_true rfl⟩) hK (va_recv hK hP (ci := 0) (q0 := 0) rfl rfl) rfl hl.1 rfl (Nat.le_of_ble_eq_true rfl) dX1_hangsFor_2 ⟨Nat.zero_le _, Nat.zero_le _⟩ ?_
  refine o_ifb_eq (tgt := 22) hx hb dX1_hangsFor_5 (by decide) (fun c5 => ?_) (fun c5 => ?_)
  · refine lv_iconst (v := nI 0) hx hb dX1_hangsFor_22 (by decide +kernel) ?_
    exact o_endZ hx hb hr hlocks dX1_hangsFor_23 (by decide) ((by rw [bI_f (by omega)]; decide))
  · refine lv_aload_n hx hb dX1_hangsFor_8 rfl (lv_at hl 0 rfl) ?_
    refine va_get (D := G) (ci := 0) (v := .ref (q 7)) (C := RX1) (T := TX1) (N := 13) hx hb hts iX1_hangsFor_X1 hown hK hP 0 rfl rfl 7 (by decide) (hts (.fieldLink RX1 18 "NailedOrders$Door" "words" "[I") (by decide +kernel)) (fun _ h9 => h9) rfl dX1_hangsFor_9 ?_
    refine lv_iload_n hx hb dX1_hangsFor_12 rfl (lv_at hl 1 rfl) ?_
    refine o_iald hx hb hK hP 3 0 rfl rfl k (by omega) (by decide) dX1_hangsFor_13 ?_
    refine lv_iload_n hx hb dX1_hangsFor_14 rfl (lv_at hl 2 rfl) ?_
    refine o_icmp_ne (tgt := 22) hx hb dX1_hangsFor_15 (by decide) (by omega) (by omega) (fun c15 => ?_) (fun c15 => ?_)
    · refine lv_iconst (v := nI 0) hx hb dX1_hangsFor_22 (by decide +kernel) ?_
      exact o_endZ hx hb hr hlocks dX1_hangsFor_23 (by decide) ((by rw [bI_f (by omega)]; decide))
    · refine lv_iconst (v := nI 1) hx hb dX1_hangsFor_18 (by decide +kernel) ?_
      refine lv_goto (tgt := 23) hx hb dX1_hangsFor_19 (by decide) ?_
      exact o_endZ hx hb hr hlocks dX1_hangsFor_23 (by decide) ((by rw [bI_t (by omega)]; decide))

set_option maxRecDepth 100000 in
theorem iX1_rankOf_X1 : ∀ w ∈ u_ws RX1 TX1 13, w ∈ wsX1_rankOf := by decide +kernel
set_option maxHeartbeats 4000000 in
set_option maxRecDepth 100000 in
theorem kX1_rankOf (l : Launch) (G : va_G) (cy : Nat → ClassId) {H0 : Heap} {q : Nat → Nat} {M : MT} (hW : WB M) (hP : va_P G vwCl (wDo cy q M) H0) (k : Nat) (hk : k < 40) : MetI l yX1_rankOf wsX1_rankOf 0 0 [.ref (q 0), .int (nI k)] H0 G cy (nI (mR M (mO M k))) := by
  refine Met.ofW (cc := cX1_rankOf) (maxL := 2) (ret := (some .int)) (by decide) rfl ?_
  intro p e s m args below meth c s₁ B hml hv
  obtain ⟨rfl, hH, hK⟩ := hv
  subst hH
  have hx := B.exec
  have hb := B.bytes
  have hr := B.returns
  have hts := atoms_spec (ws := wsX1_rankOf) B.pre
  have hown : s.vm.findClass RX1 = some m.cls := findClass_of_methodNamed B.named
  have hlocks := B.notSynchronized
  have hl := lv_entry ([.ref (q 0), .int (nI k)]) (n := 2) (Nat.le_of_ble_eq_true rfl)
  rw [lg_entry_eq]
  generalize (lg_sl ([.ref (q 0), .int (nI k)]) ++ List.replicate (2 - (lg_sl ([.ref (q 0), .int (nI k)])).length) Slot.unset).toArray = ls at hl ⊢
  have hl : lv_has ls 2 [(0, .ref (q 0)), (1, .int (nI k))] := hl
  obtain ⟨bP, bN, bR, bO, bW, bL, bF⟩ := id hW
  have b1 := bO k
  refine lv_aload_n hx hb dX1_rankOf_0 rfl (lv_at hl 0 rfl) ?_
  refine va_get (D := G) (ci := 0) (v := .ref (q 1)) (C := RX1) (T := TX1) (N := 13) hx hb hts iX1_rankOf_X1 hown hK hP 0 rfl rfl 1 (by decide) (hts (.fieldLink RX1 9 "NailedOrders$Door" "ranks" "[I") (by decide +kernel)) (fun _ h9 => h9) rfl dX1_rankOf_1 ?_
  refine lv_aload_n hx hb dX1_rankOf_4 rfl (lv_at hl 0 rfl) ?_
  refine va_get (D := G) (ci := 0) (v := .ref (q 6)) (C := RX1) (T := TX1) (N := 13) hx hb hts iX1_rankOf_X1 hown hK hP 0 rfl rfl 6 (by decide) (hts (.fieldLink RX1 15 "NailedOrders$Door" "owners" "[I") (by decide +kernel)) (fun _ h9 => h9) rfl dX1_rankOf_5 ?_
  refine lv_iload_n hx hb dX1_rankOf_8 rfl (lv_at hl 1 rfl) ?_
  refine o_iald hx hb hK hP 2 0 rfl rfl k (by omega) (by decide) dX1_rankOf_9 ?_
  refine o_iald hx hb hK hP 1 0 rfl rfl (mO M k) (by omega) (by decide) dX1_rankOf_10 ?_
  exact o_endI hx hb hr hlocks dX1_rankOf_11 rfl

set_option maxRecDepth 100000 in
theorem iX1_hundredthsOfStrength_X1 : ∀ w ∈ u_ws RX1 TX1 13, w ∈ wsX1_hundredthsOfStrength := by decide +kernel
set_option maxHeartbeats 4000000 in
set_option maxRecDepth 100000 in
theorem kX1_hundredthsOfStrength (l : Launch) (G : va_G) (cy : Nat → ClassId) {H0 : Heap} {q : Nat → Nat} {M : MT} (hW : WB M) (hP : va_P G vwCl (wDo cy q M) H0) (k : Nat) (hk : k < 40) (hn : vf_n32 (FP.fmul (mH M k) 1120403456)) : MetI l yX1_hundredthsOfStrength wsX1_hundredthsOfStrength 0 0 [.ref (q 0), .int (nI k)] H0 G cy (FP.f2i (FP.fmul (mH M k) 1120403456)) := by
  refine Met.ofW (cc := cX1_hundredthsOfStrength) (maxL := 2) (ret := (some .int)) (by decide) rfl ?_
  intro p e s m args below meth c s₁ B hml hv
  obtain ⟨rfl, hH, hK⟩ := hv
  subst hH
  have hx := B.exec
  have hb := B.bytes
  have hr := B.returns
  have hts := atoms_spec (ws := wsX1_hundredthsOfStrength) B.pre
  have hown : s.vm.findClass RX1 = some m.cls := findClass_of_methodNamed B.named
  have hlocks := B.notSynchronized
  have hl := lv_entry ([.ref (q 0), .int (nI k)]) (n := 2) (Nat.le_of_ble_eq_true rfl)
  rw [lg_entry_eq]
  generalize (lg_sl ([.ref (q 0), .int (nI k)]) ++ List.replicate (2 - (lg_sl ([.ref (q 0), .int (nI k)])).length) Slot.unset).toArray = ls at hl ⊢
  have hl : lv_has ls 2 [(0, .ref (q 0)), (1, .int (nI k))] := hl
  obtain ⟨bP, bN, bR, bO, bW, bL, bF⟩ := id hW
  refine lv_aload_n hx hb dX1_hundredthsOfStrength_0 rfl (lv_at hl 0 rfl) ?_
  refine va_get (D := G) (ci := 0) (v := .ref (q 11)) (C := RX1) (T := TX1) (N := 13) hx hb hts iX1_hundredthsOfStrength_X1 hown hK hP 0 rfl rfl 11 (by decide) (hts (.fieldLink RX1 31 "NailedOrders$Door" "strengths" "[F") (by decide +kernel)) (fun _ h9 => h9) rfl dX1_hundredthsOfStrength_1 ?_
  refine lv_iload_n hx hb dX1_hundredthsOfStrength_4 rfl (lv_at hl 1 rfl) ?_
  refine o_fald hx hb hK hP 7 1 rfl rfl k (by omega) (by decide) dX1_hundredthsOfStrength_5 ?_
  refine lv_ldcf hx hb hown (hts (.constantFloat RX1 68 (1120403456)) (by decide +kernel)) dX1_hundredthsOfStrength_6 ?_
  refine lv_fmul hx hb dX1_hundredthsOfStrength_8 hn ?_
  refine lv_f2i hx hb dX1_hundredthsOfStrength_9 ?_
  exact o_endI hx hb hr hlocks dX1_hundredthsOfStrength_10 rfl

set_option maxRecDepth 100000 in
theorem iX1_hangingBetween_X1 : ∀ w ∈ u_ws RX1 TX1 13, w ∈ wsX1_hangingBetween := by decide +kernel
set_option maxHeartbeats 4000000 in
set_option maxRecDepth 100000 in
theorem kX1_hangingBetween (l : Launch) (G : va_G) (cy : Nat → ClassId) {H0 : Heap} {q : Nat → Nat} {M : MT} (hW : WB M) (hP : va_P G vwCl (wDo cy q M) H0) (f j w : Nat) (hj : f + j ≤ 40) (hw : w < 16) : MetI l yX1_hangingBetween wsX1_hangingBetween 2 43 [.ref (q 0), .int (nI f), .int (nI (f + j)), .int (nI w)] H0 G cy (nI (cR (hfB M w) f j)) := by
  refine Met.ofW (cc := cX1_hangingBetween) (maxL := 6) (ret := (some .int)) (by decide) rfl ?_
  intro p e s m args below meth c s₁ B hml hv
  obtain ⟨rfl, hH, hK⟩ := hv
  subst hH
  have hx := B.exec
  have hb := B.bytes
  have hr := B.returns
  have hts := atoms_spec (ws := wsX1_hangingBetween) B.pre
  have hown : s.vm.findClass RX1 = some m.cls := findClass_of_methodNamed B.named
  have hlocks := B.notSynchronized
  have hl := lv_entry ([.ref (q 0), .int (nI f), .int (nI (f + j)), .int (nI w)]) (n := 6) (Nat.le_of_ble_eq_true rfl)
  rw [lg_entry_eq]
  generalize (lg_sl ([.ref (q 0), .int (nI f), .int (nI (f + j)), .int (nI w)]) ++ List.replicate (6 - (lg_sl ([.ref (q 0), .int (nI f), .int (nI (f + j)), .int (nI w)])).length) Slot.unset).toArray = ls at hl ⊢
  have hl : lv_has ls 6 [(0, .ref (q 0)), (1, .int (nI f)), (2, .int (nI (f + j))), (3, .int (nI w))] := hl
  obtain ⟨bP, bN, bR, bO, bW, bL, bF⟩ := id hW
  refine lv_iconst (v := nI 0) hx hb dX1_hangingBetween_0 (by decide +kernel) ?_
  refine lv_istore (lv' := [(4, .int (nI 0)), (0, .ref (q 0)), (1, .int (nI f)), (2, .int (nI (f + j))), (3, .int (nI w))]) hx hb dX1_hangingBetween_1 hl (by decide) rfl (fun ls hl => ?_)
  refine lv_iload_n hx hb dX1_hangingBetween_3 rfl (lv_at hl 2 rfl) ?_
  refine lv_istore (lv' := [(5, .int (nI f)), (4, .int (nI 0)), (0, .ref (q 0)), (1, .int (nI f)), (2, .int (nI (f + j))), (3, .int (nI w))]) hx hb dX1_hangingBetween_4 hl (by decide) rfl (fun ls hl => ?_)
  refine o_loop (σ := Nat) (fun (i : Nat) => i ≤ j) (fun (i : Nat) => [(4, .int (nI (cR (hfB M w) f i))), (5, .int (nI (f + i))), (0, .ref (q 0)), (1, .int (nI f)), (2, .int (nI (f + j))), (3, .int (nI w))]) (fun (i : Nat) => j - i) 0 (Nat.zero_le _) (lv_sub hl [1, 0, 2, 3, 4, 5] rfl) ?_
  rintro i ls h1 hl ih6
  have hl : lv_has ls 6 [(4, .int (nI (cR (hfB M w) f i))), (5, .int (nI (f + i))), (0, .ref (q 0)), (1, .int (nI f)), (2, .int (nI (f + j))), (3, .int (nI w))] := hl
  refine lv_iload hx hb dX1_hangingBetween_6 (lv_at hl 1 rfl) ?_
  refine lv_iload_n hx hb dX1_hangingBetween_8 rfl (lv_at hl 4 rfl) ?_
  refine o_icmp_ge (tgt := 31) hx hb dX1_hangingBetween_9 (by decide) (by omega) (by omega) (fun c9 => ?_) (fun c9 => ?_)
  · obtain rfl : i = j := by omega
    refine lv_iload hx hb dX1_hangingBetween_31 (lv_at hl 0 rfl) ?_
    exact o_endI hx hb hr hlocks dX1_hangingBetween_33 rfl
  · refine lv_aload_n hx hb dX1_hangingBetween_12 rfl (lv_at hl 2 rfl) ?_
    refine lv_iload hx hb dX1_hangingBetween_13 (lv_at hl 1 rfl) ?_
    refine lv_iload_n hx hb dX1_hangingBetween_15 rfl (lv_at hl 5 rfl) ?_
    refine o_VI (As := [.int (nI (f + i)), .int (nI w)]) (rest := []) ⟨hx, hb, hml, hown, hts⟩ (kX1_hangsFor l G cy hW hP (f + i) w (by omega) hw) (cwV 2 hts gX1_hangingBetween_X1_hangsFor rfl rfl rfl (by decide +kernel) ⟨Nat.le_of_ble_eq_true rfl, Nat.le_of_ble_eq_true rfl⟩) hK (va_recv hK hP (ci := 0) (q0 := 0) rfl rfl) rfl hl.1 rfl (Nat.le_of_ble_eq_true rfl) dX1_hangingBetween_16 ⟨Nat.zero_le _, Nat.zero_le _⟩ ?_
    refine o_ifb_eq (tgt := 25) hx hb dX1_hangingBetween_19 (by decide) (fun c19 => ?_) (fun c19 => ?_)
    · refine lv_iinc (v := nI (f + i + 1)) (lv' := [(5, .int (nI (f + i + 1))), (4, .int (nI (cR (hfB M w) f i))), (0, .ref (q 0)), (1, .int (nI f)), (2, .int (nI (f + j))), (3, .int (nI w))]) hx hb dX1_hangingBetween_25 hl (k := 1) rfl (nI_1 (f + i)) (by decide) rfl (fun ls hl => ?_)
      refine lv_goto (tgt := 6) hx hb dX1_hangingBetween_28 (by decide) ?_
      refine ih6 (i + 1) ls ?_ ?_ ?_
      · omega
      · show lv_has ls 6 [(4, .int (nI (cR (hfB M w) f (i + 1)))), (5, .int (nI (f + (i + 1)))), (0, .ref (q 0)), (1, .int (nI f)), (2, .int (nI (f + j))), (3, .int (nI w))]
        rw [cR_f (p := hfB M w) (f := f) (j := i) (fun z => c19 (hfB_iff.mp z))]
        exact lv_sub hl [1, 0, 2, 3, 4, 5] rfl
      · omega
    · refine lv_iinc (v := nI (cR (hfB M w) f i + 1)) (lv' := [(4, .int (nI (cR (hfB M w) f i + 1))), (5, .int (nI (f + i))), (0, .ref (q 0)), (1, .int (nI f)), (2, .int (nI (f + j))), (3, .int (nI w))]) hx hb dX1_hangingBetween_22 hl (k := 0) rfl (nI_1 (cR (hfB M w) f i)) (by decide) rfl (fun ls hl => ?_)
      refine lv_iinc (v := nI (f + i + 1)) (lv' := [(5, .int (nI (f + i + 1))), (4, .int (nI (cR (hfB M w) f i + 1))), (0, .ref (q 0)), (1, .int (nI f)), (2, .int (nI (f + j))), (3, .int (nI w))]) hx hb dX1_hangingBetween_25 hl (k := 1) rfl (nI_1 (f + i)) (by decide) rfl (fun ls hl => ?_)
      refine lv_goto (tgt := 6) hx hb dX1_hangingBetween_28 (by decide) ?_
      refine ih6 (i + 1) ls ?_ ?_ ?_
      · omega
      · show lv_has ls 6 [(4, .int (nI (cR (hfB M w) f (i + 1)))), (5, .int (nI (f + (i + 1)))), (0, .ref (q 0)), (1, .int (nI f)), (2, .int (nI (f + j))), (3, .int (nI w))]
        rw [cR_t (p := hfB M w) (f := f) (j := i) (hfB_iff.mpr c19)]
        exact lv_sub hl [1, 0, 2, 3, 4, 5] rfl
      · omega
theorem kX1_hB (l : Launch) (G : va_G) (cy : Nat → ClassId) {H0 : Heap} {q : Nat → Nat} {M : MT} (hW : WB M) (hP : va_P G vwCl (wDo cy q M) H0) (f e w : Nat) (hfe : f ≤ e) (he : e ≤ 40) (hw : w < 16) : MetI l yX1_hangingBetween wsX1_hangingBetween 2 43 [.ref (q 0), .int (nI f), .int (nI e), .int (nI w)] H0 G cy (nI (cR (hfB M w) f (e - f))) := by
  obtain ⟨j, rfl⟩ := Nat.exists_eq_add_of_le hfe
  rw [Nat.add_sub_cancel_left]
  exact kX1_hangingBetween l G cy hW hP f j w he hw

set_option maxRecDepth 100000 in
theorem iX1_over_X1 : ∀ w ∈ u_ws RX1 TX1 13, w ∈ wsX1_over := by decide +kernel
set_option maxHeartbeats 4000000 in
set_option maxRecDepth 100000 in
theorem kX1_over (l : Launch) (G : va_G) (cy : Nat → ClassId) {H0 : Heap} {q : Nat → Nat} {M : MT} (hW : WB M) (hP : va_P G vwCl (wDo cy q M) H0) (k : Nat) (hk : k < mN M) : MetI l yX1_over wsX1_over 3 68 [.ref (q 0), .int (nI k)] H0 G cy (nI (cR (hfB M (mW M k)) (k + 1) (mN M - (k + 1)))) := by
  refine Met.ofW (cc := cX1_over) (maxL := 2) (ret := (some .int)) (by decide) rfl ?_
  intro p e s m args below meth c s₁ B hml hv
  obtain ⟨rfl, hH, hK⟩ := hv
  subst hH
  have hx := B.exec
  have hb := B.bytes
  have hr := B.returns
  have hts := atoms_spec (ws := wsX1_over) B.pre
  have hown : s.vm.findClass RX1 = some m.cls := findClass_of_methodNamed B.named
  have hlocks := B.notSynchronized
  have hl := lv_entry ([.ref (q 0), .int (nI k)]) (n := 2) (Nat.le_of_ble_eq_true rfl)
  rw [lg_entry_eq]
  generalize (lg_sl ([.ref (q 0), .int (nI k)]) ++ List.replicate (2 - (lg_sl ([.ref (q 0), .int (nI k)])).length) Slot.unset).toArray = ls at hl ⊢
  have hl : lv_has ls 2 [(0, .ref (q 0)), (1, .int (nI k))] := hl
  obtain ⟨bP, bN, bR, bO, bW, bL, bF⟩ := id hW
  have b1 := bW k
  refine lv_aload_n hx hb dX1_over_0 rfl (lv_at hl 0 rfl) ?_
  refine lv_iload_n hx hb dX1_over_1 rfl (lv_at hl 1 rfl) ?_
  refine lv_iconst (v := nI 1) hx hb dX1_over_2 (by decide +kernel) ?_
  refine lv_iadd hx hb dX1_over_3 ?_
  rw [nI_add]
  refine lv_aload_n hx hb dX1_over_4 rfl (lv_at hl 0 rfl) ?_
  refine va_get (D := G) (ci := 0) (v := .int (nI (mN M))) (C := RX1) (T := TX1) (N := 13) hx hb hts iX1_over_X1 hown hK hP 0 rfl rfl 5 (by decide) (hts (.fieldLink RX1 51 "NailedOrders$Door" "orders" "I") (by decide +kernel)) (fun _ h9 => h9) rfl dX1_over_5 ?_
  refine lv_aload_n hx hb dX1_over_8 rfl (lv_at hl 0 rfl) ?_
  refine va_get (D := G) (ci := 0) (v := .ref (q 7)) (C := RX1) (T := TX1) (N := 13) hx hb hts iX1_over_X1 hown hK hP 0 rfl rfl 7 (by decide) (hts (.fieldLink RX1 18 "NailedOrders$Door" "words" "[I") (by decide +kernel)) (fun _ h9 => h9) rfl dX1_over_9 ?_
  refine lv_iload_n hx hb dX1_over_12 rfl (lv_at hl 1 rfl) ?_
  refine o_iald hx hb hK hP 3 0 rfl rfl k (by omega) (by decide) dX1_over_13 ?_
  refine o_VI (As := [.int (nI (k + 1)), .int (nI (mN M)), .int (nI (mW M k))]) (rest := []) ⟨hx, hb, hml, hown, hts⟩ (kX1_hB l G cy hW hP (k + 1) (mN M) (mW M k) hk bN b1) (cwV 3 hts gX1_over_X1_hangingBetween rfl rfl rfl (by decide +kernel) ⟨Nat.le_of_ble_eq_true rfl, Nat.le_of_ble_eq_true rfl⟩) hK (va_recv hK hP (ci := 0) (q0 := 0) rfl rfl) rfl hl.1 rfl (Nat.le_of_ble_eq_true rfl) dX1_over_14 ⟨Nat.zero_le _, Nat.zero_le _⟩ ?_
  exact o_endI hx hb hr hlocks dX1_over_17 rfl

set_option maxRecDepth 100000 in
theorem iX1_beneath_X1 : ∀ w ∈ u_ws RX1 TX1 13, w ∈ wsX1_beneath := by decide +kernel
set_option maxHeartbeats 4000000 in
set_option maxRecDepth 100000 in
theorem kX1_beneath (l : Launch) (G : va_G) (cy : Nat → ClassId) {H0 : Heap} {q : Nat → Nat} {M : MT} (hW : WB M) (hP : va_P G vwCl (wDo cy q M) H0) (k : Nat) (hk : k < 40) : MetI l yX1_beneath wsX1_beneath 3 68 [.ref (q 0), .int (nI k)] H0 G cy (nI (cR (hfB M (mW M k)) 0 k)) := by
  refine Met.ofW (cc := cX1_beneath) (maxL := 2) (ret := (some .int)) (by decide) rfl ?_
  intro p e s m args below meth c s₁ B hml hv
  obtain ⟨rfl, hH, hK⟩ := hv
  subst hH
  have hx := B.exec
  have hb := B.bytes
  have hr := B.returns
  have hts := atoms_spec (ws := wsX1_beneath) B.pre
  have hown : s.vm.findClass RX1 = some m.cls := findClass_of_methodNamed B.named
  have hlocks := B.notSynchronized
  have hl := lv_entry ([.ref (q 0), .int (nI k)]) (n := 2) (Nat.le_of_ble_eq_true rfl)
  rw [lg_entry_eq]
  generalize (lg_sl ([.ref (q 0), .int (nI k)]) ++ List.replicate (2 - (lg_sl ([.ref (q 0), .int (nI k)])).length) Slot.unset).toArray = ls at hl ⊢
  have hl : lv_has ls 2 [(0, .ref (q 0)), (1, .int (nI k))] := hl
  obtain ⟨bP, bN, bR, bO, bW, bL, bF⟩ := id hW
  have b1 := bW k
  refine lv_aload_n hx hb dX1_beneath_0 rfl (lv_at hl 0 rfl) ?_
  refine lv_iconst (v := nI 0) hx hb dX1_beneath_1 (by decide +kernel) ?_
  refine lv_iload_n hx hb dX1_beneath_2 rfl (lv_at hl 1 rfl) ?_
  refine lv_aload_n hx hb dX1_beneath_3 rfl (lv_at hl 0 rfl) ?_
  refine va_get (D := G) (ci := 0) (v := .ref (q 7)) (C := RX1) (T := TX1) (N := 13) hx hb hts iX1_beneath_X1 hown hK hP 0 rfl rfl 7 (by decide) (hts (.fieldLink RX1 18 "NailedOrders$Door" "words" "[I") (by decide +kernel)) (fun _ h9 => h9) rfl dX1_beneath_4 ?_
  refine lv_iload_n hx hb dX1_beneath_7 rfl (lv_at hl 1 rfl) ?_
  refine o_iald hx hb hK hP 3 0 rfl rfl k (by omega) (by decide) dX1_beneath_8 ?_
  refine o_VI (As := [.int (nI 0), .int (nI k), .int (nI (mW M k))]) (rest := []) ⟨hx, hb, hml, hown, hts⟩ (kX1_hB l G cy hW hP 0 k (mW M k) (Nat.zero_le _) (by omega) b1) (cwV 3 hts gX1_beneath_X1_hangingBetween rfl rfl rfl (by decide +kernel) ⟨Nat.le_of_ble_eq_true rfl, Nat.le_of_ble_eq_true rfl⟩) hK (va_recv hK hP (ci := 0) (q0 := 0) rfl rfl) rfl hl.1 rfl (Nat.le_of_ble_eq_true rfl) dX1_beneath_9 ⟨Nat.zero_le _, Nat.zero_le _⟩ ?_
  exact o_endI hx hb hr hlocks dX1_beneath_12 rfl

set_option maxRecDepth 100000 in
theorem iX1_hangingFor_X1 : ∀ w ∈ u_ws RX1 TX1 13, w ∈ wsX1_hangingFor := by decide +kernel
set_option maxHeartbeats 4000000 in
set_option maxRecDepth 100000 in
theorem kX1_hangingFor (l : Launch) (G : va_G) (cy : Nat → ClassId) {H0 : Heap} {q : Nat → Nat} {M : MT} (hW : WB M) (hP : va_P G vwCl (wDo cy q M) H0) (w : Nat) (hw : w < 16) : MetI l yX1_hangingFor wsX1_hangingFor 3 68 [.ref (q 0), .int (nI w)] H0 G cy (nI (cR (hfB M w) 0 (mN M))) := by
  refine Met.ofW (cc := cX1_hangingFor) (maxL := 2) (ret := (some .int)) (by decide) rfl ?_
  intro p e s m args below meth c s₁ B hml hv
  obtain ⟨rfl, hH, hK⟩ := hv
  subst hH
  have hx := B.exec
  have hb := B.bytes
  have hr := B.returns
  have hts := atoms_spec (ws := wsX1_hangingFor) B.pre
  have hown : s.vm.findClass RX1 = some m.cls := findClass_of_methodNamed B.named
  have hlocks := B.notSynchronized
  have hl := lv_entry ([.ref (q 0), .int (nI w)]) (n := 2) (Nat.le_of_ble_eq_true rfl)
  rw [lg_entry_eq]
  generalize (lg_sl ([.ref (q 0), .int (nI w)]) ++ List.replicate (2 - (lg_sl ([.ref (q 0), .int (nI w)])).length) Slot.unset).toArray = ls at hl ⊢
  have hl : lv_has ls 2 [(0, .ref (q 0)), (1, .int (nI w))] := hl
  obtain ⟨bP, bN, bR, bO, bW, bL, bF⟩ := id hW
  refine lv_aload_n hx hb dX1_hangingFor_0 rfl (lv_at hl 0 rfl) ?_
  refine lv_iconst (v := nI 0) hx hb dX1_hangingFor_1 (by decide +kernel) ?_
  refine lv_aload_n hx hb dX1_hangingFor_2 rfl (lv_at hl 0 rfl) ?_
  refine va_get (D := G) (ci := 0) (v := .int (nI (mN M))) (C := RX1) (T := TX1) (N := 13) hx hb hts iX1_hangingFor_X1 hown hK hP 0 rfl rfl 5 (by decide) (hts (.fieldLink RX1 51 "NailedOrders$Door" "orders" "I") (by decide +kernel)) (fun _ h9 => h9) rfl dX1_hangingFor_3 ?_
  refine lv_iload_n hx hb dX1_hangingFor_6 rfl (lv_at hl 1 rfl) ?_
  refine o_VI (As := [.int (nI 0), .int (nI (mN M)), .int (nI w)]) (rest := []) ⟨hx, hb, hml, hown, hts⟩ (kX1_hB l G cy hW hP 0 (mN M) w (Nat.zero_le _) bN hw) (cwV 3 hts gX1_hangingFor_X1_hangingBetween rfl rfl rfl (by decide +kernel) ⟨Nat.le_of_ble_eq_true rfl, Nat.le_of_ble_eq_true rfl⟩) hK (va_recv hK hP (ci := 0) (q0 := 0) rfl rfl) rfl hl.1 rfl (Nat.le_of_ble_eq_true rfl) dX1_hangingFor_7 ⟨Nat.zero_le _, Nat.zero_le _⟩ ?_
  exact o_endI hx hb hr hlocks dX1_hangingFor_10 rfl

set_option maxRecDepth 100000 in
theorem iX1_hangingAt_X1 : ∀ w ∈ u_ws RX1 TX1 13, w ∈ wsX1_hangingAt := by decide +kernel
set_option maxHeartbeats 4000000 in
set_option maxRecDepth 100000 in
theorem kX1_hangingAt (l : Launch) (G : va_G) (cy : Nat → ClassId) {H0 : Heap} {q : Nat → Nat} {M : MT} (hW : WB M) (hP : va_P G vwCl (wDo cy q M) H0) (w pl : Nat) (hw : w < 16) (hpl : pl < 2 ^ 31) : MetI l yX1_hangingAt wsX1_hangingAt 2 43 [.ref (q 0), .int (nI w), .int (nI pl)] H0 G cy (hAt (hfB M w) (mN M) pl) := by
  refine Met.ofW (cc := cX1_hangingAt) (maxL := 5) (ret := (some .int)) (by decide) rfl ?_
  intro p e s m args below meth c s₁ B hml hv
  obtain ⟨rfl, hH, hK⟩ := hv
  subst hH
  have hx := B.exec
  have hb := B.bytes
  have hr := B.returns
  have hts := atoms_spec (ws := wsX1_hangingAt) B.pre
  have hown : s.vm.findClass RX1 = some m.cls := findClass_of_methodNamed B.named
  have hlocks := B.notSynchronized
  have hl := lv_entry ([.ref (q 0), .int (nI w), .int (nI pl)]) (n := 5) (Nat.le_of_ble_eq_true rfl)
  rw [lg_entry_eq]
  generalize (lg_sl ([.ref (q 0), .int (nI w), .int (nI pl)]) ++ List.replicate (5 - (lg_sl ([.ref (q 0), .int (nI w), .int (nI pl)])).length) Slot.unset).toArray = ls at hl ⊢
  have hl : lv_has ls 5 [(0, .ref (q 0)), (1, .int (nI w)), (2, .int (nI pl))] := hl
  obtain ⟨bP, bN, bR, bO, bW, bL, bF⟩ := id hW
  refine lv_iload_n hx hb dX1_hangingAt_0 rfl (lv_at hl 2 rfl) ?_
  refine lv_istore_n (lv' := [(3, .int (nI pl)), (0, .ref (q 0)), (1, .int (nI w)), (2, .int (nI pl))]) hx hb dX1_hangingAt_1 rfl hl (by decide) rfl (fun ls hl => ?_)
  refine lv_aload_n hx hb dX1_hangingAt_2 rfl (lv_at hl 1 rfl) ?_
  refine va_get (D := G) (ci := 0) (v := .int (nI (mN M))) (C := RX1) (T := TX1) (N := 13) hx hb hts iX1_hangingAt_X1 hown hK hP 0 rfl rfl 5 (by decide) (hts (.fieldLink RX1 51 "NailedOrders$Door" "orders" "I") (by decide +kernel)) (fun _ h9 => h9) rfl dX1_hangingAt_3 ?_
  refine lv_iconst (v := nI 1) hx hb dX1_hangingAt_6 (by decide +kernel) ?_
  refine lv_isub hx hb dX1_hangingAt_7 ?_
  rw [show nI (mN M) - nI 1 = dI (mN M) from rfl]
  refine lv_istore (lv' := [(4, .int (dI (mN M))), (3, .int (nI pl)), (0, .ref (q 0)), (1, .int (nI w)), (2, .int (nI pl))]) hx hb dX1_hangingAt_8 hl (by decide) rfl (fun ls hl => ?_)
  refine o_loop (σ := Nat × Nat) (fun (x_ : Nat × Nat) => match x_ with | (i, r) => i ≤ mN M ∧ r ≤ pl ∧ hAt (hfB M w) i r = hAt (hfB M w) (mN M) pl) (fun (x_ : Nat × Nat) => match x_ with | (i, r) => [(4, .int (dI i)), (3, .int (nI r)), (0, .ref (q 0)), (1, .int (nI w))]) (fun (x_ : Nat × Nat) => match x_ with | (i, r) => i) (mN M, pl) ⟨Nat.le_refl _, Nat.le_refl _, rfl⟩ (lv_sub hl [0, 1, 2, 3] rfl) ?_
  rintro ⟨i, r⟩ ls ⟨h1, h2, h3⟩ hl ih10
  have hl : lv_has ls 5 [(4, .int (dI i)), (3, .int (nI r)), (0, .ref (q 0)), (1, .int (nI w))] := hl
  refine lv_iload hx hb dX1_hangingAt_10 (lv_at hl 0 rfl) ?_
  refine o_ifd_lt (tgt := 41) hx hb dX1_hangingAt_12 (by decide) (by omega) (fun c12 => ?_) (fun c12 => ?_)
  · subst c12
    refine lv_bipush (v := (-5)) hx hb dX1_hangingAt_41 (by decide +kernel) ?_
    exact o_endI hx hb hr hlocks dX1_hangingAt_43 ((by rw [← h3]; rfl))
  · obtain ⟨i, rfl⟩ := c12
    rw [dI_succ] at hl
    refine lv_aload_n hx hb dX1_hangingAt_15 rfl (lv_at hl 2 rfl) ?_
    refine lv_iload hx hb dX1_hangingAt_16 (lv_at hl 0 rfl) ?_
    refine lv_iload_n hx hb dX1_hangingAt_18 rfl (lv_at hl 3 rfl) ?_
    refine o_VI (As := [.int (nI i), .int (nI w)]) (rest := []) ⟨hx, hb, hml, hown, hts⟩ (kX1_hangsFor l G cy hW hP i w (by omega) hw) (cwV 2 hts gX1_hangingAt_X1_hangsFor rfl rfl rfl (by decide +kernel) ⟨Nat.le_of_ble_eq_true rfl, Nat.le_of_ble_eq_true rfl⟩) hK (va_recv hK hP (ci := 0) (q0 := 0) rfl rfl) rfl hl.1 rfl (Nat.le_of_ble_eq_true rfl) dX1_hangingAt_19 ⟨Nat.zero_le _, Nat.zero_le _⟩ ?_
    refine o_ifb_eq (tgt := 35) hx hb dX1_hangingAt_22 (by decide) (fun c22 => ?_) (fun c22 => ?_)
    · refine lv_iinc (v := dI i) (lv' := [(4, .int (dI i)), (3, .int (nI r)), (0, .ref (q 0)), (1, .int (nI w))]) hx hb dX1_hangingAt_35 hl (k := 0) rfl (dI_dec i) (by decide) rfl (fun ls hl => ?_)
      refine lv_goto (tgt := 10) hx hb dX1_hangingAt_38 (by decide) ?_
      refine ih10 (i, r) ls ?_ ?_ ?_
      · exact ⟨by omega, h2, by rw [← h3, hAt_n (fun z => c22 (hfB_iff.mp z))]⟩
      · show lv_has ls 5 [(4, .int (dI i)), (3, .int (nI r)), (0, .ref (q 0)), (1, .int (nI w))]
        exact lv_sub hl [0, 1, 2, 3] rfl
      · exact Nat.lt_succ_self i
    · refine lv_iload_n hx hb dX1_hangingAt_25 rfl (lv_at hl 1 rfl) ?_
      refine o_if_ne (tgt := 32) hx hb dX1_hangingAt_26 (by decide) (by omega) (fun c26 => ?_) (fun c26 => ?_)
      · refine lv_iinc (v := nI (r - 1)) (lv' := [(3, .int (nI (r - 1))), (4, .int (nI i)), (0, .ref (q 0)), (1, .int (nI w))]) hx hb dX1_hangingAt_32 hl (k := 1) rfl (by obtain ⟨r, rfl⟩ : ∃ k, r = k + 1 := ⟨r - 1, by omega⟩; exact pk_m1 r) (by decide) rfl (fun ls hl => ?_)
        refine lv_iinc (v := dI i) (lv' := [(4, .int (dI i)), (3, .int (nI (r - 1))), (0, .ref (q 0)), (1, .int (nI w))]) hx hb dX1_hangingAt_35 hl (k := 1) rfl (dI_dec i) (by decide) rfl (fun ls hl => ?_)
        refine lv_goto (tgt := 10) hx hb dX1_hangingAt_38 (by decide) ?_
        refine ih10 (i, r - 1) ls ?_ ?_ ?_
        · exact ⟨by omega, by omega, by rw [← h3, hAt_s (hfB_iff.mpr c22) c26]⟩
        · show lv_has ls 5 [(4, .int (dI i)), (3, .int (nI (r - 1))), (0, .ref (q 0)), (1, .int (nI w))]
          exact lv_sub hl [0, 1, 2, 3] rfl
        · exact Nat.lt_succ_self i
      · subst c26
        refine lv_iload hx hb dX1_hangingAt_29 (lv_at hl 0 rfl) ?_
        exact o_endI hx hb hr hlocks dX1_hangingAt_31 ((by rw [← h3]; exact (hAt_0 (hfB_iff.mpr c22)).symm))

set_option maxRecDepth 100000 in
theorem iX1_withFate_X1 : ∀ w ∈ u_ws RX1 TX1 13, w ∈ wsX1_withFate := by decide +kernel
set_option maxHeartbeats 4000000 in
set_option maxRecDepth 100000 in
theorem kX1_withFate (l : Launch) (G : va_G) (cy : Nat → ClassId) {H0 : Heap} {q : Nat → Nat} {M : MT} (hW : WB M) (hP : va_P G vwCl (wDo cy q M) H0) (x : Nat) (hx1 : x < 4) : MetI l yX1_withFate wsX1_withFate 0 0 [.ref (q 0), .int (nI x)] H0 G cy (nI (cR (ftB M x) 0 (mN M))) := by
  refine Met.ofW (cc := cX1_withFate) (maxL := 4) (ret := (some .int)) (by decide) rfl ?_
  intro p e s m args below meth c s₁ B hml hv
  obtain ⟨rfl, hH, hK⟩ := hv
  subst hH
  have hx := B.exec
  have hb := B.bytes
  have hr := B.returns
  have hts := atoms_spec (ws := wsX1_withFate) B.pre
  have hown : s.vm.findClass RX1 = some m.cls := findClass_of_methodNamed B.named
  have hlocks := B.notSynchronized
  have hl := lv_entry ([.ref (q 0), .int (nI x)]) (n := 4) (Nat.le_of_ble_eq_true rfl)
  rw [lg_entry_eq]
  generalize (lg_sl ([.ref (q 0), .int (nI x)]) ++ List.replicate (4 - (lg_sl ([.ref (q 0), .int (nI x)])).length) Slot.unset).toArray = ls at hl ⊢
  have hl : lv_has ls 4 [(0, .ref (q 0)), (1, .int (nI x))] := hl
  obtain ⟨bP, bN, bR, bO, bW, bL, bF⟩ := id hW
  refine lv_iconst (v := nI 0) hx hb dX1_withFate_0 (by decide +kernel) ?_
  refine lv_istore_n (lv' := [(2, .int (nI 0)), (0, .ref (q 0)), (1, .int (nI x))]) hx hb dX1_withFate_1 rfl hl (by decide) rfl (fun ls hl => ?_)
  refine lv_iconst (v := nI 0) hx hb dX1_withFate_2 (by decide +kernel) ?_
  refine lv_istore_n (lv' := [(3, .int (nI 0)), (2, .int (nI 0)), (0, .ref (q 0)), (1, .int (nI x))]) hx hb dX1_withFate_3 rfl hl (by decide) rfl (fun ls hl => ?_)
  refine o_loop (σ := Nat) (fun (i : Nat) => i ≤ mN M) (fun (i : Nat) => [(3, .int (nI i)), (2, .int (nI (cR (ftB M x) 0 i))), (0, .ref (q 0)), (1, .int (nI x))]) (fun (i : Nat) => mN M - i) 0 (Nat.zero_le _) (lv_sub hl [0, 1, 2, 3] rfl) ?_
  rintro i ls h1 hl ih4
  have hl : lv_has ls 4 [(3, .int (nI i)), (2, .int (nI (cR (ftB M x) 0 i))), (0, .ref (q 0)), (1, .int (nI x))] := hl
  have b2 := bF i
  have b3 := bO i
  have b4 := bW i
  refine lv_iload_n hx hb dX1_withFate_4 rfl (lv_at hl 0 rfl) ?_
  refine lv_aload_n hx hb dX1_withFate_5 rfl (lv_at hl 2 rfl) ?_
  refine va_get (D := G) (ci := 0) (v := .int (nI (mN M))) (C := RX1) (T := TX1) (N := 13) hx hb hts iX1_withFate_X1 hown hK hP 0 rfl rfl 5 (by decide) (hts (.fieldLink RX1 51 "NailedOrders$Door" "orders" "I") (by decide +kernel)) (fun _ h9 => h9) rfl dX1_withFate_6 ?_
  refine o_icmp_ge (tgt := 31) hx hb dX1_withFate_9 (by decide) (by omega) (by omega) (fun c9 => ?_) (fun c9 => ?_)
  · obtain rfl : i = mN M := by omega
    refine lv_iload_n hx hb dX1_withFate_31 rfl (lv_at hl 1 rfl) ?_
    exact o_endI hx hb hr hlocks dX1_withFate_32 rfl
  · refine lv_aload_n hx hb dX1_withFate_12 rfl (lv_at hl 2 rfl) ?_
    refine va_get (D := G) (ci := 0) (v := .ref (q 12)) (C := RX1) (T := TX1) (N := 13) hx hb hts iX1_withFate_X1 hown hK hP 0 rfl rfl 12 (by decide) (hts (.fieldLink RX1 34 "NailedOrders$Door" "fates" "[I") (by decide +kernel)) (fun _ h9 => h9) rfl dX1_withFate_13 ?_
    refine lv_iload_n hx hb dX1_withFate_16 rfl (lv_at hl 0 rfl) ?_
    refine o_iald hx hb hK hP 8 0 rfl rfl i (by omega) (by decide) dX1_withFate_17 ?_
    refine lv_iload_n hx hb dX1_withFate_18 rfl (lv_at hl 3 rfl) ?_
    refine o_icmp_ne (tgt := 25) hx hb dX1_withFate_19 (by decide) (by omega) (by omega) (fun c19 => ?_) (fun c19 => ?_)
    · refine lv_iinc (v := nI (i + 1)) (lv' := [(3, .int (nI (i + 1))), (2, .int (nI (cR (ftB M x) 0 i))), (0, .ref (q 0)), (1, .int (nI x))]) hx hb dX1_withFate_25 hl (k := 0) rfl (nI_1 i) (by decide) rfl (fun ls hl => ?_)
      refine lv_goto (tgt := 4) hx hb dX1_withFate_28 (by decide) ?_
      refine ih4 (i + 1) ls ?_ ?_ ?_
      · omega
      · show lv_has ls 4 [(3, .int (nI (i + 1))), (2, .int (nI (cR (ftB M x) 0 (i + 1)))), (0, .ref (q 0)), (1, .int (nI x))]
        rw [cZ_f (p := (ftB M x)) (j := i) (fun z => absurd (ftB_iff.mp z) (c19))]
        exact lv_sub hl [0, 1, 2, 3] rfl
      · omega
    · refine lv_iinc (v := nI (cR (ftB M x) 0 i + 1)) (lv' := [(2, .int (nI (cR (ftB M x) 0 i + 1))), (3, .int (nI i)), (0, .ref (q 0)), (1, .int (nI x))]) hx hb dX1_withFate_22 hl (k := 1) rfl (nI_1 (cR (ftB M x) 0 i)) (by decide) rfl (fun ls hl => ?_)
      refine lv_iinc (v := nI (i + 1)) (lv' := [(3, .int (nI (i + 1))), (2, .int (nI (cR (ftB M x) 0 i + 1))), (0, .ref (q 0)), (1, .int (nI x))]) hx hb dX1_withFate_25 hl (k := 1) rfl (nI_1 i) (by decide) rfl (fun ls hl => ?_)
      refine lv_goto (tgt := 4) hx hb dX1_withFate_28 (by decide) ?_
      refine ih4 (i + 1) ls ?_ ?_ ?_
      · omega
      · show lv_has ls 4 [(3, .int (nI (i + 1))), (2, .int (nI (cR (ftB M x) 0 (i + 1)))), (0, .ref (q 0)), (1, .int (nI x))]
        rw [cZ_t (p := (ftB M x)) (j := i) (ftB_iff.mpr c19)]
        exact lv_sub hl [0, 1, 2, 3] rfl
      · omega

set_option maxRecDepth 100000 in
theorem iX1_nailedBy_X1 : ∀ w ∈ u_ws RX1 TX1 13, w ∈ wsX1_nailedBy := by decide +kernel
set_option maxHeartbeats 4000000 in
set_option maxRecDepth 100000 in
theorem kX1_nailedBy (l : Launch) (G : va_G) (cy : Nat → ClassId) {H0 : Heap} {q : Nat → Nat} {M : MT} (hW : WB M) (hP : va_P G vwCl (wDo cy q M) H0) (x : Nat) (hx1 : x < 6) : MetI l yX1_nailedBy wsX1_nailedBy 0 0 [.ref (q 0), .int (nI x)] H0 G cy (nI (cR (owB M x) 0 (mN M))) := by
  refine Met.ofW (cc := cX1_nailedBy) (maxL := 4) (ret := (some .int)) (by decide) rfl ?_
  intro p e s m args below meth c s₁ B hml hv
  obtain ⟨rfl, hH, hK⟩ := hv
  subst hH
  have hx := B.exec
  have hb := B.bytes
  have hr := B.returns
  have hts := atoms_spec (ws := wsX1_nailedBy) B.pre
  have hown : s.vm.findClass RX1 = some m.cls := findClass_of_methodNamed B.named
  have hlocks := B.notSynchronized
  have hl := lv_entry ([.ref (q 0), .int (nI x)]) (n := 4) (Nat.le_of_ble_eq_true rfl)
  rw [lg_entry_eq]
  generalize (lg_sl ([.ref (q 0), .int (nI x)]) ++ List.replicate (4 - (lg_sl ([.ref (q 0), .int (nI x)])).length) Slot.unset).toArray = ls at hl ⊢
  have hl : lv_has ls 4 [(0, .ref (q 0)), (1, .int (nI x))] := hl
  obtain ⟨bP, bN, bR, bO, bW, bL, bF⟩ := id hW
  refine lv_iconst (v := nI 0) hx hb dX1_nailedBy_0 (by decide +kernel) ?_
  refine lv_istore_n (lv' := [(2, .int (nI 0)), (0, .ref (q 0)), (1, .int (nI x))]) hx hb dX1_nailedBy_1 rfl hl (by decide) rfl (fun ls hl => ?_)
  refine lv_iconst (v := nI 0) hx hb dX1_nailedBy_2 (by decide +kernel) ?_
  refine lv_istore_n (lv' := [(3, .int (nI 0)), (2, .int (nI 0)), (0, .ref (q 0)), (1, .int (nI x))]) hx hb dX1_nailedBy_3 rfl hl (by decide) rfl (fun ls hl => ?_)
  refine o_loop (σ := Nat) (fun (i : Nat) => i ≤ mN M) (fun (i : Nat) => [(3, .int (nI i)), (2, .int (nI (cR (owB M x) 0 i))), (0, .ref (q 0)), (1, .int (nI x))]) (fun (i : Nat) => mN M - i) 0 (Nat.zero_le _) (lv_sub hl [0, 1, 2, 3] rfl) ?_
  rintro i ls h1 hl ih4
  have hl : lv_has ls 4 [(3, .int (nI i)), (2, .int (nI (cR (owB M x) 0 i))), (0, .ref (q 0)), (1, .int (nI x))] := hl
  have b2 := bF i
  have b3 := bO i
  have b4 := bW i
  refine lv_iload_n hx hb dX1_nailedBy_4 rfl (lv_at hl 0 rfl) ?_
  refine lv_aload_n hx hb dX1_nailedBy_5 rfl (lv_at hl 2 rfl) ?_
  refine va_get (D := G) (ci := 0) (v := .int (nI (mN M))) (C := RX1) (T := TX1) (N := 13) hx hb hts iX1_nailedBy_X1 hown hK hP 0 rfl rfl 5 (by decide) (hts (.fieldLink RX1 51 "NailedOrders$Door" "orders" "I") (by decide +kernel)) (fun _ h9 => h9) rfl dX1_nailedBy_6 ?_
  refine o_icmp_ge (tgt := 31) hx hb dX1_nailedBy_9 (by decide) (by omega) (by omega) (fun c9 => ?_) (fun c9 => ?_)
  · obtain rfl : i = mN M := by omega
    refine lv_iload_n hx hb dX1_nailedBy_31 rfl (lv_at hl 1 rfl) ?_
    exact o_endI hx hb hr hlocks dX1_nailedBy_32 rfl
  · refine lv_aload_n hx hb dX1_nailedBy_12 rfl (lv_at hl 2 rfl) ?_
    refine va_get (D := G) (ci := 0) (v := .ref (q 6)) (C := RX1) (T := TX1) (N := 13) hx hb hts iX1_nailedBy_X1 hown hK hP 0 rfl rfl 6 (by decide) (hts (.fieldLink RX1 15 "NailedOrders$Door" "owners" "[I") (by decide +kernel)) (fun _ h9 => h9) rfl dX1_nailedBy_13 ?_
    refine lv_iload_n hx hb dX1_nailedBy_16 rfl (lv_at hl 0 rfl) ?_
    refine o_iald hx hb hK hP 2 0 rfl rfl i (by omega) (by decide) dX1_nailedBy_17 ?_
    refine lv_iload_n hx hb dX1_nailedBy_18 rfl (lv_at hl 3 rfl) ?_
    refine o_icmp_ne (tgt := 25) hx hb dX1_nailedBy_19 (by decide) (by omega) (by omega) (fun c19 => ?_) (fun c19 => ?_)
    · refine lv_iinc (v := nI (i + 1)) (lv' := [(3, .int (nI (i + 1))), (2, .int (nI (cR (owB M x) 0 i))), (0, .ref (q 0)), (1, .int (nI x))]) hx hb dX1_nailedBy_25 hl (k := 0) rfl (nI_1 i) (by decide) rfl (fun ls hl => ?_)
      refine lv_goto (tgt := 4) hx hb dX1_nailedBy_28 (by decide) ?_
      refine ih4 (i + 1) ls ?_ ?_ ?_
      · omega
      · show lv_has ls 4 [(3, .int (nI (i + 1))), (2, .int (nI (cR (owB M x) 0 (i + 1)))), (0, .ref (q 0)), (1, .int (nI x))]
        rw [cZ_f (p := (owB M x)) (j := i) (fun z => absurd (owB_iff.mp z) (c19))]
        exact lv_sub hl [0, 1, 2, 3] rfl
      · omega
    · refine lv_iinc (v := nI (cR (owB M x) 0 i + 1)) (lv' := [(2, .int (nI (cR (owB M x) 0 i + 1))), (3, .int (nI i)), (0, .ref (q 0)), (1, .int (nI x))]) hx hb dX1_nailedBy_22 hl (k := 1) rfl (nI_1 (cR (owB M x) 0 i)) (by decide) rfl (fun ls hl => ?_)
      refine lv_iinc (v := nI (i + 1)) (lv' := [(3, .int (nI (i + 1))), (2, .int (nI (cR (owB M x) 0 i + 1))), (0, .ref (q 0)), (1, .int (nI x))]) hx hb dX1_nailedBy_25 hl (k := 1) rfl (nI_1 i) (by decide) rfl (fun ls hl => ?_)
      refine lv_goto (tgt := 4) hx hb dX1_nailedBy_28 (by decide) ?_
      refine ih4 (i + 1) ls ?_ ?_ ?_
      · omega
      · show lv_has ls 4 [(3, .int (nI (i + 1))), (2, .int (nI (cR (owB M x) 0 (i + 1)))), (0, .ref (q 0)), (1, .int (nI x))]
        rw [cZ_t (p := (owB M x)) (j := i) (owB_iff.mpr c19)]
        exact lv_sub hl [0, 1, 2, 3] rfl
      · omega

set_option maxRecDepth 100000 in
theorem iX1_hangingBy_X1 : ∀ w ∈ u_ws RX1 TX1 13, w ∈ wsX1_hangingBy := by decide +kernel
set_option maxHeartbeats 4000000 in
set_option maxRecDepth 100000 in
theorem kX1_hangingBy (l : Launch) (G : va_G) (cy : Nat → ClassId) {H0 : Heap} {q : Nat → Nat} {M : MT} (hW : WB M) (hP : va_P G vwCl (wDo cy q M) H0) (x : Nat) (hx1 : x < 6) : MetI l yX1_hangingBy wsX1_hangingBy 1 21 [.ref (q 0), .int (nI x)] H0 G cy (nI (cR (hoB M x) 0 (mN M))) := by
  refine Met.ofW (cc := cX1_hangingBy) (maxL := 4) (ret := (some .int)) (by decide) rfl ?_
  intro p e s m args below meth c s₁ B hml hv
  obtain ⟨rfl, hH, hK⟩ := hv
  subst hH
  have hx := B.exec
  have hb := B.bytes
  have hr := B.returns
  have hts := atoms_spec (ws := wsX1_hangingBy) B.pre
  have hown : s.vm.findClass RX1 = some m.cls := findClass_of_methodNamed B.named
  have hlocks := B.notSynchronized
  have hl := lv_entry ([.ref (q 0), .int (nI x)]) (n := 4) (Nat.le_of_ble_eq_true rfl)
  rw [lg_entry_eq]
  generalize (lg_sl ([.ref (q 0), .int (nI x)]) ++ List.replicate (4 - (lg_sl ([.ref (q 0), .int (nI x)])).length) Slot.unset).toArray = ls at hl ⊢
  have hl : lv_has ls 4 [(0, .ref (q 0)), (1, .int (nI x))] := hl
  obtain ⟨bP, bN, bR, bO, bW, bL, bF⟩ := id hW
  refine lv_iconst (v := nI 0) hx hb dX1_hangingBy_0 (by decide +kernel) ?_
  refine lv_istore_n (lv' := [(2, .int (nI 0)), (0, .ref (q 0)), (1, .int (nI x))]) hx hb dX1_hangingBy_1 rfl hl (by decide) rfl (fun ls hl => ?_)
  refine lv_iconst (v := nI 0) hx hb dX1_hangingBy_2 (by decide +kernel) ?_
  refine lv_istore_n (lv' := [(3, .int (nI 0)), (2, .int (nI 0)), (0, .ref (q 0)), (1, .int (nI x))]) hx hb dX1_hangingBy_3 rfl hl (by decide) rfl (fun ls hl => ?_)
  refine o_loop (σ := Nat) (fun (i : Nat) => i ≤ mN M) (fun (i : Nat) => [(3, .int (nI i)), (2, .int (nI (cR (hoB M x) 0 i))), (0, .ref (q 0)), (1, .int (nI x))]) (fun (i : Nat) => mN M - i) 0 (Nat.zero_le _) (lv_sub hl [0, 1, 2, 3] rfl) ?_
  rintro i ls h1 hl ih4
  have hl : lv_has ls 4 [(3, .int (nI i)), (2, .int (nI (cR (hoB M x) 0 i))), (0, .ref (q 0)), (1, .int (nI x))] := hl
  have b2 := bF i
  have b3 := bO i
  have b4 := bW i
  refine lv_iload_n hx hb dX1_hangingBy_4 rfl (lv_at hl 0 rfl) ?_
  refine lv_aload_n hx hb dX1_hangingBy_5 rfl (lv_at hl 2 rfl) ?_
  refine va_get (D := G) (ci := 0) (v := .int (nI (mN M))) (C := RX1) (T := TX1) (N := 13) hx hb hts iX1_hangingBy_X1 hown hK hP 0 rfl rfl 5 (by decide) (hts (.fieldLink RX1 51 "NailedOrders$Door" "orders" "I") (by decide +kernel)) (fun _ h9 => h9) rfl dX1_hangingBy_6 ?_
  refine o_icmp_ge (tgt := 39) hx hb dX1_hangingBy_9 (by decide) (by omega) (by omega) (fun c9 => ?_) (fun c9 => ?_)
  · obtain rfl : i = mN M := by omega
    refine lv_iload_n hx hb dX1_hangingBy_39 rfl (lv_at hl 1 rfl) ?_
    exact o_endI hx hb hr hlocks dX1_hangingBy_40 rfl
  · refine lv_aload_n hx hb dX1_hangingBy_12 rfl (lv_at hl 2 rfl) ?_
    refine lv_iload_n hx hb dX1_hangingBy_13 rfl (lv_at hl 0 rfl) ?_
    refine o_VI (As := [.int (nI i)]) (rest := []) ⟨hx, hb, hml, hown, hts⟩ (kX1_hangs l G cy hW hP i (by omega)) (cwV 1 hts gX1_hangingBy_X1_hangs rfl rfl rfl (by decide +kernel) ⟨Nat.le_of_ble_eq_true rfl, Nat.le_of_ble_eq_true rfl⟩) hK (va_recv hK hP (ci := 0) (q0 := 0) rfl rfl) rfl hl.1 rfl (Nat.le_of_ble_eq_true rfl) dX1_hangingBy_14 ⟨Nat.zero_le _, Nat.zero_le _⟩ ?_
    refine o_ifb_eq (tgt := 33) hx hb dX1_hangingBy_17 (by decide) (fun c17 => ?_) (fun c17 => ?_)
    · have c27 : ¬ (mF M i = 1 ∧ mO M i = x) := fun z => c17 z.1
      refine lv_iinc (v := nI (i + 1)) (lv' := [(3, .int (nI (i + 1))), (2, .int (nI (cR (hoB M x) 0 i))), (0, .ref (q 0)), (1, .int (nI x))]) hx hb dX1_hangingBy_33 hl (k := 0) rfl (nI_1 i) (by decide) rfl (fun ls hl => ?_)
      refine lv_goto (tgt := 4) hx hb dX1_hangingBy_36 (by decide) ?_
      refine ih4 (i + 1) ls ?_ ?_ ?_
      · omega
      · show lv_has ls 4 [(3, .int (nI (i + 1))), (2, .int (nI (cR (hoB M x) 0 (i + 1)))), (0, .ref (q 0)), (1, .int (nI x))]
        rw [cZ_f (p := (hoB M x)) (j := i) (fun z => absurd (hoB_iff.mp z) (c27))]
        exact lv_sub hl [0, 1, 2, 3] rfl
      · omega
    · refine lv_aload_n hx hb dX1_hangingBy_20 rfl (lv_at hl 2 rfl) ?_
      refine va_get (D := G) (ci := 0) (v := .ref (q 6)) (C := RX1) (T := TX1) (N := 13) hx hb hts iX1_hangingBy_X1 hown hK hP 0 rfl rfl 6 (by decide) (hts (.fieldLink RX1 15 "NailedOrders$Door" "owners" "[I") (by decide +kernel)) (fun _ h9 => h9) rfl dX1_hangingBy_21 ?_
      refine lv_iload_n hx hb dX1_hangingBy_24 rfl (lv_at hl 0 rfl) ?_
      refine o_iald hx hb hK hP 2 0 rfl rfl i (by omega) (by decide) dX1_hangingBy_25 ?_
      refine lv_iload_n hx hb dX1_hangingBy_26 rfl (lv_at hl 3 rfl) ?_
      refine o_icmp_ne (tgt := 33) hx hb dX1_hangingBy_27 (by decide) (by omega) (by omega) (fun c26 => ?_) (fun c26 => ?_)
      · have c27 : ¬ (mF M i = 1 ∧ mO M i = x) := fun z => c26 z.2
        refine lv_iinc (v := nI (i + 1)) (lv' := [(3, .int (nI (i + 1))), (2, .int (nI (cR (hoB M x) 0 i))), (0, .ref (q 0)), (1, .int (nI x))]) hx hb dX1_hangingBy_33 hl (k := 0) rfl (nI_1 i) (by decide) rfl (fun ls hl => ?_)
        refine lv_goto (tgt := 4) hx hb dX1_hangingBy_36 (by decide) ?_
        refine ih4 (i + 1) ls ?_ ?_ ?_
        · omega
        · show lv_has ls 4 [(3, .int (nI (i + 1))), (2, .int (nI (cR (hoB M x) 0 (i + 1)))), (0, .ref (q 0)), (1, .int (nI x))]
          rw [cZ_f (p := (hoB M x)) (j := i) (fun z => absurd (hoB_iff.mp z) (c27))]
          exact lv_sub hl [0, 1, 2, 3] rfl
        · omega
      · have c27 : mF M i = 1 ∧ mO M i = x := ⟨c17, c26⟩
        refine lv_iinc (v := nI (cR (hoB M x) 0 i + 1)) (lv' := [(2, .int (nI (cR (hoB M x) 0 i + 1))), (3, .int (nI i)), (0, .ref (q 0)), (1, .int (nI x))]) hx hb dX1_hangingBy_30 hl (k := 1) rfl (nI_1 (cR (hoB M x) 0 i)) (by decide) rfl (fun ls hl => ?_)
        refine lv_iinc (v := nI (i + 1)) (lv' := [(3, .int (nI (i + 1))), (2, .int (nI (cR (hoB M x) 0 i + 1))), (0, .ref (q 0)), (1, .int (nI x))]) hx hb dX1_hangingBy_33 hl (k := 1) rfl (nI_1 i) (by decide) rfl (fun ls hl => ?_)
        refine lv_goto (tgt := 4) hx hb dX1_hangingBy_36 (by decide) ?_
        refine ih4 (i + 1) ls ?_ ?_ ?_
        · omega
        · show lv_has ls 4 [(3, .int (nI (i + 1))), (2, .int (nI (cR (hoB M x) 0 (i + 1)))), (0, .ref (q 0)), (1, .int (nI x))]
          rw [cZ_t (p := (hoB M x)) (j := i) (hoB_iff.mpr c27)]
          exact lv_sub hl [0, 1, 2, 3] rfl
        · omega

set_option maxRecDepth 100000 in
theorem iX1_wordsOf_X1 : ∀ w ∈ u_ws RX1 TX1 13, w ∈ wsX1_wordsOf := by decide +kernel
set_option maxHeartbeats 4000000 in
set_option maxRecDepth 100000 in
theorem kX1_wordsOf (l : Launch) (G : va_G) (cy : Nat → ClassId) {H0 : Heap} {q : Nat → Nat} {M : MT} (hW : WB M) (hP : va_P G vwCl (wDo cy q M) H0) (x : Nat) (hx1 : x < 6) : MetI l yX1_wordsOf wsX1_wordsOf 1 21 [.ref (q 0), .int (nI x)] H0 G cy (wBt M x (mN M)) := by
  refine Met.ofW (cc := cX1_wordsOf) (maxL := 4) (ret := (some .int)) (by decide) rfl ?_
  intro p e s m args below meth c s₁ B hml hv
  obtain ⟨rfl, hH, hK⟩ := hv
  subst hH
  have hx := B.exec
  have hb := B.bytes
  have hr := B.returns
  have hts := atoms_spec (ws := wsX1_wordsOf) B.pre
  have hown : s.vm.findClass RX1 = some m.cls := findClass_of_methodNamed B.named
  have hlocks := B.notSynchronized
  have hl := lv_entry ([.ref (q 0), .int (nI x)]) (n := 4) (Nat.le_of_ble_eq_true rfl)
  rw [lg_entry_eq]
  generalize (lg_sl ([.ref (q 0), .int (nI x)]) ++ List.replicate (4 - (lg_sl ([.ref (q 0), .int (nI x)])).length) Slot.unset).toArray = ls at hl ⊢
  have hl : lv_has ls 4 [(0, .ref (q 0)), (1, .int (nI x))] := hl
  obtain ⟨bP, bN, bR, bO, bW, bL, bF⟩ := id hW
  refine lv_iconst (v := nI 0) hx hb dX1_wordsOf_0 (by decide +kernel) ?_
  refine lv_istore_n (lv' := [(2, .int (nI 0)), (0, .ref (q 0)), (1, .int (nI x))]) hx hb dX1_wordsOf_1 rfl hl (by decide) rfl (fun ls hl => ?_)
  refine lv_iconst (v := nI 0) hx hb dX1_wordsOf_2 (by decide +kernel) ?_
  refine lv_istore_n (lv' := [(3, .int (nI 0)), (2, .int (nI 0)), (0, .ref (q 0)), (1, .int (nI x))]) hx hb dX1_wordsOf_3 rfl hl (by decide) rfl (fun ls hl => ?_)
  refine o_loop (σ := Nat) (fun (i : Nat) => i ≤ mN M) (fun (i : Nat) => [(3, .int (nI i)), (2, .int (wBt M x i)), (0, .ref (q 0)), (1, .int (nI x))]) (fun (i : Nat) => mN M - i) 0 (Nat.zero_le _) (lv_sub hl [0, 1, 2, 3] rfl) ?_
  rintro i ls h1 hl ih4
  have hl : lv_has ls 4 [(3, .int (nI i)), (2, .int (wBt M x i)), (0, .ref (q 0)), (1, .int (nI x))] := hl
  have b3 := bO i
  have b4 := bW i
  refine lv_iload_n hx hb dX1_wordsOf_4 rfl (lv_at hl 0 rfl) ?_
  refine lv_aload_n hx hb dX1_wordsOf_5 rfl (lv_at hl 2 rfl) ?_
  refine va_get (D := G) (ci := 0) (v := .int (nI (mN M))) (C := RX1) (T := TX1) (N := 13) hx hb hts iX1_wordsOf_X1 hown hK hP 0 rfl rfl 5 (by decide) (hts (.fieldLink RX1 51 "NailedOrders$Door" "orders" "I") (by decide +kernel)) (fun _ h9 => h9) rfl dX1_wordsOf_6 ?_
  refine o_icmp_ge (tgt := 47) hx hb dX1_wordsOf_9 (by decide) (by omega) (by omega) (fun c9 => ?_) (fun c9 => ?_)
  · obtain rfl : i = mN M := by omega
    refine lv_iload_n hx hb dX1_wordsOf_47 rfl (lv_at hl 1 rfl) ?_
    exact o_endI hx hb hr hlocks dX1_wordsOf_48 rfl
  · refine lv_aload_n hx hb dX1_wordsOf_12 rfl (lv_at hl 2 rfl) ?_
    refine lv_iload_n hx hb dX1_wordsOf_13 rfl (lv_at hl 0 rfl) ?_
    refine o_VI (As := [.int (nI i)]) (rest := []) ⟨hx, hb, hml, hown, hts⟩ (kX1_hangs l G cy hW hP i (by omega)) (cwV 1 hts gX1_wordsOf_X1_hangs rfl rfl rfl (by decide +kernel) ⟨Nat.le_of_ble_eq_true rfl, Nat.le_of_ble_eq_true rfl⟩) hK (va_recv hK hP (ci := 0) (q0 := 0) rfl rfl) rfl hl.1 rfl (Nat.le_of_ble_eq_true rfl) dX1_wordsOf_14 ⟨Nat.zero_le _, Nat.zero_le _⟩ ?_
    refine o_ifb_eq (tgt := 41) hx hb dX1_wordsOf_17 (by decide) (fun c17 => ?_) (fun c17 => ?_)
    · have c27 : ¬ (mF M i = 1 ∧ mO M i = x) := fun z => c17 z.1
      refine lv_iinc (v := nI (i + 1)) (lv' := [(3, .int (nI (i + 1))), (2, .int (wBt M x i)), (0, .ref (q 0)), (1, .int (nI x))]) hx hb dX1_wordsOf_41 hl (k := 0) rfl (nI_1 i) (by decide) rfl (fun ls hl => ?_)
      refine lv_goto (tgt := 4) hx hb dX1_wordsOf_44 (by decide) ?_
      refine ih4 (i + 1) ls ?_ ?_ ?_
      · omega
      · show lv_has ls 4 [(3, .int (nI (i + 1))), (2, .int (wBt M x (i + 1))), (0, .ref (q 0)), (1, .int (nI x))]
        rw [wBt_f c27]
        exact lv_sub hl [0, 1, 2, 3] rfl
      · omega
    · refine lv_aload_n hx hb dX1_wordsOf_20 rfl (lv_at hl 2 rfl) ?_
      refine va_get (D := G) (ci := 0) (v := .ref (q 6)) (C := RX1) (T := TX1) (N := 13) hx hb hts iX1_wordsOf_X1 hown hK hP 0 rfl rfl 6 (by decide) (hts (.fieldLink RX1 15 "NailedOrders$Door" "owners" "[I") (by decide +kernel)) (fun _ h9 => h9) rfl dX1_wordsOf_21 ?_
      refine lv_iload_n hx hb dX1_wordsOf_24 rfl (lv_at hl 0 rfl) ?_
      refine o_iald hx hb hK hP 2 0 rfl rfl i (by omega) (by decide) dX1_wordsOf_25 ?_
      refine lv_iload_n hx hb dX1_wordsOf_26 rfl (lv_at hl 3 rfl) ?_
      refine o_icmp_ne (tgt := 41) hx hb dX1_wordsOf_27 (by decide) (by omega) (by omega) (fun c26 => ?_) (fun c26 => ?_)
      · have c27 : ¬ (mF M i = 1 ∧ mO M i = x) := fun z => c26 z.2
        refine lv_iinc (v := nI (i + 1)) (lv' := [(3, .int (nI (i + 1))), (2, .int (wBt M x i)), (0, .ref (q 0)), (1, .int (nI x))]) hx hb dX1_wordsOf_41 hl (k := 0) rfl (nI_1 i) (by decide) rfl (fun ls hl => ?_)
        refine lv_goto (tgt := 4) hx hb dX1_wordsOf_44 (by decide) ?_
        refine ih4 (i + 1) ls ?_ ?_ ?_
        · omega
        · show lv_has ls 4 [(3, .int (nI (i + 1))), (2, .int (wBt M x (i + 1))), (0, .ref (q 0)), (1, .int (nI x))]
          rw [wBt_f c27]
          exact lv_sub hl [0, 1, 2, 3] rfl
        · omega
      · have c27 : mF M i = 1 ∧ mO M i = x := ⟨c17, c26⟩
        refine lv_iload_n hx hb dX1_wordsOf_30 rfl (lv_at hl 1 rfl) ?_
        refine lv_iconst (v := nI 1) hx hb dX1_wordsOf_31 (by decide +kernel) ?_
        refine lv_aload_n hx hb dX1_wordsOf_32 rfl (lv_at hl 2 rfl) ?_
        refine va_get (D := G) (ci := 0) (v := .ref (q 7)) (C := RX1) (T := TX1) (N := 13) hx hb hts iX1_wordsOf_X1 hown hK hP 0 rfl rfl 7 (by decide) (hts (.fieldLink RX1 18 "NailedOrders$Door" "words" "[I") (by decide +kernel)) (fun _ h9 => h9) rfl dX1_wordsOf_33 ?_
        refine lv_iload_n hx hb dX1_wordsOf_36 rfl (lv_at hl 0 rfl) ?_
        refine o_iald hx hb hK hP 3 0 rfl rfl i (by omega) (by decide) dX1_wordsOf_37 ?_
        refine lv_ishl hx hb dX1_wordsOf_38 ?_
        refine lv_ior hx hb dX1_wordsOf_39 ?_
        refine lv_istore_n (lv' := [(2, .int (wBt M x i ||| (nI 1 <<< (nI (mW M i) &&& 31)))), (3, .int (nI i)), (0, .ref (q 0)), (1, .int (nI x))]) hx hb dX1_wordsOf_40 rfl hl (by decide) rfl (fun ls hl => ?_)
        refine lv_iinc (v := nI (i + 1)) (lv' := [(3, .int (nI (i + 1))), (2, .int (wBt M x i ||| (nI 1 <<< (nI (mW M i) &&& 31)))), (0, .ref (q 0)), (1, .int (nI x))]) hx hb dX1_wordsOf_41 hl (k := 1) rfl (nI_1 i) (by decide) rfl (fun ls hl => ?_)
        refine lv_goto (tgt := 4) hx hb dX1_wordsOf_44 (by decide) ?_
        refine ih4 (i + 1) ls ?_ ?_ ?_
        · omega
        · show lv_has ls 4 [(3, .int (nI (i + 1))), (2, .int (wBt M x (i + 1))), (0, .ref (q 0)), (1, .int (nI x))]
          rw [wBt_t c27]
          exact lv_sub hl [0, 1, 2, 3] rfl
        · omega

set_option maxRecDepth 100000 in
theorem iX1_hanging_X1 : ∀ w ∈ u_ws RX1 TX1 13, w ∈ wsX1_hanging := by decide +kernel
set_option maxHeartbeats 4000000 in
set_option maxRecDepth 100000 in
theorem kX1_hanging (l : Launch) (G : va_G) (cy : Nat → ClassId) {H0 : Heap} {q : Nat → Nat} {M : MT} (hW : WB M) (hP : va_P G vwCl (wDo cy q M) H0) : MetI l yX1_hanging wsX1_hanging 1 23 [.ref (q 0)] H0 G cy (nI (cR (ftB M 1) 0 (mN M))) := by
  refine Met.ofW (cc := cX1_hanging) (maxL := 1) (ret := (some .int)) (by decide) rfl ?_
  intro p e s m args below meth c s₁ B hml hv
  obtain ⟨rfl, hH, hK⟩ := hv
  subst hH
  have hx := B.exec
  have hb := B.bytes
  have hr := B.returns
  have hts := atoms_spec (ws := wsX1_hanging) B.pre
  have hown : s.vm.findClass RX1 = some m.cls := findClass_of_methodNamed B.named
  have hlocks := B.notSynchronized
  have hl := lv_entry ([.ref (q 0)]) (n := 1) (Nat.le_of_ble_eq_true rfl)
  rw [lg_entry_eq]
  generalize (lg_sl ([.ref (q 0)]) ++ List.replicate (1 - (lg_sl ([.ref (q 0)])).length) Slot.unset).toArray = ls at hl ⊢
  have hl : lv_has ls 1 [(0, .ref (q 0))] := hl
  obtain ⟨bP, bN, bR, bO, bW, bL, bF⟩ := id hW
  refine lv_aload_n hx hb dX1_hanging_0 rfl (lv_at hl 0 rfl) ?_
  refine lv_iconst (v := nI 1) hx hb dX1_hanging_1 (by decide +kernel) ?_
  refine o_VI (As := [.int (nI 1)]) (rest := []) ⟨hx, hb, hml, hown, hts⟩ (kX1_withFate l G cy hW hP 1 (by decide)) (cwV 1 hts gX1_hanging_X1_withFate rfl rfl rfl (by decide +kernel) ⟨Nat.le_of_ble_eq_true rfl, Nat.le_of_ble_eq_true rfl⟩) hK (va_recv hK hP (ci := 0) (q0 := 0) rfl rfl) rfl hl.1 rfl (Nat.le_of_ble_eq_true rfl) dX1_hanging_2 ⟨Nat.zero_le _, Nat.zero_le _⟩ ?_
  exact o_endI hx hb hr hlocks dX1_hanging_5 rfl

set_option maxRecDepth 100000 in
theorem iX1_hasRoomAfter_X1 : ∀ w ∈ u_ws RX1 TX1 13, w ∈ wsX1_hasRoomAfter := by decide +kernel
set_option maxHeartbeats 4000000 in
set_option maxRecDepth 100000 in
theorem kX1_hasRoomAfter (l : Launch) (G : va_G) (cy : Nat → ClassId) {H0 : Heap} {q : Nat → Nat} {M : MT} (hW : WB M) (hP : va_P G vwCl (wDo cy q M) H0) (r : Nat) (hr9 : r ≤ 9) : MetI l yX1_hasRoomAfter wsX1_hasRoomAfter 2 43 [.ref (q 0), .int (nI r)] H0 G cy (bI (cR (ftB M 1) 0 (mN M) + r < 24 ∧ mN M + r < 40)) := by
  refine Met.ofW (cc := cX1_hasRoomAfter) (maxL := 2) (ret := (some .boolean)) (by decide) rfl ?_
  intro p e s m args below meth c s₁ B hml hv
  obtain ⟨rfl, hH, hK⟩ := hv
  subst hH
  have hx := B.exec
  have hb := B.bytes
  have hr := B.returns
  have hts := atoms_spec (ws := wsX1_hasRoomAfter) B.pre
  have hown : s.vm.findClass RX1 = some m.cls := findClass_of_methodNamed B.named
  have hlocks := B.notSynchronized
  have hl := lv_entry ([.ref (q 0), .int (nI r)]) (n := 2) (Nat.le_of_ble_eq_true rfl)
  rw [lg_entry_eq]
  generalize (lg_sl ([.ref (q 0), .int (nI r)]) ++ List.replicate (2 - (lg_sl ([.ref (q 0), .int (nI r)])).length) Slot.unset).toArray = ls at hl ⊢
  have hl : lv_has ls 2 [(0, .ref (q 0)), (1, .int (nI r))] := hl
  obtain ⟨bP, bN, bR, bO, bW, bL, bF⟩ := id hW
  have b1 := cR_le (ftB M 1) 0 (mN M)
  refine lv_aload_n hx hb dX1_hasRoomAfter_0 rfl (lv_at hl 0 rfl) ?_
  refine o_VI (As := []) (rest := []) ⟨hx, hb, hml, hown, hts⟩ (kX1_hanging l G cy hW hP) (cwV 0 hts gX1_hasRoomAfter_X1_hanging rfl rfl rfl (by decide +kernel) ⟨Nat.le_of_ble_eq_true rfl, Nat.le_of_ble_eq_true rfl⟩) hK (va_recv hK hP (ci := 0) (q0 := 0) rfl rfl) rfl hl.1 rfl (Nat.le_of_ble_eq_true rfl) dX1_hasRoomAfter_1 ⟨Nat.zero_le _, Nat.zero_le _⟩ ?_
  refine lv_iload_n hx hb dX1_hasRoomAfter_4 rfl (lv_at hl 1 rfl) ?_
  refine lv_iadd hx hb dX1_hasRoomAfter_5 ?_
  rw [nI_add]
  refine lv_bipush (v := nI 24) hx hb dX1_hasRoomAfter_6 (by decide +kernel) ?_
  refine o_icmp_ge (tgt := 26) hx hb dX1_hasRoomAfter_8 (by decide) (by omega) (by omega) (fun c8 => ?_) (fun c8 => ?_)
  · refine lv_iconst (v := nI 0) hx hb dX1_hasRoomAfter_26 (by decide +kernel) ?_
    exact o_endZ hx hb hr hlocks dX1_hasRoomAfter_27 (by decide) ((by rw [bI_f (by omega)]; decide))
  · refine lv_aload_n hx hb dX1_hasRoomAfter_11 rfl (lv_at hl 0 rfl) ?_
    refine va_get (D := G) (ci := 0) (v := .int (nI (mN M))) (C := RX1) (T := TX1) (N := 13) hx hb hts iX1_hasRoomAfter_X1 hown hK hP 0 rfl rfl 5 (by decide) (hts (.fieldLink RX1 51 "NailedOrders$Door" "orders" "I") (by decide +kernel)) (fun _ h9 => h9) rfl dX1_hasRoomAfter_12 ?_
    refine lv_iload_n hx hb dX1_hasRoomAfter_15 rfl (lv_at hl 1 rfl) ?_
    refine lv_iadd hx hb dX1_hasRoomAfter_16 ?_
    rw [nI_add]
    refine lv_bipush (v := nI 40) hx hb dX1_hasRoomAfter_17 (by decide +kernel) ?_
    refine o_icmp_ge (tgt := 26) hx hb dX1_hasRoomAfter_19 (by decide) (by omega) (by omega) (fun c19 => ?_) (fun c19 => ?_)
    · refine lv_iconst (v := nI 0) hx hb dX1_hasRoomAfter_26 (by decide +kernel) ?_
      exact o_endZ hx hb hr hlocks dX1_hasRoomAfter_27 (by decide) ((by rw [bI_f (by omega)]; decide))
    · refine lv_iconst (v := nI 1) hx hb dX1_hasRoomAfter_22 (by decide +kernel) ?_
      refine lv_goto (tgt := 27) hx hb dX1_hasRoomAfter_23 (by decide) ?_
      exact o_endZ hx hb hr hlocks dX1_hasRoomAfter_27 (by decide) ((by rw [bI_t (by omega)]; decide))
