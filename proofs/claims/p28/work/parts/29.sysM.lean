set_option maxRecDepth 100000 in
theorem iX7_addPerson_X1 : ∀ w ∈ u_ws RX1 TX1 13, w ∈ wsX7_addPerson := by decide +kernel
set_option maxHeartbeats 4000000 in
set_option maxRecDepth 100000 in
theorem kX7_addPerson (l : Launch) (G : va_G) (cy : Nat → ClassId) {H0 : Heap} {z : Nat} {q h x r y : Nat → Nat} {k : Nat} {d : Nat → Nat → Nat} {E : Nat → MT} {M : MT} {A0 : Nat → Prop} (hk4 : k ≤ 4) (hW : WB M) (hP : va_P G vwCl ([oSy z q h x r y] ++ (wHi cy h k d E ++ wDo cy q M)) H0) (hD0 : va_D A0 ([oSy z q h x r y] ++ (wHi cy h k d E ++ wDo cy q M))) (u : Nat) (hu : 1 ≤ u ∧ u ≤ 5) (hp : mP M < 6) : MutS l yX7_addPerson wsX7_addPerson 3 101 [.ref z, .int (nI u)] H0 G cy (nI (mP M)) h ([oSy z q h x r y] ++ (wHi cy h k d E ++ wDo cy q M)) [oSy z q h x r y] (wDo cy q (mP M + 1, mN M, mS M, mB M, mT M, va_up (mR M) (mP M) u, mO M, mW M, mL M, mF M, mA M, mU M, mH M)) := by
  refine Met.ofW (cc := cX7_addPerson) (maxL := 2) (ret := (some .int)) (by decide) rfl ?_
  intro p e s m args below meth c s₁ B hml hv
  obtain ⟨rfl, hH, hK⟩ := hv
  subst hH
  have hx := B.exec
  have hb := B.bytes
  have hr := B.returns
  have hts := atoms_spec (ws := wsX7_addPerson) B.pre
  have hown : s.vm.findClass RX7 = some m.cls := findClass_of_methodNamed B.named
  have hlocks := B.notSynchronized
  have hl := lv_entry ([.ref z, .int (nI u)]) (n := 2) (Nat.le_of_ble_eq_true rfl)
  rw [lg_entry_eq]
  generalize (lg_sl ([.ref z, .int (nI u)]) ++ List.replicate (2 - (lg_sl ([.ref z, .int (nI u)])).length) Slot.unset).toArray = ls at hl ⊢
  have hl : lv_has ls 2 [(0, .ref z), (1, .int (nI u))] := hl
  obtain ⟨bP, bN, bR, bO, bW, bL, bF⟩ := id hW
  have hPd := hP.sub (ws' := wDo cy q M) [39, 40, 41, 42, 43, 44, 45, 46, 47] rfl
  have hD := hD0.self (sz := s.heap.size)
  generalize hAe : va_A ([oSy z q h x r y] ++ (wHi cy h k d E ++ wDo cy q M)) s.heap.size = A at hD ⊢
  have hA : ∀ q : Nat, s.heap.size ≤ q → A q := fun q h => by rw [← hAe]; exact Or.inr h
  have hS : va_S A s.heap s.heap [] := va_S.rf
  refine lv_iload_n hx hb dX7_addPerson_0 rfl (lv_at hl 1 rfl) ?_
  refine o_SI (As := [.int (nI u)]) (rest := []) ⟨hx, hb, hml, hown, hts⟩ (kX7_isRank l G cy u (by omega)) (va_cwS 1 hts gX7_addPerson_X7_isRank rfl rfl rfl (by decide +kernel) ⟨Nat.le_of_ble_eq_true rfl, Nat.le_of_ble_eq_true rfl⟩) hK rfl hl.1 rfl (Nat.le_of_ble_eq_true rfl) dX7_addPerson_1 ⟨Nat.zero_le _, Nat.zero_le _⟩ ?_
  refine o_ifb_ne (tgt := 10) hx hb dX7_addPerson_4 (by decide) (fun c4 => ?_) (fun c4 => ?_)
  · refine lv_aload_n hx hb dX7_addPerson_10 rfl (lv_at hl 0 rfl) ?_
    refine va_get (D := G) (ci := 6) (v := .ref (q 0)) (C := RX7) (T := TX7) (N := 9) hx hb hts iX7_addPerson_X7 hown hK hP 0 rfl rfl 0 (by decide) (hts (.fieldLink RX7 10 "NailedOrders" "door" "LNailedOrders$Door;") (by decide +kernel)) (fun _ h9 => h9) rfl dX7_addPerson_11 ?_
    refine va_get (D := G) (ci := 0) (v := .int (nI (mP M))) (C := RX1) (T := TX1) (N := 13) hx hb hts iX7_addPerson_X1 hown hK hP 39 rfl rfl 0 (by decide) (hts (.fieldLink RX7 69 "NailedOrders$Door" "persons" "I") (by decide +kernel)) (fun _ h9 => h9) rfl dX7_addPerson_14 ?_
    refine lv_bipush (v := nI 6) hx hb dX7_addPerson_17 (by decide +kernel) ?_
    refine o_icmp_lt (tgt := 25) hx hb dX7_addPerson_19 (by decide) (by omega) (by omega) (fun c19 => ?_) (fun c19 => ?_)
    · refine lv_aload_n hx hb dX7_addPerson_25 rfl (lv_at hl 0 rfl) ?_
      refine va_get (D := G) (ci := 6) (v := .ref (h 0)) (C := RX7) (T := TX7) (N := 9) hx hb hts iX7_addPerson_X7 hown hK hP 0 rfl rfl 3 (by decide) (hts (.fieldLink RX7 26 "NailedOrders" "history" "LNailedOrders$History;") (by decide +kernel)) (fun _ h9 => h9) rfl dX7_addPerson_26 ?_
      refine lv_aload_n hx hb dX7_addPerson_29 rfl (lv_at hl 0 rfl) ?_
      refine va_get (D := G) (ci := 6) (v := .ref (q 0)) (C := RX7) (T := TX7) (N := 9) hx hb hts iX7_addPerson_X7 hown hK hP 0 rfl rfl 0 (by decide) (hts (.fieldLink RX7 10 "NailedOrders" "door" "LNailedOrders$Door;") (by decide +kernel)) (fun _ h9 => h9) rfl dX7_addPerson_30 ?_
      have hPc := hP.sub (ws' := wHi cy h k d E ++ wDo cy q M) [1, 2, 3, 4, 5, 6, 7, 8, 9, 10, 11, 12, 13, 14, 15, 16, 17, 18, 19, 20, 21, 22, 23, 24, 25, 26, 27, 28, 29, 30, 31, 32, 33, 34, 35, 36, 37, 38, 39, 40, 41, 42, 43, 44, 45, 46, 47] rfl
      have hDc := hD.sub (ws' := wHi cy h k d E ++ wDo cy q M) [1, 2, 3, 4, 5, 6, 7, 8, 9, 10, 11, 12, 13, 14, 15, 16, 17, 18, 19, 20, 21, 22, 23, 24, 25, 26, 27, 28, 29, 30, 31, 32, 33, 34, 35, 36, 37, 38, 39, 40, 41, 42, 43, 44, 45, 46, 47] (by decide) rfl
      have hFc := va_free (wc := wHi cy h k d E ++ wDo cy q M) hD hS hA [1, 2, 3, 4, 5, 6, 7, 8, 9, 10, 11, 12, 13, 14, 15, 16, 17, 18, 19, 20, 21, 22, 23, 24, 25, 26, 27, 28, 29, 30, 31, 32, 33, 34, 35, 36, 37, 38, 39, 40, 41, 42, 43, 44, 45, 46, 47] rfl
      refine va_callv (va_runV (As := [.ref (q 0)]) (rest := []) ⟨hx, hb, hml, hown, hts⟩ (kX2_record l G cy k hk4 hPc hDc) (cwV 1 hts gX7_addPerson_X2_record rfl rfl rfl (by decide +kernel) ⟨Nat.le_of_ble_eq_true rfl, Nat.le_of_ble_eq_true rfl⟩) ⟨pR_blind, va_recv hK hP (ci := 1) (q0 := 1) rfl rfl, pR_at hK⟩ rfl rfl hl.1 rfl (lv_room (Nat.le_of_ble_eq_true rfl)) dX7_addPerson_33 ⟨Nat.zero_le _, Nat.zero_le _⟩) hS (fun q _ h => hFc q h) hFc (fun u_ t_ H locs ht hvm hw hB hz1 hk1 hS => ?_)
      obtain ⟨k1, d1, E1⟩ := u_
      have hk5 : k1 ≤ 4 := hw
      have hB : va_P G vwCl (wHi cy h k1 d1 E1 ++ wDo cy q M) t_.heap ∧ va_D (va_A (wHi cy h k d E ++ wDo cy q M) _) (wHi cy h k1 d1 E1 ++ wDo cy q M) := hB
      rw [ht] at hB
      obtain ⟨hP1, hD1⟩ := hB
      obtain ⟨hP, hD⟩ := va_join (wr := [oSy z q h x r y]) hP hD [1, 2, 3, 4, 5, 6, 7, 8, 9, 10, 11, 12, 13, 14, 15, 16, 17, 18, 19, 20, 21, 22, 23, 24, 25, 26, 27, 28, 29, 30, 31, 32, 33, 34, 35, 36, 37, 38, 39, 40, 41, 42, 43, 44, 45, 46, 47] [0] rfl rfl (by decide) (by decide) hk1 hFc hP1 hD1
      refine lv_aload_n hx hb dX7_addPerson_36 rfl (lv_at hl 0 rfl) ?_
      refine va_get (D := G) (ci := 6) (v := .ref (q 0)) (C := RX7) (T := TX7) (N := 9) hx hb hts iX7_addPerson_X7 hown hK hP 0 rfl rfl 0 (by decide) (hts (.fieldLink RX7 10 "NailedOrders" "door" "LNailedOrders$Door;") (by decide +kernel)) (fun _ h9 => h9) rfl dX7_addPerson_37 ?_
      refine lv_iload_n hx hb dX7_addPerson_40 rfl (lv_at hl 1 rfl) ?_
      have hPc := hP.sub (ws' := wDo cy q M) [39, 40, 41, 42, 43, 44, 45, 46, 47] rfl
      have hDc := hD.sub (ws' := wDo cy q M) [39, 40, 41, 42, 43, 44, 45, 46, 47] (by decide) rfl
      have hFc := va_free (wc := wDo cy q M) hD hS hA [39, 40, 41, 42, 43, 44, 45, 46, 47] rfl
      refine va_calli (va_runV (As := [.int (nI u)]) (rest := []) ⟨hx, hb, hml, hown, hts⟩ (kX1_admit l G cy hW hPc hDc u hp) (cwV 1 hts gX7_addPerson_X1_admit rfl rfl rfl (by decide +kernel) ⟨Nat.le_of_ble_eq_true rfl, Nat.le_of_ble_eq_true rfl⟩) ⟨pR_blind, va_recv hK hP (ci := 0) (q0 := 39) rfl rfl, pR_at hK⟩ rfl rfl hl.1 rfl (lv_room (Nat.le_of_ble_eq_true rfl)) dX7_addPerson_41 ⟨Nat.zero_le _, Nat.zero_le _⟩) hS (fun q _ h => hFc q h) hFc (fun r_ u_ t_ H locs ht hvm hw hB hz1 hk1 hS => ?_)
      rw [ht] at hB
      have hP : va_P G vwCl ([oSy z q h x r y] ++ [(h 0, .inr (1, [.ref (h 1), .int (nI k1)])), (h 1, eR cy 4 (fun i => some (d1 i 0)))] ++ wDo cy (d1 0) (E1 0) ++ wDo cy (d1 1) (E1 1) ++ wDo cy (d1 2) (E1 2) ++ wDo cy (d1 3) (E1 3) ++ wDo cy q (mP M + 1, mN M, mS M, mB M, mT M, va_up (mR M) (mP M) u, mO M, mW M, mL M, mF M, mA M, mU M, mH M)) H := (o_join hP hD [39, 40, 41, 42, 43, 44, 45, 46, 47] [0, 1, 2, 3, 4, 5, 6, 7, 8, 9, 10, 11, 12, 13, 14, 15, 16, 17, 18, 19, 20, 21, 22, 23, 24, 25, 26, 27, 28, 29, 30, 31, 32, 33, 34, 35, 36, 37, 38] rfl (wr := [oSy z q h x r y] ++ [(h 0, .inr (1, [.ref (h 1), .int (nI k1)])), (h 1, eR cy 4 (fun i => some (d1 i 0)))] ++ wDo cy (d1 0) (E1 0) ++ wDo cy (d1 1) (E1 1) ++ wDo cy (d1 2) (E1 2) ++ wDo cy (d1 3) (E1 3)) rfl (by decide) (by decide) (by decide) hk1 hFc hB rfl).sub [0, 1, 2, 3, 4, 5, 6, 7, 8, 9, 10, 11, 12, 13, 14, 15, 16, 17, 18, 19, 20, 21, 22, 23, 24, 25, 26, 27, 28, 29, 30, 31, 32, 33, 34, 35, 36, 37, 38, 39, 40, 41, 42, 43, 44, 45, 46, 47] rfl
      have hD : va_D A ([oSy z q h x r y] ++ [(h 0, .inr (1, [.ref (h 1), .int (nI k1)])), (h 1, eR cy 4 (fun i => some (d1 i 0)))] ++ wDo cy (d1 0) (E1 0) ++ wDo cy (d1 1) (E1 1) ++ wDo cy (d1 2) (E1 2) ++ wDo cy (d1 3) (E1 3) ++ wDo cy q (mP M + 1, mN M, mS M, mB M, mT M, va_up (mR M) (mP M) u, mO M, mW M, mL M, mF M, mA M, mU M, mH M)) := vd_same hD rfl
      obtain rfl : r_ = nI (mP M) := hw
      exact o_endIs (k := k1) (d := d1) (E := E1) hx hb hr hlocks dX7_addPerson_44 hk5 hP hD hS rfl
    · exact absurd hp (by omega)
  · exact absurd hu c4

set_option maxHeartbeats 4000000 in
set_option maxRecDepth 100000 in
theorem kX7_setRank (l : Launch) (G : va_G) (cy : Nat → ClassId) {H0 : Heap} {z : Nat} {q h x r y : Nat → Nat} {k : Nat} {d : Nat → Nat → Nat} {E : Nat → MT} {M : MT} {A0 : Nat → Prop} (hk4 : k ≤ 4) (hW : WB M) (hP : va_P G vwCl ([oSy z q h x r y] ++ (wHi cy h k d E ++ wDo cy q M)) H0) (hD0 : va_D A0 ([oSy z q h x r y] ++ (wHi cy h k d E ++ wDo cy q M))) (j u : Nat) (hj : j < mP M) (hu : 1 ≤ u ∧ u ≤ 5) (he : ¬ mR M j = u) : MutS l yX7_setRank wsX7_setRank 3 101 [.ref z, .int (nI j), .int (nI u)] H0 G cy (nI (mR M j)) h ([oSy z q h x r y] ++ (wHi cy h k d E ++ wDo cy q M)) [oSy z q h x r y] (wDo cy q (mP M, mN M, mS M, mB M, mT M, va_up (mR M) j u, mO M, mW M, mL M, mF M, mA M, mU M, mH M)) := by
  refine Met.ofW (cc := cX7_setRank) (maxL := 4) (ret := (some .int)) (by decide) rfl ?_
  intro p e s m args below meth c s₁ B hml hv
  obtain ⟨rfl, hH, hK⟩ := hv
  subst hH
  have hx := B.exec
  have hb := B.bytes
  have hr := B.returns
  have hts := atoms_spec (ws := wsX7_setRank) B.pre
  have hown : s.vm.findClass RX7 = some m.cls := findClass_of_methodNamed B.named
  have hlocks := B.notSynchronized
  have hl := lv_entry ([.ref z, .int (nI j), .int (nI u)]) (n := 4) (Nat.le_of_ble_eq_true rfl)
  rw [lg_entry_eq]
  generalize (lg_sl ([.ref z, .int (nI j), .int (nI u)]) ++ List.replicate (4 - (lg_sl ([.ref z, .int (nI j), .int (nI u)])).length) Slot.unset).toArray = ls at hl ⊢
  have hl : lv_has ls 4 [(0, .ref z), (1, .int (nI j)), (2, .int (nI u))] := hl
  obtain ⟨bP, bN, bR, bO, bW, bL, bF⟩ := id hW
  have hPd := hP.sub (ws' := wDo cy q M) [39, 40, 41, 42, 43, 44, 45, 46, 47] rfl
  have hD := hD0.self (sz := s.heap.size)
  generalize hAe : va_A ([oSy z q h x r y] ++ (wHi cy h k d E ++ wDo cy q M)) s.heap.size = A at hD ⊢
  have hA : ∀ q : Nat, s.heap.size ≤ q → A q := fun q h => by rw [← hAe]; exact Or.inr h
  have hS : va_S A s.heap s.heap [] := va_S.rf
  refine lv_aload_n hx hb dX7_setRank_0 rfl (lv_at hl 0 rfl) ?_
  refine va_get (D := G) (ci := 6) (v := .ref (q 0)) (C := RX7) (T := TX7) (N := 9) hx hb hts iX7_setRank_X7 hown hK hP 0 rfl rfl 0 (by decide) (hts (.fieldLink RX7 10 "NailedOrders" "door" "LNailedOrders$Door;") (by decide +kernel)) (fun _ h9 => h9) rfl dX7_setRank_1 ?_
  refine lv_iload_n hx hb dX7_setRank_4 rfl (lv_at hl 1 rfl) ?_
  refine o_VI (As := [.int (nI j)]) (rest := []) ⟨hx, hb, hml, hown, hts⟩ (kX1_isPerson l G cy hW hPd j (by omega)) (cwV 1 hts gX7_setRank_X1_isPerson rfl rfl rfl (by decide +kernel) ⟨Nat.le_of_ble_eq_true rfl, Nat.le_of_ble_eq_true rfl⟩) hK (va_recv hK hP (ci := 0) (q0 := 39) rfl rfl) rfl hl.1 rfl (Nat.le_of_ble_eq_true rfl) dX7_setRank_5 ⟨Nat.zero_le _, Nat.zero_le _⟩ ?_
  refine o_ifb_ne (tgt := 13) hx hb dX7_setRank_8 (by decide) (fun c8 => ?_) (fun c8 => ?_)
  · refine lv_iload_n hx hb dX7_setRank_13 rfl (lv_at hl 2 rfl) ?_
    refine o_SI (As := [.int (nI u)]) (rest := []) ⟨hx, hb, hml, hown, hts⟩ (kX7_isRank l G cy u (by omega)) (va_cwS 1 hts gX7_setRank_X7_isRank rfl rfl rfl (by decide +kernel) ⟨Nat.le_of_ble_eq_true rfl, Nat.le_of_ble_eq_true rfl⟩) hK rfl hl.1 rfl (Nat.le_of_ble_eq_true rfl) dX7_setRank_14 ⟨Nat.zero_le _, Nat.zero_le _⟩ ?_
    refine o_ifb_ne (tgt := 23) hx hb dX7_setRank_17 (by decide) (fun c17 => ?_) (fun c17 => ?_)
    · refine lv_aload_n hx hb dX7_setRank_23 rfl (lv_at hl 0 rfl) ?_
      have b1 := bR j
      refine va_get (D := G) (ci := 6) (v := .ref (q 0)) (C := RX7) (T := TX7) (N := 9) hx hb hts iX7_setRank_X7 hown hK hP 0 rfl rfl 0 (by decide) (hts (.fieldLink RX7 10 "NailedOrders" "door" "LNailedOrders$Door;") (by decide +kernel)) (fun _ h9 => h9) rfl dX7_setRank_24 ?_
      refine va_get (D := G) (ci := 0) (v := .ref (q 1)) (C := RX1) (T := TX1) (N := 13) hx hb hts iX7_setRank_X1 hown hK hP 39 rfl rfl 1 (by decide) (hts (.fieldLink RX7 83 "NailedOrders$Door" "ranks" "[I") (by decide +kernel)) (fun _ h9 => h9) rfl dX7_setRank_27 ?_
      refine lv_iload_n hx hb dX7_setRank_30 rfl (lv_at hl 1 rfl) ?_
      refine o_iald hx hb hK hP 40 0 rfl rfl j (by omega) (by decide) dX7_setRank_31 ?_
      refine lv_istore_n (lv' := [(3, .int (nI (mR M j))), (0, .ref z), (1, .int (nI j)), (2, .int (nI u))]) hx hb dX7_setRank_32 rfl hl (by decide) rfl (fun ls hl => ?_)
      refine lv_iload_n hx hb dX7_setRank_33 rfl (lv_at hl 0 rfl) ?_
      refine lv_iload_n hx hb dX7_setRank_34 rfl (lv_at hl 3 rfl) ?_
      refine o_icmp_ne (tgt := 41) hx hb dX7_setRank_35 (by decide) (by omega) (by omega) (fun c35 => ?_) (fun c35 => ?_)
      · refine lv_aload_n hx hb dX7_setRank_41 rfl (lv_at hl 1 rfl) ?_
        refine va_get (D := G) (ci := 6) (v := .ref (h 0)) (C := RX7) (T := TX7) (N := 9) hx hb hts iX7_setRank_X7 hown hK hP 0 rfl rfl 3 (by decide) (hts (.fieldLink RX7 26 "NailedOrders" "history" "LNailedOrders$History;") (by decide +kernel)) (fun _ h9 => h9) rfl dX7_setRank_42 ?_
        refine lv_aload_n hx hb dX7_setRank_45 rfl (lv_at hl 1 rfl) ?_
        refine va_get (D := G) (ci := 6) (v := .ref (q 0)) (C := RX7) (T := TX7) (N := 9) hx hb hts iX7_setRank_X7 hown hK hP 0 rfl rfl 0 (by decide) (hts (.fieldLink RX7 10 "NailedOrders" "door" "LNailedOrders$Door;") (by decide +kernel)) (fun _ h9 => h9) rfl dX7_setRank_46 ?_
        have hPc := hP.sub (ws' := wHi cy h k d E ++ wDo cy q M) [1, 2, 3, 4, 5, 6, 7, 8, 9, 10, 11, 12, 13, 14, 15, 16, 17, 18, 19, 20, 21, 22, 23, 24, 25, 26, 27, 28, 29, 30, 31, 32, 33, 34, 35, 36, 37, 38, 39, 40, 41, 42, 43, 44, 45, 46, 47] rfl
        have hDc := hD.sub (ws' := wHi cy h k d E ++ wDo cy q M) [1, 2, 3, 4, 5, 6, 7, 8, 9, 10, 11, 12, 13, 14, 15, 16, 17, 18, 19, 20, 21, 22, 23, 24, 25, 26, 27, 28, 29, 30, 31, 32, 33, 34, 35, 36, 37, 38, 39, 40, 41, 42, 43, 44, 45, 46, 47] (by decide) rfl
        have hFc := va_free (wc := wHi cy h k d E ++ wDo cy q M) hD hS hA [1, 2, 3, 4, 5, 6, 7, 8, 9, 10, 11, 12, 13, 14, 15, 16, 17, 18, 19, 20, 21, 22, 23, 24, 25, 26, 27, 28, 29, 30, 31, 32, 33, 34, 35, 36, 37, 38, 39, 40, 41, 42, 43, 44, 45, 46, 47] rfl
        refine va_callv (va_runV (As := [.ref (q 0)]) (rest := []) ⟨hx, hb, hml, hown, hts⟩ (kX2_record l G cy k hk4 hPc hDc) (cwV 1 hts gX7_setRank_X2_record rfl rfl rfl (by decide +kernel) ⟨Nat.le_of_ble_eq_true rfl, Nat.le_of_ble_eq_true rfl⟩) ⟨pR_blind, va_recv hK hP (ci := 1) (q0 := 1) rfl rfl, pR_at hK⟩ rfl rfl hl.1 rfl (lv_room (Nat.le_of_ble_eq_true rfl)) dX7_setRank_49 ⟨Nat.zero_le _, Nat.zero_le _⟩) hS (fun q _ h => hFc q h) hFc (fun u_ t_ H locs ht hvm hw hB hz1 hk1 hS => ?_)
        obtain ⟨k1, d1, E1⟩ := u_
        have hk5 : k1 ≤ 4 := hw
        have hB : va_P G vwCl (wHi cy h k1 d1 E1 ++ wDo cy q M) t_.heap ∧ va_D (va_A (wHi cy h k d E ++ wDo cy q M) _) (wHi cy h k1 d1 E1 ++ wDo cy q M) := hB
        rw [ht] at hB
        obtain ⟨hP1, hD1⟩ := hB
        obtain ⟨hP, hD⟩ := va_join (wr := [oSy z q h x r y]) hP hD [1, 2, 3, 4, 5, 6, 7, 8, 9, 10, 11, 12, 13, 14, 15, 16, 17, 18, 19, 20, 21, 22, 23, 24, 25, 26, 27, 28, 29, 30, 31, 32, 33, 34, 35, 36, 37, 38, 39, 40, 41, 42, 43, 44, 45, 46, 47] [0] rfl rfl (by decide) (by decide) hk1 hFc hP1 hD1
        refine lv_aload_n hx hb dX7_setRank_52 rfl (lv_at hl 1 rfl) ?_
        refine va_get (D := G) (ci := 6) (v := .ref (q 0)) (C := RX7) (T := TX7) (N := 9) hx hb hts iX7_setRank_X7 hown hK hP 0 rfl rfl 0 (by decide) (hts (.fieldLink RX7 10 "NailedOrders" "door" "LNailedOrders$Door;") (by decide +kernel)) (fun _ h9 => h9) rfl dX7_setRank_53 ?_
        refine va_get (D := G) (ci := 0) (v := .ref (q 1)) (C := RX1) (T := TX1) (N := 13) hx hb hts iX7_setRank_X1 hown hK hP 39 rfl rfl 1 (by decide) (hts (.fieldLink RX7 83 "NailedOrders$Door" "ranks" "[I") (by decide +kernel)) (fun _ h9 => h9) rfl dX7_setRank_56 ?_
        refine lv_iload_n hx hb dX7_setRank_59 rfl (lv_at hl 2 rfl) ?_
        refine lv_iload_n hx hb dX7_setRank_60 rfl (lv_at hl 3 rfl) ?_
        refine o_iast hx hb hK hP hD hS 40 0 rfl rfl j (by omega) (by decide) (upd_nI (mR M) j u) dX7_setRank_61 (fun H locs hP hD hS => ?_)
        have hP : va_P G vwCl ([oSy z q h x r y] ++ [(h 0, .inr (1, [.ref (h 1), .int (nI k1)])), (h 1, eR cy 4 (fun i => some (d1 i 0)))] ++ wDo cy (d1 0) (E1 0) ++ wDo cy (d1 1) (E1 1) ++ wDo cy (d1 2) (E1 2) ++ wDo cy (d1 3) (E1 3) ++ wDo cy q (mP M, mN M, mS M, mB M, mT M, va_up (mR M) j u, mO M, mW M, mL M, mF M, mA M, mU M, mH M)) H := hP
        have hD : va_D A ([oSy z q h x r y] ++ [(h 0, .inr (1, [.ref (h 1), .int (nI k1)])), (h 1, eR cy 4 (fun i => some (d1 i 0)))] ++ wDo cy (d1 0) (E1 0) ++ wDo cy (d1 1) (E1 1) ++ wDo cy (d1 2) (E1 2) ++ wDo cy (d1 3) (E1 3) ++ wDo cy q (mP M, mN M, mS M, mB M, mT M, va_up (mR M) j u, mO M, mW M, mL M, mF M, mA M, mU M, mH M)) := hD
        refine lv_iload_n hx hb dX7_setRank_62 rfl (lv_at hl 0 rfl) ?_
        exact o_endIs (k := k1) (d := d1) (E := E1) hx hb hr hlocks dX7_setRank_63 hk5 hP hD hS rfl
      · exact absurd c35 he
    · exact absurd hu c17
  · exact absurd hj c8

set_option maxHeartbeats 4000000 in
set_option maxRecDepth 100000 in
theorem kX7_setTolerance (l : Launch) (G : va_G) (cy : Nat → ClassId) {H0 : Heap} {z : Nat} {q h x r y : Nat → Nat} {k : Nat} {d : Nat → Nat → Nat} {E : Nat → MT} {M : MT} {A0 : Nat → Prop} (hk4 : k ≤ 4) (hW : WB M) (hP : va_P G vwCl ([oSy z q h x r y] ++ (wHi cy h k d E ++ wDo cy q M)) H0) (hD0 : va_D A0 ([oSy z q h x r y] ++ (wHi cy h k d E ++ wDo cy q M))) (b : Int32) (hb0 : ¬ b < 0 ∧ frB b FP.fconst0 1120403456 = true) (he : ¬ b = mB M) : MutS l yX7_setTolerance wsX7_setTolerance 4 101 [.ref z, .int b] H0 G cy (1) h ([oSy z q h x r y] ++ (wHi cy h k d E ++ wDo cy q M)) [oSy z q h x r y] (wDo cy q (mP M, mN M, mS M, b, tfl b, mR M, mO M, mW M, mL M, mF M, mA M, mU M, mH M)) := by
  refine Met.ofW (cc := cX7_setTolerance) (maxL := 2) (ret := (some .int)) (by decide) rfl ?_
  intro p e s m args below meth c s₁ B hml hv
  obtain ⟨rfl, hH, hK⟩ := hv
  subst hH
  have hx := B.exec
  have hb := B.bytes
  have hr := B.returns
  have hts := atoms_spec (ws := wsX7_setTolerance) B.pre
  have hown : s.vm.findClass RX7 = some m.cls := findClass_of_methodNamed B.named
  have hlocks := B.notSynchronized
  have hl := lv_entry ([.ref z, .int b]) (n := 2) (Nat.le_of_ble_eq_true rfl)
  rw [lg_entry_eq]
  generalize (lg_sl ([.ref z, .int b]) ++ List.replicate (2 - (lg_sl ([.ref z, .int b])).length) Slot.unset).toArray = ls at hl ⊢
  have hl : lv_has ls 2 [(0, .ref z), (1, .int b)] := hl
  obtain ⟨bP, bN, bR, bO, bW, bL, bF⟩ := id hW
  have hPd := hP.sub (ws' := wDo cy q M) [39, 40, 41, 42, 43, 44, 45, 46, 47] rfl
  have hD := hD0.self (sz := s.heap.size)
  generalize hAe : va_A ([oSy z q h x r y] ++ (wHi cy h k d E ++ wDo cy q M)) s.heap.size = A at hD ⊢
  have hA : ∀ q : Nat, s.heap.size ≤ q → A q := fun q h => by rw [← hAe]; exact Or.inr h
  have hS : va_S A s.heap s.heap [] := va_S.rf
  refine lv_iload_n hx hb dX7_setTolerance_0 rfl (lv_at hl 1 rfl) ?_
  refine o_SI (As := [.int b]) (rest := []) ⟨hx, hb, hml, hown, hts⟩ (kX0_areTolerance l G cy b) (va_cwS 1 hts gX7_setTolerance_X0_areTolerance rfl rfl rfl (by decide +kernel) ⟨Nat.le_of_ble_eq_true rfl, Nat.le_of_ble_eq_true rfl⟩) hK rfl hl.1 rfl (Nat.le_of_ble_eq_true rfl) dX7_setTolerance_1 ⟨Nat.zero_le _, Nat.zero_le _⟩ ?_
  refine o_ifb_ne (tgt := 10) hx hb dX7_setTolerance_4 (by decide) (fun c4 => ?_) (fun c4 => ?_)
  · refine lv_iload_n hx hb dX7_setTolerance_10 rfl (lv_at hl 1 rfl) ?_
    refine lv_aload_n hx hb dX7_setTolerance_11 rfl (lv_at hl 0 rfl) ?_
    refine va_get (D := G) (ci := 6) (v := .ref (q 0)) (C := RX7) (T := TX7) (N := 9) hx hb hts iX7_setTolerance_X7 hown hK hP 0 rfl rfl 0 (by decide) (hts (.fieldLink RX7 10 "NailedOrders" "door" "LNailedOrders$Door;") (by decide +kernel)) (fun _ h9 => h9) rfl dX7_setTolerance_12 ?_
    refine va_get (D := G) (ci := 0) (v := .int (mB M)) (C := RX1) (T := TX1) (N := 13) hx hb hts iX7_setTolerance_X1 hown hK hP 39 rfl rfl 2 (by decide) (hts (.fieldLink RX7 92 "NailedOrders$Door" "toleranceBits" "I") (by decide +kernel)) (fun _ h9 => h9) rfl dX7_setTolerance_15 ?_
    refine lv_icmp_ne (tgt := 24) hx hb dX7_setTolerance_18 (by decide) (fun c18 => ?_) (fun c18 => ?_)
    · refine lv_aload_n hx hb dX7_setTolerance_24 rfl (lv_at hl 0 rfl) ?_
      refine va_get (D := G) (ci := 6) (v := .ref (h 0)) (C := RX7) (T := TX7) (N := 9) hx hb hts iX7_setTolerance_X7 hown hK hP 0 rfl rfl 3 (by decide) (hts (.fieldLink RX7 26 "NailedOrders" "history" "LNailedOrders$History;") (by decide +kernel)) (fun _ h9 => h9) rfl dX7_setTolerance_25 ?_
      refine lv_aload_n hx hb dX7_setTolerance_28 rfl (lv_at hl 0 rfl) ?_
      refine va_get (D := G) (ci := 6) (v := .ref (q 0)) (C := RX7) (T := TX7) (N := 9) hx hb hts iX7_setTolerance_X7 hown hK hP 0 rfl rfl 0 (by decide) (hts (.fieldLink RX7 10 "NailedOrders" "door" "LNailedOrders$Door;") (by decide +kernel)) (fun _ h9 => h9) rfl dX7_setTolerance_29 ?_
      have hPc := hP.sub (ws' := wHi cy h k d E ++ wDo cy q M) [1, 2, 3, 4, 5, 6, 7, 8, 9, 10, 11, 12, 13, 14, 15, 16, 17, 18, 19, 20, 21, 22, 23, 24, 25, 26, 27, 28, 29, 30, 31, 32, 33, 34, 35, 36, 37, 38, 39, 40, 41, 42, 43, 44, 45, 46, 47] rfl
      have hDc := hD.sub (ws' := wHi cy h k d E ++ wDo cy q M) [1, 2, 3, 4, 5, 6, 7, 8, 9, 10, 11, 12, 13, 14, 15, 16, 17, 18, 19, 20, 21, 22, 23, 24, 25, 26, 27, 28, 29, 30, 31, 32, 33, 34, 35, 36, 37, 38, 39, 40, 41, 42, 43, 44, 45, 46, 47] (by decide) rfl
      have hFc := va_free (wc := wHi cy h k d E ++ wDo cy q M) hD hS hA [1, 2, 3, 4, 5, 6, 7, 8, 9, 10, 11, 12, 13, 14, 15, 16, 17, 18, 19, 20, 21, 22, 23, 24, 25, 26, 27, 28, 29, 30, 31, 32, 33, 34, 35, 36, 37, 38, 39, 40, 41, 42, 43, 44, 45, 46, 47] rfl
      refine va_callv (va_runV (As := [.ref (q 0)]) (rest := []) ⟨hx, hb, hml, hown, hts⟩ (kX2_record l G cy k hk4 hPc hDc) (cwV 1 hts gX7_setTolerance_X2_record rfl rfl rfl (by decide +kernel) ⟨Nat.le_of_ble_eq_true rfl, Nat.le_of_ble_eq_true rfl⟩) ⟨pR_blind, va_recv hK hP (ci := 1) (q0 := 1) rfl rfl, pR_at hK⟩ rfl rfl hl.1 rfl (lv_room (Nat.le_of_ble_eq_true rfl)) dX7_setTolerance_32 ⟨Nat.zero_le _, Nat.zero_le _⟩) hS (fun q _ h => hFc q h) hFc (fun u_ t_ H locs ht hvm hw hB hz1 hk1 hS => ?_)
      obtain ⟨k1, d1, E1⟩ := u_
      have hk5 : k1 ≤ 4 := hw
      have hB : va_P G vwCl (wHi cy h k1 d1 E1 ++ wDo cy q M) t_.heap ∧ va_D (va_A (wHi cy h k d E ++ wDo cy q M) _) (wHi cy h k1 d1 E1 ++ wDo cy q M) := hB
      rw [ht] at hB
      obtain ⟨hP1, hD1⟩ := hB
      obtain ⟨hP, hD⟩ := va_join (wr := [oSy z q h x r y]) hP hD [1, 2, 3, 4, 5, 6, 7, 8, 9, 10, 11, 12, 13, 14, 15, 16, 17, 18, 19, 20, 21, 22, 23, 24, 25, 26, 27, 28, 29, 30, 31, 32, 33, 34, 35, 36, 37, 38, 39, 40, 41, 42, 43, 44, 45, 46, 47] [0] rfl rfl (by decide) (by decide) hk1 hFc hP1 hD1
      refine lv_aload_n hx hb dX7_setTolerance_35 rfl (lv_at hl 0 rfl) ?_
      refine va_get (D := G) (ci := 6) (v := .ref (q 0)) (C := RX7) (T := TX7) (N := 9) hx hb hts iX7_setTolerance_X7 hown hK hP 0 rfl rfl 0 (by decide) (hts (.fieldLink RX7 10 "NailedOrders" "door" "LNailedOrders$Door;") (by decide +kernel)) (fun _ h9 => h9) rfl dX7_setTolerance_36 ?_
      refine lv_iload_n hx hb dX7_setTolerance_39 rfl (lv_at hl 1 rfl) ?_
      refine va_put (D := G) (ci := 0) (v := .int b) (ty := .int) (C := RX1) (T := TX1) (N := 13) hx hb hts iX7_setTolerance_X1 tyX1 tyX1_ok nmX1 hown hK hP hD hS 39 rfl rfl 2 (by decide) (hts (.fieldLink RX7 92 "NailedOrders$Door" "toleranceBits" "I") (by decide +kernel)) (fun _ h9 => h9) rfl (by decide +kernel) rfl rfl (Nat.le_of_ble_eq_true rfl) dX7_setTolerance_40 (fun H locs hP hD hS => ?_)
      have hP : va_P G vwCl ([oSy z q h x r y] ++ [(h 0, .inr (1, [.ref (h 1), .int (nI k1)])), (h 1, eR cy 4 (fun i => some (d1 i 0)))] ++ wDo cy (d1 0) (E1 0) ++ wDo cy (d1 1) (E1 1) ++ wDo cy (d1 2) (E1 2) ++ wDo cy (d1 3) (E1 3) ++ wDo cy q (mP M, mN M, mS M, b, mT M, mR M, mO M, mW M, mL M, mF M, mA M, mU M, mH M)) H := hP
      have hD : va_D A ([oSy z q h x r y] ++ [(h 0, .inr (1, [.ref (h 1), .int (nI k1)])), (h 1, eR cy 4 (fun i => some (d1 i 0)))] ++ wDo cy (d1 0) (E1 0) ++ wDo cy (d1 1) (E1 1) ++ wDo cy (d1 2) (E1 2) ++ wDo cy (d1 3) (E1 3) ++ wDo cy q (mP M, mN M, mS M, b, mT M, mR M, mO M, mW M, mL M, mF M, mA M, mU M, mH M)) := hD
      refine lv_aload_n hx hb dX7_setTolerance_43 rfl (lv_at hl 0 rfl) ?_
      refine va_get (D := G) (ci := 6) (v := .ref (q 0)) (C := RX7) (T := TX7) (N := 9) hx hb hts iX7_setTolerance_X7 hown hK hP 0 rfl rfl 0 (by decide) (hts (.fieldLink RX7 10 "NailedOrders" "door" "LNailedOrders$Door;") (by decide +kernel)) (fun _ h9 => h9) rfl dX7_setTolerance_44 ?_
      refine lv_iload_n hx hb dX7_setTolerance_47 rfl (lv_at hl 1 rfl) ?_
      refine o_SF (As := [.int b]) (rest := [.ref (q 0)]) ⟨hx, hb, hml, hown, hts⟩ (kX0_toFloat l G cy b) (va_cwS 1 hts gX7_setTolerance_X0_toFloat rfl rfl rfl (by decide +kernel) ⟨Nat.le_of_ble_eq_true rfl, Nat.le_of_ble_eq_true rfl⟩) hK rfl hl.1 rfl (Nat.le_of_ble_eq_true rfl) dX7_setTolerance_48 ⟨Nat.zero_le _, Nat.zero_le _⟩ ?_
      refine va_put (D := G) (ci := 0) (v := .float (tfl b)) (ty := .float) (C := RX1) (T := TX1) (N := 13) hx hb hts iX7_setTolerance_X1 tyX1 tyX1_ok nmX1 hown hK hP hD hS 39 rfl rfl 3 (by decide) (hts (.fieldLink RX7 99 "NailedOrders$Door" "tolerance" "F") (by decide +kernel)) (fun _ h9 => h9) rfl (by decide +kernel) rfl rfl (Nat.le_of_ble_eq_true rfl) dX7_setTolerance_51 (fun H locs hP hD hS => ?_)
      have hP : va_P G vwCl ([oSy z q h x r y] ++ [(h 0, .inr (1, [.ref (h 1), .int (nI k1)])), (h 1, eR cy 4 (fun i => some (d1 i 0)))] ++ wDo cy (d1 0) (E1 0) ++ wDo cy (d1 1) (E1 1) ++ wDo cy (d1 2) (E1 2) ++ wDo cy (d1 3) (E1 3) ++ wDo cy q (mP M, mN M, mS M, b, tfl b, mR M, mO M, mW M, mL M, mF M, mA M, mU M, mH M)) H := hP
      have hD : va_D A ([oSy z q h x r y] ++ [(h 0, .inr (1, [.ref (h 1), .int (nI k1)])), (h 1, eR cy 4 (fun i => some (d1 i 0)))] ++ wDo cy (d1 0) (E1 0) ++ wDo cy (d1 1) (E1 1) ++ wDo cy (d1 2) (E1 2) ++ wDo cy (d1 3) (E1 3) ++ wDo cy q (mP M, mN M, mS M, b, tfl b, mR M, mO M, mW M, mL M, mF M, mA M, mU M, mH M)) := hD
      refine lv_iconst (v := nI 1) hx hb dX7_setTolerance_54 (by decide +kernel) ?_
      exact o_endIs (k := k1) (d := d1) (E := E1) hx hb hr hlocks dX7_setTolerance_55 hk5 hP hD hS (by decide)
    · exact absurd c18 he
  · exact absurd hb0 c4

set_option maxHeartbeats 4000000 in
set_option maxRecDepth 100000 in
theorem kX7_nail (l : Launch) (G : va_G) (cy : Nat → ClassId) {H0 : Heap} {z : Nat} {q h x r y : Nat → Nat} {k : Nat} {d : Nat → Nat → Nat} {E : Nat → MT} {M : MT} {A0 : Nat → Prop} (hk4 : k ≤ 4) (hW : WB M) (hP : va_P G vwCl ([oSy z q h x r y] ++ (wHi cy h k d E ++ wDo cy q M)) H0) (hD0 : va_D A0 ([oSy z q h x r y] ++ (wHi cy h k d E ++ wDo cy q M))) (j w : Nat) (b c0 : Int32) (hj : j < mP M) (hw : w < 16) (hb0 : frB b 3296329728 1148846080 = true) (hc0 : frB c0 1036831949 1092616192 = true) (hn : mN M ≤ 15) : MutS l yX7_nail wsX7_nail 4 101 [.ref z, .int (nI j), .int (nI w), .int b, .int c0] H0 G cy (nI (mN M)) h ([oSy z q h x r y] ++ (wHi cy h k d E ++ wDo cy q M)) [oSy z q h x r y] (wDo cy q (mP M, mN M + 1, mS M, mB M, mT M, mR M, va_up (mO M) (mN M) j, va_up (mW M) (mN M) w, va_up (mL M) (mN M) none, va_up (mF M) (mN M) 1, va_up (mA M) (mN M) FP.fconst1, va_up (mU M) (mN M) (tfl b), va_up (mH M) (mN M) (tfl c0))) := by
  refine Met.ofW (cc := cX7_nail) (maxL := 5) (ret := (some .int)) (by decide) rfl ?_
  intro p e s m args below meth c s₁ B hml hv
  obtain ⟨rfl, hH, hK⟩ := hv
  subst hH
  have hx := B.exec
  have hb := B.bytes
  have hr := B.returns
  have hts := atoms_spec (ws := wsX7_nail) B.pre
  have hown : s.vm.findClass RX7 = some m.cls := findClass_of_methodNamed B.named
  have hlocks := B.notSynchronized
  have hl := lv_entry ([.ref z, .int (nI j), .int (nI w), .int b, .int c0]) (n := 5) (Nat.le_of_ble_eq_true rfl)
  rw [lg_entry_eq]
  generalize (lg_sl ([.ref z, .int (nI j), .int (nI w), .int b, .int c0]) ++ List.replicate (5 - (lg_sl ([.ref z, .int (nI j), .int (nI w), .int b, .int c0])).length) Slot.unset).toArray = ls at hl ⊢
  have hl : lv_has ls 5 [(0, .ref z), (1, .int (nI j)), (2, .int (nI w)), (3, .int b), (4, .int c0)] := hl
  obtain ⟨bP, bN, bR, bO, bW, bL, bF⟩ := id hW
  have hPd := hP.sub (ws' := wDo cy q M) [39, 40, 41, 42, 43, 44, 45, 46, 47] rfl
  have hD := hD0.self (sz := s.heap.size)
  generalize hAe : va_A ([oSy z q h x r y] ++ (wHi cy h k d E ++ wDo cy q M)) s.heap.size = A at hD ⊢
  have hA : ∀ q : Nat, s.heap.size ≤ q → A q := fun q h => by rw [← hAe]; exact Or.inr h
  have hS : va_S A s.heap s.heap [] := va_S.rf
  refine lv_aload_n hx hb dX7_nail_0 rfl (lv_at hl 0 rfl) ?_
  refine va_get (D := G) (ci := 6) (v := .ref (q 0)) (C := RX7) (T := TX7) (N := 9) hx hb hts iX7_nail_X7 hown hK hP 0 rfl rfl 0 (by decide) (hts (.fieldLink RX7 10 "NailedOrders" "door" "LNailedOrders$Door;") (by decide +kernel)) (fun _ h9 => h9) rfl dX7_nail_1 ?_
  refine lv_iload_n hx hb dX7_nail_4 rfl (lv_at hl 1 rfl) ?_
  refine o_VI (As := [.int (nI j)]) (rest := []) ⟨hx, hb, hml, hown, hts⟩ (kX1_isPerson l G cy hW hPd j (by omega)) (cwV 1 hts gX7_nail_X1_isPerson rfl rfl rfl (by decide +kernel) ⟨Nat.le_of_ble_eq_true rfl, Nat.le_of_ble_eq_true rfl⟩) hK (va_recv hK hP (ci := 0) (q0 := 39) rfl rfl) rfl hl.1 rfl (Nat.le_of_ble_eq_true rfl) dX7_nail_5 ⟨Nat.zero_le _, Nat.zero_le _⟩ ?_
  refine o_ifb_eq (tgt := 18) hx hb dX7_nail_8 (by decide) (fun c8 => ?_) (fun c8 => ?_)
  · exact absurd hj c8
  · refine lv_iload_n hx hb dX7_nail_11 rfl (lv_at hl 2 rfl) ?_
    refine o_SI (As := [.int (nI w)]) (rest := []) ⟨hx, hb, hml, hown, hts⟩ (kX7_isWord l G cy w (by omega)) (va_cwS 1 hts gX7_nail_X7_isWord rfl rfl rfl (by decide +kernel) ⟨Nat.le_of_ble_eq_true rfl, Nat.le_of_ble_eq_true rfl⟩) hK rfl hl.1 rfl (Nat.le_of_ble_eq_true rfl) dX7_nail_12 ⟨Nat.zero_le _, Nat.zero_le _⟩ ?_
    refine o_ifb_ne (tgt := 20) hx hb dX7_nail_15 (by decide) (fun c15 => ?_) (fun c15 => ?_)
    · refine lv_iload_n hx hb dX7_nail_20 rfl (lv_at hl 3 rfl) ?_
      refine o_SI (As := [.int b]) (rest := []) ⟨hx, hb, hml, hown, hts⟩ (kX0_areNumber l G cy b) (va_cwS 1 hts gX7_nail_X0_areNumber rfl rfl rfl (by decide +kernel) ⟨Nat.le_of_ble_eq_true rfl, Nat.le_of_ble_eq_true rfl⟩) hK rfl hl.1 rfl (Nat.le_of_ble_eq_true rfl) dX7_nail_21 ⟨Nat.zero_le _, Nat.zero_le _⟩ ?_
      refine o_ifb_eq (tgt := 35) hx hb dX7_nail_24 (by decide) (fun c24 => ?_) (fun c24 => ?_)
      · exact absurd hb0 c24
      · refine lv_iload hx hb dX7_nail_27 (lv_at hl 4 rfl) ?_
        refine o_SI (As := [.int c0]) (rest := []) ⟨hx, hb, hml, hown, hts⟩ (kX0_areStrength l G cy c0) (va_cwS 1 hts gX7_nail_X0_areStrength rfl rfl rfl (by decide +kernel) ⟨Nat.le_of_ble_eq_true rfl, Nat.le_of_ble_eq_true rfl⟩) hK rfl hl.1 rfl (Nat.le_of_ble_eq_true rfl) dX7_nail_29 ⟨Nat.zero_le _, Nat.zero_le _⟩ ?_
        refine o_ifb_ne (tgt := 38) hx hb dX7_nail_32 (by decide) (fun c32 => ?_) (fun c32 => ?_)
        · refine lv_aload_n hx hb dX7_nail_38 rfl (lv_at hl 0 rfl) ?_
          refine va_get (D := G) (ci := 6) (v := .ref (q 0)) (C := RX7) (T := TX7) (N := 9) hx hb hts iX7_nail_X7 hown hK hP 0 rfl rfl 0 (by decide) (hts (.fieldLink RX7 10 "NailedOrders" "door" "LNailedOrders$Door;") (by decide +kernel)) (fun _ h9 => h9) rfl dX7_nail_39 ?_
          refine lv_iconst (v := nI 0) hx hb dX7_nail_42 (by decide +kernel) ?_
          refine o_VI (As := [.int (nI 0)]) (rest := []) ⟨hx, hb, hml, hown, hts⟩ (kX1_hasRoomAfter l G cy hW hPd 0 (by decide)) (cwV 1 hts gX7_nail_X1_hasRoomAfter rfl rfl rfl (by decide +kernel) ⟨Nat.le_of_ble_eq_true rfl, Nat.le_of_ble_eq_true rfl⟩) hK (va_recv hK hP (ci := 0) (q0 := 39) rfl rfl) rfl hl.1 rfl (Nat.le_of_ble_eq_true rfl) dX7_nail_43 ⟨Nat.zero_le _, Nat.zero_le _⟩ ?_
          refine o_ifb_ne (tgt := 52) hx hb dX7_nail_46 (by decide) (fun c46 => ?_) (fun c46 => ?_)
          · refine lv_aload_n hx hb dX7_nail_52 rfl (lv_at hl 0 rfl) ?_
            refine va_get (D := G) (ci := 6) (v := .ref (h 0)) (C := RX7) (T := TX7) (N := 9) hx hb hts iX7_nail_X7 hown hK hP 0 rfl rfl 3 (by decide) (hts (.fieldLink RX7 26 "NailedOrders" "history" "LNailedOrders$History;") (by decide +kernel)) (fun _ h9 => h9) rfl dX7_nail_53 ?_
            refine lv_aload_n hx hb dX7_nail_56 rfl (lv_at hl 0 rfl) ?_
            refine va_get (D := G) (ci := 6) (v := .ref (q 0)) (C := RX7) (T := TX7) (N := 9) hx hb hts iX7_nail_X7 hown hK hP 0 rfl rfl 0 (by decide) (hts (.fieldLink RX7 10 "NailedOrders" "door" "LNailedOrders$Door;") (by decide +kernel)) (fun _ h9 => h9) rfl dX7_nail_57 ?_
            have hPc := hP.sub (ws' := wHi cy h k d E ++ wDo cy q M) [1, 2, 3, 4, 5, 6, 7, 8, 9, 10, 11, 12, 13, 14, 15, 16, 17, 18, 19, 20, 21, 22, 23, 24, 25, 26, 27, 28, 29, 30, 31, 32, 33, 34, 35, 36, 37, 38, 39, 40, 41, 42, 43, 44, 45, 46, 47] rfl
            have hDc := hD.sub (ws' := wHi cy h k d E ++ wDo cy q M) [1, 2, 3, 4, 5, 6, 7, 8, 9, 10, 11, 12, 13, 14, 15, 16, 17, 18, 19, 20, 21, 22, 23, 24, 25, 26, 27, 28, 29, 30, 31, 32, 33, 34, 35, 36, 37, 38, 39, 40, 41, 42, 43, 44, 45, 46, 47] (by decide) rfl
            have hFc := va_free (wc := wHi cy h k d E ++ wDo cy q M) hD hS hA [1, 2, 3, 4, 5, 6, 7, 8, 9, 10, 11, 12, 13, 14, 15, 16, 17, 18, 19, 20, 21, 22, 23, 24, 25, 26, 27, 28, 29, 30, 31, 32, 33, 34, 35, 36, 37, 38, 39, 40, 41, 42, 43, 44, 45, 46, 47] rfl
            refine va_callv (va_runV (As := [.ref (q 0)]) (rest := []) ⟨hx, hb, hml, hown, hts⟩ (kX2_record l G cy k hk4 hPc hDc) (cwV 1 hts gX7_nail_X2_record rfl rfl rfl (by decide +kernel) ⟨Nat.le_of_ble_eq_true rfl, Nat.le_of_ble_eq_true rfl⟩) ⟨pR_blind, va_recv hK hP (ci := 1) (q0 := 1) rfl rfl, pR_at hK⟩ rfl rfl hl.1 rfl (lv_room (Nat.le_of_ble_eq_true rfl)) dX7_nail_60 ⟨Nat.zero_le _, Nat.zero_le _⟩) hS (fun q _ h => hFc q h) hFc (fun u_ t_ H locs ht hvm hw hB hz1 hk1 hS => ?_)
            obtain ⟨k1, d1, E1⟩ := u_
            have hk5 : k1 ≤ 4 := hw
            have hB : va_P G vwCl (wHi cy h k1 d1 E1 ++ wDo cy q M) t_.heap ∧ va_D (va_A (wHi cy h k d E ++ wDo cy q M) _) (wHi cy h k1 d1 E1 ++ wDo cy q M) := hB
            rw [ht] at hB
            obtain ⟨hP1, hD1⟩ := hB
            obtain ⟨hP, hD⟩ := va_join (wr := [oSy z q h x r y]) hP hD [1, 2, 3, 4, 5, 6, 7, 8, 9, 10, 11, 12, 13, 14, 15, 16, 17, 18, 19, 20, 21, 22, 23, 24, 25, 26, 27, 28, 29, 30, 31, 32, 33, 34, 35, 36, 37, 38, 39, 40, 41, 42, 43, 44, 45, 46, 47] [0] rfl rfl (by decide) (by decide) hk1 hFc hP1 hD1
            refine lv_aload_n hx hb dX7_nail_63 rfl (lv_at hl 0 rfl) ?_
            refine va_get (D := G) (ci := 6) (v := .ref (q 0)) (C := RX7) (T := TX7) (N := 9) hx hb hts iX7_nail_X7 hown hK hP 0 rfl rfl 0 (by decide) (hts (.fieldLink RX7 10 "NailedOrders" "door" "LNailedOrders$Door;") (by decide +kernel)) (fun _ h9 => h9) rfl dX7_nail_64 ?_
            refine lv_iload_n hx hb dX7_nail_67 rfl (lv_at hl 1 rfl) ?_
            refine lv_iload_n hx hb dX7_nail_68 rfl (lv_at hl 2 rfl) ?_
            refine lv_bipush (v := (-5)) hx hb dX7_nail_69 (by decide +kernel) ?_
            refine lv_fconst1 hx hb dX7_nail_71 ?_
            refine lv_iload_n hx hb dX7_nail_72 rfl (lv_at hl 3 rfl) ?_
            refine o_SF (As := [.int b]) (rest := [.float FP.fconst1, .int ((-5)), .int (nI w), .int (nI j), .ref (q 0)]) ⟨hx, hb, hml, hown, hts⟩ (kX0_toFloat l G cy b) (va_cwS 1 hts gX7_nail_X0_toFloat rfl rfl rfl (by decide +kernel) ⟨Nat.le_of_ble_eq_true rfl, Nat.le_of_ble_eq_true rfl⟩) hK rfl hl.1 rfl (Nat.le_of_ble_eq_true rfl) dX7_nail_73 ⟨Nat.zero_le _, Nat.zero_le _⟩ ?_
            refine lv_iload hx hb dX7_nail_76 (lv_at hl 4 rfl) ?_
            refine o_SF (As := [.int c0]) (rest := [.float (tfl b), .float FP.fconst1, .int ((-5)), .int (nI w), .int (nI j), .ref (q 0)]) ⟨hx, hb, hml, hown, hts⟩ (kX0_toFloat l G cy c0) (va_cwS 1 hts gX7_nail_X0_toFloat rfl rfl rfl (by decide +kernel) ⟨Nat.le_of_ble_eq_true rfl, Nat.le_of_ble_eq_true rfl⟩) hK rfl hl.1 rfl (Nat.le_of_ble_eq_true rfl) dX7_nail_78 ⟨Nat.zero_le _, Nat.zero_le _⟩ ?_
            have hPc := hP.sub (ws' := wDo cy q M) [39, 40, 41, 42, 43, 44, 45, 46, 47] rfl
            have hDc := hD.sub (ws' := wDo cy q M) [39, 40, 41, 42, 43, 44, 45, 46, 47] (by decide) rfl
            have hFc := va_free (wc := wDo cy q M) hD hS hA [39, 40, 41, 42, 43, 44, 45, 46, 47] rfl
            refine va_calli (va_runV (As := [.int (nI j), .int (nI w), .int ((-5)), .float FP.fconst1, .float (tfl b), .float (tfl c0)]) (rest := []) ⟨hx, hb, hml, hown, hts⟩ (kX1_hang l G cy hW hPc hDc j w none FP.fconst1 (tfl b) (tfl c0) (by omega)) (cwV 6 hts gX7_nail_X1_hang rfl rfl rfl (by decide +kernel) ⟨Nat.le_of_ble_eq_true rfl, Nat.le_of_ble_eq_true rfl⟩) ⟨pR_blind, va_recv hK hP (ci := 0) (q0 := 39) rfl rfl, pR_at hK⟩ rfl rfl hl.1 rfl (lv_room (Nat.le_of_ble_eq_true rfl)) dX7_nail_81 ⟨Nat.zero_le _, Nat.zero_le _⟩) hS (fun q _ h => hFc q h) hFc (fun r_ u_ t_ H locs ht hvm hw hB hz1 hk1 hS => ?_)
            rw [ht] at hB
            have hP : va_P G vwCl ([oSy z q h x r y] ++ [(h 0, .inr (1, [.ref (h 1), .int (nI k1)])), (h 1, eR cy 4 (fun i => some (d1 i 0)))] ++ wDo cy (d1 0) (E1 0) ++ wDo cy (d1 1) (E1 1) ++ wDo cy (d1 2) (E1 2) ++ wDo cy (d1 3) (E1 3) ++ wDo cy q (mP M, mN M + 1, mS M, mB M, mT M, mR M, va_up (mO M) (mN M) j, va_up (mW M) (mN M) w, va_up (mL M) (mN M) none, va_up (mF M) (mN M) 1, va_up (mA M) (mN M) FP.fconst1, va_up (mU M) (mN M) (tfl b), va_up (mH M) (mN M) (tfl c0))) H := (o_join hP hD [39, 40, 41, 42, 43, 44, 45, 46, 47] [0, 1, 2, 3, 4, 5, 6, 7, 8, 9, 10, 11, 12, 13, 14, 15, 16, 17, 18, 19, 20, 21, 22, 23, 24, 25, 26, 27, 28, 29, 30, 31, 32, 33, 34, 35, 36, 37, 38] rfl (wr := [oSy z q h x r y] ++ [(h 0, .inr (1, [.ref (h 1), .int (nI k1)])), (h 1, eR cy 4 (fun i => some (d1 i 0)))] ++ wDo cy (d1 0) (E1 0) ++ wDo cy (d1 1) (E1 1) ++ wDo cy (d1 2) (E1 2) ++ wDo cy (d1 3) (E1 3)) rfl (by decide) (by decide) (by decide) hk1 hFc hB rfl).sub [0, 1, 2, 3, 4, 5, 6, 7, 8, 9, 10, 11, 12, 13, 14, 15, 16, 17, 18, 19, 20, 21, 22, 23, 24, 25, 26, 27, 28, 29, 30, 31, 32, 33, 34, 35, 36, 37, 38, 39, 40, 41, 42, 43, 44, 45, 46, 47] rfl
            have hD : va_D A ([oSy z q h x r y] ++ [(h 0, .inr (1, [.ref (h 1), .int (nI k1)])), (h 1, eR cy 4 (fun i => some (d1 i 0)))] ++ wDo cy (d1 0) (E1 0) ++ wDo cy (d1 1) (E1 1) ++ wDo cy (d1 2) (E1 2) ++ wDo cy (d1 3) (E1 3) ++ wDo cy q (mP M, mN M + 1, mS M, mB M, mT M, mR M, va_up (mO M) (mN M) j, va_up (mW M) (mN M) w, va_up (mL M) (mN M) none, va_up (mF M) (mN M) 1, va_up (mA M) (mN M) FP.fconst1, va_up (mU M) (mN M) (tfl b), va_up (mH M) (mN M) (tfl c0))) := vd_same hD rfl
            obtain rfl : r_ = nI (mN M) := hw
            exact o_endIs (k := k1) (d := d1) (E := E1) hx hb hr hlocks dX7_nail_84 hk5 hP hD hS rfl
          · exact absurd ⟨by have := cR_le (ftB M 1) 0 (mN M); omega, by omega⟩ c46
        · exact absurd hc0 c32
    · exact absurd hw c15

set_option maxHeartbeats 4000000 in
set_option maxRecDepth 100000 in
theorem kX7_nailLink (l : Launch) (G : va_G) (cy : Nat → ClassId) {H0 : Heap} {z : Nat} {q h x r y : Nat → Nat} {k : Nat} {d : Nat → Nat → Nat} {E : Nat → MT} {M : MT} {A0 : Nat → Prop} (hk4 : k ≤ 4) (hW : WB M) (hP : va_P G vwCl ([oSy z q h x r y] ++ (wHi cy h k d E ++ wDo cy q M)) H0) (hD0 : va_D A0 ([oSy z q h x r y] ++ (wHi cy h k d E ++ wDo cy q M))) (j w o : Nat) (b1 b2 b3 : Int32) (hj : j < mP M) (hw : w < 16) (ho : o < 16) (hne : w ≠ o) (hb1 : frB b1 3296329728 1148846080 = true) (hb2 : frB b2 3296329728 1148846080 = true) (hb3 : frB b3 1036831949 1092616192 = true) (hn : mN M ≤ 15) : MutS l yX7_nailLink wsX7_nailLink 4 101 [.ref z, .int (nI j), .int (nI w), .int (nI o), .int b1, .int b2, .int b3] H0 G cy (nI (mN M)) h ([oSy z q h x r y] ++ (wHi cy h k d E ++ wDo cy q M)) [oSy z q h x r y] (wDo cy q (mP M, mN M + 1, mS M, mB M, mT M, mR M, va_up (mO M) (mN M) j, va_up (mW M) (mN M) w, va_up (mL M) (mN M) (some o), va_up (mF M) (mN M) 1, va_up (mA M) (mN M) (tfl b1), va_up (mU M) (mN M) (tfl b2), va_up (mH M) (mN M) (tfl b3))) := by
  refine Met.ofW (cc := cX7_nailLink) (maxL := 7) (ret := (some .int)) (by decide) rfl ?_
  intro p e s m args below meth c s₁ B hml hv
  obtain ⟨rfl, hH, hK⟩ := hv
  subst hH
  have hx := B.exec
  have hb := B.bytes
  have hr := B.returns
  have hts := atoms_spec (ws := wsX7_nailLink) B.pre
  have hown : s.vm.findClass RX7 = some m.cls := findClass_of_methodNamed B.named
  have hlocks := B.notSynchronized
  have hl := lv_entry ([.ref z, .int (nI j), .int (nI w), .int (nI o), .int b1, .int b2, .int b3]) (n := 7) (Nat.le_of_ble_eq_true rfl)
  rw [lg_entry_eq]
  generalize (lg_sl ([.ref z, .int (nI j), .int (nI w), .int (nI o), .int b1, .int b2, .int b3]) ++ List.replicate (7 - (lg_sl ([.ref z, .int (nI j), .int (nI w), .int (nI o), .int b1, .int b2, .int b3])).length) Slot.unset).toArray = ls at hl ⊢
  have hl : lv_has ls 7 [(0, .ref z), (1, .int (nI j)), (2, .int (nI w)), (3, .int (nI o)), (4, .int b1), (5, .int b2), (6, .int b3)] := hl
  obtain ⟨bP, bN, bR, bO, bW, bL, bF⟩ := id hW
  have hPd := hP.sub (ws' := wDo cy q M) [39, 40, 41, 42, 43, 44, 45, 46, 47] rfl
  have hD := hD0.self (sz := s.heap.size)
  generalize hAe : va_A ([oSy z q h x r y] ++ (wHi cy h k d E ++ wDo cy q M)) s.heap.size = A at hD ⊢
  have hA : ∀ q : Nat, s.heap.size ≤ q → A q := fun q h => by rw [← hAe]; exact Or.inr h
  have hS : va_S A s.heap s.heap [] := va_S.rf
  refine lv_aload_n hx hb dX7_nailLink_0 rfl (lv_at hl 0 rfl) ?_
  refine va_get (D := G) (ci := 6) (v := .ref (q 0)) (C := RX7) (T := TX7) (N := 9) hx hb hts iX7_nailLink_X7 hown hK hP 0 rfl rfl 0 (by decide) (hts (.fieldLink RX7 10 "NailedOrders" "door" "LNailedOrders$Door;") (by decide +kernel)) (fun _ h9 => h9) rfl dX7_nailLink_1 ?_
  refine lv_iload_n hx hb dX7_nailLink_4 rfl (lv_at hl 1 rfl) ?_
  refine o_VI (As := [.int (nI j)]) (rest := []) ⟨hx, hb, hml, hown, hts⟩ (kX1_isPerson l G cy hW hPd j (by omega)) (cwV 1 hts gX7_nailLink_X1_isPerson rfl rfl rfl (by decide +kernel) ⟨Nat.le_of_ble_eq_true rfl, Nat.le_of_ble_eq_true rfl⟩) hK (va_recv hK hP (ci := 0) (q0 := 39) rfl rfl) rfl hl.1 rfl (Nat.le_of_ble_eq_true rfl) dX7_nailLink_5 ⟨Nat.zero_le _, Nat.zero_le _⟩ ?_
  refine o_ifb_eq (tgt := 25) hx hb dX7_nailLink_8 (by decide) (fun c8 => ?_) (fun c8 => ?_)
  · exact absurd hj c8
  · refine lv_iload_n hx hb dX7_nailLink_11 rfl (lv_at hl 2 rfl) ?_
    refine o_SI (As := [.int (nI w)]) (rest := []) ⟨hx, hb, hml, hown, hts⟩ (kX7_isWord l G cy w (by omega)) (va_cwS 1 hts gX7_nailLink_X7_isWord rfl rfl rfl (by decide +kernel) ⟨Nat.le_of_ble_eq_true rfl, Nat.le_of_ble_eq_true rfl⟩) hK rfl hl.1 rfl (Nat.le_of_ble_eq_true rfl) dX7_nailLink_12 ⟨Nat.zero_le _, Nat.zero_le _⟩ ?_
    refine o_ifb_eq (tgt := 25) hx hb dX7_nailLink_15 (by decide) (fun c15 => ?_) (fun c15 => ?_)
    · exact absurd hw c15
    · refine lv_iload_n hx hb dX7_nailLink_18 rfl (lv_at hl 3 rfl) ?_
      refine o_SI (As := [.int (nI o)]) (rest := []) ⟨hx, hb, hml, hown, hts⟩ (kX7_isWord l G cy o (by omega)) (va_cwS 1 hts gX7_nailLink_X7_isWord rfl rfl rfl (by decide +kernel) ⟨Nat.le_of_ble_eq_true rfl, Nat.le_of_ble_eq_true rfl⟩) hK rfl hl.1 rfl (Nat.le_of_ble_eq_true rfl) dX7_nailLink_19 ⟨Nat.zero_le _, Nat.zero_le _⟩ ?_
      refine o_ifb_ne (tgt := 27) hx hb dX7_nailLink_22 (by decide) (fun c22 => ?_) (fun c22 => ?_)
      · refine lv_iload hx hb dX7_nailLink_27 (lv_at hl 4 rfl) ?_
        refine o_SI (As := [.int b1]) (rest := []) ⟨hx, hb, hml, hown, hts⟩ (kX0_areNumber l G cy b1) (va_cwS 1 hts gX7_nailLink_X0_areNumber rfl rfl rfl (by decide +kernel) ⟨Nat.le_of_ble_eq_true rfl, Nat.le_of_ble_eq_true rfl⟩) hK rfl hl.1 rfl (Nat.le_of_ble_eq_true rfl) dX7_nailLink_29 ⟨Nat.zero_le _, Nat.zero_le _⟩ ?_
        refine o_ifb_eq (tgt := 56) hx hb dX7_nailLink_32 (by decide) (fun c32 => ?_) (fun c32 => ?_)
        · exact absurd hb1 c32
        · refine lv_iload hx hb dX7_nailLink_35 (lv_at hl 5 rfl) ?_
          refine o_SI (As := [.int b2]) (rest := []) ⟨hx, hb, hml, hown, hts⟩ (kX0_areNumber l G cy b2) (va_cwS 1 hts gX7_nailLink_X0_areNumber rfl rfl rfl (by decide +kernel) ⟨Nat.le_of_ble_eq_true rfl, Nat.le_of_ble_eq_true rfl⟩) hK rfl hl.1 rfl (Nat.le_of_ble_eq_true rfl) dX7_nailLink_37 ⟨Nat.zero_le _, Nat.zero_le _⟩ ?_
          refine o_ifb_eq (tgt := 56) hx hb dX7_nailLink_40 (by decide) (fun c40 => ?_) (fun c40 => ?_)
          · exact absurd hb2 c40
          · refine lv_iload hx hb dX7_nailLink_43 (lv_at hl 6 rfl) ?_
            refine o_SI (As := [.int b3]) (rest := []) ⟨hx, hb, hml, hown, hts⟩ (kX0_areStrength l G cy b3) (va_cwS 1 hts gX7_nailLink_X0_areStrength rfl rfl rfl (by decide +kernel) ⟨Nat.le_of_ble_eq_true rfl, Nat.le_of_ble_eq_true rfl⟩) hK rfl hl.1 rfl (Nat.le_of_ble_eq_true rfl) dX7_nailLink_45 ⟨Nat.zero_le _, Nat.zero_le _⟩ ?_
            refine o_ifb_eq (tgt := 56) hx hb dX7_nailLink_48 (by decide) (fun c48 => ?_) (fun c48 => ?_)
            · exact absurd hb3 c48
            · refine lv_iload_n hx hb dX7_nailLink_51 rfl (lv_at hl 2 rfl) ?_
              refine lv_iload_n hx hb dX7_nailLink_52 rfl (lv_at hl 3 rfl) ?_
              refine o_icmp_ne (tgt := 59) hx hb dX7_nailLink_53 (by decide) (by omega) (by omega) (fun c53 => ?_) (fun c53 => ?_)
              · refine lv_aload_n hx hb dX7_nailLink_59 rfl (lv_at hl 0 rfl) ?_
                refine va_get (D := G) (ci := 6) (v := .ref (q 0)) (C := RX7) (T := TX7) (N := 9) hx hb hts iX7_nailLink_X7 hown hK hP 0 rfl rfl 0 (by decide) (hts (.fieldLink RX7 10 "NailedOrders" "door" "LNailedOrders$Door;") (by decide +kernel)) (fun _ h9 => h9) rfl dX7_nailLink_60 ?_
                refine lv_iconst (v := nI 0) hx hb dX7_nailLink_63 (by decide +kernel) ?_
                refine o_VI (As := [.int (nI 0)]) (rest := []) ⟨hx, hb, hml, hown, hts⟩ (kX1_hasRoomAfter l G cy hW hPd 0 (by decide)) (cwV 1 hts gX7_nailLink_X1_hasRoomAfter rfl rfl rfl (by decide +kernel) ⟨Nat.le_of_ble_eq_true rfl, Nat.le_of_ble_eq_true rfl⟩) hK (va_recv hK hP (ci := 0) (q0 := 39) rfl rfl) rfl hl.1 rfl (Nat.le_of_ble_eq_true rfl) dX7_nailLink_64 ⟨Nat.zero_le _, Nat.zero_le _⟩ ?_
                refine o_ifb_ne (tgt := 73) hx hb dX7_nailLink_67 (by decide) (fun c67 => ?_) (fun c67 => ?_)
                · refine lv_aload_n hx hb dX7_nailLink_73 rfl (lv_at hl 0 rfl) ?_
                  refine va_get (D := G) (ci := 6) (v := .ref (h 0)) (C := RX7) (T := TX7) (N := 9) hx hb hts iX7_nailLink_X7 hown hK hP 0 rfl rfl 3 (by decide) (hts (.fieldLink RX7 26 "NailedOrders" "history" "LNailedOrders$History;") (by decide +kernel)) (fun _ h9 => h9) rfl dX7_nailLink_74 ?_
                  refine lv_aload_n hx hb dX7_nailLink_77 rfl (lv_at hl 0 rfl) ?_
                  refine va_get (D := G) (ci := 6) (v := .ref (q 0)) (C := RX7) (T := TX7) (N := 9) hx hb hts iX7_nailLink_X7 hown hK hP 0 rfl rfl 0 (by decide) (hts (.fieldLink RX7 10 "NailedOrders" "door" "LNailedOrders$Door;") (by decide +kernel)) (fun _ h9 => h9) rfl dX7_nailLink_78 ?_
                  have hPc := hP.sub (ws' := wHi cy h k d E ++ wDo cy q M) [1, 2, 3, 4, 5, 6, 7, 8, 9, 10, 11, 12, 13, 14, 15, 16, 17, 18, 19, 20, 21, 22, 23, 24, 25, 26, 27, 28, 29, 30, 31, 32, 33, 34, 35, 36, 37, 38, 39, 40, 41, 42, 43, 44, 45, 46, 47] rfl
                  have hDc := hD.sub (ws' := wHi cy h k d E ++ wDo cy q M) [1, 2, 3, 4, 5, 6, 7, 8, 9, 10, 11, 12, 13, 14, 15, 16, 17, 18, 19, 20, 21, 22, 23, 24, 25, 26, 27, 28, 29, 30, 31, 32, 33, 34, 35, 36, 37, 38, 39, 40, 41, 42, 43, 44, 45, 46, 47] (by decide) rfl
                  have hFc := va_free (wc := wHi cy h k d E ++ wDo cy q M) hD hS hA [1, 2, 3, 4, 5, 6, 7, 8, 9, 10, 11, 12, 13, 14, 15, 16, 17, 18, 19, 20, 21, 22, 23, 24, 25, 26, 27, 28, 29, 30, 31, 32, 33, 34, 35, 36, 37, 38, 39, 40, 41, 42, 43, 44, 45, 46, 47] rfl
                  refine va_callv (va_runV (As := [.ref (q 0)]) (rest := []) ⟨hx, hb, hml, hown, hts⟩ (kX2_record l G cy k hk4 hPc hDc) (cwV 1 hts gX7_nailLink_X2_record rfl rfl rfl (by decide +kernel) ⟨Nat.le_of_ble_eq_true rfl, Nat.le_of_ble_eq_true rfl⟩) ⟨pR_blind, va_recv hK hP (ci := 1) (q0 := 1) rfl rfl, pR_at hK⟩ rfl rfl hl.1 rfl (lv_room (Nat.le_of_ble_eq_true rfl)) dX7_nailLink_81 ⟨Nat.zero_le _, Nat.zero_le _⟩) hS (fun q _ h => hFc q h) hFc (fun u_ t_ H locs ht hvm hw hB hz1 hk1 hS => ?_)
                  obtain ⟨k1, d1, E1⟩ := u_
                  have hk5 : k1 ≤ 4 := hw
                  have hB : va_P G vwCl (wHi cy h k1 d1 E1 ++ wDo cy q M) t_.heap ∧ va_D (va_A (wHi cy h k d E ++ wDo cy q M) _) (wHi cy h k1 d1 E1 ++ wDo cy q M) := hB
                  rw [ht] at hB
                  obtain ⟨hP1, hD1⟩ := hB
                  obtain ⟨hP, hD⟩ := va_join (wr := [oSy z q h x r y]) hP hD [1, 2, 3, 4, 5, 6, 7, 8, 9, 10, 11, 12, 13, 14, 15, 16, 17, 18, 19, 20, 21, 22, 23, 24, 25, 26, 27, 28, 29, 30, 31, 32, 33, 34, 35, 36, 37, 38, 39, 40, 41, 42, 43, 44, 45, 46, 47] [0] rfl rfl (by decide) (by decide) hk1 hFc hP1 hD1
                  refine lv_aload_n hx hb dX7_nailLink_84 rfl (lv_at hl 0 rfl) ?_
                  refine va_get (D := G) (ci := 6) (v := .ref (q 0)) (C := RX7) (T := TX7) (N := 9) hx hb hts iX7_nailLink_X7 hown hK hP 0 rfl rfl 0 (by decide) (hts (.fieldLink RX7 10 "NailedOrders" "door" "LNailedOrders$Door;") (by decide +kernel)) (fun _ h9 => h9) rfl dX7_nailLink_85 ?_
                  refine lv_iload_n hx hb dX7_nailLink_88 rfl (lv_at hl 1 rfl) ?_
                  refine lv_iload_n hx hb dX7_nailLink_89 rfl (lv_at hl 2 rfl) ?_
                  refine lv_iload_n hx hb dX7_nailLink_90 rfl (lv_at hl 3 rfl) ?_
                  refine lv_iload hx hb dX7_nailLink_91 (lv_at hl 4 rfl) ?_
                  refine o_SF (As := [.int b1]) (rest := [.int (nI o), .int (nI w), .int (nI j), .ref (q 0)]) ⟨hx, hb, hml, hown, hts⟩ (kX0_toFloat l G cy b1) (va_cwS 1 hts gX7_nailLink_X0_toFloat rfl rfl rfl (by decide +kernel) ⟨Nat.le_of_ble_eq_true rfl, Nat.le_of_ble_eq_true rfl⟩) hK rfl hl.1 rfl (Nat.le_of_ble_eq_true rfl) dX7_nailLink_93 ⟨Nat.zero_le _, Nat.zero_le _⟩ ?_
                  refine lv_iload hx hb dX7_nailLink_96 (lv_at hl 5 rfl) ?_
                  refine o_SF (As := [.int b2]) (rest := [.float (tfl b1), .int (nI o), .int (nI w), .int (nI j), .ref (q 0)]) ⟨hx, hb, hml, hown, hts⟩ (kX0_toFloat l G cy b2) (va_cwS 1 hts gX7_nailLink_X0_toFloat rfl rfl rfl (by decide +kernel) ⟨Nat.le_of_ble_eq_true rfl, Nat.le_of_ble_eq_true rfl⟩) hK rfl hl.1 rfl (Nat.le_of_ble_eq_true rfl) dX7_nailLink_98 ⟨Nat.zero_le _, Nat.zero_le _⟩ ?_
                  refine lv_iload hx hb dX7_nailLink_101 (lv_at hl 6 rfl) ?_
                  refine o_SF (As := [.int b3]) (rest := [.float (tfl b2), .float (tfl b1), .int (nI o), .int (nI w), .int (nI j), .ref (q 0)]) ⟨hx, hb, hml, hown, hts⟩ (kX0_toFloat l G cy b3) (va_cwS 1 hts gX7_nailLink_X0_toFloat rfl rfl rfl (by decide +kernel) ⟨Nat.le_of_ble_eq_true rfl, Nat.le_of_ble_eq_true rfl⟩) hK rfl hl.1 rfl (Nat.le_of_ble_eq_true rfl) dX7_nailLink_103 ⟨Nat.zero_le _, Nat.zero_le _⟩ ?_
                  have hPc := hP.sub (ws' := wDo cy q M) [39, 40, 41, 42, 43, 44, 45, 46, 47] rfl
                  have hDc := hD.sub (ws' := wDo cy q M) [39, 40, 41, 42, 43, 44, 45, 46, 47] (by decide) rfl
                  have hFc := va_free (wc := wDo cy q M) hD hS hA [39, 40, 41, 42, 43, 44, 45, 46, 47] rfl
                  refine va_calli (va_runV (As := [.int (nI j), .int (nI w), .int (nI o), .float (tfl b1), .float (tfl b2), .float (tfl b3)]) (rest := []) ⟨hx, hb, hml, hown, hts⟩ (kX1_hang l G cy hW hPc hDc j w (some o) (tfl b1) (tfl b2) (tfl b3) (by omega)) (cwV 6 hts gX7_nailLink_X1_hang rfl rfl rfl (by decide +kernel) ⟨Nat.le_of_ble_eq_true rfl, Nat.le_of_ble_eq_true rfl⟩) ⟨pR_blind, va_recv hK hP (ci := 0) (q0 := 39) rfl rfl, pR_at hK⟩ rfl rfl hl.1 rfl (lv_room (Nat.le_of_ble_eq_true rfl)) dX7_nailLink_106 ⟨Nat.zero_le _, Nat.zero_le _⟩) hS (fun q _ h => hFc q h) hFc (fun r_ u_ t_ H locs ht hvm hw hB hz1 hk1 hS => ?_)
                  rw [ht] at hB
                  have hP : va_P G vwCl ([oSy z q h x r y] ++ [(h 0, .inr (1, [.ref (h 1), .int (nI k1)])), (h 1, eR cy 4 (fun i => some (d1 i 0)))] ++ wDo cy (d1 0) (E1 0) ++ wDo cy (d1 1) (E1 1) ++ wDo cy (d1 2) (E1 2) ++ wDo cy (d1 3) (E1 3) ++ wDo cy q (mP M, mN M + 1, mS M, mB M, mT M, mR M, va_up (mO M) (mN M) j, va_up (mW M) (mN M) w, va_up (mL M) (mN M) (some o), va_up (mF M) (mN M) 1, va_up (mA M) (mN M) (tfl b1), va_up (mU M) (mN M) (tfl b2), va_up (mH M) (mN M) (tfl b3))) H := (o_join hP hD [39, 40, 41, 42, 43, 44, 45, 46, 47] [0, 1, 2, 3, 4, 5, 6, 7, 8, 9, 10, 11, 12, 13, 14, 15, 16, 17, 18, 19, 20, 21, 22, 23, 24, 25, 26, 27, 28, 29, 30, 31, 32, 33, 34, 35, 36, 37, 38] rfl (wr := [oSy z q h x r y] ++ [(h 0, .inr (1, [.ref (h 1), .int (nI k1)])), (h 1, eR cy 4 (fun i => some (d1 i 0)))] ++ wDo cy (d1 0) (E1 0) ++ wDo cy (d1 1) (E1 1) ++ wDo cy (d1 2) (E1 2) ++ wDo cy (d1 3) (E1 3)) rfl (by decide) (by decide) (by decide) hk1 hFc hB rfl).sub [0, 1, 2, 3, 4, 5, 6, 7, 8, 9, 10, 11, 12, 13, 14, 15, 16, 17, 18, 19, 20, 21, 22, 23, 24, 25, 26, 27, 28, 29, 30, 31, 32, 33, 34, 35, 36, 37, 38, 39, 40, 41, 42, 43, 44, 45, 46, 47] rfl
                  have hD : va_D A ([oSy z q h x r y] ++ [(h 0, .inr (1, [.ref (h 1), .int (nI k1)])), (h 1, eR cy 4 (fun i => some (d1 i 0)))] ++ wDo cy (d1 0) (E1 0) ++ wDo cy (d1 1) (E1 1) ++ wDo cy (d1 2) (E1 2) ++ wDo cy (d1 3) (E1 3) ++ wDo cy q (mP M, mN M + 1, mS M, mB M, mT M, mR M, va_up (mO M) (mN M) j, va_up (mW M) (mN M) w, va_up (mL M) (mN M) (some o), va_up (mF M) (mN M) 1, va_up (mA M) (mN M) (tfl b1), va_up (mU M) (mN M) (tfl b2), va_up (mH M) (mN M) (tfl b3))) := vd_same hD rfl
                  obtain rfl : r_ = nI (mN M) := hw
                  exact o_endIs (k := k1) (d := d1) (E := E1) hx hb hr hlocks dX7_nailLink_109 hk5 hP hD hS rfl
                · exact absurd ⟨by have := cR_le (ftB M 1) 0 (mN M); omega, by omega⟩ c67
              · exact absurd c53 hne
      · exact absurd ho c22

set_option maxRecDepth 100000 in
theorem iX7_tear_X1 : ∀ w ∈ u_ws RX1 TX1 13, w ∈ wsX7_tear := by decide +kernel
set_option maxHeartbeats 4000000 in
set_option maxRecDepth 100000 in
theorem kX7_tear (l : Launch) (G : va_G) (cy : Nat → ClassId) {H0 : Heap} {z : Nat} {q h x r y : Nat → Nat} {k : Nat} {d : Nat → Nat → Nat} {E : Nat → MT} {M : MT} {A0 : Nat → Prop} (hk4 : k ≤ 4) (hW : WB M) (hP : va_P G vwCl ([oSy z q h x r y] ++ (wHi cy h k d E ++ wDo cy q M)) H0) (hD0 : va_D A0 ([oSy z q h x r y] ++ (wHi cy h k d E ++ wDo cy q M))) (j : Nat) (hj : j < mN M) (hh : mF M j = 1) : MutS l yX7_tear wsX7_tear 4 101 [.ref z, .int (nI j)] H0 G cy (nI (cR (hfB (mP M, mN M, mS M, mB M, mT M, mR M, mO M, mW M, mL M, va_up (mF M) j 3, mA M, mU M, mH M) (mW M j)) 0 (mN M))) h ([oSy z q h x r y] ++ (wHi cy h k d E ++ wDo cy q M)) [oSy z q h x r y] (wDo cy q (mP M, mN M, mS M, mB M, mT M, mR M, mO M, mW M, mL M, va_up (mF M) j 3, mA M, mU M, mH M)) := by
  refine Met.ofW (cc := cX7_tear) (maxL := 2) (ret := (some .int)) (by decide) rfl ?_
  intro p e s m args below meth c s₁ B hml hv
  obtain ⟨rfl, hH, hK⟩ := hv
  subst hH
  have hx := B.exec
  have hb := B.bytes
  have hr := B.returns
  have hts := atoms_spec (ws := wsX7_tear) B.pre
  have hown : s.vm.findClass RX7 = some m.cls := findClass_of_methodNamed B.named
  have hlocks := B.notSynchronized
  have hl := lv_entry ([.ref z, .int (nI j)]) (n := 2) (Nat.le_of_ble_eq_true rfl)
  rw [lg_entry_eq]
  generalize (lg_sl ([.ref z, .int (nI j)]) ++ List.replicate (2 - (lg_sl ([.ref z, .int (nI j)])).length) Slot.unset).toArray = ls at hl ⊢
  have hl : lv_has ls 2 [(0, .ref z), (1, .int (nI j))] := hl
  obtain ⟨bP, bN, bR, bO, bW, bL, bF⟩ := id hW
  have hPd := hP.sub (ws' := wDo cy q M) [39, 40, 41, 42, 43, 44, 45, 46, 47] rfl
  have hD := hD0.self (sz := s.heap.size)
  generalize hAe : va_A ([oSy z q h x r y] ++ (wHi cy h k d E ++ wDo cy q M)) s.heap.size = A at hD ⊢
  have hA : ∀ q : Nat, s.heap.size ≤ q → A q := fun q h => by rw [← hAe]; exact Or.inr h
  have hS : va_S A s.heap s.heap [] := va_S.rf
  refine lv_aload_n hx hb dX7_tear_0 rfl (lv_at hl 0 rfl) ?_
  refine va_get (D := G) (ci := 6) (v := .ref (q 0)) (C := RX7) (T := TX7) (N := 9) hx hb hts iX7_tear_X7 hown hK hP 0 rfl rfl 0 (by decide) (hts (.fieldLink RX7 10 "NailedOrders" "door" "LNailedOrders$Door;") (by decide +kernel)) (fun _ h9 => h9) rfl dX7_tear_1 ?_
  refine lv_iload_n hx hb dX7_tear_4 rfl (lv_at hl 1 rfl) ?_
  refine o_VI (As := [.int (nI j)]) (rest := []) ⟨hx, hb, hml, hown, hts⟩ (kX1_isOrder l G cy hW hPd j (by omega)) (cwV 1 hts gX7_tear_X1_isOrder rfl rfl rfl (by decide +kernel) ⟨Nat.le_of_ble_eq_true rfl, Nat.le_of_ble_eq_true rfl⟩) hK (va_recv hK hP (ci := 0) (q0 := 39) rfl rfl) rfl hl.1 rfl (Nat.le_of_ble_eq_true rfl) dX7_tear_5 ⟨Nat.zero_le _, Nat.zero_le _⟩ ?_
  refine o_ifb_ne (tgt := 13) hx hb dX7_tear_8 (by decide) (fun c8 => ?_) (fun c8 => ?_)
  · refine lv_aload_n hx hb dX7_tear_13 rfl (lv_at hl 0 rfl) ?_
    refine va_get (D := G) (ci := 6) (v := .ref (q 0)) (C := RX7) (T := TX7) (N := 9) hx hb hts iX7_tear_X7 hown hK hP 0 rfl rfl 0 (by decide) (hts (.fieldLink RX7 10 "NailedOrders" "door" "LNailedOrders$Door;") (by decide +kernel)) (fun _ h9 => h9) rfl dX7_tear_14 ?_
    refine lv_iload_n hx hb dX7_tear_17 rfl (lv_at hl 1 rfl) ?_
    refine o_VI (As := [.int (nI j)]) (rest := []) ⟨hx, hb, hml, hown, hts⟩ (kX1_hangs l G cy hW hPd j (by omega)) (cwV 1 hts gX7_tear_X1_hangs rfl rfl rfl (by decide +kernel) ⟨Nat.le_of_ble_eq_true rfl, Nat.le_of_ble_eq_true rfl⟩) hK (va_recv hK hP (ci := 0) (q0 := 39) rfl rfl) rfl hl.1 rfl (Nat.le_of_ble_eq_true rfl) dX7_tear_18 ⟨Nat.zero_le _, Nat.zero_le _⟩ ?_
    refine o_ifb_ne (tgt := 27) hx hb dX7_tear_21 (by decide) (fun c21 => ?_) (fun c21 => ?_)
    · refine lv_aload_n hx hb dX7_tear_27 rfl (lv_at hl 0 rfl) ?_
      refine va_get (D := G) (ci := 6) (v := .ref (h 0)) (C := RX7) (T := TX7) (N := 9) hx hb hts iX7_tear_X7 hown hK hP 0 rfl rfl 3 (by decide) (hts (.fieldLink RX7 26 "NailedOrders" "history" "LNailedOrders$History;") (by decide +kernel)) (fun _ h9 => h9) rfl dX7_tear_28 ?_
      refine lv_aload_n hx hb dX7_tear_31 rfl (lv_at hl 0 rfl) ?_
      refine va_get (D := G) (ci := 6) (v := .ref (q 0)) (C := RX7) (T := TX7) (N := 9) hx hb hts iX7_tear_X7 hown hK hP 0 rfl rfl 0 (by decide) (hts (.fieldLink RX7 10 "NailedOrders" "door" "LNailedOrders$Door;") (by decide +kernel)) (fun _ h9 => h9) rfl dX7_tear_32 ?_
      have hPc := hP.sub (ws' := wHi cy h k d E ++ wDo cy q M) [1, 2, 3, 4, 5, 6, 7, 8, 9, 10, 11, 12, 13, 14, 15, 16, 17, 18, 19, 20, 21, 22, 23, 24, 25, 26, 27, 28, 29, 30, 31, 32, 33, 34, 35, 36, 37, 38, 39, 40, 41, 42, 43, 44, 45, 46, 47] rfl
      have hDc := hD.sub (ws' := wHi cy h k d E ++ wDo cy q M) [1, 2, 3, 4, 5, 6, 7, 8, 9, 10, 11, 12, 13, 14, 15, 16, 17, 18, 19, 20, 21, 22, 23, 24, 25, 26, 27, 28, 29, 30, 31, 32, 33, 34, 35, 36, 37, 38, 39, 40, 41, 42, 43, 44, 45, 46, 47] (by decide) rfl
      have hFc := va_free (wc := wHi cy h k d E ++ wDo cy q M) hD hS hA [1, 2, 3, 4, 5, 6, 7, 8, 9, 10, 11, 12, 13, 14, 15, 16, 17, 18, 19, 20, 21, 22, 23, 24, 25, 26, 27, 28, 29, 30, 31, 32, 33, 34, 35, 36, 37, 38, 39, 40, 41, 42, 43, 44, 45, 46, 47] rfl
      refine va_callv (va_runV (As := [.ref (q 0)]) (rest := []) ⟨hx, hb, hml, hown, hts⟩ (kX2_record l G cy k hk4 hPc hDc) (cwV 1 hts gX7_tear_X2_record rfl rfl rfl (by decide +kernel) ⟨Nat.le_of_ble_eq_true rfl, Nat.le_of_ble_eq_true rfl⟩) ⟨pR_blind, va_recv hK hP (ci := 1) (q0 := 1) rfl rfl, pR_at hK⟩ rfl rfl hl.1 rfl (lv_room (Nat.le_of_ble_eq_true rfl)) dX7_tear_35 ⟨Nat.zero_le _, Nat.zero_le _⟩) hS (fun q _ h => hFc q h) hFc (fun u_ t_ H locs ht hvm hw hB hz1 hk1 hS => ?_)
      obtain ⟨k1, d1, E1⟩ := u_
      have hk5 : k1 ≤ 4 := hw
      have hB : va_P G vwCl (wHi cy h k1 d1 E1 ++ wDo cy q M) t_.heap ∧ va_D (va_A (wHi cy h k d E ++ wDo cy q M) _) (wHi cy h k1 d1 E1 ++ wDo cy q M) := hB
      rw [ht] at hB
      obtain ⟨hP1, hD1⟩ := hB
      obtain ⟨hP, hD⟩ := va_join (wr := [oSy z q h x r y]) hP hD [1, 2, 3, 4, 5, 6, 7, 8, 9, 10, 11, 12, 13, 14, 15, 16, 17, 18, 19, 20, 21, 22, 23, 24, 25, 26, 27, 28, 29, 30, 31, 32, 33, 34, 35, 36, 37, 38, 39, 40, 41, 42, 43, 44, 45, 46, 47] [0] rfl rfl (by decide) (by decide) hk1 hFc hP1 hD1
      refine lv_aload_n hx hb dX7_tear_38 rfl (lv_at hl 0 rfl) ?_
      refine va_get (D := G) (ci := 6) (v := .ref (q 0)) (C := RX7) (T := TX7) (N := 9) hx hb hts iX7_tear_X7 hown hK hP 0 rfl rfl 0 (by decide) (hts (.fieldLink RX7 10 "NailedOrders" "door" "LNailedOrders$Door;") (by decide +kernel)) (fun _ h9 => h9) rfl dX7_tear_39 ?_
      refine va_get (D := G) (ci := 0) (v := .ref (q 12)) (C := RX1) (T := TX1) (N := 13) hx hb hts iX7_tear_X1 hown hK hP 39 rfl rfl 12 (by decide) (hts (.fieldLink RX7 125 "NailedOrders$Door" "fates" "[I") (by decide +kernel)) (fun _ h9 => h9) rfl dX7_tear_42 ?_
      refine lv_iload_n hx hb dX7_tear_45 rfl (lv_at hl 1 rfl) ?_
      refine lv_iconst (v := nI 3) hx hb dX7_tear_46 (by decide +kernel) ?_
      refine o_iast hx hb hK hP hD hS 47 0 rfl rfl j (by omega) (by decide) (upd_nI (mF M) j 3) dX7_tear_47 (fun H locs hP hD hS => ?_)
      have hP : va_P G vwCl ([oSy z q h x r y] ++ [(h 0, .inr (1, [.ref (h 1), .int (nI k1)])), (h 1, eR cy 4 (fun i => some (d1 i 0)))] ++ wDo cy (d1 0) (E1 0) ++ wDo cy (d1 1) (E1 1) ++ wDo cy (d1 2) (E1 2) ++ wDo cy (d1 3) (E1 3) ++ wDo cy q (mP M, mN M, mS M, mB M, mT M, mR M, mO M, mW M, mL M, va_up (mF M) j 3, mA M, mU M, mH M)) H := hP
      have hD : va_D A ([oSy z q h x r y] ++ [(h 0, .inr (1, [.ref (h 1), .int (nI k1)])), (h 1, eR cy 4 (fun i => some (d1 i 0)))] ++ wDo cy (d1 0) (E1 0) ++ wDo cy (d1 1) (E1 1) ++ wDo cy (d1 2) (E1 2) ++ wDo cy (d1 3) (E1 3) ++ wDo cy q (mP M, mN M, mS M, mB M, mT M, mR M, mO M, mW M, mL M, va_up (mF M) j 3, mA M, mU M, mH M)) := hD
      refine lv_aload_n hx hb dX7_tear_48 rfl (lv_at hl 0 rfl) ?_
      refine va_get (D := G) (ci := 6) (v := .ref (q 0)) (C := RX7) (T := TX7) (N := 9) hx hb hts iX7_tear_X7 hown hK hP 0 rfl rfl 0 (by decide) (hts (.fieldLink RX7 10 "NailedOrders" "door" "LNailedOrders$Door;") (by decide +kernel)) (fun _ h9 => h9) rfl dX7_tear_49 ?_
      refine lv_aload_n hx hb dX7_tear_52 rfl (lv_at hl 0 rfl) ?_
      refine va_get (D := G) (ci := 6) (v := .ref (q 0)) (C := RX7) (T := TX7) (N := 9) hx hb hts iX7_tear_X7 hown hK hP 0 rfl rfl 0 (by decide) (hts (.fieldLink RX7 10 "NailedOrders" "door" "LNailedOrders$Door;") (by decide +kernel)) (fun _ h9 => h9) rfl dX7_tear_53 ?_
      refine va_get (D := G) (ci := 0) (v := .ref (q 7)) (C := RX1) (T := TX1) (N := 13) hx hb hts iX7_tear_X1 hown hK hP 39 rfl rfl 7 (by decide) (hts (.fieldLink RX7 128 "NailedOrders$Door" "words" "[I") (by decide +kernel)) (fun _ h9 => h9) rfl dX7_tear_56 ?_
      refine lv_iload_n hx hb dX7_tear_59 rfl (lv_at hl 1 rfl) ?_
      refine o_iald hx hb hK hP 42 0 rfl rfl j (by omega) (by decide) dX7_tear_60 ?_
      have hPd := hP.sub (ws' := wDo cy q (mP M, mN M, mS M, mB M, mT M, mR M, mO M, mW M, mL M, va_up (mF M) j 3, mA M, mU M, mH M)) [39, 40, 41, 42, 43, 44, 45, 46, 47] rfl
      refine o_VI (As := [.int (nI (mW M j))]) (rest := []) ⟨hx, hb, hml, hown, hts⟩ (kX1_hangingFor l G cy (WB_F hW j 3 (by decide)) hPd (mW M j) (bW j)) (cwV 1 hts gX7_tear_X1_hangingFor rfl rfl rfl (by decide +kernel) ⟨Nat.le_of_ble_eq_true rfl, Nat.le_of_ble_eq_true rfl⟩) hK (va_recv hK hP (ci := 0) (q0 := 39) rfl rfl) rfl hl.1 rfl (Nat.le_of_ble_eq_true rfl) dX7_tear_61 ⟨Nat.zero_le _, Nat.zero_le _⟩ ?_
      exact o_endIs (k := k1) (d := d1) (E := E1) hx hb hr hlocks dX7_tear_64 hk5 hP hD hS rfl
    · exact absurd hh c21
  · exact absurd hj c8

set_option maxRecDepth 100000 in
theorem iX7_hammer_X1 : ∀ w ∈ u_ws RX1 TX1 13, w ∈ wsX7_hammer := by decide +kernel
set_option maxHeartbeats 4000000 in
set_option maxRecDepth 100000 in
theorem kX7_hammer (l : Launch) (G : va_G) (cy : Nat → ClassId) {H0 : Heap} {z : Nat} {q h x r y : Nat → Nat} {k : Nat} {d : Nat → Nat → Nat} {E : Nat → MT} {M : MT} {A0 : Nat → Prop} (hk4 : k ≤ 4) (hW : WB M) (hP : va_P G vwCl ([oSy z q h x r y] ++ (wHi cy h k d E ++ wDo cy q M)) H0) (hD0 : va_D A0 ([oSy z q h x r y] ++ (wHi cy h k d E ++ wDo cy q M))) (j : Nat) (hj : j < mN M) (hh : mF M j = 1) (hn1 : vf_n32 (FP.fsub 1092616192 (mH M j))) (hn2 : vf_n32 (FP.fmul (FP.fsub 1092616192 (mH M j)) 1056964608)) (hn3 : vf_n32 (FP.fadd (mH M j) (FP.fmul (FP.fsub 1092616192 (mH M j)) 1056964608))) (hn4 : vf_n32 (FP.fmul (FP.fadd (mH M j) (FP.fmul (FP.fsub 1092616192 (mH M j)) 1056964608)) 1120403456)) : MutS l yX7_hammer wsX7_hammer 3 101 [.ref z, .int (nI j)] H0 G cy (FP.f2i (FP.fmul (FP.fadd (mH M j) (FP.fmul (FP.fsub 1092616192 (mH M j)) 1056964608)) 1120403456)) h ([oSy z q h x r y] ++ (wHi cy h k d E ++ wDo cy q M)) [oSy z q h x r y] (wDo cy q (mP M, mN M, mS M, mB M, mT M, mR M, mO M, mW M, mL M, mF M, mA M, mU M, va_up (mH M) j (FP.fadd (mH M j) (FP.fmul (FP.fsub 1092616192 (mH M j)) 1056964608)))) := by
  refine Met.ofW (cc := cX7_hammer) (maxL := 3) (ret := (some .int)) (by decide) rfl ?_
  intro p e s m args below meth c s₁ B hml hv
  obtain ⟨rfl, hH, hK⟩ := hv
  subst hH
  have hx := B.exec
  have hb := B.bytes
  have hr := B.returns
  have hts := atoms_spec (ws := wsX7_hammer) B.pre
  have hown : s.vm.findClass RX7 = some m.cls := findClass_of_methodNamed B.named
  have hlocks := B.notSynchronized
  have hl := lv_entry ([.ref z, .int (nI j)]) (n := 3) (Nat.le_of_ble_eq_true rfl)
  rw [lg_entry_eq]
  generalize (lg_sl ([.ref z, .int (nI j)]) ++ List.replicate (3 - (lg_sl ([.ref z, .int (nI j)])).length) Slot.unset).toArray = ls at hl ⊢
  have hl : lv_has ls 3 [(0, .ref z), (1, .int (nI j))] := hl
  obtain ⟨bP, bN, bR, bO, bW, bL, bF⟩ := id hW
  have hPd := hP.sub (ws' := wDo cy q M) [39, 40, 41, 42, 43, 44, 45, 46, 47] rfl
  have hD := hD0.self (sz := s.heap.size)
  generalize hAe : va_A ([oSy z q h x r y] ++ (wHi cy h k d E ++ wDo cy q M)) s.heap.size = A at hD ⊢
  have hA : ∀ q : Nat, s.heap.size ≤ q → A q := fun q h => by rw [← hAe]; exact Or.inr h
  have hS : va_S A s.heap s.heap [] := va_S.rf
  refine lv_aload_n hx hb dX7_hammer_0 rfl (lv_at hl 0 rfl) ?_
  refine va_get (D := G) (ci := 6) (v := .ref (q 0)) (C := RX7) (T := TX7) (N := 9) hx hb hts iX7_hammer_X7 hown hK hP 0 rfl rfl 0 (by decide) (hts (.fieldLink RX7 10 "NailedOrders" "door" "LNailedOrders$Door;") (by decide +kernel)) (fun _ h9 => h9) rfl dX7_hammer_1 ?_
  refine lv_iload_n hx hb dX7_hammer_4 rfl (lv_at hl 1 rfl) ?_
  refine o_VI (As := [.int (nI j)]) (rest := []) ⟨hx, hb, hml, hown, hts⟩ (kX1_isOrder l G cy hW hPd j (by omega)) (cwV 1 hts gX7_hammer_X1_isOrder rfl rfl rfl (by decide +kernel) ⟨Nat.le_of_ble_eq_true rfl, Nat.le_of_ble_eq_true rfl⟩) hK (va_recv hK hP (ci := 0) (q0 := 39) rfl rfl) rfl hl.1 rfl (Nat.le_of_ble_eq_true rfl) dX7_hammer_5 ⟨Nat.zero_le _, Nat.zero_le _⟩ ?_
  refine o_ifb_ne (tgt := 13) hx hb dX7_hammer_8 (by decide) (fun c8 => ?_) (fun c8 => ?_)
  · refine lv_aload_n hx hb dX7_hammer_13 rfl (lv_at hl 0 rfl) ?_
    refine va_get (D := G) (ci := 6) (v := .ref (q 0)) (C := RX7) (T := TX7) (N := 9) hx hb hts iX7_hammer_X7 hown hK hP 0 rfl rfl 0 (by decide) (hts (.fieldLink RX7 10 "NailedOrders" "door" "LNailedOrders$Door;") (by decide +kernel)) (fun _ h9 => h9) rfl dX7_hammer_14 ?_
    refine lv_iload_n hx hb dX7_hammer_17 rfl (lv_at hl 1 rfl) ?_
    refine o_VI (As := [.int (nI j)]) (rest := []) ⟨hx, hb, hml, hown, hts⟩ (kX1_hangs l G cy hW hPd j (by omega)) (cwV 1 hts gX7_hammer_X1_hangs rfl rfl rfl (by decide +kernel) ⟨Nat.le_of_ble_eq_true rfl, Nat.le_of_ble_eq_true rfl⟩) hK (va_recv hK hP (ci := 0) (q0 := 39) rfl rfl) rfl hl.1 rfl (Nat.le_of_ble_eq_true rfl) dX7_hammer_18 ⟨Nat.zero_le _, Nat.zero_le _⟩ ?_
    refine o_ifb_ne (tgt := 27) hx hb dX7_hammer_21 (by decide) (fun c21 => ?_) (fun c21 => ?_)
    · refine lv_aload_n hx hb dX7_hammer_27 rfl (lv_at hl 0 rfl) ?_
      refine va_get (D := G) (ci := 6) (v := .ref (h 0)) (C := RX7) (T := TX7) (N := 9) hx hb hts iX7_hammer_X7 hown hK hP 0 rfl rfl 3 (by decide) (hts (.fieldLink RX7 26 "NailedOrders" "history" "LNailedOrders$History;") (by decide +kernel)) (fun _ h9 => h9) rfl dX7_hammer_28 ?_
      refine lv_aload_n hx hb dX7_hammer_31 rfl (lv_at hl 0 rfl) ?_
      refine va_get (D := G) (ci := 6) (v := .ref (q 0)) (C := RX7) (T := TX7) (N := 9) hx hb hts iX7_hammer_X7 hown hK hP 0 rfl rfl 0 (by decide) (hts (.fieldLink RX7 10 "NailedOrders" "door" "LNailedOrders$Door;") (by decide +kernel)) (fun _ h9 => h9) rfl dX7_hammer_32 ?_
      have hPc := hP.sub (ws' := wHi cy h k d E ++ wDo cy q M) [1, 2, 3, 4, 5, 6, 7, 8, 9, 10, 11, 12, 13, 14, 15, 16, 17, 18, 19, 20, 21, 22, 23, 24, 25, 26, 27, 28, 29, 30, 31, 32, 33, 34, 35, 36, 37, 38, 39, 40, 41, 42, 43, 44, 45, 46, 47] rfl
      have hDc := hD.sub (ws' := wHi cy h k d E ++ wDo cy q M) [1, 2, 3, 4, 5, 6, 7, 8, 9, 10, 11, 12, 13, 14, 15, 16, 17, 18, 19, 20, 21, 22, 23, 24, 25, 26, 27, 28, 29, 30, 31, 32, 33, 34, 35, 36, 37, 38, 39, 40, 41, 42, 43, 44, 45, 46, 47] (by decide) rfl
      have hFc := va_free (wc := wHi cy h k d E ++ wDo cy q M) hD hS hA [1, 2, 3, 4, 5, 6, 7, 8, 9, 10, 11, 12, 13, 14, 15, 16, 17, 18, 19, 20, 21, 22, 23, 24, 25, 26, 27, 28, 29, 30, 31, 32, 33, 34, 35, 36, 37, 38, 39, 40, 41, 42, 43, 44, 45, 46, 47] rfl
      refine va_callv (va_runV (As := [.ref (q 0)]) (rest := []) ⟨hx, hb, hml, hown, hts⟩ (kX2_record l G cy k hk4 hPc hDc) (cwV 1 hts gX7_hammer_X2_record rfl rfl rfl (by decide +kernel) ⟨Nat.le_of_ble_eq_true rfl, Nat.le_of_ble_eq_true rfl⟩) ⟨pR_blind, va_recv hK hP (ci := 1) (q0 := 1) rfl rfl, pR_at hK⟩ rfl rfl hl.1 rfl (lv_room (Nat.le_of_ble_eq_true rfl)) dX7_hammer_35 ⟨Nat.zero_le _, Nat.zero_le _⟩) hS (fun q _ h => hFc q h) hFc (fun u_ t_ H locs ht hvm hw hB hz1 hk1 hS => ?_)
      obtain ⟨k1, d1, E1⟩ := u_
      have hk5 : k1 ≤ 4 := hw
      have hB : va_P G vwCl (wHi cy h k1 d1 E1 ++ wDo cy q M) t_.heap ∧ va_D (va_A (wHi cy h k d E ++ wDo cy q M) _) (wHi cy h k1 d1 E1 ++ wDo cy q M) := hB
      rw [ht] at hB
      obtain ⟨hP1, hD1⟩ := hB
      obtain ⟨hP, hD⟩ := va_join (wr := [oSy z q h x r y]) hP hD [1, 2, 3, 4, 5, 6, 7, 8, 9, 10, 11, 12, 13, 14, 15, 16, 17, 18, 19, 20, 21, 22, 23, 24, 25, 26, 27, 28, 29, 30, 31, 32, 33, 34, 35, 36, 37, 38, 39, 40, 41, 42, 43, 44, 45, 46, 47] [0] rfl rfl (by decide) (by decide) hk1 hFc hP1 hD1
      refine lv_aload_n hx hb dX7_hammer_38 rfl (lv_at hl 0 rfl) ?_
      refine va_get (D := G) (ci := 6) (v := .ref (q 0)) (C := RX7) (T := TX7) (N := 9) hx hb hts iX7_hammer_X7 hown hK hP 0 rfl rfl 0 (by decide) (hts (.fieldLink RX7 10 "NailedOrders" "door" "LNailedOrders$Door;") (by decide +kernel)) (fun _ h9 => h9) rfl dX7_hammer_39 ?_
      refine va_get (D := G) (ci := 0) (v := .ref (q 11)) (C := RX1) (T := TX1) (N := 13) hx hb hts iX7_hammer_X1 hown hK hP 39 rfl rfl 11 (by decide) (hts (.fieldLink RX7 134 "NailedOrders$Door" "strengths" "[F") (by decide +kernel)) (fun _ h9 => h9) rfl dX7_hammer_42 ?_
      refine lv_iload_n hx hb dX7_hammer_45 rfl (lv_at hl 1 rfl) ?_
      refine o_fald hx hb hK hP 46 1 rfl rfl j (by omega) (by decide) dX7_hammer_46 ?_
      refine lv_fstore_n (lv' := [(2, .float (mH M j)), (0, .ref z), (1, .int (nI j))]) hx hb dX7_hammer_47 rfl hl (by decide) rfl (fun ls hl => ?_)
      refine lv_aload_n hx hb dX7_hammer_48 rfl (lv_at hl 1 rfl) ?_
      refine va_get (D := G) (ci := 6) (v := .ref (q 0)) (C := RX7) (T := TX7) (N := 9) hx hb hts iX7_hammer_X7 hown hK hP 0 rfl rfl 0 (by decide) (hts (.fieldLink RX7 10 "NailedOrders" "door" "LNailedOrders$Door;") (by decide +kernel)) (fun _ h9 => h9) rfl dX7_hammer_49 ?_
      refine va_get (D := G) (ci := 0) (v := .ref (q 11)) (C := RX1) (T := TX1) (N := 13) hx hb hts iX7_hammer_X1 hown hK hP 39 rfl rfl 11 (by decide) (hts (.fieldLink RX7 134 "NailedOrders$Door" "strengths" "[F") (by decide +kernel)) (fun _ h9 => h9) rfl dX7_hammer_52 ?_
      refine lv_iload_n hx hb dX7_hammer_55 rfl (lv_at hl 2 rfl) ?_
      refine lv_fload_n hx hb dX7_hammer_56 rfl (lv_at hl 0 rfl) ?_
      refine lv_ldcf hx hb hown (hts (.constantFloat RX7 138 (1092616192)) (by decide +kernel)) dX7_hammer_57 ?_
      refine lv_fload_n hx hb dX7_hammer_59 rfl (lv_at hl 0 rfl) ?_
      refine lv_fsub hx hb dX7_hammer_60 hn1 ?_
      refine lv_ldcf hx hb hown (hts (.constantFloat RX7 139 (1056964608)) (by decide +kernel)) dX7_hammer_61 ?_
      refine lv_fmul hx hb dX7_hammer_63 hn2 ?_
      refine lv_fadd hx hb dX7_hammer_64 hn3 ?_
      refine o_fast hx hb hK hP hD hS 46 1 rfl rfl j (by omega) (by decide) rfl dX7_hammer_65 (fun H locs hP hD hS => ?_)
      have hP : va_P G vwCl ([oSy z q h x r y] ++ [(h 0, .inr (1, [.ref (h 1), .int (nI k1)])), (h 1, eR cy 4 (fun i => some (d1 i 0)))] ++ wDo cy (d1 0) (E1 0) ++ wDo cy (d1 1) (E1 1) ++ wDo cy (d1 2) (E1 2) ++ wDo cy (d1 3) (E1 3) ++ wDo cy q (mP M, mN M, mS M, mB M, mT M, mR M, mO M, mW M, mL M, mF M, mA M, mU M, va_up (mH M) j (FP.fadd (mH M j) (FP.fmul (FP.fsub 1092616192 (mH M j)) 1056964608)))) H := hP
      have hD : va_D A ([oSy z q h x r y] ++ [(h 0, .inr (1, [.ref (h 1), .int (nI k1)])), (h 1, eR cy 4 (fun i => some (d1 i 0)))] ++ wDo cy (d1 0) (E1 0) ++ wDo cy (d1 1) (E1 1) ++ wDo cy (d1 2) (E1 2) ++ wDo cy (d1 3) (E1 3) ++ wDo cy q (mP M, mN M, mS M, mB M, mT M, mR M, mO M, mW M, mL M, mF M, mA M, mU M, va_up (mH M) j (FP.fadd (mH M j) (FP.fmul (FP.fsub 1092616192 (mH M j)) 1056964608)))) := hD
      refine lv_aload_n hx hb dX7_hammer_66 rfl (lv_at hl 1 rfl) ?_
      refine va_get (D := G) (ci := 6) (v := .ref (q 0)) (C := RX7) (T := TX7) (N := 9) hx hb hts iX7_hammer_X7 hown hK hP 0 rfl rfl 0 (by decide) (hts (.fieldLink RX7 10 "NailedOrders" "door" "LNailedOrders$Door;") (by decide +kernel)) (fun _ h9 => h9) rfl dX7_hammer_67 ?_
      refine lv_iload_n hx hb dX7_hammer_70 rfl (lv_at hl 2 rfl) ?_
      have hPd := hP.sub (ws' := wDo cy q (mP M, mN M, mS M, mB M, mT M, mR M, mO M, mW M, mL M, mF M, mA M, mU M, va_up (mH M) j (FP.fadd (mH M j) (FP.fmul (FP.fsub 1092616192 (mH M j)) 1056964608)))) [39, 40, 41, 42, 43, 44, 45, 46, 47] rfl
      have e9 : va_up (mH M) j (FP.fadd (mH M j) (FP.fmul (FP.fsub 1092616192 (mH M j)) 1056964608)) j = FP.fadd (mH M j) (FP.fmul (FP.fsub 1092616192 (mH M j)) 1056964608) := va_us _ _ _
      refine o_VI (As := [.int (nI j)]) (rest := []) ⟨hx, hb, hml, hown, hts⟩ (kX1_hundredthsOfStrength l G cy (WB_H hW _) hPd j (by omega) (by show vf_n32 (FP.fmul (va_up (mH M) j (FP.fadd (mH M j) (FP.fmul (FP.fsub 1092616192 (mH M j)) 1056964608)) j) 1120403456); rw [e9]; exact hn4)) (cwV 1 hts gX7_hammer_X1_hundredthsOfStrength rfl rfl rfl (by decide +kernel) ⟨Nat.le_of_ble_eq_true rfl, Nat.le_of_ble_eq_true rfl⟩) hK (va_recv hK hP (ci := 0) (q0 := 39) rfl rfl) rfl hl.1 rfl (Nat.le_of_ble_eq_true rfl) dX7_hammer_71 ⟨Nat.zero_le _, Nat.zero_le _⟩ ?_
      exact o_endIs (k := k1) (d := d1) (E := E1) hx hb hr hlocks dX7_hammer_74 hk5 hP hD hS (congrArg (fun v => FP.f2i (FP.fmul v 1120403456)) e9)
    · exact absurd hh c21
  · exact absurd hj c8
