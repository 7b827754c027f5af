set_option maxHeartbeats 4000000 in
set_option maxRecDepth 100000 in
theorem kX7_storm (l : Launch) (G : va_G) (cy : Nat → ClassId) {H0 : Heap} {z : Nat} {q h x r y : Nat → Nat} {k : Nat} {d : Nat → Nat → Nat} {E : Nat → MT} {M : MT} {ov : Nat → Nat} {A0 : Nat → Prop} (hk4 : k ≤ 4) (hW : WB M) (hP : va_P G vwCl (([oSy z q h x r y] ++ wWe cy x ov) ++ (wHi cy h k d E ++ wDo cy q M)) H0) (hD0 : va_D A0 (([oSy z q h x r y] ++ wWe cy x ov) ++ (wHi cy h k d E ++ wDo cy q M))) (b : Int32) (hb0 : frB b 1036831949 1092616192 = true) (hfb : Fin32 (tfl b)) (hH : ∀ k, Fin32 (mH M k)) : MutS l yX7_storm wsX7_storm 4 101 [.ref z, .int b] H0 G cy (nI (cR (flB M (tfl b)) 0 (mN M))) h (([oSy z q h x r y] ++ wWe cy x ov) ++ (wHi cy h k d E ++ wDo cy q M)) ([oSy z q h x r y] ++ wWe cy x (ovc ov M 0)) (wDo cy q (stM M (tfl b))) := by
  refine Met.ofW (cc := cX7_storm) (maxL := 2) (ret := (some .int)) (by decide) rfl ?_
  intro p e s m args below meth c s₁ B hml hv
  obtain ⟨rfl, hH, hK⟩ := hv
  subst hH
  have hx := B.exec
  have hb := B.bytes
  have hr := B.returns
  have hts := atoms_spec (ws := wsX7_storm) B.pre
  have hown : s.vm.findClass RX7 = some m.cls := findClass_of_methodNamed B.named
  have hlocks := B.notSynchronized
  have hl := lv_entry ([.ref z, .int b]) (n := 2) (Nat.le_of_ble_eq_true rfl)
  rw [lg_entry_eq]
  generalize (lg_sl ([.ref z, .int b]) ++ List.replicate (2 - (lg_sl ([.ref z, .int b])).length) Slot.unset).toArray = ls at hl ⊢
  have hl : lv_has ls 2 [(0, .ref z), (1, .int b)] := hl
  obtain ⟨bP, bN, bR, bO, bW, bL, bF⟩ := id hW
  have hPd := hP.sub (ws' := wDo cy q M) [41, 42, 43, 44, 45, 46, 47, 48, 49] rfl
  have hD := hD0.self (sz := s.heap.size)
  generalize hAe : va_A (([oSy z q h x r y] ++ wWe cy x ov) ++ (wHi cy h k d E ++ wDo cy q M)) s.heap.size = A at hD ⊢
  have hA : ∀ q : Nat, s.heap.size ≤ q → A q := fun q h => by rw [← hAe]; exact Or.inr h
  have hS : va_S A s.heap s.heap [] := va_S.rf
  refine lv_iload_n hx hb dX7_storm_0 rfl (lv_at hl 1 rfl) ?_
  refine o_SI (As := [.int b]) (rest := []) ⟨hx, hb, hml, hown, hts⟩ (kX0_areForce l G cy b) (va_cwS 1 hts gX7_storm_X0_areForce rfl rfl rfl (by decide +kernel) ⟨Nat.le_of_ble_eq_true rfl, Nat.le_of_ble_eq_true rfl⟩) hK rfl hl.1 rfl (Nat.le_of_ble_eq_true rfl) dX7_storm_1 ⟨Nat.zero_le _, Nat.zero_le _⟩ ?_
  refine o_ifb_ne (tgt := 10) hx hb dX7_storm_4 (by decide) (fun c4 => ?_) (fun c4 => ?_)
  · refine lv_aload_n hx hb dX7_storm_10 rfl (lv_at hl 0 rfl) ?_
    refine va_get (D := G) (ci := 6) (v := .ref (h 0)) (C := RX7) (T := TX7) (N := 9) hx hb hts iX7_storm_X7 hown hK hP 0 rfl rfl 3 (by decide) (hts (.fieldLink RX7 26 "NailedOrders" "history" "LNailedOrders$History;") (by decide +kernel)) (fun _ h9 => h9) rfl dX7_storm_11 ?_
    refine lv_aload_n hx hb dX7_storm_14 rfl (lv_at hl 0 rfl) ?_
    refine va_get (D := G) (ci := 6) (v := .ref (q 0)) (C := RX7) (T := TX7) (N := 9) hx hb hts iX7_storm_X7 hown hK hP 0 rfl rfl 0 (by decide) (hts (.fieldLink RX7 10 "NailedOrders" "door" "LNailedOrders$Door;") (by decide +kernel)) (fun _ h9 => h9) rfl dX7_storm_15 ?_
    have hPc := hP.sub (ws' := wHi cy h k d E ++ wDo cy q M) [3, 4, 5, 6, 7, 8, 9, 10, 11, 12, 13, 14, 15, 16, 17, 18, 19, 20, 21, 22, 23, 24, 25, 26, 27, 28, 29, 30, 31, 32, 33, 34, 35, 36, 37, 38, 39, 40, 41, 42, 43, 44, 45, 46, 47, 48, 49] rfl
    have hDc := hD.sub (ws' := wHi cy h k d E ++ wDo cy q M) [3, 4, 5, 6, 7, 8, 9, 10, 11, 12, 13, 14, 15, 16, 17, 18, 19, 20, 21, 22, 23, 24, 25, 26, 27, 28, 29, 30, 31, 32, 33, 34, 35, 36, 37, 38, 39, 40, 41, 42, 43, 44, 45, 46, 47, 48, 49] (by decide) rfl
    have hFc := va_free (wc := wHi cy h k d E ++ wDo cy q M) hD hS hA [3, 4, 5, 6, 7, 8, 9, 10, 11, 12, 13, 14, 15, 16, 17, 18, 19, 20, 21, 22, 23, 24, 25, 26, 27, 28, 29, 30, 31, 32, 33, 34, 35, 36, 37, 38, 39, 40, 41, 42, 43, 44, 45, 46, 47, 48, 49] rfl
    refine va_callv (va_runV (As := [.ref (q 0)]) (rest := []) ⟨hx, hb, hml, hown, hts⟩ (kX2_record l G cy k hk4 hPc hDc) (cwV 1 hts gX7_storm_X2_record rfl rfl rfl (by decide +kernel) ⟨Nat.le_of_ble_eq_true rfl, Nat.le_of_ble_eq_true rfl⟩) ⟨pR_blind, va_recv hK hP (ci := 1) (q0 := 3) rfl rfl, pR_at hK⟩ rfl rfl hl.1 rfl (lv_room (Nat.le_of_ble_eq_true rfl)) dX7_storm_18 ⟨Nat.zero_le _, Nat.zero_le _⟩) hS (fun q _ h => hFc q h) hFc (fun u_ t_ H locs ht hvm hw hB hz1 hk1 hS => ?_)
    obtain ⟨k1, d1, E1⟩ := u_
    have hk5 : k1 ≤ 4 := hw
    have hB : va_P G vwCl (wHi cy h k1 d1 E1 ++ wDo cy q M) t_.heap ∧ va_D (va_A (wHi cy h k d E ++ wDo cy q M) _) (wHi cy h k1 d1 E1 ++ wDo cy q M) := hB
    rw [ht] at hB
    obtain ⟨hP1, hD1⟩ := hB
    obtain ⟨hP, hD⟩ := va_join (wr := [oSy z q h x r y] ++ wWe cy x ov) hP hD [3, 4, 5, 6, 7, 8, 9, 10, 11, 12, 13, 14, 15, 16, 17, 18, 19, 20, 21, 22, 23, 24, 25, 26, 27, 28, 29, 30, 31, 32, 33, 34, 35, 36, 37, 38, 39, 40, 41, 42, 43, 44, 45, 46, 47, 48, 49] [0, 1, 2] rfl rfl (by decide) (by decide) hk1 hFc hP1 hD1
    refine lv_aload_n hx hb dX7_storm_21 rfl (lv_at hl 0 rfl) ?_
    refine va_get (D := G) (ci := 6) (v := .ref (x 0)) (C := RX7) (T := TX7) (N := 9) hx hb hts iX7_storm_X7 hown hK hP 0 rfl rfl 6 (by decide) (hts (.fieldLink RX7 49 "NailedOrders" "weather" "LNailedOrders$Weather;") (by decide +kernel)) (fun _ h9 => h9) rfl dX7_storm_22 ?_
    refine lv_aload_n hx hb dX7_storm_25 rfl (lv_at hl 0 rfl) ?_
    refine va_get (D := G) (ci := 6) (v := .ref (q 0)) (C := RX7) (T := TX7) (N := 9) hx hb hts iX7_storm_X7 hown hK hP 0 rfl rfl 0 (by decide) (hts (.fieldLink RX7 10 "NailedOrders" "door" "LNailedOrders$Door;") (by decide +kernel)) (fun _ h9 => h9) rfl dX7_storm_26 ?_
    refine lv_iload_n hx hb dX7_storm_29 rfl (lv_at hl 1 rfl) ?_
    refine o_SF (As := [.int b]) (rest := [.ref (q 0), .ref (x 0)]) ⟨hx, hb, hml, hown, hts⟩ (kX0_toFloat l G cy b) (va_cwS 1 hts gX7_storm_X0_toFloat rfl rfl rfl (by decide +kernel) ⟨Nat.le_of_ble_eq_true rfl, Nat.le_of_ble_eq_true rfl⟩) hK rfl hl.1 rfl (Nat.le_of_ble_eq_true rfl) dX7_storm_30 ⟨Nat.zero_le _, Nat.zero_le _⟩ ?_
    have hPc := hP.sub (ws' := wWe cy x ov ++ wDo cy q M) [1, 2, 41, 42, 43, 44, 45, 46, 47, 48, 49] rfl
    have hDc := hD.sub (ws' := wWe cy x ov ++ wDo cy q M) [1, 2, 41, 42, 43, 44, 45, 46, 47, 48, 49] (by decide) rfl
    have hFc := va_free (wc := wWe cy x ov ++ wDo cy q M) hD hS hA [1, 2, 41, 42, 43, 44, 45, 46, 47, 48, 49] rfl
    refine va_calli (va_runV (As := [.ref (q 0), .float (tfl b)]) (rest := []) ⟨hx, hb, hml, hown, hts⟩ (kX6_blow l G cy hW hfb hH hPc hDc) (cwV 2 hts gX7_storm_X6_blow rfl rfl rfl (by decide +kernel) ⟨Nat.le_of_ble_eq_true rfl, Nat.le_of_ble_eq_true rfl⟩) ⟨pR_blind, va_recv hK hP (ci := 5) (q0 := 1) rfl rfl, pR_at hK⟩ rfl rfl hl.1 rfl (lv_room (Nat.le_of_ble_eq_true rfl)) dX7_storm_33 ⟨Nat.zero_le _, Nat.zero_le _⟩) hS (fun q _ h => hFc q h) hFc (fun r_ u_ t_ H locs ht hvm hw_ hB hz1 hk1 hS => ?_)
    rw [ht] at hB
    have hP : va_P G vwCl ([oSy z q h x r y] ++ wWe cy x (ovc ov M 0) ++ [(h 0, .inr (1, [.ref (h 1), .int (nI k1)])), (h 1, eR cy 4 (fun i => some (d1 i 0)))] ++ wDo cy (d1 0) (E1 0) ++ wDo cy (d1 1) (E1 1) ++ wDo cy (d1 2) (E1 2) ++ wDo cy (d1 3) (E1 3) ++ wDo cy q (stM M (tfl b))) H := (o_join hP hD [1, 2, 41, 42, 43, 44, 45, 46, 47, 48, 49] [0, 3, 4, 5, 6, 7, 8, 9, 10, 11, 12, 13, 14, 15, 16, 17, 18, 19, 20, 21, 22, 23, 24, 25, 26, 27, 28, 29, 30, 31, 32, 33, 34, 35, 36, 37, 38, 39, 40] rfl (wr := [oSy z q h x r y] ++ [(h 0, .inr (1, [.ref (h 1), .int (nI k1)])), (h 1, eR cy 4 (fun i => some (d1 i 0)))] ++ wDo cy (d1 0) (E1 0) ++ wDo cy (d1 1) (E1 1) ++ wDo cy (d1 2) (E1 2) ++ wDo cy (d1 3) (E1 3)) rfl (by decide) (by decide) (by decide) hk1 hFc hB rfl).sub [0, 39, 40, 1, 2, 3, 4, 5, 6, 7, 8, 9, 10, 11, 12, 13, 14, 15, 16, 17, 18, 19, 20, 21, 22, 23, 24, 25, 26, 27, 28, 29, 30, 31, 32, 33, 34, 35, 36, 37, 38, 41, 42, 43, 44, 45, 46, 47, 48, 49] rfl
    have hD : va_D A ([oSy z q h x r y] ++ wWe cy x (ovc ov M 0) ++ [(h 0, .inr (1, [.ref (h 1), .int (nI k1)])), (h 1, eR cy 4 (fun i => some (d1 i 0)))] ++ wDo cy (d1 0) (E1 0) ++ wDo cy (d1 1) (E1 1) ++ wDo cy (d1 2) (E1 2) ++ wDo cy (d1 3) (E1 3) ++ wDo cy q (stM M (tfl b))) := vd_same hD rfl
    obtain rfl : r_ = nI (cR (flB M (tfl b)) 0 (mN M)) := hw_
    exact o_endIs (k := k1) (d := d1) (E := E1) hx hb hr hlocks dX7_storm_36 hk5 hP hD hS rfl
  · exact absurd hb0 c4
