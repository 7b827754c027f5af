set_option maxRecDepth 100000 in
theorem iX4_findRulers_X4 : ∀ w ∈ u_ws RX4 TX4 4, w ∈ wsX4_findRulers := by decide +kernel
set_option maxRecDepth 100000 in
theorem iX4_findRulers_X1 : ∀ w ∈ u_ws RX1 TX1 13, w ∈ wsX4_findRulers := by decide +kernel
set_option maxHeartbeats 4000000 in
set_option maxRecDepth 100000 in
theorem kX4_findRulers (l : Launch) (G : va_G) (cy : Nat → ClassId) {H0 : Heap} {q r : Nat → Nat} {M : MT} {ru : Nat → Option Nat} {kn : Nat → Bool} {va : Nat → UInt32} {A0 : Nat → Prop} (hW : WB M) (hP : va_P G vwCl (wRe cy r (q 0) (fun _ => none) kn va ++ wDo cy q M) H0) (hD0 : va_D A0 (wRe cy r (q 0) (fun _ => none) kn va ++ wDo cy q M)) : MutV l yX4_findRulers wsX4_findRulers 1 21 [.ref (r 0), .int ((-5))] H0 G cy (wRe cy r (q 0) (fun _ => none) kn va ++ wDo cy q M) (wRe cy r (q 0) (rl M) kn va ++ wDo cy q M) := by
  refine Met.ofW (cc := cX4_findRulers) (maxL := 5) (ret := none) (by decide) rfl ?_
  intro p e s m args below meth c s₁ B hml hv
  obtain ⟨rfl, hH, hK⟩ := hv
  subst hH
  have hx := B.exec
  have hb := B.bytes
  have hr := B.returns
  have hts := atoms_spec (ws := wsX4_findRulers) B.pre
  have hown : s.vm.findClass RX4 = some m.cls := findClass_of_methodNamed B.named
  have hlocks := B.notSynchronized
  have hl := lv_entry ([.ref (r 0), .int ((-5))]) (n := 5) (Nat.le_of_ble_eq_true rfl)
  rw [lg_entry_eq]
  generalize (lg_sl ([.ref (r 0), .int ((-5))]) ++ List.replicate (5 - (lg_sl ([.ref (r 0), .int ((-5))])).length) Slot.unset).toArray = ls at hl ⊢
  have hl : lv_has ls 5 [(0, .ref (r 0)), (1, .int ((-5)))] := hl
  obtain ⟨bP, bN, bR, bO, bW, bL, bF⟩ := id hW
  have hD := hD0.self (sz := s.heap.size)
  generalize hAe : va_A (wRe cy r (q 0) (fun _ => none) kn va ++ wDo cy q M) s.heap.size = A at hD ⊢
  have hA : ∀ q : Nat, s.heap.size ≤ q → A q := fun q h => by rw [← hAe]; exact Or.inr h
  have hS : va_S A s.heap s.heap [] := va_S.rf
  refine lv_iconst (v := nI 0) hx hb dX4_findRulers_0 (by decide +kernel) ?_
  refine lv_istore_n (lv' := [(2, .int (nI 0)), (0, .ref (r 0)), (1, .int ((-5)))]) hx hb dX4_findRulers_1 rfl hl (by decide) rfl (fun ls hl => ?_)
  refine o_loopM (σ := Nat) (fun (i : Nat) (H : Heap) (locs : List Loc) => i ≤ mN M ∧ va_P G vwCl (wRe cy r (q 0) (rlN M i) kn va ++ wDo cy q M) H ∧ va_D A (wRe cy r (q 0) (rlN M i) kn va ++ wDo cy q M) ∧ va_S A s.heap H locs) (fun (i : Nat) => [(2, .int (nI i)), (0, .ref (r 0)), (1, .int ((-5)))]) (fun (i : Nat) => mN M - i) 0 ⟨Nat.zero_le _, hP, hD, hS⟩ (lv_sub hl [0, 1, 2] rfl) ?_
  rintro i ls H locs ⟨h1, hP, hD, hS⟩ hl ih2
  have hl : lv_has ls 5 [(2, .int (nI i)), (0, .ref (r 0)), (1, .int ((-5)))] := hl
  have hPd := hP.sub (ws' := wDo cy q M) [4, 5, 6, 7, 8, 9, 10, 11, 12] rfl
  have b1 := bW i
  have b2 := bO i
  have b3 := bR (mO M i)
  refine lv_iload_n hx hb dX4_findRulers_2 rfl (lv_at hl 0 rfl) ?_
  refine lv_aload_n hx hb dX4_findRulers_3 rfl (lv_at hl 1 rfl) ?_
  refine va_get (D := G) (ci := 3) (v := .ref (q 0)) (C := RX4) (T := TX4) (N := 4) hx hb hts iX4_findRulers_X4 hown hK hP 0 rfl rfl 0 (by decide) (hts (.fieldLink RX4 23 "NailedOrders$Reckoning" "door" "LNailedOrders$Door;") (by decide +kernel)) (fun _ h9 => h9) rfl dX4_findRulers_4 ?_
  refine va_get (D := G) (ci := 0) (v := .int (nI (mN M))) (C := RX1) (T := TX1) (N := 13) hx hb hts iX4_findRulers_X1 hown hK hP 4 rfl rfl 5 (by decide) (hts (.fieldLink RX4 34 "NailedOrders$Door" "orders" "I") (by decide +kernel)) (fun _ h9 => h9) rfl dX4_findRulers_7 ?_
  refine o_icmp_ge (tgt := 85) hx hb dX4_findRulers_10 (by decide) (by omega) (by omega) (fun c10 => ?_) (fun c10 => ?_)
  · obtain rfl : i = mN M := by omega
    exact o_endVm hx hb hr hlocks dX4_findRulers_85 hP hS
  · refine lv_aload_n hx hb dX4_findRulers_13 rfl (lv_at hl 1 rfl) ?_
    refine va_get (D := G) (ci := 3) (v := .ref (q 0)) (C := RX4) (T := TX4) (N := 4) hx hb hts iX4_findRulers_X4 hown hK hP 0 rfl rfl 0 (by decide) (hts (.fieldLink RX4 23 "NailedOrders$Reckoning" "door" "LNailedOrders$Door;") (by decide +kernel)) (fun _ h9 => h9) rfl dX4_findRulers_14 ?_
    refine lv_iload_n hx hb dX4_findRulers_17 rfl (lv_at hl 0 rfl) ?_
    refine o_VI (As := [.int (nI i)]) (rest := []) ⟨hx, hb, hml, hown, hts⟩ (kX1_hangs l G cy hW hPd i (by omega)) (cwV 1 hts gX4_findRulers_X1_hangs rfl rfl rfl (by decide +kernel) ⟨Nat.le_of_ble_eq_true rfl, Nat.le_of_ble_eq_true rfl⟩) hK (va_recv hK hP (ci := 0) (q0 := 4) rfl rfl) rfl hl.1 rfl (Nat.le_of_ble_eq_true rfl) dX4_findRulers_18 ⟨Nat.zero_le _, Nat.zero_le _⟩ ?_
    refine o_ifb_eq (tgt := 79) hx hb dX4_findRulers_21 (by decide) (fun c21 => ?_) (fun c21 => ?_)
    · refine lv_iinc (v := nI (i + 1)) (lv' := [(2, .int (nI (i + 1))), (0, .ref (r 0)), (1, .int ((-5)))]) hx hb dX4_findRulers_79 hl (k := 0) rfl (nI_1 i) (by decide) rfl (fun ls hl => ?_)
      refine lv_goto (tgt := 2) hx hb dX4_findRulers_82 (by decide) ?_
      refine ih2 (i + 1) ls H locs ?_ ?_ ?_
      · have e := rlN_u c21; rw [e]; exact ⟨by omega, hP, hD, hS⟩
      · show lv_has ls 5 [(2, .int (nI (i + 1))), (0, .ref (r 0)), (1, .int ((-5)))]
        exact lv_sub hl [0, 1, 2] rfl
      · omega
    · refine lv_iload_n hx hb dX4_findRulers_24 rfl (lv_at hl 0 rfl) ?_
      refine lv_iload_n hx hb dX4_findRulers_25 rfl (lv_at hl 2 rfl) ?_
      refine lv_icmp_eq (tgt := 79) hx hb dX4_findRulers_26 (by decide) (fun c26 => ?_) (fun c26 => ?_)
      · exact absurd c26 (nI_m5 (by omega))
      · refine lv_aload_n hx hb dX4_findRulers_29 rfl (lv_at hl 1 rfl) ?_
        refine va_get (D := G) (ci := 3) (v := .ref (q 0)) (C := RX4) (T := TX4) (N := 4) hx hb hts iX4_findRulers_X4 hown hK hP 0 rfl rfl 0 (by decide) (hts (.fieldLink RX4 23 "NailedOrders$Reckoning" "door" "LNailedOrders$Door;") (by decide +kernel)) (fun _ h9 => h9) rfl dX4_findRulers_30 ?_
        refine va_get (D := G) (ci := 0) (v := .ref (q 7)) (C := RX1) (T := TX1) (N := 13) hx hb hts iX4_findRulers_X1 hown hK hP 4 rfl rfl 7 (by decide) (hts (.fieldLink RX4 44 "NailedOrders$Door" "words" "[I") (by decide +kernel)) (fun _ h9 => h9) rfl dX4_findRulers_33 ?_
        refine lv_iload_n hx hb dX4_findRulers_36 rfl (lv_at hl 0 rfl) ?_
        refine o_iald hx hb hK hP 7 0 rfl rfl i (by omega) (by decide) dX4_findRulers_37 ?_
        refine lv_istore_n (lv' := [(3, .int (nI (mW M i))), (2, .int (nI i)), (0, .ref (r 0)), (1, .int ((-5)))]) hx hb dX4_findRulers_38 rfl hl (by decide) rfl (fun ls hl => ?_)
        refine lv_aload_n hx hb dX4_findRulers_39 rfl (lv_at hl 2 rfl) ?_
        refine va_get (D := G) (ci := 3) (v := .ref (r 1)) (C := RX4) (T := TX4) (N := 4) hx hb hts iX4_findRulers_X4 hown hK hP 0 rfl rfl 1 (by decide) (hts (.fieldLink RX4 9 "NailedOrders$Reckoning" "rulers" "[I") (by decide +kernel)) (fun _ h9 => h9) rfl dX4_findRulers_40 ?_
        refine lv_iload_n hx hb dX4_findRulers_43 rfl (lv_at hl 0 rfl) ?_
        refine o_iald hx hb hK hP 1 0 rfl rfl (mW M i) (by omega) (by decide) dX4_findRulers_44 ?_
        refine lv_istore (lv' := [(4, .int (lkI ((rlN M i) (mW M i)))), (3, .int (nI (mW M i))), (2, .int (nI i)), (0, .ref (r 0)), (1, .int ((-5)))]) hx hb dX4_findRulers_45 hl (by decide) rfl (fun ls hl => ?_)
        refine lv_iload hx hb dX4_findRulers_47 (lv_at hl 0 rfl) ?_
        refine o_lk_lt (tgt := 72) hx hb dX4_findRulers_49 (by decide) (fun j hj => by have := rlN_lt i hj; omega) (fun c49 => ?_) (fun c49 => ?_)
        · refine lv_aload_n hx hb dX4_findRulers_72 rfl (lv_at hl 3 rfl) ?_
          refine va_get (D := G) (ci := 3) (v := .ref (r 1)) (C := RX4) (T := TX4) (N := 4) hx hb hts iX4_findRulers_X4 hown hK hP 0 rfl rfl 1 (by decide) (hts (.fieldLink RX4 9 "NailedOrders$Reckoning" "rulers" "[I") (by decide +kernel)) (fun _ h9 => h9) rfl dX4_findRulers_73 ?_
          refine lv_iload_n hx hb dX4_findRulers_76 rfl (lv_at hl 1 rfl) ?_
          refine lv_iload_n hx hb dX4_findRulers_77 rfl (lv_at hl 2 rfl) ?_
          refine o_iast hx hb hK hP hD hS 1 0 rfl rfl (mW M i) (by omega) (by decide) (upd_lk (rlN M i) (mW M i) (some i)) dX4_findRulers_78 (fun H locs hP hD hS => ?_)
          have hP : va_P G vwCl (wRe cy r (q 0) (va_up (rlN M i) (mW M i) (some i)) kn va ++ wDo cy q M) H := hP
          have hD : va_D A (wRe cy r (q 0) (va_up (rlN M i) (mW M i) (some i)) kn va ++ wDo cy q M) := hD
          refine lv_iinc (v := nI (i + 1)) (lv' := [(2, .int (nI (i + 1))), (4, .int (lkI ((rlN M i) (mW M i)))), (3, .int (nI (mW M i))), (0, .ref (r 0)), (1, .int ((-5)))]) hx hb dX4_findRulers_79 hl (k := 2) rfl (nI_1 i) (by decide) rfl (fun ls hl => ?_)
          refine lv_goto (tgt := 2) hx hb dX4_findRulers_82 (by decide) ?_
          refine ih2 (i + 1) ls H locs ?_ ?_ ?_
          · have e := rlN_n c21 c49; rw [e]; exact ⟨by omega, hP, hD, hS⟩
          · show lv_has ls 5 [(2, .int (nI (i + 1))), (0, .ref (r 0)), (1, .int ((-5)))]
            exact lv_sub hl [0, 3, 4] rfl
          · omega
        · obtain ⟨j, hj⟩ := c49
          rw [hj] at hl
          have hl : lv_has ls 5 [(4, .int (nI j)), (3, .int (nI (mW M i))), (2, .int (nI i)), (0, .ref (r 0)), (1, .int ((-5)))] := hl
          have b4 := rlN_lt i hj
          have b5 := bO j
          have b6 := bR (mO M j)
          refine lv_aload_n hx hb dX4_findRulers_52 rfl (lv_at hl 3 rfl) ?_
          refine va_get (D := G) (ci := 3) (v := .ref (q 0)) (C := RX4) (T := TX4) (N := 4) hx hb hts iX4_findRulers_X4 hown hK hP 0 rfl rfl 0 (by decide) (hts (.fieldLink RX4 23 "NailedOrders$Reckoning" "door" "LNailedOrders$Door;") (by decide +kernel)) (fun _ h9 => h9) rfl dX4_findRulers_53 ?_
          refine lv_iload_n hx hb dX4_findRulers_56 rfl (lv_at hl 2 rfl) ?_
          refine o_VI (As := [.int (nI i)]) (rest := []) ⟨hx, hb, hml, hown, hts⟩ (kX1_rankOf l G cy hW hPd i (by omega)) (cwV 1 hts gX4_findRulers_X1_rankOf rfl rfl rfl (by decide +kernel) ⟨Nat.le_of_ble_eq_true rfl, Nat.le_of_ble_eq_true rfl⟩) hK (va_recv hK hP (ci := 0) (q0 := 4) rfl rfl) rfl hl.1 rfl (Nat.le_of_ble_eq_true rfl) dX4_findRulers_57 ⟨Nat.zero_le _, Nat.zero_le _⟩ ?_
          refine lv_aload_n hx hb dX4_findRulers_60 rfl (lv_at hl 3 rfl) ?_
          refine va_get (D := G) (ci := 3) (v := .ref (q 0)) (C := RX4) (T := TX4) (N := 4) hx hb hts iX4_findRulers_X4 hown hK hP 0 rfl rfl 0 (by decide) (hts (.fieldLink RX4 23 "NailedOrders$Reckoning" "door" "LNailedOrders$Door;") (by decide +kernel)) (fun _ h9 => h9) rfl dX4_findRulers_61 ?_
          refine lv_iload hx hb dX4_findRulers_64 (lv_at hl 0 rfl) ?_
          refine o_VI (As := [.int (nI j)]) (rest := [.int (nI (mR M (mO M i)))]) ⟨hx, hb, hml, hown, hts⟩ (kX1_rankOf l G cy hW hPd j (by omega)) (cwV 1 hts gX4_findRulers_X1_rankOf rfl rfl rfl (by decide +kernel) ⟨Nat.le_of_ble_eq_true rfl, Nat.le_of_ble_eq_true rfl⟩) hK (va_recv hK hP (ci := 0) (q0 := 4) rfl rfl) rfl hl.1 rfl (Nat.le_of_ble_eq_true rfl) dX4_findRulers_66 ⟨Nat.zero_le _, Nat.zero_le _⟩ ?_
          refine o_icmp_lt (tgt := 79) hx hb dX4_findRulers_69 (by decide) (by omega) (by omega) (fun c69 => ?_) (fun c69 => ?_)
          · refine lv_iinc (v := nI (i + 1)) (lv' := [(2, .int (nI (i + 1))), (4, .int (nI j)), (3, .int (nI (mW M i))), (0, .ref (r 0)), (1, .int ((-5)))]) hx hb dX4_findRulers_79 hl (k := 2) rfl (nI_1 i) (by decide) rfl (fun ls hl => ?_)
            refine lv_goto (tgt := 2) hx hb dX4_findRulers_82 (by decide) ?_
            refine ih2 (i + 1) ls H locs ?_ ?_ ?_
            · have e := rlN_f c21 hj (by omega); rw [e]; exact ⟨by omega, hP, hD, hS⟩
            · show lv_has ls 5 [(2, .int (nI (i + 1))), (0, .ref (r 0)), (1, .int ((-5)))]
              exact lv_sub hl [0, 3, 4] rfl
            · omega
          · refine lv_aload_n hx hb dX4_findRulers_72 rfl (lv_at hl 3 rfl) ?_
            refine va_get (D := G) (ci := 3) (v := .ref (r 1)) (C := RX4) (T := TX4) (N := 4) hx hb hts iX4_findRulers_X4 hown hK hP 0 rfl rfl 1 (by decide) (hts (.fieldLink RX4 9 "NailedOrders$Reckoning" "rulers" "[I") (by decide +kernel)) (fun _ h9 => h9) rfl dX4_findRulers_73 ?_
            refine lv_iload_n hx hb dX4_findRulers_76 rfl (lv_at hl 1 rfl) ?_
            refine lv_iload_n hx hb dX4_findRulers_77 rfl (lv_at hl 2 rfl) ?_
            refine o_iast hx hb hK hP hD hS 1 0 rfl rfl (mW M i) (by omega) (by decide) (upd_lk (rlN M i) (mW M i) (some i)) dX4_findRulers_78 (fun H locs hP hD hS => ?_)
            have hP : va_P G vwCl (wRe cy r (q 0) (va_up (rlN M i) (mW M i) (some i)) kn va ++ wDo cy q M) H := hP
            have hD : va_D A (wRe cy r (q 0) (va_up (rlN M i) (mW M i) (some i)) kn va ++ wDo cy q M) := hD
            refine lv_iinc (v := nI (i + 1)) (lv' := [(2, .int (nI (i + 1))), (4, .int (nI j)), (3, .int (nI (mW M i))), (0, .ref (r 0)), (1, .int ((-5)))]) hx hb dX4_findRulers_79 hl (k := 2) rfl (nI_1 i) (by decide) rfl (fun ls hl => ?_)
            refine lv_goto (tgt := 2) hx hb dX4_findRulers_82 (by decide) ?_
            refine ih2 (i + 1) ls H locs ?_ ?_ ?_
            · have e := rlN_t c21 hj c69; rw [e]; exact ⟨by omega, hP, hD, hS⟩
            · show lv_has ls 5 [(2, .int (nI (i + 1))), (0, .ref (r 0)), (1, .int ((-5)))]
              exact lv_sub hl [0, 3, 4] rfl
            · omega

set_option maxRecDepth 100000 in
theorem iX4_findValues_X4 : ∀ w ∈ u_ws RX4 TX4 4, w ∈ wsX4_findValues := by decide +kernel
set_option maxHeartbeats 4000000 in
set_option maxRecDepth 100000 in
theorem kX4_findValues (l : Launch) (G : va_G) (cy : Nat → ClassId) {H0 : Heap} {q r : Nat → Nat} {M : MT} {ru : Nat → Option Nat} {kn : Nat → Bool} {va : Nat → UInt32} {A0 : Nat → Prop} (hW : WB M) (hF : WF M) (hR : ∀ w o, ru w = some o → o < mN M) (hP : va_P G vwCl (wRe cy r (q 0) ru (fun _ => false) (fun _ => 0) ++ wDo cy q M) H0) (hD0 : va_D A0 (wRe cy r (q 0) ru (fun _ => false) (fun _ => 0) ++ wDo cy q M)) : MutV l yX4_findValues wsX4_findValues 2 45 [.ref (r 0)] H0 G cy (wRe cy r (q 0) ru (fun _ => false) (fun _ => 0) ++ wDo cy q M) (wRe cy r (q 0) ru (knF M ru) (vaF M ru) ++ wDo cy q M) := by
  refine Met.ofW (cc := cX4_findValues) (maxL := 5) (ret := none) (by decide) rfl ?_
  intro p e s m args below meth c s₁ B hml hv
  obtain ⟨rfl, hH, hK⟩ := hv
  subst hH
  have hx := B.exec
  have hb := B.bytes
  have hr := B.returns
  have hts := atoms_spec (ws := wsX4_findValues) B.pre
  have hown : s.vm.findClass RX4 = some m.cls := findClass_of_methodNamed B.named
  have hlocks := B.notSynchronized
  have hl := lv_entry ([.ref (r 0)]) (n := 5) (Nat.le_of_ble_eq_true rfl)
  rw [lg_entry_eq]
  generalize (lg_sl ([.ref (r 0)]) ++ List.replicate (5 - (lg_sl ([.ref (r 0)])).length) Slot.unset).toArray = ls at hl ⊢
  have hl : lv_has ls 5 [(0, .ref (r 0))] := hl
  obtain ⟨bP, bN, bR, bO, bW, bL, bF⟩ := id hW
  have hD := hD0.self (sz := s.heap.size)
  generalize hAe : va_A (wRe cy r (q 0) ru (fun _ => false) (fun _ => 0) ++ wDo cy q M) s.heap.size = A at hD ⊢
  have hA : ∀ q : Nat, s.heap.size ≤ q → A q := fun q h => by rw [← hAe]; exact Or.inr h
  have hS : va_S A s.heap s.heap [] := va_S.rf
  refine lv_iconst (v := nI 1) hx hb dX4_findValues_0 (by decide +kernel) ?_
  refine lv_istore_n (lv' := [(1, .int (nI 1)), (0, .ref (r 0))]) hx hb dX4_findValues_1 rfl hl (by decide) rfl (fun ls hl => ?_)
  refine lv_iconst (v := nI 0) hx hb dX4_findValues_2 (by decide +kernel) ?_
  refine lv_istore_n (lv' := [(2, .int (nI 0)), (1, .int (nI 1)), (0, .ref (r 0))]) hx hb dX4_findValues_3 rfl hl (by decide) rfl (fun ls hl => ?_)
  refine o_loopM (σ := Nat × Bool × (Nat → Bool) × (Nat → UInt32)) (fun (x_ : Nat × Bool × (Nat → Bool) × (Nat → UInt32)) (H : Heap) (locs : List Loc) => match x_ with | (rd, g1, k1, v1) => rd ≤ 16 ∧ IvK M ru k1 v1 ∧ (g1 = true → rd ≤ cR k1 0 16) ∧ (g1 = false → ∀ w, w < 16 → stk M ru k1 v1 w) ∧ va_P G vwCl (wRe cy r (q 0) ru k1 v1 ++ wDo cy q M) H ∧ va_D A (wRe cy r (q 0) ru k1 v1 ++ wDo cy q M) ∧ va_S A s.heap H locs) (fun (x_ : Nat × Bool × (Nat → Bool) × (Nat → UInt32)) => match x_ with | (rd, g1, k1, v1) => [(1, .int (bI (g1 = true))), (2, .int (nI rd)), (0, .ref (r 0))]) (fun (x_ : Nat × Bool × (Nat → Bool) × (Nat → UInt32)) => match x_ with | (rd, g1, k1, v1) => 16 - rd) (0, true, (fun _ => false), (fun _ => 0)) ⟨Nat.zero_le _, IvK_0, fun _ => Nat.zero_le _, fun z => (by cases z), hP, hD, hS⟩ (lv_sub hl [1, 0, 2] rfl) ?_
  rintro ⟨rd, g1, k1, v1⟩ ls H locs ⟨hO1, hO2, hO3, hO4, hP, hD, hS⟩ hl ih4
  have hl : lv_has ls 5 [(1, .int (bI (g1 = true))), (2, .int (nI rd)), (0, .ref (r 0))] := hl
  refine lv_iload_n hx hb dX4_findValues_4 rfl (lv_at hl 1 rfl) ?_
  refine lv_bipush (v := nI 16) hx hb dX4_findValues_5 (by decide +kernel) ?_
  refine o_icmp_ge (tgt := 88) hx hb dX4_findValues_7 (by decide) (by omega) (by omega) (fun c7 => ?_) (fun c7 => ?_)
  · have hfx : ∀ w, w < 16 → stk M ru k1 v1 w := by
      cases g1
      · exact hO4 rfl
      · intro w hw hk; have h8 := hO3 rfl; rw [cR_full (p := k1) (n := 16) (by omega) w hw] at hk; cases hk
    have hP9 := o_reck hP (fun w _ => rfl) (fun w hw => (fix_known hW hO2 hfx hw).1) (fun w hw => (fix_known hW hO2 hfx hw).2)
    exact o_endVm hx hb hr hlocks dX4_findValues_88 hP9 hS
  · refine lv_iload_n hx hb dX4_findValues_10 rfl (lv_at hl 0 rfl) ?_
    refine o_ifb_eq (tgt := 88) hx hb dX4_findValues_11 (by decide) (fun c11 => ?_) (fun c11 => ?_)
    · have hfx : ∀ w, w < 16 → stk M ru k1 v1 w := hO4 (by cases g1; rfl; exact absurd rfl c11)
      have hP9 := o_reck hP (fun w _ => rfl) (fun w hw => (fix_known hW hO2 hfx hw).1) (fun w hw => (fix_known hW hO2 hfx hw).2)
      exact o_endVm hx hb hr hlocks dX4_findValues_88 hP9 hS
    · have hg1 := hO3 c11
      refine lv_iconst (v := nI 0) hx hb dX4_findValues_14 (by decide +kernel) ?_
      refine lv_istore_n (lv' := [(1, .int (nI 0)), (2, .int (nI rd)), (0, .ref (r 0))]) hx hb dX4_findValues_15 rfl hl (by decide) rfl (fun ls hl => ?_)
      refine lv_iconst (v := nI 0) hx hb dX4_findValues_16 (by decide +kernel) ?_
      refine lv_istore_n (lv' := [(3, .int (nI 0)), (1, .int (nI 0)), (2, .int (nI rd)), (0, .ref (r 0))]) hx hb dX4_findValues_17 rfl hl (by decide) rfl (fun ls hl => ?_)
      refine o_loopM (σ := Nat × Bool × (Nat → Bool) × (Nat → UInt32)) (fun (x_ : Nat × Bool × (Nat → Bool) × (Nat → UInt32)) (H : Heap) (locs : List Loc) => match x_ with | (j, g2, k2, v2) => j ≤ 16 ∧ IvK M ru k2 v2 ∧ (g2 = true → rd + 1 ≤ cR k2 0 16) ∧ (g2 = false → rd ≤ cR k2 0 16 ∧ ∀ w, w < j → stk M ru k2 v2 w) ∧ va_P G vwCl (wRe cy r (q 0) ru k2 v2 ++ wDo cy q M) H ∧ va_D A (wRe cy r (q 0) ru k2 v2 ++ wDo cy q M) ∧ va_S A s.heap H locs) (fun (x_ : Nat × Bool × (Nat → Bool) × (Nat → UInt32)) => match x_ with | (j, g2, k2, v2) => [(3, .int (nI j)), (1, .int (bI (g2 = true))), (2, .int (nI rd)), (0, .ref (r 0))]) (fun (x_ : Nat × Bool × (Nat → Bool) × (Nat → UInt32)) => match x_ with | (j, g2, k2, v2) => 16 - j) (0, false, k1, v1) ⟨Nat.zero_le _, hO2, fun z => (by cases z), fun _ => ⟨hg1, fun w h => absurd h (Nat.not_lt_zero w)⟩, hP, hD, hS⟩ (lv_sub hl [0, 1, 2, 3] rfl) ?_
      rintro ⟨j, g2, k2, v2⟩ ls H locs ⟨hi1, hi2, hi3, hi4, hP, hD, hS⟩ hl ih18
      have hl : lv_has ls 5 [(3, .int (nI j)), (1, .int (bI (g2 = true))), (2, .int (nI rd)), (0, .ref (r 0))] := hl
      refine lv_iload_n hx hb dX4_findValues_18 rfl (lv_at hl 0 rfl) ?_
      refine lv_bipush (v := nI 16) hx hb dX4_findValues_19 (by decide +kernel) ?_
      refine o_icmp_ge (tgt := 82) hx hb dX4_findValues_21 (by decide) (by omega) (by omega) (fun c21 => ?_) (fun c21 => ?_)
      · refine lv_iinc (v := nI (rd + 1)) (lv' := [(2, .int (nI (rd + 1))), (3, .int (nI j)), (1, .int (bI (g2 = true))), (0, .ref (r 0))]) hx hb dX4_findValues_82 hl (k := 2) rfl (nI_1 rd) (by decide) rfl (fun ls hl => ?_)
        refine lv_goto (tgt := 4) hx hb dX4_findValues_85 (by decide) ?_
        refine ih4 (rd + 1, g2, k2, v2) ls H locs ?_ ?_ ?_
        · exact ⟨by omega, hi2, hi3, fun z w hw => (hi4 z).2 w (by omega), hP, hD, hS⟩
        · show lv_has ls 5 [(1, .int (bI (g2 = true))), (2, .int (nI (rd + 1))), (0, .ref (r 0))]
          exact lv_sub hl [2, 0, 3] rfl
        · show 16 - (rd + 1) < 16 - rd; omega
      · refine lv_aload_n hx hb dX4_findValues_24 rfl (lv_at hl 3 rfl) ?_
        refine va_get (D := G) (ci := 3) (v := .ref (r 1)) (C := RX4) (T := TX4) (N := 4) hx hb hts iX4_findValues_X4 hown hK hP 0 rfl rfl 1 (by decide) (hts (.fieldLink RX4 9 "NailedOrders$Reckoning" "rulers" "[I") (by decide +kernel)) (fun _ h9 => h9) rfl dX4_findValues_25 ?_
        refine lv_iload_n hx hb dX4_findValues_28 rfl (lv_at hl 0 rfl) ?_
        refine o_iald hx hb hK hP 1 0 rfl rfl j (by omega) (by decide) dX4_findValues_29 ?_
        refine lv_istore (lv' := [(4, .int (lkI (ru j))), (3, .int (nI j)), (1, .int (bI (g2 = true))), (2, .int (nI rd)), (0, .ref (r 0))]) hx hb dX4_findValues_30 hl (by decide) rfl (fun ls hl => ?_)
        refine lv_aload_n hx hb dX4_findValues_32 rfl (lv_at hl 4 rfl) ?_
        refine va_get (D := G) (ci := 3) (v := .ref (r 2)) (C := RX4) (T := TX4) (N := 4) hx hb hts iX4_findValues_X4 hown hK hP 0 rfl rfl 2 (by decide) (hts (.fieldLink RX4 15 "NailedOrders$Reckoning" "known" "[Z") (by decide +kernel)) (fun _ h9 => h9) rfl dX4_findValues_33 ?_
        refine lv_iload_n hx hb dX4_findValues_36 rfl (lv_at hl 1 rfl) ?_
        refine o_zald hx hb hK hP 2 2 rfl rfl j (by omega) (by decide) dX4_findValues_37 ?_
        refine o_ifb_ne (tgt := 76) hx hb dX4_findValues_38 (by decide) (fun c38 => ?_) (fun c38 => ?_)
        · refine lv_iinc (v := nI (j + 1)) (lv' := [(3, .int (nI (j + 1))), (4, .int (lkI (ru j))), (1, .int (bI (g2 = true))), (2, .int (nI rd)), (0, .ref (r 0))]) hx hb dX4_findValues_76 hl (k := 1) rfl (nI_1 j) (by decide) rfl (fun ls hl => ?_)
          refine lv_goto (tgt := 18) hx hb dX4_findValues_79 (by decide) ?_
          refine ih18 (j + 1, g2, k2, v2) ls H locs ?_ ?_ ?_
          · exact ⟨by omega, hi2, hi3, fun z => ⟨(hi4 z).1, lt_s (hi4 z).2 (fun z => absurd c38 (by rw [z]; decide))⟩, hP, hD, hS⟩
          · show lv_has ls 5 [(3, .int (nI (j + 1))), (1, .int (bI (g2 = true))), (2, .int (nI rd)), (0, .ref (r 0))]
            exact lv_sub hl [0, 2, 3, 4] rfl
          · show 16 - (j + 1) < 16 - j; omega
        · refine lv_iload hx hb dX4_findValues_41 (lv_at hl 0 rfl) ?_
          refine o_lk_lt (tgt := 76) hx hb dX4_findValues_43 (by decide) (fun o hj => by have := hR j o hj; omega) (fun c43 => ?_) (fun c43 => ?_)
          · refine lv_iinc (v := nI (j + 1)) (lv' := [(3, .int (nI (j + 1))), (4, .int (lkI (ru j))), (1, .int (bI (g2 = true))), (2, .int (nI rd)), (0, .ref (r 0))]) hx hb dX4_findValues_76 hl (k := 1) rfl (nI_1 j) (by decide) rfl (fun ls hl => ?_)
            refine lv_goto (tgt := 18) hx hb dX4_findValues_79 (by decide) ?_
            refine ih18 (j + 1, g2, k2, v2) ls H locs ?_ ?_ ?_
            · exact ⟨by omega, hi2, hi3, fun z => ⟨(hi4 z).1, lt_s (hi4 z).2 (fun _ o ho => by rw [c43] at ho; cases ho)⟩, hP, hD, hS⟩
            · show lv_has ls 5 [(3, .int (nI (j + 1))), (1, .int (bI (g2 = true))), (2, .int (nI rd)), (0, .ref (r 0))]
              exact lv_sub hl [0, 2, 3, 4] rfl
            · show 16 - (j + 1) < 16 - j; omega
          · obtain ⟨o, hj⟩ := c43
            rw [hj] at hl
            have hl : lv_has ls 5 [(4, .int (nI o)), (3, .int (nI j)), (1, .int (bI (g2 = true))), (2, .int (nI rd)), (0, .ref (r 0))] := hl
            have b4 := hR j o hj
            refine lv_aload_n hx hb dX4_findValues_46 rfl (lv_at hl 4 rfl) ?_
            refine lv_iload hx hb dX4_findValues_47 (lv_at hl 0 rfl) ?_
            refine o_VI (As := [.int (nI o)]) (rest := []) ⟨hx, hb, hml, hown, hts⟩ (kX4_orderHasValue l G cy hW hF (hi2.1) hR hP o (by omega)) (cwV 1 hts gX4_findValues_X4_orderHasValue rfl rfl rfl (by decide +kernel) ⟨Nat.le_of_ble_eq_true rfl, Nat.le_of_ble_eq_true rfl⟩) hK (va_recv hK hP (ci := 3) (q0 := 0) rfl rfl) rfl hl.1 rfl (Nat.le_of_ble_eq_true rfl) dX4_findValues_49 ⟨Nat.zero_le _, Nat.zero_le _⟩ ?_
            refine o_ifb_eq (tgt := 76) hx hb dX4_findValues_52 (by decide) (fun c52 => ?_) (fun c52 => ?_)
            · refine lv_iinc (v := nI (j + 1)) (lv' := [(3, .int (nI (j + 1))), (4, .int (nI o)), (1, .int (bI (g2 = true))), (2, .int (nI rd)), (0, .ref (r 0))]) hx hb dX4_findValues_76 hl (k := 1) rfl (nI_1 j) (by decide) rfl (fun ls hl => ?_)
              refine lv_goto (tgt := 18) hx hb dX4_findValues_79 (by decide) ?_
              refine ih18 (j + 1, g2, k2, v2) ls H locs ?_ ?_ ?_
              · exact ⟨by omega, hi2, hi3, fun z => ⟨(hi4 z).1, lt_s (hi4 z).2 (fun _ o2 ho => by rw [hj] at ho; cases ho; exact c52)⟩, hP, hD, hS⟩
              · show lv_has ls 5 [(3, .int (nI (j + 1))), (1, .int (bI (g2 = true))), (2, .int (nI rd)), (0, .ref (r 0))]
                exact lv_sub hl [0, 2, 3, 4] rfl
              · show 16 - (j + 1) < 16 - j; omega
            · have hI5 := IvK_step hi2 c21 c38 hj c52
              refine lv_aload_n hx hb dX4_findValues_55 rfl (lv_at hl 4 rfl) ?_
              refine va_get (D := G) (ci := 3) (v := .ref (r 2)) (C := RX4) (T := TX4) (N := 4) hx hb hts iX4_findValues_X4 hown hK hP 0 rfl rfl 2 (by decide) (hts (.fieldLink RX4 15 "NailedOrders$Reckoning" "known" "[Z") (by decide +kernel)) (fun _ h9 => h9) rfl dX4_findValues_56 ?_
              refine lv_iload_n hx hb dX4_findValues_59 rfl (lv_at hl 1 rfl) ?_
              refine lv_iconst (v := nI 1) hx hb dX4_findValues_60 (by decide +kernel) ?_
              refine o_zast hx hb hK hP hD hS 2 2 rfl rfl j (by omega) (by decide) (upd_bI k2 j true) dX4_findValues_61 (fun H locs hP hD hS => ?_)
              have hP : va_P G vwCl (wRe cy r (q 0) ru (va_up k2 j true) v2 ++ wDo cy q M) H := hP
              have hD : va_D A (wRe cy r (q 0) ru (va_up k2 j true) v2 ++ wDo cy q M) := hD
              refine lv_aload_n hx hb dX4_findValues_62 rfl (lv_at hl 4 rfl) ?_
              refine va_get (D := G) (ci := 3) (v := .ref (r 3)) (C := RX4) (T := TX4) (N := 4) hx hb hts iX4_findValues_X4 hown hK hP 0 rfl rfl 3 (by decide) (hts (.fieldLink RX4 19 "NailedOrders$Reckoning" "values" "[F") (by decide +kernel)) (fun _ h9 => h9) rfl dX4_findValues_63 ?_
              refine lv_iload_n hx hb dX4_findValues_66 rfl (lv_at hl 1 rfl) ?_
              refine lv_aload_n hx hb dX4_findValues_67 rfl (lv_at hl 4 rfl) ?_
              refine lv_iload hx hb dX4_findValues_68 (lv_at hl 0 rfl) ?_
              refine o_VF (As := [.int (nI o)]) (rest := [.int (nI j), .ref (r 3)]) ⟨hx, hb, hml, hown, hts⟩ (kX4_orderValue l G cy hW hF (hi2.1) hR hP o (by omega)) (cwV 1 hts gX4_findValues_X4_orderValue rfl rfl rfl (by decide +kernel) ⟨Nat.le_of_ble_eq_true rfl, Nat.le_of_ble_eq_true rfl⟩) hK (va_recv hK hP (ci := 3) (q0 := 0) rfl rfl) rfl hl.1 rfl (Nat.le_of_ble_eq_true rfl) dX4_findValues_70 ⟨Nat.zero_le _, Nat.zero_le _⟩ ?_
              refine o_fast hx hb hK hP hD hS 3 1 rfl rfl j (by omega) (by decide) rfl dX4_findValues_73 (fun H locs hP hD hS => ?_)
              have hP : va_P G vwCl (wRe cy r (q 0) ru (va_up k2 j true) (va_up v2 j (oVal M v2 o)) ++ wDo cy q M) H := hP
              have hD : va_D A (wRe cy r (q 0) ru (va_up k2 j true) (va_up v2 j (oVal M v2 o)) ++ wDo cy q M) := hD
              refine lv_iconst (v := nI 1) hx hb dX4_findValues_74 (by decide +kernel) ?_
              refine lv_istore_n (lv' := [(1, .int (nI 1)), (4, .int (nI o)), (3, .int (nI j)), (2, .int (nI rd)), (0, .ref (r 0))]) hx hb dX4_findValues_75 rfl hl (by decide) rfl (fun ls hl => ?_)
              refine lv_iinc (v := nI (j + 1)) (lv' := [(3, .int (nI (j + 1))), (1, .int (nI 1)), (4, .int (nI o)), (2, .int (nI rd)), (0, .ref (r 0))]) hx hb dX4_findValues_76 hl (k := 2) rfl (nI_1 j) (by decide) rfl (fun ls hl => ?_)
              refine lv_goto (tgt := 18) hx hb dX4_findValues_79 (by decide) ?_
              refine ih18 (j + 1, true, va_up k2 j true, va_up v2 j (oVal M v2 o)) ls H locs ?_ ?_ ?_
              · exact ⟨by omega, hI5.1, fun _ => by rw [hI5.2]; cases g2; (have := (hi4 rfl).1; omega); (have := hi3 rfl; omega), fun z => (by cases z), hP, hD, hS⟩
              · show lv_has ls 5 [(3, .int (nI (j + 1))), (1, .int (bI (true = true))), (2, .int (nI rd)), (0, .ref (r 0))]
                exact lv_sub hl [0, 1, 3, 4] rfl
              · show 16 - (j + 1) < 16 - j; omega

set_option maxRecDepth 100000 in
theorem iX4_settle_X4 : ∀ w ∈ u_ws RX4 TX4 4, w ∈ wsX4_settle := by decide +kernel
set_option maxHeartbeats 4000000 in
set_option maxRecDepth 100000 in
theorem kX4_settle (l : Launch) (G : va_G) (cy : Nat → ClassId) {H0 : Heap} {q r : Nat → Nat} {M : MT} {ru : Nat → Option Nat} {kn : Nat → Bool} {va : Nat → UInt32} {A0 : Nat → Prop} (hW : WB M) (hF : WF M) (hP : va_P G vwCl (wRe cy r (q 0) ru kn va ++ wDo cy q M) H0) (hD0 : va_D A0 (wRe cy r (q 0) ru kn va ++ wDo cy q M)) : MutV l yX4_settle wsX4_settle 3 69 [.ref (r 0), .int ((-5))] H0 G cy (wRe cy r (q 0) ru kn va ++ wDo cy q M) (wRe cy r (q 0) (rl M) (kF M) (vF M) ++ wDo cy q M) := by
  refine Met.ofW (cc := cX4_settle) (maxL := 3) (ret := none) (by decide) rfl ?_
  intro p e s m args below meth c s₁ B hml hv
  obtain ⟨rfl, hH, hK⟩ := hv
  subst hH
  have hx := B.exec
  have hb := B.bytes
  have hr := B.returns
  have hts := atoms_spec (ws := wsX4_settle) B.pre
  have hown : s.vm.findClass RX4 = some m.cls := findClass_of_methodNamed B.named
  have hlocks := B.notSynchronized
  have hl := lv_entry ([.ref (r 0), .int ((-5))]) (n := 3) (Nat.le_of_ble_eq_true rfl)
  rw [lg_entry_eq]
  generalize (lg_sl ([.ref (r 0), .int ((-5))]) ++ List.replicate (3 - (lg_sl ([.ref (r 0), .int ((-5))])).length) Slot.unset).toArray = ls at hl ⊢
  have hl : lv_has ls 3 [(0, .ref (r 0)), (1, .int ((-5)))] := hl
  obtain ⟨bP, bN, bR, bO, bW, bL, bF⟩ := id hW
  have hD := hD0.self (sz := s.heap.size)
  generalize hAe : va_A (wRe cy r (q 0) ru kn va ++ wDo cy q M) s.heap.size = A at hD ⊢
  have hA : ∀ q : Nat, s.heap.size ≤ q → A q := fun q h => by rw [← hAe]; exact Or.inr h
  have hS : va_S A s.heap s.heap [] := va_S.rf
  refine lv_iconst (v := nI 0) hx hb dX4_settle_0 (by decide +kernel) ?_
  refine lv_istore_n (lv' := [(2, .int (nI 0)), (0, .ref (r 0)), (1, .int ((-5)))]) hx hb dX4_settle_1 rfl hl (by decide) rfl (fun ls hl => ?_)
  refine o_loopM (σ := Nat × (Nat → Option Nat) × (Nat → Bool) × (Nat → UInt32)) (fun (x_ : Nat × (Nat → Option Nat) × (Nat → Bool) × (Nat → UInt32)) (H : Heap) (locs : List Loc) => match x_ with | (i, u1, k1, v1) => i ≤ 16 ∧ (∀ w, w < i → u1 w = none ∧ k1 w = false ∧ v1 w = 0) ∧ va_P G vwCl (wRe cy r (q 0) u1 k1 v1 ++ wDo cy q M) H ∧ va_D A (wRe cy r (q 0) u1 k1 v1 ++ wDo cy q M) ∧ va_S A s.heap H locs) (fun (x_ : Nat × (Nat → Option Nat) × (Nat → Bool) × (Nat → UInt32)) => match x_ with | (i, u1, k1, v1) => [(2, .int (nI i)), (0, .ref (r 0)), (1, .int ((-5)))]) (fun (x_ : Nat × (Nat → Option Nat) × (Nat → Bool) × (Nat → UInt32)) => match x_ with | (i, u1, k1, v1) => 16 - i) (0, ru, kn, va) ⟨Nat.zero_le _, fun w h => absurd h (Nat.not_lt_zero w), hP, hD, hS⟩ (lv_sub hl [0, 1, 2] rfl) ?_
  rintro ⟨i, u1, k1, v1⟩ ls H locs ⟨h1, h2, hP, hD, hS⟩ hl ih2
  have hl : lv_has ls 3 [(2, .int (nI i)), (0, .ref (r 0)), (1, .int ((-5)))] := hl
  refine lv_iload_n hx hb dX4_settle_2 rfl (lv_at hl 0 rfl) ?_
  refine lv_bipush (v := nI 16) hx hb dX4_settle_3 (by decide +kernel) ?_
  refine o_icmp_ge (tgt := 36) hx hb dX4_settle_5 (by decide) (by omega) (by omega) (fun c5 => ?_) (fun c5 => ?_)
  · obtain rfl : i = 16 := by omega
    have hP : va_P G vwCl (wRe cy r (q 0) (fun _ => none) (fun _ => false) (fun _ => 0) ++ wDo cy q M) H := o_reck hP (fun w hw => (h2 w hw).1) (fun w hw => (h2 w hw).2.1) (fun w hw => (h2 w hw).2.2)
    have hD : va_D A (wRe cy r (q 0) (fun _ => none) (fun _ => false) (fun _ => 0) ++ wDo cy q M) := vd_same hD rfl
    refine lv_aload_n hx hb dX4_settle_36 rfl (lv_at hl 1 rfl) ?_
    refine lv_iload_n hx hb dX4_settle_37 rfl (lv_at hl 2 rfl) ?_
    have hPc := hP.sub (ws' := wRe cy r (q 0) (fun _ => none) (fun _ => false) (fun _ => 0) ++ wDo cy q M) [0, 1, 2, 3, 4, 5, 6, 7, 8, 9, 10, 11, 12] rfl
    have hDc := hD.sub (ws' := wRe cy r (q 0) (fun _ => none) (fun _ => false) (fun _ => 0) ++ wDo cy q M) [0, 1, 2, 3, 4, 5, 6, 7, 8, 9, 10, 11, 12] (by decide) rfl
    have hFc := va_free (wc := wRe cy r (q 0) (fun _ => none) (fun _ => false) (fun _ => 0) ++ wDo cy q M) hD hS hA [0, 1, 2, 3, 4, 5, 6, 7, 8, 9, 10, 11, 12] rfl
    refine va_callv (va_runV (As := [.int ((-5))]) (rest := []) ⟨hx, hb, hml, hown, hts⟩ (kX4_findRulers (ru := fun _ => none) l G cy hW hPc hDc) (cwV 1 hts gX4_settle_X4_findRulers rfl rfl rfl (by decide +kernel) ⟨Nat.le_of_ble_eq_true rfl, Nat.le_of_ble_eq_true rfl⟩) ⟨pR_blind, va_recv hK hP (ci := 3) (q0 := 0) rfl rfl, pR_at hK⟩ rfl rfl hl.1 rfl (lv_room (Nat.le_of_ble_eq_true rfl)) dX4_settle_38 ⟨Nat.zero_le _, Nat.zero_le _⟩) hS (fun q _ h => hFc q h) hFc (fun u t H locs ht hvm hw hB hz1 hk1 hS => ?_)
    rw [ht] at hB
    have hP : va_P G vwCl (wRe cy r (q 0) (rl M) (fun _ => false) (fun _ => 0) ++ wDo cy q M) H := (o_join hP hD [0, 1, 2, 3, 4, 5, 6, 7, 8, 9, 10, 11, 12] [] rfl (wr := []) rfl (by decide) (by decide) (by decide) hk1 hFc hB rfl).sub [0, 1, 2, 3, 4, 5, 6, 7, 8, 9, 10, 11, 12] rfl
    have hD : va_D A (wRe cy r (q 0) (rl M) (fun _ => false) (fun _ => 0) ++ wDo cy q M) := vd_same hD rfl
    refine lv_aload_n hx hb dX4_settle_41 rfl (lv_at hl 1 rfl) ?_
    have hPc := hP.sub (ws' := wRe cy r (q 0) (rl M) (fun _ => false) (fun _ => 0) ++ wDo cy q M) [0, 1, 2, 3, 4, 5, 6, 7, 8, 9, 10, 11, 12] rfl
    have hDc := hD.sub (ws' := wRe cy r (q 0) (rl M) (fun _ => false) (fun _ => 0) ++ wDo cy q M) [0, 1, 2, 3, 4, 5, 6, 7, 8, 9, 10, 11, 12] (by decide) rfl
    have hFc := va_free (wc := wRe cy r (q 0) (rl M) (fun _ => false) (fun _ => 0) ++ wDo cy q M) hD hS hA [0, 1, 2, 3, 4, 5, 6, 7, 8, 9, 10, 11, 12] rfl
    refine va_callv (va_runV (As := []) (rest := []) ⟨hx, hb, hml, hown, hts⟩ (kX4_findValues (kn := fun _ => false) (va := fun _ => 0) l G cy hW hF rl_lt hPc hDc) (cwV 0 hts gX4_settle_X4_findValues rfl rfl rfl (by decide +kernel) ⟨Nat.le_of_ble_eq_true rfl, Nat.le_of_ble_eq_true rfl⟩) ⟨pR_blind, va_recv hK hP (ci := 3) (q0 := 0) rfl rfl, pR_at hK⟩ rfl rfl hl.1 rfl (lv_room (Nat.le_of_ble_eq_true rfl)) dX4_settle_42 ⟨Nat.zero_le _, Nat.zero_le _⟩) hS (fun q _ h => hFc q h) hFc (fun u t H locs ht hvm hw hB hz1 hk1 hS => ?_)
    rw [ht] at hB
    have hP : va_P G vwCl (wRe cy r (q 0) (rl M) (kF M) (vF M) ++ wDo cy q M) H := (o_join hP hD [0, 1, 2, 3, 4, 5, 6, 7, 8, 9, 10, 11, 12] [] rfl (wr := []) rfl (by decide) (by decide) (by decide) hk1 hFc hB rfl).sub [0, 1, 2, 3, 4, 5, 6, 7, 8, 9, 10, 11, 12] rfl
    have hD : va_D A (wRe cy r (q 0) (rl M) (kF M) (vF M) ++ wDo cy q M) := vd_same hD rfl
    exact o_endVm hx hb hr hlocks dX4_settle_45 hP hS
  · refine lv_aload_n hx hb dX4_settle_8 rfl (lv_at hl 1 rfl) ?_
    refine va_get (D := G) (ci := 3) (v := .ref (r 1)) (C := RX4) (T := TX4) (N := 4) hx hb hts iX4_settle_X4 hown hK hP 0 rfl rfl 1 (by decide) (hts (.fieldLink RX4 9 "NailedOrders$Reckoning" "rulers" "[I") (by decide +kernel)) (fun _ h9 => h9) rfl dX4_settle_9 ?_
    refine lv_iload_n hx hb dX4_settle_12 rfl (lv_at hl 0 rfl) ?_
    refine lv_bipush (v := (-5)) hx hb dX4_settle_13 (by decide +kernel) ?_
    refine o_iast hx hb hK hP hD hS 1 0 rfl rfl i (by omega) (by decide) (upd_lk u1 i none) dX4_settle_15 (fun H locs hP hD hS => ?_)
    have hP : va_P G vwCl (wRe cy r (q 0) (va_up u1 i none) k1 v1 ++ wDo cy q M) H := hP
    have hD : va_D A (wRe cy r (q 0) (va_up u1 i none) k1 v1 ++ wDo cy q M) := hD
    refine lv_aload_n hx hb dX4_settle_16 rfl (lv_at hl 1 rfl) ?_
    refine va_get (D := G) (ci := 3) (v := .ref (r 2)) (C := RX4) (T := TX4) (N := 4) hx hb hts iX4_settle_X4 hown hK hP 0 rfl rfl 2 (by decide) (hts (.fieldLink RX4 15 "NailedOrders$Reckoning" "known" "[Z") (by decide +kernel)) (fun _ h9 => h9) rfl dX4_settle_17 ?_
    refine lv_iload_n hx hb dX4_settle_20 rfl (lv_at hl 0 rfl) ?_
    refine lv_iconst (v := nI 0) hx hb dX4_settle_21 (by decide +kernel) ?_
    refine o_zast hx hb hK hP hD hS 2 2 rfl rfl i (by omega) (by decide) (upd_bI k1 i false) dX4_settle_22 (fun H locs hP hD hS => ?_)
    have hP : va_P G vwCl (wRe cy r (q 0) (va_up u1 i none) (va_up k1 i false) v1 ++ wDo cy q M) H := hP
    have hD : va_D A (wRe cy r (q 0) (va_up u1 i none) (va_up k1 i false) v1 ++ wDo cy q M) := hD
    refine lv_aload_n hx hb dX4_settle_23 rfl (lv_at hl 1 rfl) ?_
    refine va_get (D := G) (ci := 3) (v := .ref (r 3)) (C := RX4) (T := TX4) (N := 4) hx hb hts iX4_settle_X4 hown hK hP 0 rfl rfl 3 (by decide) (hts (.fieldLink RX4 19 "NailedOrders$Reckoning" "values" "[F") (by decide +kernel)) (fun _ h9 => h9) rfl dX4_settle_24 ?_
    refine lv_iload_n hx hb dX4_settle_27 rfl (lv_at hl 0 rfl) ?_
    refine lv_fconst0 hx hb dX4_settle_28 ?_
    refine o_fast hx hb hK hP hD hS 3 1 rfl rfl i (by omega) (by decide) rfl dX4_settle_29 (fun H locs hP hD hS => ?_)
    have hP : va_P G vwCl (wRe cy r (q 0) (va_up u1 i none) (va_up k1 i false) (va_up v1 i FP.fconst0) ++ wDo cy q M) H := hP
    have hD : va_D A (wRe cy r (q 0) (va_up u1 i none) (va_up k1 i false) (va_up v1 i FP.fconst0) ++ wDo cy q M) := hD
    refine lv_iinc (v := nI (i + 1)) (lv' := [(2, .int (nI (i + 1))), (0, .ref (r 0)), (1, .int ((-5)))]) hx hb dX4_settle_30 hl (k := 0) rfl (nI_1 i) (by decide) rfl (fun ls hl => ?_)
    refine lv_goto (tgt := 2) hx hb dX4_settle_33 (by decide) ?_
    refine ih2 (i + 1, va_up u1 i none, va_up k1 i false, va_up v1 i FP.fconst0) ls H locs ?_ ?_ ?_
    · exact ⟨by omega, lt_s (fun w hw => by unfold va_up; rw [if_neg (by omega), if_neg (by omega), if_neg (by omega)]; exact h2 w hw) (by unfold va_up; rw [if_pos rfl, if_pos rfl, if_pos rfl]; exact ⟨rfl, rfl, rfl⟩), hP, hD, hS⟩
    · show lv_has ls 3 [(2, .int (nI (i + 1))), (0, .ref (r 0)), (1, .int ((-5)))]
      exact lv_sub hl [0, 1, 2] rfl
    · show 16 - (i + 1) < 16 - i; omega
