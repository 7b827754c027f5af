set_option maxRecDepth 100000 in
theorem iX2_dropOldest_X2 : ∀ w ∈ u_ws RX2 TX2 2, w ∈ wsX2_dropOldest := by decide +kernel
set_option maxHeartbeats 4000000 in
set_option maxRecDepth 100000 in
theorem kX2_dropOldest (l : Launch) (G : va_G) (cy : Nat → ClassId) {H0 : Heap} {h : Nat → Nat} {d : Nat → Nat → Nat} {E : Nat → MT} {A0 : Nat → Prop} (hP : va_P G vwCl (wHi cy h 4 d E) H0) (hD0 : va_D A0 (wHi cy h 4 d E)) : MutH l yX2_dropOldest wsX2_dropOldest 0 0 [.ref (h 0)] H0 G cy (fun k => k = 3) h (wHi cy h 4 d E) ([]) := by
  refine Met.ofW (cc := cX2_dropOldest) (maxL := 3) (ret := none) (by decide) rfl ?_
  intro p e s m args below meth c s₁ B hml hv
  obtain ⟨rfl, hH, hK⟩ := hv
  subst hH
  have hx := B.exec
  have hb := B.bytes
  have hr := B.returns
  have hts := atoms_spec (ws := wsX2_dropOldest) B.pre
  have hown : s.vm.findClass RX2 = some m.cls := findClass_of_methodNamed B.named
  have hlocks := B.notSynchronized
  have hl := lv_entry ([.ref (h 0)]) (n := 3) (Nat.le_of_ble_eq_true rfl)
  rw [lg_entry_eq]
  generalize (lg_sl ([.ref (h 0)]) ++ List.replicate (3 - (lg_sl ([.ref (h 0)])).length) Slot.unset).toArray = ls at hl ⊢
  have hl : lv_has ls 3 [(0, .ref (h 0))] := hl
  have hD := hD0.self (sz := s.heap.size)
  generalize hAe : va_A (wHi cy h 4 d E) s.heap.size = A at hD ⊢
  have hA : ∀ q : Nat, s.heap.size ≤ q → A q := fun q h => by rw [← hAe]; exact Or.inr h
  have hS : va_S A s.heap s.heap [] := va_S.rf
  refine lv_aload_n hx hb dX2_dropOldest_0 rfl (lv_at hl 0 rfl) ?_
  refine va_get (D := G) (ci := 1) (v := .ref (h 1)) (C := RX2) (T := TX2) (N := 2) hx hb hts iX2_dropOldest_X2 hown hK hP 0 rfl rfl 0 (by decide) (hts (.fieldLink RX2 11 "NailedOrders$History" "doors" "[LNailedOrders$Door;") (by decide +kernel)) (fun _ h9 => h9) rfl dX2_dropOldest_1 ?_
  refine lv_iconst (v := nI 0) hx hb dX2_dropOldest_4 (by decide +kernel) ?_
  refine o_aldq hx hb hK hP 1 4 rfl rfl 0 (by decide) (by decide) (v := .ref ((d 0) 0)) rfl dX2_dropOldest_5 ?_
  refine lv_astore_n (lv' := [(1, .ref ((d 0) 0)), (0, .ref (h 0))]) hx hb dX2_dropOldest_6 rfl hl (by decide) rfl (fun ls hl => ?_)
  refine lv_iconst (v := nI 1) hx hb dX2_dropOldest_7 (by decide +kernel) ?_
  refine lv_istore_n (lv' := [(2, .int (nI 1)), (1, .ref ((d 0) 0)), (0, .ref (h 0))]) hx hb dX2_dropOldest_8 rfl hl (by decide) rfl (fun ls hl => ?_)
  refine lv_iload_n hx hb dX2_dropOldest_9 rfl (lv_at hl 0 rfl) ?_
  refine lv_iconst (v := nI 4) hx hb dX2_dropOldest_10 (by decide +kernel) ?_
  refine o_icmp_ge (tgt := 34) hx hb dX2_dropOldest_11 (by decide) (by omega) (by omega) (fun c11 => ?_) (fun c11 => ?_)
  · exact absurd c11 (by decide)
  · refine lv_aload_n hx hb dX2_dropOldest_14 rfl (lv_at hl 2 rfl) ?_
    refine va_get (D := G) (ci := 1) (v := .ref (h 1)) (C := RX2) (T := TX2) (N := 2) hx hb hts iX2_dropOldest_X2 hown hK hP 0 rfl rfl 0 (by decide) (hts (.fieldLink RX2 11 "NailedOrders$History" "doors" "[LNailedOrders$Door;") (by decide +kernel)) (fun _ h9 => h9) rfl dX2_dropOldest_15 ?_
    refine lv_iload_n hx hb dX2_dropOldest_18 rfl (lv_at hl 0 rfl) ?_
    refine lv_iconst (v := nI 1) hx hb dX2_dropOldest_19 (by decide +kernel) ?_
    refine lv_isub hx hb dX2_dropOldest_20 ?_
    rw [pk_sub (a := 1) (b := 1) (by decide)]
    refine lv_aload_n hx hb dX2_dropOldest_21 rfl (lv_at hl 2 rfl) ?_
    refine va_get (D := G) (ci := 1) (v := .ref (h 1)) (C := RX2) (T := TX2) (N := 2) hx hb hts iX2_dropOldest_X2 hown hK hP 0 rfl rfl 0 (by decide) (hts (.fieldLink RX2 11 "NailedOrders$History" "doors" "[LNailedOrders$Door;") (by decide +kernel)) (fun _ h9 => h9) rfl dX2_dropOldest_22 ?_
    refine lv_iload_n hx hb dX2_dropOldest_25 rfl (lv_at hl 0 rfl) ?_
    refine o_aldq hx hb hK hP 1 4 rfl rfl 1 (by decide) (by decide) (v := .ref ((d 1) 0)) rfl dX2_dropOldest_26 ?_
    refine o_astq hx hb hK hP hD hS 1 4 11 0 rfl rfl rfl rfl (1 - 1) (by decide) (by decide) dX2_dropOldest_27 (fun H locs hP hD hS => ?_)
    have hP : va_P G vwCl ([(h 0, .inr (1, [.ref (h 1), .int (nI 4)])), (h 1, eR cy 4 (va_up (fun i => some (d i 0)) (1 - 1) (some ((d 1) 0))))] ++ wDo cy (d 0) (E 0) ++ wDo cy (d 1) (E 1) ++ wDo cy (d 2) (E 2) ++ wDo cy (d 3) (E 3)) H := hP
    have hD : va_D A ([(h 0, .inr (1, [.ref (h 1), .int (nI 4)])), (h 1, eR cy 4 (va_up (fun i => some (d i 0)) (1 - 1) (some ((d 1) 0))))] ++ wDo cy (d 0) (E 0) ++ wDo cy (d 1) (E 1) ++ wDo cy (d 2) (E 2) ++ wDo cy (d 3) (E 3)) := hD
    refine lv_iinc (v := nI (1 + 1)) (lv' := [(2, .int (nI (1 + 1))), (1, .ref ((d 0) 0)), (0, .ref (h 0))]) hx hb dX2_dropOldest_28 hl (k := 0) rfl (nI_1 1) (by decide) rfl (fun ls hl => ?_)
    refine lv_goto (tgt := 9) hx hb dX2_dropOldest_31 (by decide) ?_
    refine lv_iload_n hx hb dX2_dropOldest_9 rfl (lv_at hl 0 rfl) ?_
    refine lv_iconst (v := nI 4) hx hb dX2_dropOldest_10 (by decide +kernel) ?_
    refine o_icmp_ge (tgt := 34) hx hb dX2_dropOldest_11 (by decide) (by omega) (by omega) (fun c11 => ?_) (fun c11 => ?_)
    · exact absurd c11 (by decide)
    · refine lv_aload_n hx hb dX2_dropOldest_14 rfl (lv_at hl 2 rfl) ?_
      refine va_get (D := G) (ci := 1) (v := .ref (h 1)) (C := RX2) (T := TX2) (N := 2) hx hb hts iX2_dropOldest_X2 hown hK hP 0 rfl rfl 0 (by decide) (hts (.fieldLink RX2 11 "NailedOrders$History" "doors" "[LNailedOrders$Door;") (by decide +kernel)) (fun _ h9 => h9) rfl dX2_dropOldest_15 ?_
      refine lv_iload_n hx hb dX2_dropOldest_18 rfl (lv_at hl 0 rfl) ?_
      refine lv_iconst (v := nI 1) hx hb dX2_dropOldest_19 (by decide +kernel) ?_
      refine lv_isub hx hb dX2_dropOldest_20 ?_
      rw [pk_sub (a := 1 + 1) (b := 1) (by decide)]
      refine lv_aload_n hx hb dX2_dropOldest_21 rfl (lv_at hl 2 rfl) ?_
      refine va_get (D := G) (ci := 1) (v := .ref (h 1)) (C := RX2) (T := TX2) (N := 2) hx hb hts iX2_dropOldest_X2 hown hK hP 0 rfl rfl 0 (by decide) (hts (.fieldLink RX2 11 "NailedOrders$History" "doors" "[LNailedOrders$Door;") (by decide +kernel)) (fun _ h9 => h9) rfl dX2_dropOldest_22 ?_
      refine lv_iload_n hx hb dX2_dropOldest_25 rfl (lv_at hl 0 rfl) ?_
      refine o_aldq hx hb hK hP 1 4 rfl rfl (1 + 1) (by decide) (by decide) (v := .ref ((d 2) 0)) rfl dX2_dropOldest_26 ?_
      refine o_astq hx hb hK hP hD hS 1 4 20 0 rfl rfl rfl rfl ((1 + 1) - 1) (by decide) (by decide) dX2_dropOldest_27 (fun H locs hP hD hS => ?_)
      have hP : va_P G vwCl ([(h 0, .inr (1, [.ref (h 1), .int (nI 4)])), (h 1, eR cy 4 (va_up (va_up (fun i => some (d i 0)) (1 - 1) (some ((d 1) 0))) ((1 + 1) - 1) (some ((d 2) 0))))] ++ wDo cy (d 0) (E 0) ++ wDo cy (d 1) (E 1) ++ wDo cy (d 2) (E 2) ++ wDo cy (d 3) (E 3)) H := hP
      have hD : va_D A ([(h 0, .inr (1, [.ref (h 1), .int (nI 4)])), (h 1, eR cy 4 (va_up (va_up (fun i => some (d i 0)) (1 - 1) (some ((d 1) 0))) ((1 + 1) - 1) (some ((d 2) 0))))] ++ wDo cy (d 0) (E 0) ++ wDo cy (d 1) (E 1) ++ wDo cy (d 2) (E 2) ++ wDo cy (d 3) (E 3)) := hD
      refine lv_iinc (v := nI (1 + 1 + 1)) (lv' := [(2, .int (nI (1 + 1 + 1))), (1, .ref ((d 0) 0)), (0, .ref (h 0))]) hx hb dX2_dropOldest_28 hl (k := 0) rfl (nI_1 (1 + 1)) (by decide) rfl (fun ls hl => ?_)
      refine lv_goto (tgt := 9) hx hb dX2_dropOldest_31 (by decide) ?_
      refine lv_iload_n hx hb dX2_dropOldest_9 rfl (lv_at hl 0 rfl) ?_
      refine lv_iconst (v := nI 4) hx hb dX2_dropOldest_10 (by decide +kernel) ?_
      refine o_icmp_ge (tgt := 34) hx hb dX2_dropOldest_11 (by decide) (by omega) (by omega) (fun c11 => ?_) (fun c11 => ?_)
      · exact absurd c11 (by decide)
      · refine lv_aload_n hx hb dX2_dropOldest_14 rfl (lv_at hl 2 rfl) ?_
        refine va_get (D := G) (ci := 1) (v := .ref (h 1)) (C := RX2) (T := TX2) (N := 2) hx hb hts iX2_dropOldest_X2 hown hK hP 0 rfl rfl 0 (by decide) (hts (.fieldLink RX2 11 "NailedOrders$History" "doors" "[LNailedOrders$Door;") (by decide +kernel)) (fun _ h9 => h9) rfl dX2_dropOldest_15 ?_
        refine lv_iload_n hx hb dX2_dropOldest_18 rfl (lv_at hl 0 rfl) ?_
        refine lv_iconst (v := nI 1) hx hb dX2_dropOldest_19 (by decide +kernel) ?_
        refine lv_isub hx hb dX2_dropOldest_20 ?_
        rw [pk_sub (a := 1 + 1 + 1) (b := 1) (by decide)]
        refine lv_aload_n hx hb dX2_dropOldest_21 rfl (lv_at hl 2 rfl) ?_
        refine va_get (D := G) (ci := 1) (v := .ref (h 1)) (C := RX2) (T := TX2) (N := 2) hx hb hts iX2_dropOldest_X2 hown hK hP 0 rfl rfl 0 (by decide) (hts (.fieldLink RX2 11 "NailedOrders$History" "doors" "[LNailedOrders$Door;") (by decide +kernel)) (fun _ h9 => h9) rfl dX2_dropOldest_22 ?_
        refine lv_iload_n hx hb dX2_dropOldest_25 rfl (lv_at hl 0 rfl) ?_
        refine o_aldq hx hb hK hP 1 4 rfl rfl (1 + 1 + 1) (by decide) (by decide) (v := .ref ((d 3) 0)) rfl dX2_dropOldest_26 ?_
        refine o_astq hx hb hK hP hD hS 1 4 29 0 rfl rfl rfl rfl ((1 + 1 + 1) - 1) (by decide) (by decide) dX2_dropOldest_27 (fun H locs hP hD hS => ?_)
        have hP : va_P G vwCl ([(h 0, .inr (1, [.ref (h 1), .int (nI 4)])), (h 1, eR cy 4 (va_up (va_up (va_up (fun i => some (d i 0)) (1 - 1) (some ((d 1) 0))) ((1 + 1) - 1) (some ((d 2) 0))) ((1 + 1 + 1) - 1) (some ((d 3) 0))))] ++ wDo cy (d 0) (E 0) ++ wDo cy (d 1) (E 1) ++ wDo cy (d 2) (E 2) ++ wDo cy (d 3) (E 3)) H := hP
        have hD : va_D A ([(h 0, .inr (1, [.ref (h 1), .int (nI 4)])), (h 1, eR cy 4 (va_up (va_up (va_up (fun i => some (d i 0)) (1 - 1) (some ((d 1) 0))) ((1 + 1) - 1) (some ((d 2) 0))) ((1 + 1 + 1) - 1) (some ((d 3) 0))))] ++ wDo cy (d 0) (E 0) ++ wDo cy (d 1) (E 1) ++ wDo cy (d 2) (E 2) ++ wDo cy (d 3) (E 3)) := hD
        refine lv_iinc (v := nI (1 + 1 + 1 + 1)) (lv' := [(2, .int (nI (1 + 1 + 1 + 1))), (1, .ref ((d 0) 0)), (0, .ref (h 0))]) hx hb dX2_dropOldest_28 hl (k := 0) rfl (nI_1 (1 + 1 + 1)) (by decide) rfl (fun ls hl => ?_)
        refine lv_goto (tgt := 9) hx hb dX2_dropOldest_31 (by decide) ?_
        refine lv_iload_n hx hb dX2_dropOldest_9 rfl (lv_at hl 0 rfl) ?_
        refine lv_iconst (v := nI 4) hx hb dX2_dropOldest_10 (by decide +kernel) ?_
        refine o_icmp_ge (tgt := 34) hx hb dX2_dropOldest_11 (by decide) (by omega) (by omega) (fun c11 => ?_) (fun c11 => ?_)
        · refine lv_aload_n hx hb dX2_dropOldest_34 rfl (lv_at hl 2 rfl) ?_
          refine va_get (D := G) (ci := 1) (v := .ref (h 1)) (C := RX2) (T := TX2) (N := 2) hx hb hts iX2_dropOldest_X2 hown hK hP 0 rfl rfl 0 (by decide) (hts (.fieldLink RX2 11 "NailedOrders$History" "doors" "[LNailedOrders$Door;") (by decide +kernel)) (fun _ h9 => h9) rfl dX2_dropOldest_35 ?_
          refine lv_iconst (v := nI 3) hx hb dX2_dropOldest_38 (by decide +kernel) ?_
          refine lv_aload_n hx hb dX2_dropOldest_39 rfl (lv_at hl 1 rfl) ?_
          refine o_astq hx hb hK hP hD hS 1 4 2 0 rfl rfl rfl rfl 3 (by decide) (by decide) dX2_dropOldest_40 (fun H locs hP hD hS => ?_)
          have hP : va_P G vwCl ([(h 0, .inr (1, [.ref (h 1), .int (nI 4)])), (h 1, eR cy 4 (va_up (va_up (va_up (va_up (fun i => some (d i 0)) (1 - 1) (some ((d 1) 0))) ((1 + 1) - 1) (some ((d 2) 0))) ((1 + 1 + 1) - 1) (some ((d 3) 0))) 3 (some ((d 0) 0))))] ++ wDo cy (d 0) (E 0) ++ wDo cy (d 1) (E 1) ++ wDo cy (d 2) (E 2) ++ wDo cy (d 3) (E 3)) H := hP
          have hD : va_D A ([(h 0, .inr (1, [.ref (h 1), .int (nI 4)])), (h 1, eR cy 4 (va_up (va_up (va_up (va_up (fun i => some (d i 0)) (1 - 1) (some ((d 1) 0))) ((1 + 1) - 1) (some ((d 2) 0))) ((1 + 1 + 1) - 1) (some ((d 3) 0))) 3 (some ((d 0) 0))))] ++ wDo cy (d 0) (E 0) ++ wDo cy (d 1) (E 1) ++ wDo cy (d 2) (E 2) ++ wDo cy (d 3) (E 3)) := hD
          refine lv_aload_n hx hb dX2_dropOldest_41 rfl (lv_at hl 2 rfl) ?_
          refine lv_dup hx hb dX2_dropOldest_42 rfl ?_
          refine va_get (D := G) (ci := 1) (v := .int (nI 4)) (C := RX2) (T := TX2) (N := 2) hx hb hts iX2_dropOldest_X2 hown hK hP 0 rfl rfl 1 (by decide) (hts (.fieldLink RX2 18 "NailedOrders$History" "states" "I") (by decide +kernel)) (fun _ h9 => h9) rfl dX2_dropOldest_43 ?_
          refine lv_iconst (v := nI 1) hx hb dX2_dropOldest_46 (by decide +kernel) ?_
          refine lv_isub hx hb dX2_dropOldest_47 ?_
          rw [pk_sub (a := 4) (b := 1) (by decide)]
          refine va_put (D := G) (ci := 1) (v := .int (nI (4 - 1))) (ty := .int) (C := RX2) (T := TX2) (N := 2) hx hb hts iX2_dropOldest_X2 tyX2 tyX2_ok nmX2 hown hK hP hD hS 0 rfl rfl 1 (by decide) (hts (.fieldLink RX2 18 "NailedOrders$History" "states" "I") (by decide +kernel)) (fun _ h9 => h9) rfl (by decide +kernel) rfl rfl (Nat.le_of_ble_eq_true rfl) dX2_dropOldest_48 (fun H locs hP hD hS => ?_)
          have hP : va_P G vwCl ([(h 0, .inr (1, [.ref (h 1), .int (nI (4 - 1))])), (h 1, eR cy 4 (va_up (va_up (va_up (va_up (fun i => some (d i 0)) (1 - 1) (some ((d 1) 0))) ((1 + 1) - 1) (some ((d 2) 0))) ((1 + 1 + 1) - 1) (some ((d 3) 0))) 3 (some ((d 0) 0))))] ++ wDo cy (d 0) (E 0) ++ wDo cy (d 1) (E 1) ++ wDo cy (d 2) (E 2) ++ wDo cy (d 3) (E 3)) H := hP
          have hD : va_D A ([(h 0, .inr (1, [.ref (h 1), .int (nI (4 - 1))])), (h 1, eR cy 4 (va_up (va_up (va_up (va_up (fun i => some (d i 0)) (1 - 1) (some ((d 1) 0))) ((1 + 1) - 1) (some ((d 2) 0))) ((1 + 1 + 1) - 1) (some ((d 3) 0))) 3 (some ((d 0) 0))))] ++ wDo cy (d 0) (E 0) ++ wDo cy (d 1) (E 1) ++ wDo cy (d 2) (E 2) ++ wDo cy (d 3) (E 3)) := hD
          have hP9 := (o_set (ws := [(h 0, .inr (1, [.ref (h 1), .int (nI (4 - 1))])), (h 1, eR cy 4 (va_up (va_up (va_up (va_up (fun i => some (d i 0)) (1 - 1) (some ((d 1) 0))) ((1 + 1) - 1) (some ((d 2) 0))) ((1 + 1 + 1) - 1) (some ((d 3) 0))) 3 (some ((d 0) 0))))] ++ wDo cy (d 0) (E 0) ++ wDo cy (d 1) (E 1) ++ wDo cy (d 2) (E 2) ++ wDo cy (d 3) (E 3)) (p := 1) (x := (h 1, eR cy 4 (va_up (va_up (va_up (va_up (fun i => some (d i 0)) (1 - 1) (some ((d 1) 0))) ((1 + 1) - 1) (some ((d 2) 0))) ((1 + 1 + 1) - 1) (some ((d 3) 0))) 3 (some ((d 0) 0))))) (y := (h 1, eR cy 4 (fun i => some (rot d i 0)))) hP (o_cellR (fun j hj => by match j, hj with | 0, _ => rfl | 1, _ => rfl | 2, _ => rfl | 3, _ => rfl))).sub (ws' := wHi cy h 3 (rot d) (rot E)) [0, 1, 11, 12, 13, 14, 15, 16, 17, 18, 19, 20, 21, 22, 23, 24, 25, 26, 27, 28, 29, 30, 31, 32, 33, 34, 35, 36, 37, 2, 3, 4, 5, 6, 7, 8, 9, 10] rfl
          have hD9 : va_D A (wHi cy h 3 (rot d) (rot E)) := vd_same (hD.sub (ws' := [(h 0, .inr (1, [.ref (h 1), .int (nI (4 - 1))])), (h 1, eR cy 4 (va_up (va_up (va_up (va_up (fun i => some (d i 0)) (1 - 1) (some ((d 1) 0))) ((1 + 1) - 1) (some ((d 2) 0))) ((1 + 1 + 1) - 1) (some ((d 3) 0))) 3 (some ((d 0) 0))))] ++ (wDo cy (d 1) (E 1) ++ (wDo cy (d 2) (E 2) ++ (wDo cy (d 3) (E 3) ++ wDo cy (d 0) (E 0))))) [0, 1, 11, 12, 13, 14, 15, 16, 17, 18, 19, 20, 21, 22, 23, 24, 25, 26, 27, 28, 29, 30, 31, 32, 33, 34, 35, 36, 37, 2, 3, 4, 5, 6, 7, 8, 9, 10] (by decide) rfl) rfl
          exact W.vret hx hb hr (fun t ht hW => ⟨⟨(3, rot d, rot E), rfl, rfl, by show va_P G vwCl _ t.heap; rw [ht, List.append_nil]; exact hP9, by rw [List.append_nil]; exact hD9⟩, hS.F ht⟩) hS.2.2 dX2_dropOldest_51 hlocks
        · exact absurd c11 (by decide)

set_option maxRecDepth 100000 in
theorem iX2_record_X1 : ∀ w ∈ u_ws RX1 TX1 13, w ∈ wsX2_record := by decide +kernel
set_option maxRecDepth 100000 in
theorem iX2_record_X2 : ∀ w ∈ u_ws RX2 TX2 2, w ∈ wsX2_record := by decide +kernel
set_option maxHeartbeats 4000000 in
set_option maxRecDepth 100000 in
theorem kX2_record_0 (l : Launch) (G : va_G) (cy : Nat → ClassId) {H0 : Heap} {h : Nat → Nat} {d : Nat → Nat → Nat} {E : Nat → MT} {A0 : Nat → Prop} {q : Nat → Nat} {M : MT} (hP : va_P G vwCl (wHi cy h 0 d E ++ wDo cy q M) H0) (hD0 : va_D A0 (wHi cy h 0 d E ++ wDo cy q M)) : MutH l yX2_record wsX2_record 2 80 [.ref (h 0), .ref (q 0)] H0 G cy (fun k => k ≤ 4) h (wHi cy h 0 d E ++ wDo cy q M) (wDo cy q M) := by
  refine Met.ofW (cc := cX2_record) (maxL := 2) (ret := none) (by decide) rfl ?_
  intro p e s m args below meth c s₁ B hml hv
  obtain ⟨rfl, hH, hK⟩ := hv
  subst hH
  have hx := B.exec
  have hb := B.bytes
  have hr := B.returns
  have hts := atoms_spec (ws := wsX2_record) B.pre
  have hown : s.vm.findClass RX2 = some m.cls := findClass_of_methodNamed B.named
  have hlocks := B.notSynchronized
  have hl := lv_entry ([.ref (h 0), .ref (q 0)]) (n := 2) (Nat.le_of_ble_eq_true rfl)
  rw [lg_entry_eq]
  generalize (lg_sl ([.ref (h 0), .ref (q 0)]) ++ List.replicate (2 - (lg_sl ([.ref (h 0), .ref (q 0)])).length) Slot.unset).toArray = ls at hl ⊢
  have hl : lv_has ls 2 [(0, .ref (h 0)), (1, .ref (q 0))] := hl
  have hD := hD0.self (sz := s.heap.size)
  generalize hAe : va_A (wHi cy h 0 d E ++ wDo cy q M) s.heap.size = A at hD ⊢
  have hA : ∀ q : Nat, s.heap.size ≤ q → A q := fun q h => by rw [← hAe]; exact Or.inr h
  have hS : va_S A s.heap s.heap [] := va_S.rf
  refine lv_aload_n hx hb dX2_record_0 rfl (lv_at hl 0 rfl) ?_
  refine va_get (D := G) (ci := 1) (v := .int (nI 0)) (C := RX2) (T := TX2) (N := 2) hx hb hts iX2_record_X2 hown hK hP 0 rfl rfl 1 (by decide) (hts (.fieldLink RX2 18 "NailedOrders$History" "states" "I") (by decide +kernel)) (fun _ h9 => h9) rfl dX2_record_1 ?_
  refine lv_iconst (v := nI 4) hx hb dX2_record_4 (by decide +kernel) ?_
  refine o_icmp_ne (tgt := 12) hx hb dX2_record_5 (by decide) (by omega) (by omega) (fun c5 => ?_) (fun c5 => ?_)
  · refine lv_aload_n hx hb dX2_record_12 rfl (lv_at hl 0 rfl) ?_
    refine va_get (D := G) (ci := 1) (v := .ref (h 1)) (C := RX2) (T := TX2) (N := 2) hx hb hts iX2_record_X2 hown hK hP 0 rfl rfl 0 (by decide) (hts (.fieldLink RX2 11 "NailedOrders$History" "doors" "[LNailedOrders$Door;") (by decide +kernel)) (fun _ h9 => h9) rfl dX2_record_13 ?_
    refine lv_aload_n hx hb dX2_record_16 rfl (lv_at hl 0 rfl) ?_
    refine va_get (D := G) (ci := 1) (v := .int (nI 0)) (C := RX2) (T := TX2) (N := 2) hx hb hts iX2_record_X2 hown hK hP 0 rfl rfl 1 (by decide) (hts (.fieldLink RX2 18 "NailedOrders$History" "states" "I") (by decide +kernel)) (fun _ h9 => h9) rfl dX2_record_17 ?_
    refine o_aldq hx hb hK hP 1 4 rfl rfl 0 (by decide) (by decide) (v := .ref ((d 0) 0)) rfl dX2_record_20 ?_
    refine lv_aload_n hx hb dX2_record_21 rfl (lv_at hl 1 rfl) ?_
    have hPc := hP.sub (ws' := wDo cy (d 0) (E 0) ++ wDo cy q M) [2, 3, 4, 5, 6, 7, 8, 9, 10, 38, 39, 40, 41, 42, 43, 44, 45, 46] rfl
    have hDc := hD.sub (ws' := wDo cy (d 0) (E 0) ++ wDo cy q M) [2, 3, 4, 5, 6, 7, 8, 9, 10, 38, 39, 40, 41, 42, 43, 44, 45, 46] (by decide) rfl
    have hFc := va_free (wc := wDo cy (d 0) (E 0) ++ wDo cy q M) hD hS hA [2, 3, 4, 5, 6, 7, 8, 9, 10, 38, 39, 40, 41, 42, 43, 44, 45, 46] rfl
    refine va_callv (va_runV (As := [.ref (q 0)]) (rest := []) ⟨hx, hb, hml, hown, hts⟩ (kX1_become l G cy hPc hDc) (cwV 1 hts gX2_record_X1_become rfl rfl rfl (by decide +kernel) ⟨Nat.le_of_ble_eq_true rfl, Nat.le_of_ble_eq_true rfl⟩) ⟨pR_blind, va_recv hK hP (ci := 0) (q0 := 2) rfl rfl, pR_at hK⟩ rfl rfl hl.1 rfl (lv_room (Nat.le_of_ble_eq_true rfl)) dX2_record_22 ⟨Nat.zero_le _, Nat.zero_le _⟩) hS (fun q _ h => hFc q h) hFc (fun u t H locs ht hvm hw hB hz1 hk1 hS => ?_)
    rw [ht] at hB
    have hP : va_P G vwCl ([(h 0, .inr (1, [.ref (h 1), .int (nI 0)])), (h 1, eR cy 4 (fun i => some (d i 0)))] ++ wDo cy (d 0) M ++ wDo cy (d 1) (E 1) ++ wDo cy (d 2) (E 2) ++ wDo cy (d 3) (E 3) ++ wDo cy q M) H := (o_join hP hD [2, 3, 4, 5, 6, 7, 8, 9, 10, 38, 39, 40, 41, 42, 43, 44, 45, 46] [0, 1, 11, 12, 13, 14, 15, 16, 17, 18, 19, 20, 21, 22, 23, 24, 25, 26, 27, 28, 29, 30, 31, 32, 33, 34, 35, 36, 37] rfl (wr := [(h 0, .inr (1, [.ref (h 1), .int (nI 0)])), (h 1, eR cy 4 (fun i => some (d i 0)))] ++ wDo cy (d 1) (E 1) ++ wDo cy (d 2) (E 2) ++ wDo cy (d 3) (E 3)) rfl (by decide) (by decide) (by decide) hk1 hFc hB rfl).sub [0, 1, 29, 30, 31, 32, 33, 34, 35, 36, 37, 2, 3, 4, 5, 6, 7, 8, 9, 10, 11, 12, 13, 14, 15, 16, 17, 18, 19, 20, 21, 22, 23, 24, 25, 26, 27, 28, 38, 39, 40, 41, 42, 43, 44, 45, 46] rfl
    have hD : va_D A ([(h 0, .inr (1, [.ref (h 1), .int (nI 0)])), (h 1, eR cy 4 (fun i => some (d i 0)))] ++ wDo cy (d 0) M ++ wDo cy (d 1) (E 1) ++ wDo cy (d 2) (E 2) ++ wDo cy (d 3) (E 3) ++ wDo cy q M) := vd_same hD rfl
    refine lv_aload_n hx hb dX2_record_25 rfl (lv_at hl 0 rfl) ?_
    refine lv_dup hx hb dX2_record_26 rfl ?_
    refine va_get (D := G) (ci := 1) (v := .int (nI 0)) (C := RX2) (T := TX2) (N := 2) hx hb hts iX2_record_X2 hown hK hP 0 rfl rfl 1 (by decide) (hts (.fieldLink RX2 18 "NailedOrders$History" "states" "I") (by decide +kernel)) (fun _ h9 => h9) rfl dX2_record_27 ?_
    refine lv_iconst (v := nI 1) hx hb dX2_record_30 (by decide +kernel) ?_
    refine lv_iadd hx hb dX2_record_31 ?_
    rw [nI_add]
    refine va_put (D := G) (ci := 1) (v := .int (nI (0 + 1))) (ty := .int) (C := RX2) (T := TX2) (N := 2) hx hb hts iX2_record_X2 tyX2 tyX2_ok nmX2 hown hK hP hD hS 0 rfl rfl 1 (by decide) (hts (.fieldLink RX2 18 "NailedOrders$History" "states" "I") (by decide +kernel)) (fun _ h9 => h9) rfl (by decide +kernel) rfl rfl (Nat.le_of_ble_eq_true rfl) dX2_record_32 (fun H locs hP hD hS => ?_)
    have hP : va_P G vwCl ([(h 0, .inr (1, [.ref (h 1), .int (nI (0 + 1))])), (h 1, eR cy 4 (fun i => some (d i 0)))] ++ wDo cy (d 0) M ++ wDo cy (d 1) (E 1) ++ wDo cy (d 2) (E 2) ++ wDo cy (d 3) (E 3) ++ wDo cy q M) H := hP
    have hD : va_D A ([(h 0, .inr (1, [.ref (h 1), .int (nI (0 + 1))])), (h 1, eR cy 4 (fun i => some (d i 0)))] ++ wDo cy (d 0) M ++ wDo cy (d 1) (E 1) ++ wDo cy (d 2) (E 2) ++ wDo cy (d 3) (E 3) ++ wDo cy q M) := hD
    exact W.vret hx hb hr (fun t ht hW => ⟨⟨(1, d, va_up E 0 M), rfl, (show 1 ≤ 4 by decide), by show va_P G vwCl (wHi cy h 1 d (va_up E 0 M) ++ wDo cy q M) t.heap; rw [ht]; exact hP, hD⟩, hS.F ht⟩) hS.2.2 dX2_record_35 hlocks
  · exact absurd c5 (by decide)

set_option maxHeartbeats 4000000 in
set_option maxRecDepth 100000 in
theorem kX2_record_1 (l : Launch) (G : va_G) (cy : Nat → ClassId) {H0 : Heap} {h : Nat → Nat} {d : Nat → Nat → Nat} {E : Nat → MT} {A0 : Nat → Prop} {q : Nat → Nat} {M : MT} (hP : va_P G vwCl (wHi cy h 1 d E ++ wDo cy q M) H0) (hD0 : va_D A0 (wHi cy h 1 d E ++ wDo cy q M)) : MutH l yX2_record wsX2_record 2 80 [.ref (h 0), .ref (q 0)] H0 G cy (fun k => k ≤ 4) h (wHi cy h 1 d E ++ wDo cy q M) (wDo cy q M) := by
  refine Met.ofW (cc := cX2_record) (maxL := 2) (ret := none) (by decide) rfl ?_
  intro p e s m args below meth c s₁ B hml hv
  obtain ⟨rfl, hH, hK⟩ := hv
  subst hH
  have hx := B.exec
  have hb := B.bytes
  have hr := B.returns
  have hts := atoms_spec (ws := wsX2_record) B.pre
  have hown : s.vm.findClass RX2 = some m.cls := findClass_of_methodNamed B.named
  have hlocks := B.notSynchronized
  have hl := lv_entry ([.ref (h 0), .ref (q 0)]) (n := 2) (Nat.le_of_ble_eq_true rfl)
  rw [lg_entry_eq]
  generalize (lg_sl ([.ref (h 0), .ref (q 0)]) ++ List.replicate (2 - (lg_sl ([.ref (h 0), .ref (q 0)])).length) Slot.unset).toArray = ls at hl ⊢
  have hl : lv_has ls 2 [(0, .ref (h 0)), (1, .ref (q 0))] := hl
  have hD := hD0.self (sz := s.heap.size)
  generalize hAe : va_A (wHi cy h 1 d E ++ wDo cy q M) s.heap.size = A at hD ⊢
  have hA : ∀ q : Nat, s.heap.size ≤ q → A q := fun q h => by rw [← hAe]; exact Or.inr h
  have hS : va_S A s.heap s.heap [] := va_S.rf
  refine lv_aload_n hx hb dX2_record_0 rfl (lv_at hl 0 rfl) ?_
  refine va_get (D := G) (ci := 1) (v := .int (nI 1)) (C := RX2) (T := TX2) (N := 2) hx hb hts iX2_record_X2 hown hK hP 0 rfl rfl 1 (by decide) (hts (.fieldLink RX2 18 "NailedOrders$History" "states" "I") (by decide +kernel)) (fun _ h9 => h9) rfl dX2_record_1 ?_
  refine lv_iconst (v := nI 4) hx hb dX2_record_4 (by decide +kernel) ?_
  refine o_icmp_ne (tgt := 12) hx hb dX2_record_5 (by decide) (by omega) (by omega) (fun c5 => ?_) (fun c5 => ?_)
  · refine lv_aload_n hx hb dX2_record_12 rfl (lv_at hl 0 rfl) ?_
    refine va_get (D := G) (ci := 1) (v := .ref (h 1)) (C := RX2) (T := TX2) (N := 2) hx hb hts iX2_record_X2 hown hK hP 0 rfl rfl 0 (by decide) (hts (.fieldLink RX2 11 "NailedOrders$History" "doors" "[LNailedOrders$Door;") (by decide +kernel)) (fun _ h9 => h9) rfl dX2_record_13 ?_
    refine lv_aload_n hx hb dX2_record_16 rfl (lv_at hl 0 rfl) ?_
    refine va_get (D := G) (ci := 1) (v := .int (nI 1)) (C := RX2) (T := TX2) (N := 2) hx hb hts iX2_record_X2 hown hK hP 0 rfl rfl 1 (by decide) (hts (.fieldLink RX2 18 "NailedOrders$History" "states" "I") (by decide +kernel)) (fun _ h9 => h9) rfl dX2_record_17 ?_
    refine o_aldq hx hb hK hP 1 4 rfl rfl 1 (by decide) (by decide) (v := .ref ((d 1) 0)) rfl dX2_record_20 ?_
    refine lv_aload_n hx hb dX2_record_21 rfl (lv_at hl 1 rfl) ?_
    have hPc := hP.sub (ws' := wDo cy (d 1) (E 1) ++ wDo cy q M) [11, 12, 13, 14, 15, 16, 17, 18, 19, 38, 39, 40, 41, 42, 43, 44, 45, 46] rfl
    have hDc := hD.sub (ws' := wDo cy (d 1) (E 1) ++ wDo cy q M) [11, 12, 13, 14, 15, 16, 17, 18, 19, 38, 39, 40, 41, 42, 43, 44, 45, 46] (by decide) rfl
    have hFc := va_free (wc := wDo cy (d 1) (E 1) ++ wDo cy q M) hD hS hA [11, 12, 13, 14, 15, 16, 17, 18, 19, 38, 39, 40, 41, 42, 43, 44, 45, 46] rfl
    refine va_callv (va_runV (As := [.ref (q 0)]) (rest := []) ⟨hx, hb, hml, hown, hts⟩ (kX1_become l G cy hPc hDc) (cwV 1 hts gX2_record_X1_become rfl rfl rfl (by decide +kernel) ⟨Nat.le_of_ble_eq_true rfl, Nat.le_of_ble_eq_true rfl⟩) ⟨pR_blind, va_recv hK hP (ci := 0) (q0 := 11) rfl rfl, pR_at hK⟩ rfl rfl hl.1 rfl (lv_room (Nat.le_of_ble_eq_true rfl)) dX2_record_22 ⟨Nat.zero_le _, Nat.zero_le _⟩) hS (fun q _ h => hFc q h) hFc (fun u t H locs ht hvm hw hB hz1 hk1 hS => ?_)
    rw [ht] at hB
    have hP : va_P G vwCl ([(h 0, .inr (1, [.ref (h 1), .int (nI 1)])), (h 1, eR cy 4 (fun i => some (d i 0)))] ++ wDo cy (d 0) (E 0) ++ wDo cy (d 1) M ++ wDo cy (d 2) (E 2) ++ wDo cy (d 3) (E 3) ++ wDo cy q M) H := (o_join hP hD [11, 12, 13, 14, 15, 16, 17, 18, 19, 38, 39, 40, 41, 42, 43, 44, 45, 46] [0, 1, 2, 3, 4, 5, 6, 7, 8, 9, 10, 20, 21, 22, 23, 24, 25, 26, 27, 28, 29, 30, 31, 32, 33, 34, 35, 36, 37] rfl (wr := [(h 0, .inr (1, [.ref (h 1), .int (nI 1)])), (h 1, eR cy 4 (fun i => some (d i 0)))] ++ wDo cy (d 0) (E 0) ++ wDo cy (d 2) (E 2) ++ wDo cy (d 3) (E 3)) rfl (by decide) (by decide) (by decide) hk1 hFc hB rfl).sub [0, 1, 2, 3, 4, 5, 6, 7, 8, 9, 10, 29, 30, 31, 32, 33, 34, 35, 36, 37, 11, 12, 13, 14, 15, 16, 17, 18, 19, 20, 21, 22, 23, 24, 25, 26, 27, 28, 38, 39, 40, 41, 42, 43, 44, 45, 46] rfl
    have hD : va_D A ([(h 0, .inr (1, [.ref (h 1), .int (nI 1)])), (h 1, eR cy 4 (fun i => some (d i 0)))] ++ wDo cy (d 0) (E 0) ++ wDo cy (d 1) M ++ wDo cy (d 2) (E 2) ++ wDo cy (d 3) (E 3) ++ wDo cy q M) := vd_same hD rfl
    refine lv_aload_n hx hb dX2_record_25 rfl (lv_at hl 0 rfl) ?_
    refine lv_dup hx hb dX2_record_26 rfl ?_
    refine va_get (D := G) (ci := 1) (v := .int (nI 1)) (C := RX2) (T := TX2) (N := 2) hx hb hts iX2_record_X2 hown hK hP 0 rfl rfl 1 (by decide) (hts (.fieldLink RX2 18 "NailedOrders$History" "states" "I") (by decide +kernel)) (fun _ h9 => h9) rfl dX2_record_27 ?_
    refine lv_iconst (v := nI 1) hx hb dX2_record_30 (by decide +kernel) ?_
    refine lv_iadd hx hb dX2_record_31 ?_
    rw [nI_add]
    refine va_put (D := G) (ci := 1) (v := .int (nI (1 + 1))) (ty := .int) (C := RX2) (T := TX2) (N := 2) hx hb hts iX2_record_X2 tyX2 tyX2_ok nmX2 hown hK hP hD hS 0 rfl rfl 1 (by decide) (hts (.fieldLink RX2 18 "NailedOrders$History" "states" "I") (by decide +kernel)) (fun _ h9 => h9) rfl (by decide +kernel) rfl rfl (Nat.le_of_ble_eq_true rfl) dX2_record_32 (fun H locs hP hD hS => ?_)
    have hP : va_P G vwCl ([(h 0, .inr (1, [.ref (h 1), .int (nI (1 + 1))])), (h 1, eR cy 4 (fun i => some (d i 0)))] ++ wDo cy (d 0) (E 0) ++ wDo cy (d 1) M ++ wDo cy (d 2) (E 2) ++ wDo cy (d 3) (E 3) ++ wDo cy q M) H := hP
    have hD : va_D A ([(h 0, .inr (1, [.ref (h 1), .int (nI (1 + 1))])), (h 1, eR cy 4 (fun i => some (d i 0)))] ++ wDo cy (d 0) (E 0) ++ wDo cy (d 1) M ++ wDo cy (d 2) (E 2) ++ wDo cy (d 3) (E 3) ++ wDo cy q M) := hD
    exact W.vret hx hb hr (fun t ht hW => ⟨⟨(2, d, va_up E 1 M), rfl, (show 2 ≤ 4 by decide), by show va_P G vwCl (wHi cy h 2 d (va_up E 1 M) ++ wDo cy q M) t.heap; rw [ht]; exact hP, hD⟩, hS.F ht⟩) hS.2.2 dX2_record_35 hlocks
  · exact absurd c5 (by decide)

set_option maxHeartbeats 4000000 in
set_option maxRecDepth 100000 in
theorem kX2_record_2 (l : Launch) (G : va_G) (cy : Nat → ClassId) {H0 : Heap} {h : Nat → Nat} {d : Nat → Nat → Nat} {E : Nat → MT} {A0 : Nat → Prop} {q : Nat → Nat} {M : MT} (hP : va_P G vwCl (wHi cy h 2 d E ++ wDo cy q M) H0) (hD0 : va_D A0 (wHi cy h 2 d E ++ wDo cy q M)) : MutH l yX2_record wsX2_record 2 80 [.ref (h 0), .ref (q 0)] H0 G cy (fun k => k ≤ 4) h (wHi cy h 2 d E ++ wDo cy q M) (wDo cy q M) := by
  refine Met.ofW (cc := cX2_record) (maxL := 2) (ret := none) (by decide) rfl ?_
  intro p e s m args below meth c s₁ B hml hv
  obtain ⟨rfl, hH, hK⟩ := hv
  subst hH
  have hx := B.exec
  have hb := B.bytes
  have hr := B.returns
  have hts := atoms_spec (ws := wsX2_record) B.pre
  have hown : s.vm.findClass RX2 = some m.cls := findClass_of_methodNamed B.named
  have hlocks := B.notSynchronized
  have hl := lv_entry ([.ref (h 0), .ref (q 0)]) (n := 2) (Nat.le_of_ble_eq_true rfl)
  rw [lg_entry_eq]
  generalize (lg_sl ([.ref (h 0), .ref (q 0)]) ++ List.replicate (2 - (lg_sl ([.ref (h 0), .ref (q 0)])).length) Slot.unset).toArray = ls at hl ⊢
  have hl : lv_has ls 2 [(0, .ref (h 0)), (1, .ref (q 0))] := hl
  have hD := hD0.self (sz := s.heap.size)
  generalize hAe : va_A (wHi cy h 2 d E ++ wDo cy q M) s.heap.size = A at hD ⊢
  have hA : ∀ q : Nat, s.heap.size ≤ q → A q := fun q h => by rw [← hAe]; exact Or.inr h
  have hS : va_S A s.heap s.heap [] := va_S.rf
  refine lv_aload_n hx hb dX2_record_0 rfl (lv_at hl 0 rfl) ?_
  refine va_get (D := G) (ci := 1) (v := .int (nI 2)) (C := RX2) (T := TX2) (N := 2) hx hb hts iX2_record_X2 hown hK hP 0 rfl rfl 1 (by decide) (hts (.fieldLink RX2 18 "NailedOrders$History" "states" "I") (by decide +kernel)) (fun _ h9 => h9) rfl dX2_record_1 ?_
  refine lv_iconst (v := nI 4) hx hb dX2_record_4 (by decide +kernel) ?_
  refine o_icmp_ne (tgt := 12) hx hb dX2_record_5 (by decide) (by omega) (by omega) (fun c5 => ?_) (fun c5 => ?_)
  · refine lv_aload_n hx hb dX2_record_12 rfl (lv_at hl 0 rfl) ?_
    refine va_get (D := G) (ci := 1) (v := .ref (h 1)) (C := RX2) (T := TX2) (N := 2) hx hb hts iX2_record_X2 hown hK hP 0 rfl rfl 0 (by decide) (hts (.fieldLink RX2 11 "NailedOrders$History" "doors" "[LNailedOrders$Door;") (by decide +kernel)) (fun _ h9 => h9) rfl dX2_record_13 ?_
    refine lv_aload_n hx hb dX2_record_16 rfl (lv_at hl 0 rfl) ?_
    refine va_get (D := G) (ci := 1) (v := .int (nI 2)) (C := RX2) (T := TX2) (N := 2) hx hb hts iX2_record_X2 hown hK hP 0 rfl rfl 1 (by decide) (hts (.fieldLink RX2 18 "NailedOrders$History" "states" "I") (by decide +kernel)) (fun _ h9 => h9) rfl dX2_record_17 ?_
    refine o_aldq hx hb hK hP 1 4 rfl rfl 2 (by decide) (by decide) (v := .ref ((d 2) 0)) rfl dX2_record_20 ?_
    refine lv_aload_n hx hb dX2_record_21 rfl (lv_at hl 1 rfl) ?_
    have hPc := hP.sub (ws' := wDo cy (d 2) (E 2) ++ wDo cy q M) [20, 21, 22, 23, 24, 25, 26, 27, 28, 38, 39, 40, 41, 42, 43, 44, 45, 46] rfl
    have hDc := hD.sub (ws' := wDo cy (d 2) (E 2) ++ wDo cy q M) [20, 21, 22, 23, 24, 25, 26, 27, 28, 38, 39, 40, 41, 42, 43, 44, 45, 46] (by decide) rfl
    have hFc := va_free (wc := wDo cy (d 2) (E 2) ++ wDo cy q M) hD hS hA [20, 21, 22, 23, 24, 25, 26, 27, 28, 38, 39, 40, 41, 42, 43, 44, 45, 46] rfl
    refine va_callv (va_runV (As := [.ref (q 0)]) (rest := []) ⟨hx, hb, hml, hown, hts⟩ (kX1_become l G cy hPc hDc) (cwV 1 hts gX2_record_X1_become rfl rfl rfl (by decide +kernel) ⟨Nat.le_of_ble_eq_true rfl, Nat.le_of_ble_eq_true rfl⟩) ⟨pR_blind, va_recv hK hP (ci := 0) (q0 := 20) rfl rfl, pR_at hK⟩ rfl rfl hl.1 rfl (lv_room (Nat.le_of_ble_eq_true rfl)) dX2_record_22 ⟨Nat.zero_le _, Nat.zero_le _⟩) hS (fun q _ h => hFc q h) hFc (fun u t H locs ht hvm hw hB hz1 hk1 hS => ?_)
    rw [ht] at hB
    have hP : va_P G vwCl ([(h 0, .inr (1, [.ref (h 1), .int (nI 2)])), (h 1, eR cy 4 (fun i => some (d i 0)))] ++ wDo cy (d 0) (E 0) ++ wDo cy (d 1) (E 1) ++ wDo cy (d 2) M ++ wDo cy (d 3) (E 3) ++ wDo cy q M) H := (o_join hP hD [20, 21, 22, 23, 24, 25, 26, 27, 28, 38, 39, 40, 41, 42, 43, 44, 45, 46] [0, 1, 2, 3, 4, 5, 6, 7, 8, 9, 10, 11, 12, 13, 14, 15, 16, 17, 18, 19, 29, 30, 31, 32, 33, 34, 35, 36, 37] rfl (wr := [(h 0, .inr (1, [.ref (h 1), .int (nI 2)])), (h 1, eR cy 4 (fun i => some (d i 0)))] ++ wDo cy (d 0) (E 0) ++ wDo cy (d 1) (E 1) ++ wDo cy (d 3) (E 3)) rfl (by decide) (by decide) (by decide) hk1 hFc hB rfl).sub [0, 1, 2, 3, 4, 5, 6, 7, 8, 9, 10, 11, 12, 13, 14, 15, 16, 17, 18, 19, 29, 30, 31, 32, 33, 34, 35, 36, 37, 20, 21, 22, 23, 24, 25, 26, 27, 28, 38, 39, 40, 41, 42, 43, 44, 45, 46] rfl
    have hD : va_D A ([(h 0, .inr (1, [.ref (h 1), .int (nI 2)])), (h 1, eR cy 4 (fun i => some (d i 0)))] ++ wDo cy (d 0) (E 0) ++ wDo cy (d 1) (E 1) ++ wDo cy (d 2) M ++ wDo cy (d 3) (E 3) ++ wDo cy q M) := vd_same hD rfl
    refine lv_aload_n hx hb dX2_record_25 rfl (lv_at hl 0 rfl) ?_
    refine lv_dup hx hb dX2_record_26 rfl ?_
    refine va_get (D := G) (ci := 1) (v := .int (nI 2)) (C := RX2) (T := TX2) (N := 2) hx hb hts iX2_record_X2 hown hK hP 0 rfl rfl 1 (by decide) (hts (.fieldLink RX2 18 "NailedOrders$History" "states" "I") (by decide +kernel)) (fun _ h9 => h9) rfl dX2_record_27 ?_
    refine lv_iconst (v := nI 1) hx hb dX2_record_30 (by decide +kernel) ?_
    refine lv_iadd hx hb dX2_record_31 ?_
    rw [nI_add]
    refine va_put (D := G) (ci := 1) (v := .int (nI (2 + 1))) (ty := .int) (C := RX2) (T := TX2) (N := 2) hx hb hts iX2_record_X2 tyX2 tyX2_ok nmX2 hown hK hP hD hS 0 rfl rfl 1 (by decide) (hts (.fieldLink RX2 18 "NailedOrders$History" "states" "I") (by decide +kernel)) (fun _ h9 => h9) rfl (by decide +kernel) rfl rfl (Nat.le_of_ble_eq_true rfl) dX2_record_32 (fun H locs hP hD hS => ?_)
    have hP : va_P G vwCl ([(h 0, .inr (1, [.ref (h 1), .int (nI (2 + 1))])), (h 1, eR cy 4 (fun i => some (d i 0)))] ++ wDo cy (d 0) (E 0) ++ wDo cy (d 1) (E 1) ++ wDo cy (d 2) M ++ wDo cy (d 3) (E 3) ++ wDo cy q M) H := hP
    have hD : va_D A ([(h 0, .inr (1, [.ref (h 1), .int (nI (2 + 1))])), (h 1, eR cy 4 (fun i => some (d i 0)))] ++ wDo cy (d 0) (E 0) ++ wDo cy (d 1) (E 1) ++ wDo cy (d 2) M ++ wDo cy (d 3) (E 3) ++ wDo cy q M) := hD
    exact W.vret hx hb hr (fun t ht hW => ⟨⟨(3, d, va_up E 2 M), rfl, (show 3 ≤ 4 by decide), by show va_P G vwCl (wHi cy h 3 d (va_up E 2 M) ++ wDo cy q M) t.heap; rw [ht]; exact hP, hD⟩, hS.F ht⟩) hS.2.2 dX2_record_35 hlocks
  · exact absurd c5 (by decide)

set_option maxHeartbeats 4000000 in
set_option maxRecDepth 100000 in
theorem kX2_record_3 (l : Launch) (G : va_G) (cy : Nat → ClassId) {H0 : Heap} {h : Nat → Nat} {d : Nat → Nat → Nat} {E : Nat → MT} {A0 : Nat → Prop} {q : Nat → Nat} {M : MT} (hP : va_P G vwCl (wHi cy h 3 d E ++ wDo cy q M) H0) (hD0 : va_D A0 (wHi cy h 3 d E ++ wDo cy q M)) : MutH l yX2_record wsX2_record 2 80 [.ref (h 0), .ref (q 0)] H0 G cy (fun k => k ≤ 4) h (wHi cy h 3 d E ++ wDo cy q M) (wDo cy q M) := by
  refine Met.ofW (cc := cX2_record) (maxL := 2) (ret := none) (by decide) rfl ?_
  intro p e s m args below meth c s₁ B hml hv
  obtain ⟨rfl, hH, hK⟩ := hv
  subst hH
  have hx := B.exec
  have hb := B.bytes
  have hr := B.returns
  have hts := atoms_spec (ws := wsX2_record) B.pre
  have hown : s.vm.findClass RX2 = some m.cls := findClass_of_methodNamed B.named
  have hlocks := B.notSynchronized
  have hl := lv_entry ([.ref (h 0), .ref (q 0)]) (n := 2) (Nat.le_of_ble_eq_true rfl)
  rw [lg_entry_eq]
  generalize (lg_sl ([.ref (h 0), .ref (q 0)]) ++ List.replicate (2 - (lg_sl ([.ref (h 0), .ref (q 0)])).length) Slot.unset).toArray = ls at hl ⊢
  have hl : lv_has ls 2 [(0, .ref (h 0)), (1, .ref (q 0))] := hl
  have hD := hD0.self (sz := s.heap.size)
  generalize hAe : va_A (wHi cy h 3 d E ++ wDo cy q M) s.heap.size = A at hD ⊢
  have hA : ∀ q : Nat, s.heap.size ≤ q → A q := fun q h => by rw [← hAe]; exact Or.inr h
  have hS : va_S A s.heap s.heap [] := va_S.rf
  refine lv_aload_n hx hb dX2_record_0 rfl (lv_at hl 0 rfl) ?_
  refine va_get (D := G) (ci := 1) (v := .int (nI 3)) (C := RX2) (T := TX2) (N := 2) hx hb hts iX2_record_X2 hown hK hP 0 rfl rfl 1 (by decide) (hts (.fieldLink RX2 18 "NailedOrders$History" "states" "I") (by decide +kernel)) (fun _ h9 => h9) rfl dX2_record_1 ?_
  refine lv_iconst (v := nI 4) hx hb dX2_record_4 (by decide +kernel) ?_
  refine o_icmp_ne (tgt := 12) hx hb dX2_record_5 (by decide) (by omega) (by omega) (fun c5 => ?_) (fun c5 => ?_)
  · refine lv_aload_n hx hb dX2_record_12 rfl (lv_at hl 0 rfl) ?_
    refine va_get (D := G) (ci := 1) (v := .ref (h 1)) (C := RX2) (T := TX2) (N := 2) hx hb hts iX2_record_X2 hown hK hP 0 rfl rfl 0 (by decide) (hts (.fieldLink RX2 11 "NailedOrders$History" "doors" "[LNailedOrders$Door;") (by decide +kernel)) (fun _ h9 => h9) rfl dX2_record_13 ?_
    refine lv_aload_n hx hb dX2_record_16 rfl (lv_at hl 0 rfl) ?_
    refine va_get (D := G) (ci := 1) (v := .int (nI 3)) (C := RX2) (T := TX2) (N := 2) hx hb hts iX2_record_X2 hown hK hP 0 rfl rfl 1 (by decide) (hts (.fieldLink RX2 18 "NailedOrders$History" "states" "I") (by decide +kernel)) (fun _ h9 => h9) rfl dX2_record_17 ?_
    refine o_aldq hx hb hK hP 1 4 rfl rfl 3 (by decide) (by decide) (v := .ref ((d 3) 0)) rfl dX2_record_20 ?_
    refine lv_aload_n hx hb dX2_record_21 rfl (lv_at hl 1 rfl) ?_
    have hPc := hP.sub (ws' := wDo cy (d 3) (E 3) ++ wDo cy q M) [29, 30, 31, 32, 33, 34, 35, 36, 37, 38, 39, 40, 41, 42, 43, 44, 45, 46] rfl
    have hDc := hD.sub (ws' := wDo cy (d 3) (E 3) ++ wDo cy q M) [29, 30, 31, 32, 33, 34, 35, 36, 37, 38, 39, 40, 41, 42, 43, 44, 45, 46] (by decide) rfl
    have hFc := va_free (wc := wDo cy (d 3) (E 3) ++ wDo cy q M) hD hS hA [29, 30, 31, 32, 33, 34, 35, 36, 37, 38, 39, 40, 41, 42, 43, 44, 45, 46] rfl
    refine va_callv (va_runV (As := [.ref (q 0)]) (rest := []) ⟨hx, hb, hml, hown, hts⟩ (kX1_become l G cy hPc hDc) (cwV 1 hts gX2_record_X1_become rfl rfl rfl (by decide +kernel) ⟨Nat.le_of_ble_eq_true rfl, Nat.le_of_ble_eq_true rfl⟩) ⟨pR_blind, va_recv hK hP (ci := 0) (q0 := 29) rfl rfl, pR_at hK⟩ rfl rfl hl.1 rfl (lv_room (Nat.le_of_ble_eq_true rfl)) dX2_record_22 ⟨Nat.zero_le _, Nat.zero_le _⟩) hS (fun q _ h => hFc q h) hFc (fun u t H locs ht hvm hw hB hz1 hk1 hS => ?_)
    rw [ht] at hB
    have hP : va_P G vwCl ([(h 0, .inr (1, [.ref (h 1), .int (nI 3)])), (h 1, eR cy 4 (fun i => some (d i 0)))] ++ wDo cy (d 0) (E 0) ++ wDo cy (d 1) (E 1) ++ wDo cy (d 2) (E 2) ++ wDo cy (d 3) M ++ wDo cy q M) H := (o_join hP hD [29, 30, 31, 32, 33, 34, 35, 36, 37, 38, 39, 40, 41, 42, 43, 44, 45, 46] [0, 1, 2, 3, 4, 5, 6, 7, 8, 9, 10, 11, 12, 13, 14, 15, 16, 17, 18, 19, 20, 21, 22, 23, 24, 25, 26, 27, 28] rfl (wr := [(h 0, .inr (1, [.ref (h 1), .int (nI 3)])), (h 1, eR cy 4 (fun i => some (d i 0)))] ++ wDo cy (d 0) (E 0) ++ wDo cy (d 1) (E 1) ++ wDo cy (d 2) (E 2)) rfl (by decide) (by decide) (by decide) hk1 hFc hB rfl).sub [0, 1, 2, 3, 4, 5, 6, 7, 8, 9, 10, 11, 12, 13, 14, 15, 16, 17, 18, 19, 20, 21, 22, 23, 24, 25, 26, 27, 28, 29, 30, 31, 32, 33, 34, 35, 36, 37, 38, 39, 40, 41, 42, 43, 44, 45, 46] rfl
    have hD : va_D A ([(h 0, .inr (1, [.ref (h 1), .int (nI 3)])), (h 1, eR cy 4 (fun i => some (d i 0)))] ++ wDo cy (d 0) (E 0) ++ wDo cy (d 1) (E 1) ++ wDo cy (d 2) (E 2) ++ wDo cy (d 3) M ++ wDo cy q M) := vd_same hD rfl
    refine lv_aload_n hx hb dX2_record_25 rfl (lv_at hl 0 rfl) ?_
    refine lv_dup hx hb dX2_record_26 rfl ?_
    refine va_get (D := G) (ci := 1) (v := .int (nI 3)) (C := RX2) (T := TX2) (N := 2) hx hb hts iX2_record_X2 hown hK hP 0 rfl rfl 1 (by decide) (hts (.fieldLink RX2 18 "NailedOrders$History" "states" "I") (by decide +kernel)) (fun _ h9 => h9) rfl dX2_record_27 ?_
    refine lv_iconst (v := nI 1) hx hb dX2_record_30 (by decide +kernel) ?_
    refine lv_iadd hx hb dX2_record_31 ?_
    rw [nI_add]
    refine va_put (D := G) (ci := 1) (v := .int (nI (3 + 1))) (ty := .int) (C := RX2) (T := TX2) (N := 2) hx hb hts iX2_record_X2 tyX2 tyX2_ok nmX2 hown hK hP hD hS 0 rfl rfl 1 (by decide) (hts (.fieldLink RX2 18 "NailedOrders$History" "states" "I") (by decide +kernel)) (fun _ h9 => h9) rfl (by decide +kernel) rfl rfl (Nat.le_of_ble_eq_true rfl) dX2_record_32 (fun H locs hP hD hS => ?_)
    have hP : va_P G vwCl ([(h 0, .inr (1, [.ref (h 1), .int (nI (3 + 1))])), (h 1, eR cy 4 (fun i => some (d i 0)))] ++ wDo cy (d 0) (E 0) ++ wDo cy (d 1) (E 1) ++ wDo cy (d 2) (E 2) ++ wDo cy (d 3) M ++ wDo cy q M) H := hP
    have hD : va_D A ([(h 0, .inr (1, [.ref (h 1), .int (nI (3 + 1))])), (h 1, eR cy 4 (fun i => some (d i 0)))] ++ wDo cy (d 0) (E 0) ++ wDo cy (d 1) (E 1) ++ wDo cy (d 2) (E 2) ++ wDo cy (d 3) M ++ wDo cy q M) := hD
    exact W.vret hx hb hr (fun t ht hW => ⟨⟨(4, d, va_up E 3 M), rfl, (show 4 ≤ 4 by decide), by show va_P G vwCl (wHi cy h 4 d (va_up E 3 M) ++ wDo cy q M) t.heap; rw [ht]; exact hP, hD⟩, hS.F ht⟩) hS.2.2 dX2_record_35 hlocks
  · exact absurd c5 (by decide)

set_option maxHeartbeats 4000000 in
set_option maxRecDepth 100000 in
theorem kX2_record_4 (l : Launch) (G : va_G) (cy : Nat → ClassId) {H0 : Heap} {h : Nat → Nat} {d : Nat → Nat → Nat} {E : Nat → MT} {A0 : Nat → Prop} {q : Nat → Nat} {M : MT} (hP : va_P G vwCl (wHi cy h 4 d E ++ wDo cy q M) H0) (hD0 : va_D A0 (wHi cy h 4 d E ++ wDo cy q M)) : MutH l yX2_record wsX2_record 2 80 [.ref (h 0), .ref (q 0)] H0 G cy (fun k => k ≤ 4) h (wHi cy h 4 d E ++ wDo cy q M) (wDo cy q M) := by
  refine Met.ofW (cc := cX2_record) (maxL := 2) (ret := none) (by decide) rfl ?_
  intro p e s m args below meth c s₁ B hml hv
  obtain ⟨rfl, hH, hK⟩ := hv
  subst hH
  have hx := B.exec
  have hb := B.bytes
  have hr := B.returns
  have hts := atoms_spec (ws := wsX2_record) B.pre
  have hown : s.vm.findClass RX2 = some m.cls := findClass_of_methodNamed B.named
  have hlocks := B.notSynchronized
  have hl := lv_entry ([.ref (h 0), .ref (q 0)]) (n := 2) (Nat.le_of_ble_eq_true rfl)
  rw [lg_entry_eq]
  generalize (lg_sl ([.ref (h 0), .ref (q 0)]) ++ List.replicate (2 - (lg_sl ([.ref (h 0), .ref (q 0)])).length) Slot.unset).toArray = ls at hl ⊢
  have hl : lv_has ls 2 [(0, .ref (h 0)), (1, .ref (q 0))] := hl
  have hD := hD0.self (sz := s.heap.size)
  generalize hAe : va_A (wHi cy h 4 d E ++ wDo cy q M) s.heap.size = A at hD ⊢
  have hA : ∀ q : Nat, s.heap.size ≤ q → A q := fun q h => by rw [← hAe]; exact Or.inr h
  have hS : va_S A s.heap s.heap [] := va_S.rf
  refine lv_aload_n hx hb dX2_record_0 rfl (lv_at hl 0 rfl) ?_
  refine va_get (D := G) (ci := 1) (v := .int (nI 4)) (C := RX2) (T := TX2) (N := 2) hx hb hts iX2_record_X2 hown hK hP 0 rfl rfl 1 (by decide) (hts (.fieldLink RX2 18 "NailedOrders$History" "states" "I") (by decide +kernel)) (fun _ h9 => h9) rfl dX2_record_1 ?_
  refine lv_iconst (v := nI 4) hx hb dX2_record_4 (by decide +kernel) ?_
  refine o_icmp_ne (tgt := 12) hx hb dX2_record_5 (by decide) (by omega) (by omega) (fun c5 => ?_) (fun c5 => ?_)
  · exact absurd rfl c5
  · refine lv_aload_n hx hb dX2_record_8 rfl (lv_at hl 0 rfl) ?_
    have hPc := hP.sub (ws' := wHi cy h 4 d E) [0, 1, 2, 3, 4, 5, 6, 7, 8, 9, 10, 11, 12, 13, 14, 15, 16, 17, 18, 19, 20, 21, 22, 23, 24, 25, 26, 27, 28, 29, 30, 31, 32, 33, 34, 35, 36, 37] rfl
    have hDc := hD.sub (ws' := wHi cy h 4 d E) [0, 1, 2, 3, 4, 5, 6, 7, 8, 9, 10, 11, 12, 13, 14, 15, 16, 17, 18, 19, 20, 21, 22, 23, 24, 25, 26, 27, 28, 29, 30, 31, 32, 33, 34, 35, 36, 37] (by decide) rfl
    have hFc := va_free (wc := wHi cy h 4 d E) hD hS hA [0, 1, 2, 3, 4, 5, 6, 7, 8, 9, 10, 11, 12, 13, 14, 15, 16, 17, 18, 19, 20, 21, 22, 23, 24, 25, 26, 27, 28, 29, 30, 31, 32, 33, 34, 35, 36, 37] rfl
    refine va_callv (va_runV (As := []) (rest := []) ⟨hx, hb, hml, hown, hts⟩ (kX2_dropOldest l G cy hPc hDc) (cwV 0 hts gX2_record_X2_dropOldest rfl rfl rfl (by decide +kernel) ⟨Nat.le_of_ble_eq_true rfl, Nat.le_of_ble_eq_true rfl⟩) ⟨pR_blind, va_recv hK hP (ci := 1) (q0 := 0) rfl rfl, pR_at hK⟩ rfl rfl hl.1 rfl (lv_room (Nat.le_of_ble_eq_true rfl)) dX2_record_9 ⟨Nat.zero_le _, Nat.zero_le _⟩) hS (fun q _ h => hFc q h) hFc (fun u t H locs ht hvm hw hB hz1 hk1 hS => ?_)
    obtain ⟨k1, d1, E1⟩ := u
    obtain rfl : k1 = 3 := hw
    have hB : va_P G vwCl (wHi cy h 3 d1 E1 ++ []) t.heap ∧ va_D (va_A (wHi cy h 4 d E) _) (wHi cy h 3 d1 E1 ++ []) := hB
    rw [ht, List.append_nil] at hB
    obtain ⟨hP1, hD1⟩ := hB
    obtain ⟨hP, hD⟩ := va_join (wr := wDo cy q M) hP hD [0, 1, 2, 3, 4, 5, 6, 7, 8, 9, 10, 11, 12, 13, 14, 15, 16, 17, 18, 19, 20, 21, 22, 23, 24, 25, 26, 27, 28, 29, 30, 31, 32, 33, 34, 35, 36, 37] [38, 39, 40, 41, 42, 43, 44, 45, 46] rfl rfl (by decide) (by decide) hk1 hFc hP1 hD1
    have hP : va_P G vwCl (wHi cy h 3 d1 E1 ++ wDo cy q M) H := hP.sub [9, 10, 11, 12, 13, 14, 15, 16, 17, 18, 19, 20, 21, 22, 23, 24, 25, 26, 27, 28, 29, 30, 31, 32, 33, 34, 35, 36, 37, 38, 39, 40, 41, 42, 43, 44, 45, 46, 0, 1, 2, 3, 4, 5, 6, 7, 8] rfl
    have hD : va_D A (wHi cy h 3 d1 E1 ++ wDo cy q M) := hD.sub [9, 10, 11, 12, 13, 14, 15, 16, 17, 18, 19, 20, 21, 22, 23, 24, 25, 26, 27, 28, 29, 30, 31, 32, 33, 34, 35, 36, 37, 38, 39, 40, 41, 42, 43, 44, 45, 46, 0, 1, 2, 3, 4, 5, 6, 7, 8] (by decide) rfl
    refine lv_aload_n hx hb dX2_record_12 rfl (lv_at hl 0 rfl) ?_
    refine va_get (D := G) (ci := 1) (v := .ref (h 1)) (C := RX2) (T := TX2) (N := 2) hx hb hts iX2_record_X2 hown hK hP 0 rfl rfl 0 (by decide) (hts (.fieldLink RX2 11 "NailedOrders$History" "doors" "[LNailedOrders$Door;") (by decide +kernel)) (fun _ h9 => h9) rfl dX2_record_13 ?_
    refine lv_aload_n hx hb dX2_record_16 rfl (lv_at hl 0 rfl) ?_
    refine va_get (D := G) (ci := 1) (v := .int (nI 3)) (C := RX2) (T := TX2) (N := 2) hx hb hts iX2_record_X2 hown hK hP 0 rfl rfl 1 (by decide) (hts (.fieldLink RX2 18 "NailedOrders$History" "states" "I") (by decide +kernel)) (fun _ h9 => h9) rfl dX2_record_17 ?_
    refine o_aldq hx hb hK hP 1 4 rfl rfl 3 (by decide) (by decide) (v := .ref ((d1 3) 0)) rfl dX2_record_20 ?_
    refine lv_aload_n hx hb dX2_record_21 rfl (lv_at hl 1 rfl) ?_
    have hPc := hP.sub (ws' := wDo cy (d1 3) (E1 3) ++ wDo cy q M) [29, 30, 31, 32, 33, 34, 35, 36, 37, 38, 39, 40, 41, 42, 43, 44, 45, 46] rfl
    have hDc := hD.sub (ws' := wDo cy (d1 3) (E1 3) ++ wDo cy q M) [29, 30, 31, 32, 33, 34, 35, 36, 37, 38, 39, 40, 41, 42, 43, 44, 45, 46] (by decide) rfl
    have hFc := va_free (wc := wDo cy (d1 3) (E1 3) ++ wDo cy q M) hD hS hA [29, 30, 31, 32, 33, 34, 35, 36, 37, 38, 39, 40, 41, 42, 43, 44, 45, 46] rfl
    refine va_callv (va_runV (As := [.ref (q 0)]) (rest := []) ⟨hx, hb, hml, hown, hts⟩ (kX1_become l G cy hPc hDc) (cwV 1 hts gX2_record_X1_become rfl rfl rfl (by decide +kernel) ⟨Nat.le_of_ble_eq_true rfl, Nat.le_of_ble_eq_true rfl⟩) ⟨pR_blind, va_recv hK hP (ci := 0) (q0 := 29) rfl rfl, pR_at hK⟩ rfl rfl hl.1 rfl (lv_room (Nat.le_of_ble_eq_true rfl)) dX2_record_22 ⟨Nat.zero_le _, Nat.zero_le _⟩) hS (fun q _ h => hFc q h) hFc (fun u t H locs ht hvm hw hB hz1 hk1 hS => ?_)
    rw [ht] at hB
    have hP : va_P G vwCl ([(h 0, .inr (1, [.ref (h 1), .int (nI 3)])), (h 1, eR cy 4 (fun i => some (d1 i 0)))] ++ wDo cy (d1 0) (E1 0) ++ wDo cy (d1 1) (E1 1) ++ wDo cy (d1 2) (E1 2) ++ wDo cy (d1 3) M ++ wDo cy q M) H := (o_join hP hD [29, 30, 31, 32, 33, 34, 35, 36, 37, 38, 39, 40, 41, 42, 43, 44, 45, 46] [0, 1, 2, 3, 4, 5, 6, 7, 8, 9, 10, 11, 12, 13, 14, 15, 16, 17, 18, 19, 20, 21, 22, 23, 24, 25, 26, 27, 28] rfl (wr := [(h 0, .inr (1, [.ref (h 1), .int (nI 3)])), (h 1, eR cy 4 (fun i => some (d1 i 0)))] ++ wDo cy (d1 0) (E1 0) ++ wDo cy (d1 1) (E1 1) ++ wDo cy (d1 2) (E1 2)) rfl (by decide) (by decide) (by decide) hk1 hFc hB rfl).sub [0, 1, 2, 3, 4, 5, 6, 7, 8, 9, 10, 11, 12, 13, 14, 15, 16, 17, 18, 19, 20, 21, 22, 23, 24, 25, 26, 27, 28, 29, 30, 31, 32, 33, 34, 35, 36, 37, 38, 39, 40, 41, 42, 43, 44, 45, 46] rfl
    have hD : va_D A ([(h 0, .inr (1, [.ref (h 1), .int (nI 3)])), (h 1, eR cy 4 (fun i => some (d1 i 0)))] ++ wDo cy (d1 0) (E1 0) ++ wDo cy (d1 1) (E1 1) ++ wDo cy (d1 2) (E1 2) ++ wDo cy (d1 3) M ++ wDo cy q M) := vd_same hD rfl
    refine lv_aload_n hx hb dX2_record_25 rfl (lv_at hl 0 rfl) ?_
    refine lv_dup hx hb dX2_record_26 rfl ?_
    refine va_get (D := G) (ci := 1) (v := .int (nI 3)) (C := RX2) (T := TX2) (N := 2) hx hb hts iX2_record_X2 hown hK hP 0 rfl rfl 1 (by decide) (hts (.fieldLink RX2 18 "NailedOrders$History" "states" "I") (by decide +kernel)) (fun _ h9 => h9) rfl dX2_record_27 ?_
    refine lv_iconst (v := nI 1) hx hb dX2_record_30 (by decide +kernel) ?_
    refine lv_iadd hx hb dX2_record_31 ?_
    rw [nI_add]
    refine va_put (D := G) (ci := 1) (v := .int (nI (3 + 1))) (ty := .int) (C := RX2) (T := TX2) (N := 2) hx hb hts iX2_record_X2 tyX2 tyX2_ok nmX2 hown hK hP hD hS 0 rfl rfl 1 (by decide) (hts (.fieldLink RX2 18 "NailedOrders$History" "states" "I") (by decide +kernel)) (fun _ h9 => h9) rfl (by decide +kernel) rfl rfl (Nat.le_of_ble_eq_true rfl) dX2_record_32 (fun H locs hP hD hS => ?_)
    have hP : va_P G vwCl ([(h 0, .inr (1, [.ref (h 1), .int (nI (3 + 1))])), (h 1, eR cy 4 (fun i => some (d1 i 0)))] ++ wDo cy (d1 0) (E1 0) ++ wDo cy (d1 1) (E1 1) ++ wDo cy (d1 2) (E1 2) ++ wDo cy (d1 3) M ++ wDo cy q M) H := hP
    have hD : va_D A ([(h 0, .inr (1, [.ref (h 1), .int (nI (3 + 1))])), (h 1, eR cy 4 (fun i => some (d1 i 0)))] ++ wDo cy (d1 0) (E1 0) ++ wDo cy (d1 1) (E1 1) ++ wDo cy (d1 2) (E1 2) ++ wDo cy (d1 3) M ++ wDo cy q M) := hD
    exact W.vret hx hb hr (fun t ht hW => ⟨⟨(4, d1, va_up E1 3 M), rfl, (show 4 ≤ 4 by decide), by show va_P G vwCl (wHi cy h 4 d1 (va_up E1 3 M) ++ wDo cy q M) t.heap; rw [ht]; exact hP, hD⟩, hS.F ht⟩) hS.2.2 dX2_record_35 hlocks
theorem kX2_record (l : Launch) (G : va_G) (cy : Nat → ClassId) {H0 : Heap} {h : Nat → Nat} {d : Nat → Nat → Nat} {E : Nat → MT} {A0 : Nat → Prop} {q : Nat → Nat} {M : MT} (k : Nat) (hk : k ≤ 4) (hP : va_P G vwCl (wHi cy h k d E ++ wDo cy q M) H0) (hD0 : va_D A0 (wHi cy h k d E ++ wDo cy q M)) : MutH l yX2_record wsX2_record 2 80 [.ref (h 0), .ref (q 0)] H0 G cy (fun k => k ≤ 4) h (wHi cy h k d E ++ wDo cy q M) (wDo cy q M) := by
  match k, hk with
  | 0, _ => exact kX2_record_0 l G cy hP hD0
  | 1, _ => exact kX2_record_1 l G cy hP hD0
  | 2, _ => exact kX2_record_2 l G cy hP hD0
  | 3, _ => exact kX2_record_3 l G cy hP hD0
  | 4, _ => exact kX2_record_4 l G cy hP hD0
