set_option maxHeartbeats 4000000 in
set_option maxRecDepth 100000 in
theorem kL_areOrders (l : Launch) (G : va_G) (cy : Nat → ClassId) {H0 : Heap} {z : Nat} {q h x r y L : Nat → Nat} {M : MT} {ru : Nat → Option Nat} {kn : Nat → Bool} {va : Nat → UInt32} {A0 : Nat → Prop} (hW : WB M) (hF : WF M) (hU : ∀ k, rngB (mU M k) = true) (hT : Fin32 (mT M)) (hN : mN M ≤ 15) (hP : va_P G vwCl ([oSy z q h x r y] ++ (wRe cy r (q 0) ru kn va ++ wDo cy q M) ++ wLa cy L M) H0) (hD0 : va_D A0 ([oSy z q h x r y] ++ (wRe cy r (q 0) ru kn va ++ wDo cy q M) ++ wLa cy L M)) (hH : ∀ k, Fin32 (mH M k)) : MutN l yL_areOrders wsL_areOrders 7 170 1 1 [.ref z, .ref (L 0), .ref (L 1), .ref (L 2), .ref (L 3), .ref (L 4)] H0 G cy 1 ([oSy z q h x r y] ++ (wRe cy r (q 0) ru kn va ++ wDo cy q M) ++ wLa cy L M) ([oSy z q h x r y] ++ (wRe cy r (q 0) (rl M) (kF M) (vF M) ++ wDo cy q M) ++ wLa cy L M) := by
  refine Met.ofW (cc := cL_areOrders) (maxL := 13) (ret := (some .boolean)) (by decide) rfl ?_
  intro p e s m args below meth c s₁ B hml hv
  obtain ⟨rfl, hH, hK⟩ := hv
  subst hH
  have hx := B.exec
  have hb := B.bytes
  have hr := B.returns
  have hts := atoms_spec (ws := wsL_areOrders) B.pre
  have hown : s.vm.findClass RL = some m.cls := findClass_of_methodNamed B.named
  have hlocks := B.notSynchronized
  have hl := lv_entry ([.ref z, .ref (L 0), .ref (L 1), .ref (L 2), .ref (L 3), .ref (L 4)]) (n := 13) (Nat.le_of_ble_eq_true rfl)
  rw [lg_entry_eq]
  generalize (lg_sl ([.ref z, .ref (L 0), .ref (L 1), .ref (L 2), .ref (L 3), .ref (L 4)]) ++ List.replicate (13 - (lg_sl ([.ref z, .ref (L 0), .ref (L 1), .ref (L 2), .ref (L 3), .ref (L 4)])).length) Slot.unset).toArray = ls at hl ⊢
  have hl : lv_has ls 13 [(0, .ref z), (1, .ref (L 0)), (2, .ref (L 1)), (3, .ref (L 2)), (4, .ref (L 3)), (5, .ref (L 4))] := hl
  obtain ⟨bP, bN, bR, bO, bW, bL, bF⟩ := id hW
  have hD := hD0.self (sz := s.heap.size)
  generalize hAe : va_A ([oSy z q h x r y] ++ (wRe cy r (q 0) ru kn va ++ wDo cy q M) ++ wLa cy L M) s.heap.size = A at hD ⊢
  have hA : ∀ q : Nat, s.heap.size ≤ q → A q := fun q h => by rw [← hAe]; exact Or.inr h
  have hS : va_S A s.heap s.heap [] := va_S.rf
  refine lv_iconst (v := nI 1) hx hb dL_areOrders_0 (by decide +kernel) ?_
  refine o_newD hx hb (hts (.arrayClass .double) (by decide +kernel)) hK hP hD hS hA (n := 1) (by decide) (Nat.le_of_ble_eq_true rfl) (Nat.le_of_ble_eq_true rfl) dL_areOrders_1 (fun ua H hP hD hS => ?_)
  have hP : va_P G vwCl ([oSy z q h x r y] ++ wRe cy r (q 0) ru kn va ++ wDo cy q M ++ wLa cy L M ++ [(ua, eD cy 1 ((fun _ => 0)))]) H := hP
  have hD : va_D A ([oSy z q h x r y] ++ wRe cy r (q 0) ru kn va ++ wDo cy q M ++ wLa cy L M ++ [(ua, eD cy 1 ((fun _ => 0)))]) := hD
  refine lv_astore (lv' := [(6, .ref ua), (0, .ref z), (1, .ref (L 0)), (2, .ref (L 1)), (3, .ref (L 2)), (4, .ref (L 3)), (5, .ref (L 4))]) hx hb dL_areOrders_3 hl (by decide) rfl (fun ls hl => ?_)
  refine lv_iconst (v := nI 0) hx hb dL_areOrders_5 (by decide +kernel) ?_
  refine lv_istore (lv' := [(7, .int (nI 0)), (6, .ref ua), (0, .ref z), (1, .ref (L 0)), (2, .ref (L 1)), (3, .ref (L 2)), (4, .ref (L 3)), (5, .ref (L 4))]) hx hb dL_areOrders_6 hl (by decide) rfl (fun ls hl => ?_)
  refine lv_iconst (v := nI 0) hx hb dL_areOrders_8 (by decide +kernel) ?_
  refine lv_istore (lv' := [(8, .int (nI 0)), (7, .int (nI 0)), (6, .ref ua), (0, .ref z), (1, .ref (L 0)), (2, .ref (L 1)), (3, .ref (L 2)), (4, .ref (L 3)), (5, .ref (L 4))]) hx hb dL_areOrders_9 hl (by decide) rfl (fun ls hl => ?_)
  refine o_loopM (σ := Nat × (Nat → Option Nat) × (Nat → Bool) × (Nat → UInt32) × (Nat → UInt64)) (fun (x_ : Nat × (Nat → Option Nat) × (Nat → Bool) × (Nat → UInt32) × (Nat → UInt64)) (H : Heap) (locs : List Loc) => match x_ with | (k, ru1, kn1, va1, u1) => k ≤ mN M ∧ va_P G vwCl ([oSy z q h x r y] ++ (wRe cy r (q 0) ru1 kn1 va1 ++ wDo cy q M) ++ (wLa cy L M ++ [(ua, eD cy 1 u1)])) H ∧ va_D A ([oSy z q h x r y] ++ (wRe cy r (q 0) ru1 kn1 va1 ++ wDo cy q M) ++ (wLa cy L M ++ [(ua, eD cy 1 u1)])) ∧ va_S A s.heap H locs) (fun (x_ : Nat × (Nat → Option Nat) × (Nat → Bool) × (Nat → UInt32) × (Nat → UInt64)) => match x_ with | (k, ru1, kn1, va1, u1) => [(8, .int (nI k)), (7, .int (nI (cR (ftB M 1) 0 k))), (0, .ref z), (1, .ref (L 0)), (2, .ref (L 1)), (3, .ref (L 2)), (4, .ref (L 3)), (5, .ref (L 4)), (6, .ref ua)]) (fun (x_ : Nat × (Nat → Option Nat) × (Nat → Bool) × (Nat → UInt32) × (Nat → UInt64)) => match x_ with | (k, ru1, kn1, va1, u1) => mN M - k) (0, ru, kn, va, (fun _ => 0)) ⟨Nat.zero_le _, hP, hD, hS⟩ (lv_sub hl [0, 1, 3, 4, 5, 6, 7, 8, 2] rfl) ?_
  rintro ⟨k, ru1, kn1, va1, u1⟩ ls H locs ⟨h1, hP, hD, hS⟩ hl ih11
  have hl : lv_has ls 13 [(8, .int (nI k)), (7, .int (nI (cR (ftB M 1) 0 k))), (0, .ref z), (1, .ref (L 0)), (2, .ref (L 1)), (3, .ref (L 2)), (4, .ref (L 3)), (5, .ref (L 4)), (6, .ref ua)] := hl
  have hPl := hP.sub (ws' := wLa cy L M) [14, 15, 16, 17, 18] rfl
  have hPq := hP.sub (ws' := [oSy z q h x r y] ++ wDo cy q M) [0, 5, 6, 7, 8, 9, 10, 11, 12, 13] rfl
  have b1 := bW k
  have b2 := bO k
  have b3 := bF k
  refine lv_iload hx hb dL_areOrders_11 (lv_at hl 0 rfl) ?_
  refine lv_aload_n hx hb dL_areOrders_13 rfl (lv_at hl 3 rfl) ?_
  refine lv_iconst (v := nI 1) hx hb dL_areOrders_14 (by decide +kernel) ?_
  refine o_iald hx hb hK hP 14 0 rfl rfl 1 (by omega) (by decide) dL_areOrders_15 ?_
  rw [show gI M 1 = mN M from rfl]
  refine o_icmp_ge (tgt := 417) hx hb dL_areOrders_16 (by decide) (by omega) (by omega) (fun c16 => ?_) (fun c16 => ?_)
  · obtain rfl : k = mN M := by omega
    refine lv_aload_n hx hb dL_areOrders_417 rfl (lv_at hl 2 rfl) ?_
    refine lv_iconst (v := nI 0) hx hb dL_areOrders_418 (by decide +kernel) ?_
    have hPc := hP.sub (ws' := [oSy z q h x r y] ++ (wRe cy r (q 0) ru1 kn1 va1 ++ wDo cy q M)) [0, 1, 2, 3, 4, 5, 6, 7, 8, 9, 10, 11, 12, 13] rfl
    have hDc := hD.sub (ws' := [oSy z q h x r y] ++ (wRe cy r (q 0) ru1 kn1 va1 ++ wDo cy q M)) [0, 1, 2, 3, 4, 5, 6, 7, 8, 9, 10, 11, 12, 13] (by decide) rfl
    have hFc := va_free (wc := [oSy z q h x r y] ++ (wRe cy r (q 0) ru1 kn1 va1 ++ wDo cy q M)) hD hS hA [0, 1, 2, 3, 4, 5, 6, 7, 8, 9, 10, 11, 12, 13] rfl
    refine va_calli (va_runV (As := [.int (nI 0)]) (rest := []) ⟨hx, hb, hml, hown, hts⟩ (kX7_count_0 l G cy hW hF hPc hDc) (cwV 1 hts gL_areOrders_X7_count rfl rfl rfl (by decide +kernel) ⟨Nat.le_of_ble_eq_true rfl, Nat.le_of_ble_eq_true rfl⟩) ⟨pR_blind, va_recv hK hP (ci := 6) (q0 := 0) rfl rfl, pR_at hK⟩ rfl rfl hl.1 rfl (lv_room (Nat.le_of_ble_eq_true rfl)) dL_areOrders_419 ⟨Nat.le_of_ble_eq_true rfl, Nat.le_of_ble_eq_true rfl⟩) hS (fun q _ h => hFc q h) hFc (fun r_ u_ t_ H locs ht hvm hw_ hB hz1 hk1 hS => ?_)
    rw [ht] at hB
    have hP : va_P G vwCl ([oSy z q h x r y] ++ wRe cy r (q 0) (rl M) (kF M) (vF M) ++ wDo cy q M ++ wLa cy L M ++ [(ua, eD cy 1 u1)]) H := (o_join hP hD [0, 1, 2, 3, 4, 5, 6, 7, 8, 9, 10, 11, 12, 13] [14, 15, 16, 17, 18, 19] rfl (wr := wLa cy L M ++ [(ua, eD cy 1 u1)]) rfl (by decide) (by decide) (by decide) hk1 hFc hB rfl).sub [6, 7, 8, 9, 10, 11, 12, 13, 14, 15, 16, 17, 18, 19, 0, 1, 2, 3, 4, 5] rfl
    have hD : va_D A ([oSy z q h x r y] ++ wRe cy r (q 0) (rl M) (kF M) (vF M) ++ wDo cy q M ++ wLa cy L M ++ [(ua, eD cy 1 u1)]) := vd_same hD rfl
    obtain rfl : r_ = nI (mP M) := hw_
    have hPl := hP.sub (ws' := wLa cy L M) [14, 15, 16, 17, 18] rfl
    have hPq := hP.sub (ws' := [oSy z q h x r y] ++ wDo cy q M) [0, 5, 6, 7, 8, 9, 10, 11, 12, 13] rfl
    refine lv_aload_n hx hb dL_areOrders_422 rfl (lv_at hl 3 rfl) ?_
    refine lv_iconst (v := nI 0) hx hb dL_areOrders_423 (by decide +kernel) ?_
    refine o_iald hx hb hK hP 14 0 rfl rfl 0 (by omega) (by decide) dL_areOrders_424 ?_
    rw [show gI M 0 = mP M from rfl]
    refine lv_icmp_ne (tgt := 498) hx hb dL_areOrders_425 (by decide) (fun c425 => ?_) (fun c425 => ?_)
    · exact absurd rfl c425
    · refine lv_aload_n hx hb dL_areOrders_428 rfl (lv_at hl 2 rfl) ?_
      refine lv_iconst (v := nI 1) hx hb dL_areOrders_429 (by decide +kernel) ?_
      have hPc := hP.sub (ws' := [oSy z q h x r y] ++ (wRe cy r (q 0) (rl M) (kF M) (vF M) ++ wDo cy q M)) [0, 1, 2, 3, 4, 5, 6, 7, 8, 9, 10, 11, 12, 13] rfl
      have hDc := hD.sub (ws' := [oSy z q h x r y] ++ (wRe cy r (q 0) (rl M) (kF M) (vF M) ++ wDo cy q M)) [0, 1, 2, 3, 4, 5, 6, 7, 8, 9, 10, 11, 12, 13] (by decide) rfl
      have hFc := va_free (wc := [oSy z q h x r y] ++ (wRe cy r (q 0) (rl M) (kF M) (vF M) ++ wDo cy q M)) hD hS hA [0, 1, 2, 3, 4, 5, 6, 7, 8, 9, 10, 11, 12, 13] rfl
      refine va_calli (va_runV (As := [.int (nI 1)]) (rest := []) ⟨hx, hb, hml, hown, hts⟩ (kX7_count_1 l G cy hW hF hPc hDc) (cwV 1 hts gL_areOrders_X7_count rfl rfl rfl (by decide +kernel) ⟨Nat.le_of_ble_eq_true rfl, Nat.le_of_ble_eq_true rfl⟩) ⟨pR_blind, va_recv hK hP (ci := 6) (q0 := 0) rfl rfl, pR_at hK⟩ rfl rfl hl.1 rfl (lv_room (Nat.le_of_ble_eq_true rfl)) dL_areOrders_430 ⟨Nat.le_of_ble_eq_true rfl, Nat.le_of_ble_eq_true rfl⟩) hS (fun q _ h => hFc q h) hFc (fun r_ u_ t_ H locs ht hvm hw_ hB hz1 hk1 hS => ?_)
      rw [ht] at hB
      have hP : va_P G vwCl ([oSy z q h x r y] ++ wRe cy r (q 0) (rl M) (kF M) (vF M) ++ wDo cy q M ++ wLa cy L M ++ [(ua, eD cy 1 u1)]) H := (o_join hP hD [0, 1, 2, 3, 4, 5, 6, 7, 8, 9, 10, 11, 12, 13] [14, 15, 16, 17, 18, 19] rfl (wr := wLa cy L M ++ [(ua, eD cy 1 u1)]) rfl (by decide) (by decide) (by decide) hk1 hFc hB rfl).sub [6, 7, 8, 9, 10, 11, 12, 13, 14, 15, 16, 17, 18, 19, 0, 1, 2, 3, 4, 5] rfl
      have hD : va_D A ([oSy z q h x r y] ++ wRe cy r (q 0) (rl M) (kF M) (vF M) ++ wDo cy q M ++ wLa cy L M ++ [(ua, eD cy 1 u1)]) := vd_same hD rfl
      obtain rfl : r_ = nI (mN M) := hw_
      have hPl := hP.sub (ws' := wLa cy L M) [14, 15, 16, 17, 18] rfl
      have hPq := hP.sub (ws' := [oSy z q h x r y] ++ wDo cy q M) [0, 5, 6, 7, 8, 9, 10, 11, 12, 13] rfl
      refine lv_aload_n hx hb dL_areOrders_433 rfl (lv_at hl 3 rfl) ?_
      refine lv_iconst (v := nI 1) hx hb dL_areOrders_434 (by decide +kernel) ?_
      refine o_iald hx hb hK hP 14 0 rfl rfl 1 (by omega) (by decide) dL_areOrders_435 ?_
      rw [show gI M 1 = mN M from rfl]
      refine lv_icmp_ne (tgt := 498) hx hb dL_areOrders_436 (by decide) (fun c436 => ?_) (fun c436 => ?_)
      · exact absurd rfl c436
      · refine lv_aload_n hx hb dL_areOrders_439 rfl (lv_at hl 2 rfl) ?_
        refine lv_iconst (v := nI 2) hx hb dL_areOrders_440 (by decide +kernel) ?_
        have hPc := hP.sub (ws' := [oSy z q h x r y] ++ (wRe cy r (q 0) (rl M) (kF M) (vF M) ++ wDo cy q M)) [0, 1, 2, 3, 4, 5, 6, 7, 8, 9, 10, 11, 12, 13] rfl
        have hDc := hD.sub (ws' := [oSy z q h x r y] ++ (wRe cy r (q 0) (rl M) (kF M) (vF M) ++ wDo cy q M)) [0, 1, 2, 3, 4, 5, 6, 7, 8, 9, 10, 11, 12, 13] (by decide) rfl
        have hFc := va_free (wc := [oSy z q h x r y] ++ (wRe cy r (q 0) (rl M) (kF M) (vF M) ++ wDo cy q M)) hD hS hA [0, 1, 2, 3, 4, 5, 6, 7, 8, 9, 10, 11, 12, 13] rfl
        refine va_calli (va_runV (As := [.int (nI 2)]) (rest := []) ⟨hx, hb, hml, hown, hts⟩ (kX7_count_2 l G cy hW hF hPc hDc) (cwV 1 hts gL_areOrders_X7_count rfl rfl rfl (by decide +kernel) ⟨Nat.le_of_ble_eq_true rfl, Nat.le_of_ble_eq_true rfl⟩) ⟨pR_blind, va_recv hK hP (ci := 6) (q0 := 0) rfl rfl, pR_at hK⟩ rfl rfl hl.1 rfl (lv_room (Nat.le_of_ble_eq_true rfl)) dL_areOrders_441 ⟨Nat.le_of_ble_eq_true rfl, Nat.le_of_ble_eq_true rfl⟩) hS (fun q _ h => hFc q h) hFc (fun r_ u_ t_ H locs ht hvm hw_ hB hz1 hk1 hS => ?_)
        rw [ht] at hB
        have hP : va_P G vwCl ([oSy z q h x r y] ++ wRe cy r (q 0) (rl M) (kF M) (vF M) ++ wDo cy q M ++ wLa cy L M ++ [(ua, eD cy 1 u1)]) H := (o_join hP hD [0, 1, 2, 3, 4, 5, 6, 7, 8, 9, 10, 11, 12, 13] [14, 15, 16, 17, 18, 19] rfl (wr := wLa cy L M ++ [(ua, eD cy 1 u1)]) rfl (by decide) (by decide) (by decide) hk1 hFc hB rfl).sub [6, 7, 8, 9, 10, 11, 12, 13, 14, 15, 16, 17, 18, 19, 0, 1, 2, 3, 4, 5] rfl
        have hD : va_D A ([oSy z q h x r y] ++ wRe cy r (q 0) (rl M) (kF M) (vF M) ++ wDo cy q M ++ wLa cy L M ++ [(ua, eD cy 1 u1)]) := vd_same hD rfl
        obtain rfl : r_ = nI (cR (ftB M 1) 0 (mN M)) := hw_
        have hPl := hP.sub (ws' := wLa cy L M) [14, 15, 16, 17, 18] rfl
        have hPq := hP.sub (ws' := [oSy z q h x r y] ++ wDo cy q M) [0, 5, 6, 7, 8, 9, 10, 11, 12, 13] rfl
        refine lv_iload hx hb dL_areOrders_444 (lv_at hl 1 rfl) ?_
        refine lv_icmp_ne (tgt := 498) hx hb dL_areOrders_446 (by decide) (fun c446 => ?_) (fun c446 => ?_)
        · exact absurd rfl c446
        · refine lv_aload_n hx hb dL_areOrders_449 rfl (lv_at hl 2 rfl) ?_
          refine lv_iconst (v := nI 3) hx hb dL_areOrders_450 (by decide +kernel) ?_
          have hPc := hP.sub (ws' := [oSy z q h x r y] ++ (wRe cy r (q 0) (rl M) (kF M) (vF M) ++ wDo cy q M)) [0, 1, 2, 3, 4, 5, 6, 7, 8, 9, 10, 11, 12, 13] rfl
          have hDc := hD.sub (ws' := [oSy z q h x r y] ++ (wRe cy r (q 0) (rl M) (kF M) (vF M) ++ wDo cy q M)) [0, 1, 2, 3, 4, 5, 6, 7, 8, 9, 10, 11, 12, 13] (by decide) rfl
          have hFc := va_free (wc := [oSy z q h x r y] ++ (wRe cy r (q 0) (rl M) (kF M) (vF M) ++ wDo cy q M)) hD hS hA [0, 1, 2, 3, 4, 5, 6, 7, 8, 9, 10, 11, 12, 13] rfl
          refine va_calli (va_runV (As := [.int (nI 3)]) (rest := []) ⟨hx, hb, hml, hown, hts⟩ (kX7_count_3 l G cy hW hF hPc hDc) (cwV 1 hts gL_areOrders_X7_count rfl rfl rfl (by decide +kernel) ⟨Nat.le_of_ble_eq_true rfl, Nat.le_of_ble_eq_true rfl⟩) ⟨pR_blind, va_recv hK hP (ci := 6) (q0 := 0) rfl rfl, pR_at hK⟩ rfl rfl hl.1 rfl (lv_room (Nat.le_of_ble_eq_true rfl)) dL_areOrders_451 ⟨Nat.le_of_ble_eq_true rfl, Nat.le_of_ble_eq_true rfl⟩) hS (fun q _ h => hFc q h) hFc (fun r_ u_ t_ H locs ht hvm hw_ hB hz1 hk1 hS => ?_)
          rw [ht] at hB
          have hP : va_P G vwCl ([oSy z q h x r y] ++ wRe cy r (q 0) (rl M) (kF M) (vF M) ++ wDo cy q M ++ wLa cy L M ++ [(ua, eD cy 1 u1)]) H := (o_join hP hD [0, 1, 2, 3, 4, 5, 6, 7, 8, 9, 10, 11, 12, 13] [14, 15, 16, 17, 18, 19] rfl (wr := wLa cy L M ++ [(ua, eD cy 1 u1)]) rfl (by decide) (by decide) (by decide) hk1 hFc hB rfl).sub [6, 7, 8, 9, 10, 11, 12, 13, 14, 15, 16, 17, 18, 19, 0, 1, 2, 3, 4, 5] rfl
          have hD : va_D A ([oSy z q h x r y] ++ wRe cy r (q 0) (rl M) (kF M) (vF M) ++ wDo cy q M ++ wLa cy L M ++ [(ua, eD cy 1 u1)]) := vd_same hD rfl
          obtain rfl : r_ = nI (cR (ftB M 2) 0 (mN M)) := hw_
          have hPl := hP.sub (ws' := wLa cy L M) [14, 15, 16, 17, 18] rfl
          have hPq := hP.sub (ws' := [oSy z q h x r y] ++ wDo cy q M) [0, 5, 6, 7, 8, 9, 10, 11, 12, 13] rfl
          refine lv_aload_n hx hb dL_areOrders_454 rfl (lv_at hl 3 rfl) ?_
          refine lv_iconst (v := nI 2) hx hb dL_areOrders_455 (by decide +kernel) ?_
          refine o_iald hx hb hK hP 14 0 rfl rfl 2 (by omega) (by decide) dL_areOrders_456 ?_
          rw [show gI M 2 = cR (ftB M 2) 0 (mN M) from rfl]
          refine lv_icmp_ne (tgt := 498) hx hb dL_areOrders_457 (by decide) (fun c457 => ?_) (fun c457 => ?_)
          · exact absurd rfl c457
          · refine lv_aload_n hx hb dL_areOrders_460 rfl (lv_at hl 2 rfl) ?_
            refine lv_iconst (v := nI 4) hx hb dL_areOrders_461 (by decide +kernel) ?_
            have hPc := hP.sub (ws' := [oSy z q h x r y] ++ (wRe cy r (q 0) (rl M) (kF M) (vF M) ++ wDo cy q M)) [0, 1, 2, 3, 4, 5, 6, 7, 8, 9, 10, 11, 12, 13] rfl
            have hDc := hD.sub (ws' := [oSy z q h x r y] ++ (wRe cy r (q 0) (rl M) (kF M) (vF M) ++ wDo cy q M)) [0, 1, 2, 3, 4, 5, 6, 7, 8, 9, 10, 11, 12, 13] (by decide) rfl
            have hFc := va_free (wc := [oSy z q h x r y] ++ (wRe cy r (q 0) (rl M) (kF M) (vF M) ++ wDo cy q M)) hD hS hA [0, 1, 2, 3, 4, 5, 6, 7, 8, 9, 10, 11, 12, 13] rfl
            refine va_calli (va_runV (As := [.int (nI 4)]) (rest := []) ⟨hx, hb, hml, hown, hts⟩ (kX7_count_4 l G cy hW hF hPc hDc) (cwV 1 hts gL_areOrders_X7_count rfl rfl rfl (by decide +kernel) ⟨Nat.le_of_ble_eq_true rfl, Nat.le_of_ble_eq_true rfl⟩) ⟨pR_blind, va_recv hK hP (ci := 6) (q0 := 0) rfl rfl, pR_at hK⟩ rfl rfl hl.1 rfl (lv_room (Nat.le_of_ble_eq_true rfl)) dL_areOrders_462 ⟨Nat.le_of_ble_eq_true rfl, Nat.le_of_ble_eq_true rfl⟩) hS (fun q _ h => hFc q h) hFc (fun r_ u_ t_ H locs ht hvm hw_ hB hz1 hk1 hS => ?_)
            rw [ht] at hB
            have hP : va_P G vwCl ([oSy z q h x r y] ++ wRe cy r (q 0) (rl M) (kF M) (vF M) ++ wDo cy q M ++ wLa cy L M ++ [(ua, eD cy 1 u1)]) H := (o_join hP hD [0, 1, 2, 3, 4, 5, 6, 7, 8, 9, 10, 11, 12, 13] [14, 15, 16, 17, 18, 19] rfl (wr := wLa cy L M ++ [(ua, eD cy 1 u1)]) rfl (by decide) (by decide) (by decide) hk1 hFc hB rfl).sub [6, 7, 8, 9, 10, 11, 12, 13, 14, 15, 16, 17, 18, 19, 0, 1, 2, 3, 4, 5] rfl
            have hD : va_D A ([oSy z q h x r y] ++ wRe cy r (q 0) (rl M) (kF M) (vF M) ++ wDo cy q M ++ wLa cy L M ++ [(ua, eD cy 1 u1)]) := vd_same hD rfl
            obtain rfl : r_ = nI (cR (ftB M 3) 0 (mN M)) := hw_
            have hPl := hP.sub (ws' := wLa cy L M) [14, 15, 16, 17, 18] rfl
            have hPq := hP.sub (ws' := [oSy z q h x r y] ++ wDo cy q M) [0, 5, 6, 7, 8, 9, 10, 11, 12, 13] rfl
            refine lv_aload_n hx hb dL_areOrders_465 rfl (lv_at hl 3 rfl) ?_
            refine lv_iconst (v := nI 3) hx hb dL_areOrders_466 (by decide +kernel) ?_
            refine o_iald hx hb hK hP 14 0 rfl rfl 3 (by omega) (by decide) dL_areOrders_467 ?_
            rw [show gI M 3 = cR (ftB M 3) 0 (mN M) from rfl]
            refine lv_icmp_ne (tgt := 498) hx hb dL_areOrders_468 (by decide) (fun c468 => ?_) (fun c468 => ?_)
            · exact absurd rfl c468
            · refine lv_aload_n hx hb dL_areOrders_471 rfl (lv_at hl 2 rfl) ?_
              refine lv_bipush (v := nI 9) hx hb dL_areOrders_472 (by decide +kernel) ?_
              have hPc := hP.sub (ws' := [oSy z q h x r y] ++ (wRe cy r (q 0) (rl M) (kF M) (vF M) ++ wDo cy q M)) [0, 1, 2, 3, 4, 5, 6, 7, 8, 9, 10, 11, 12, 13] rfl
              have hDc := hD.sub (ws' := [oSy z q h x r y] ++ (wRe cy r (q 0) (rl M) (kF M) (vF M) ++ wDo cy q M)) [0, 1, 2, 3, 4, 5, 6, 7, 8, 9, 10, 11, 12, 13] (by decide) rfl
              have hFc := va_free (wc := [oSy z q h x r y] ++ (wRe cy r (q 0) (rl M) (kF M) (vF M) ++ wDo cy q M)) hD hS hA [0, 1, 2, 3, 4, 5, 6, 7, 8, 9, 10, 11, 12, 13] rfl
              refine va_calli (va_runV (As := [.int (nI 9)]) (rest := []) ⟨hx, hb, hml, hown, hts⟩ (kX7_count_9 l G cy hW hF hPc hDc) (cwV 1 hts gL_areOrders_X7_count rfl rfl rfl (by decide +kernel) ⟨Nat.le_of_ble_eq_true rfl, Nat.le_of_ble_eq_true rfl⟩) ⟨pR_blind, va_recv hK hP (ci := 6) (q0 := 0) rfl rfl, pR_at hK⟩ rfl rfl hl.1 rfl (lv_room (Nat.le_of_ble_eq_true rfl)) dL_areOrders_474 ⟨Nat.le_of_ble_eq_true rfl, Nat.le_of_ble_eq_true rfl⟩) hS (fun q _ h => hFc q h) hFc (fun r_ u_ t_ H locs ht hvm hw_ hB hz1 hk1 hS => ?_)
              rw [ht] at hB
              have hP : va_P G vwCl ([oSy z q h x r y] ++ wRe cy r (q 0) (rl M) (kF M) (vF M) ++ wDo cy q M ++ wLa cy L M ++ [(ua, eD cy 1 u1)]) H := (o_join hP hD [0, 1, 2, 3, 4, 5, 6, 7, 8, 9, 10, 11, 12, 13] [14, 15, 16, 17, 18, 19] rfl (wr := wLa cy L M ++ [(ua, eD cy 1 u1)]) rfl (by decide) (by decide) (by decide) hk1 hFc hB rfl).sub [6, 7, 8, 9, 10, 11, 12, 13, 14, 15, 16, 17, 18, 19, 0, 1, 2, 3, 4, 5] rfl
              have hD : va_D A ([oSy z q h x r y] ++ wRe cy r (q 0) (rl M) (kF M) (vF M) ++ wDo cy q M ++ wLa cy L M ++ [(ua, eD cy 1 u1)]) := vd_same hD rfl
              obtain rfl : r_ = nI (mS M) := hw_
              have hPl := hP.sub (ws' := wLa cy L M) [14, 15, 16, 17, 18] rfl
              have hPq := hP.sub (ws' := [oSy z q h x r y] ++ wDo cy q M) [0, 5, 6, 7, 8, 9, 10, 11, 12, 13] rfl
              refine lv_aload_n hx hb dL_areOrders_477 rfl (lv_at hl 3 rfl) ?_
              refine lv_iconst (v := nI 4) hx hb dL_areOrders_478 (by decide +kernel) ?_
              refine o_iald hx hb hK hP 14 0 rfl rfl 4 (by omega) (by decide) dL_areOrders_479 ?_
              rw [show gI M 4 = mS M from rfl]
              refine lv_icmp_ne (tgt := 498) hx hb dL_areOrders_480 (by decide) (fun c480 => ?_) (fun c480 => ?_)
              · exact absurd rfl c480
              · refine lv_aload_n hx hb dL_areOrders_483 rfl (lv_at hl 2 rfl) ?_
                refine lv_bipush (v := nI 13) hx hb dL_areOrders_484 (by decide +kernel) ?_
                have hPc := hP.sub (ws' := [oSy z q h x r y] ++ (wRe cy r (q 0) (rl M) (kF M) (vF M) ++ wDo cy q M)) [0, 1, 2, 3, 4, 5, 6, 7, 8, 9, 10, 11, 12, 13] rfl
                have hDc := hD.sub (ws' := [oSy z q h x r y] ++ (wRe cy r (q 0) (rl M) (kF M) (vF M) ++ wDo cy q M)) [0, 1, 2, 3, 4, 5, 6, 7, 8, 9, 10, 11, 12, 13] (by decide) rfl
                have hFc := va_free (wc := [oSy z q h x r y] ++ (wRe cy r (q 0) (rl M) (kF M) (vF M) ++ wDo cy q M)) hD hS hA [0, 1, 2, 3, 4, 5, 6, 7, 8, 9, 10, 11, 12, 13] rfl
                refine va_calli (va_runV (As := [.int (nI 13)]) (rest := []) ⟨hx, hb, hml, hown, hts⟩ (kX7_count_13 l G cy hW hF hPc hDc) (cwV 1 hts gL_areOrders_X7_count rfl rfl rfl (by decide +kernel) ⟨Nat.le_of_ble_eq_true rfl, Nat.le_of_ble_eq_true rfl⟩) ⟨pR_blind, va_recv hK hP (ci := 6) (q0 := 0) rfl rfl, pR_at hK⟩ rfl rfl hl.1 rfl (lv_room (Nat.le_of_ble_eq_true rfl)) dL_areOrders_486 ⟨Nat.le_of_ble_eq_true rfl, Nat.le_of_ble_eq_true rfl⟩) hS (fun q _ h => hFc q h) hFc (fun r_ u_ t_ H locs ht hvm hw_ hB hz1 hk1 hS => ?_)
                rw [ht] at hB
                have hP : va_P G vwCl ([oSy z q h x r y] ++ wRe cy r (q 0) (rl M) (kF M) (vF M) ++ wDo cy q M ++ wLa cy L M ++ [(ua, eD cy 1 u1)]) H := (o_join hP hD [0, 1, 2, 3, 4, 5, 6, 7, 8, 9, 10, 11, 12, 13] [14, 15, 16, 17, 18, 19] rfl (wr := wLa cy L M ++ [(ua, eD cy 1 u1)]) rfl (by decide) (by decide) (by decide) hk1 hFc hB rfl).sub [6, 7, 8, 9, 10, 11, 12, 13, 14, 15, 16, 17, 18, 19, 0, 1, 2, 3, 4, 5] rfl
                have hD : va_D A ([oSy z q h x r y] ++ wRe cy r (q 0) (rl M) (kF M) (vF M) ++ wDo cy q M ++ wLa cy L M ++ [(ua, eD cy 1 u1)]) := vd_same hD rfl
                obtain rfl : r_ = (-2) := hw_
                have hPl := hP.sub (ws' := wLa cy L M) [14, 15, 16, 17, 18] rfl
                have hPq := hP.sub (ws' := [oSy z q h x r y] ++ wDo cy q M) [0, 5, 6, 7, 8, 9, 10, 11, 12, 13] rfl
                refine lv_bipush (v := (-2)) hx hb dL_areOrders_489 (by decide +kernel) ?_
                refine lv_icmp_ne (tgt := 498) hx hb dL_areOrders_491 (by decide) (fun c491 => ?_) (fun c491 => ?_)
                · exact absurd rfl c491
                · refine lv_iconst (v := nI 1) hx hb dL_areOrders_494 (by decide +kernel) ?_
                  refine lv_goto (tgt := 499) hx hb dL_areOrders_495 (by decide) ?_
                  refine lv_istore (lv' := [(8, .int (nI 1)), (7, .int (nI (cR (ftB M 1) 0 (mN M)))), (0, .ref z), (1, .ref (L 0)), (2, .ref (L 1)), (3, .ref (L 2)), (4, .ref (L 3)), (5, .ref (L 4)), (6, .ref ua)]) hx hb dL_areOrders_499 hl (by decide) rfl (fun ls hl => ?_)
                  refine lv_iload hx hb dL_areOrders_501 (lv_at hl 0 rfl) ?_
                  refine o_if_eq (tgt := 544) hx hb dL_areOrders_503 (by decide) (by omega) (fun c503 => ?_) (fun c503 => ?_)
                  · exact absurd c503 (by decide)
                  · refine lv_aload_n hx hb dL_areOrders_506 rfl (lv_at hl 2 rfl) ?_
                    refine lv_aload_n hx hb dL_areOrders_507 rfl (lv_at hl 3 rfl) ?_
                    refine lv_iconst (v := nI 1) hx hb dL_areOrders_508 (by decide +kernel) ?_
                    refine o_iald hx hb hK hP 14 0 rfl rfl 1 (by omega) (by decide) dL_areOrders_509 ?_
                    rw [show gI M 1 = mN M from rfl]
                    refine lv_iconst (v := nI 0) hx hb dL_areOrders_510 (by decide +kernel) ?_
                    refine o_VI (As := [.int (nI (mN M)), .int (nI 0)]) (rest := []) ⟨hx, hb, hml, hown, hts⟩ (kX7_order_u l G cy hW hPq (mN M) 0 (Nat.lt_irrefl _) (by omega)) (cwV 2 hts gL_areOrders_X7_order rfl rfl rfl (by decide +kernel) ⟨Nat.le_of_ble_eq_true rfl, Nat.le_of_ble_eq_true rfl⟩) hK (va_recv hK hP (ci := 6) (q0 := 0) rfl rfl) rfl hl.1 rfl (Nat.le_of_ble_eq_true rfl) dL_areOrders_511 ⟨Nat.le_of_ble_eq_true rfl, Nat.le_of_ble_eq_true rfl⟩ ?_
                    refine lv_iconst (v := (-1)) hx hb dL_areOrders_514 (by decide +kernel) ?_
                    refine lv_icmp_ne (tgt := 544) hx hb dL_areOrders_515 (by decide) (fun c515 => ?_) (fun c515 => ?_)
                    · exact absurd rfl c515
                    · rcases Classical.em (0 < mN M) with hn0 | hn0
                      · refine lv_aload_n hx hb dL_areOrders_518 rfl (lv_at hl 2 rfl) ?_
                        refine lv_iconst (v := nI 0) hx hb dL_areOrders_519 (by decide +kernel) ?_
                        refine lv_bipush (v := nI 8) hx hb dL_areOrders_520 (by decide +kernel) ?_
                        refine o_VI (As := [.int (nI 0), .int (nI 8)]) (rest := []) ⟨hx, hb, hml, hown, hts⟩ (kX7_order_b l G cy hW hPq 0 hn0) (cwV 2 hts gL_areOrders_X7_order rfl rfl rfl (by decide +kernel) ⟨Nat.le_of_ble_eq_true rfl, Nat.le_of_ble_eq_true rfl⟩) hK (va_recv hK hP (ci := 6) (q0 := 0) rfl rfl) rfl hl.1 rfl (Nat.le_of_ble_eq_true rfl) dL_areOrders_522 ⟨Nat.le_of_ble_eq_true rfl, Nat.le_of_ble_eq_true rfl⟩ ?_
                        refine lv_aload_n hx hb dL_areOrders_525 rfl (lv_at hl 3 rfl) ?_
                        refine lv_iconst (v := nI 1) hx hb dL_areOrders_526 (by decide +kernel) ?_
                        refine o_iald hx hb hK hP 14 0 rfl rfl 1 (by omega) (by decide) dL_areOrders_527 ?_
                        rw [show gI M 1 = mN M from rfl]
                        refine o_if_le (tgt := 536) hx hb dL_areOrders_528 (by decide) (by omega) (fun c528 => ?_) (fun c528 => ?_)
                        · exact absurd c528 (by omega)
                        · refine lv_bipush (v := (-2)) hx hb dL_areOrders_531 (by decide +kernel) ?_
                          refine lv_goto (tgt := 537) hx hb dL_areOrders_533 (by decide) ?_
                          refine lv_icmp_ne (tgt := 544) hx hb dL_areOrders_537 (by decide) (fun c537 => ?_) (fun c537 => ?_)
                          · exact absurd rfl c537
                          · refine lv_iconst (v := nI 1) hx hb dL_areOrders_540 (by decide +kernel) ?_
                            refine lv_goto (tgt := 545) hx hb dL_areOrders_541 (by decide) ?_
                            exact o_endZn hx hb hr hlocks dL_areOrders_545 (by decide) (hP.sub (ws' := [oSy z q h x r y] ++ (wRe cy r (q 0) (rl M) (kF M) (vF M) ++ wDo cy q M) ++ wLa cy L M) [0, 1, 2, 3, 4, 5, 6, 7, 8, 9, 10, 11, 12, 13, 14, 15, 16, 17, 18] rfl) hS (by decide)
                      · refine lv_aload_n hx hb dL_areOrders_518 rfl (lv_at hl 2 rfl) ?_
                        refine lv_iconst (v := nI 0) hx hb dL_areOrders_519 (by decide +kernel) ?_
                        refine lv_bipush (v := nI 8) hx hb dL_areOrders_520 (by decide +kernel) ?_
                        refine o_VI (As := [.int (nI 0), .int (nI 8)]) (rest := []) ⟨hx, hb, hml, hown, hts⟩ (kX7_order_u l G cy hW hPq 0 8 hn0 (by decide)) (cwV 2 hts gL_areOrders_X7_order rfl rfl rfl (by decide +kernel) ⟨Nat.le_of_ble_eq_true rfl, Nat.le_of_ble_eq_true rfl⟩) hK (va_recv hK hP (ci := 6) (q0 := 0) rfl rfl) rfl hl.1 rfl (Nat.le_of_ble_eq_true rfl) dL_areOrders_522 ⟨Nat.le_of_ble_eq_true rfl, Nat.le_of_ble_eq_true rfl⟩ ?_
                        refine lv_aload_n hx hb dL_areOrders_525 rfl (lv_at hl 3 rfl) ?_
                        refine lv_iconst (v := nI 1) hx hb dL_areOrders_526 (by decide +kernel) ?_
                        refine o_iald hx hb hK hP 14 0 rfl rfl 1 (by omega) (by decide) dL_areOrders_527 ?_
                        rw [show gI M 1 = mN M from rfl]
                        refine o_if_le (tgt := 536) hx hb dL_areOrders_528 (by decide) (by omega) (fun c528 => ?_) (fun c528 => ?_)
                        · refine lv_iconst (v := (-1)) hx hb dL_areOrders_536 (by decide +kernel) ?_
                          refine lv_icmp_ne (tgt := 544) hx hb dL_areOrders_537 (by decide) (fun c537 => ?_) (fun c537 => ?_)
                          · exact absurd rfl c537
                          · refine lv_iconst (v := nI 1) hx hb dL_areOrders_540 (by decide +kernel) ?_
                            refine lv_goto (tgt := 545) hx hb dL_areOrders_541 (by decide) ?_
                            exact o_endZn hx hb hr hlocks dL_areOrders_545 (by decide) (hP.sub (ws' := [oSy z q h x r y] ++ (wRe cy r (q 0) (rl M) (kF M) (vF M) ++ wDo cy q M) ++ wLa cy L M) [0, 1, 2, 3, 4, 5, 6, 7, 8, 9, 10, 11, 12, 13, 14, 15, 16, 17, 18] rfl) hS (by decide)
                        · exact absurd c528 hn0
  · have hk : k < mN M := c16
    refine lv_aload_n hx hb dL_areOrders_19 rfl (lv_at hl 5 rfl) ?_
    refine lv_iconst (v := nI 4) hx hb dL_areOrders_20 (by decide +kernel) ?_
    refine lv_iload hx hb dL_areOrders_21 (lv_at hl 0 rfl) ?_
    refine lv_imul hx hb dL_areOrders_23 ?_
    rw [pk_mul]
    refine lv_iconst (v := nI 3) hx hb dL_areOrders_24 (by decide +kernel) ?_
    refine lv_iadd hx hb dL_areOrders_25 ?_
    rw [nI_add]
    refine o_iald hx hb hK hP 16 0 rfl rfl ((4 * k) + 3) (by omega) (by decide) dL_areOrders_26 ?_
    rw [aI_3]
    refine lv_iconst (v := nI 1) hx hb dL_areOrders_27 (by decide +kernel) ?_
    refine o_icmp1_ne (tgt := 35) hx hb dL_areOrders_28 (by decide) (fun c28 => ?_) (fun c28 => ?_)
    · refine lv_iconst (v := nI 0) hx hb dL_areOrders_35 (by decide +kernel) ?_
      refine lv_istore (lv' := [(9, .int (nI 0)), (8, .int (nI k)), (7, .int (nI (cR (ftB M 1) 0 k))), (0, .ref z), (1, .ref (L 0)), (2, .ref (L 1)), (3, .ref (L 2)), (4, .ref (L 3)), (5, .ref (L 4)), (6, .ref ua)]) hx hb dL_areOrders_36 hl (by decide) rfl (fun ls hl => ?_)
      refine lv_iconst (v := nI 0) hx hb dL_areOrders_38 (by decide +kernel) ?_
      refine lv_istore (lv' := [(10, .int (nI 0)), (9, .int (nI 0)), (8, .int (nI k)), (7, .int (nI (cR (ftB M 1) 0 k))), (0, .ref z), (1, .ref (L 0)), (2, .ref (L 1)), (3, .ref (L 2)), (4, .ref (L 3)), (5, .ref (L 4)), (6, .ref ua)]) hx hb dL_areOrders_39 hl (by decide) rfl (fun ls hl => ?_)
      refine lv_iconst (v := nI 0) hx hb dL_areOrders_41 (by decide +kernel) ?_
      refine lv_istore (lv' := [(11, .int (nI 0)), (10, .int (nI 0)), (9, .int (nI 0)), (8, .int (nI k)), (7, .int (nI (cR (ftB M 1) 0 k))), (0, .ref z), (1, .ref (L 0)), (2, .ref (L 1)), (3, .ref (L 2)), (4, .ref (L 3)), (5, .ref (L 4)), (6, .ref ua)]) hx hb dL_areOrders_42 hl (by decide) rfl (fun ls hl => ?_)
      refine o_loop (σ := Nat) (fun (i : Nat) => i ≤ k) (fun (i : Nat) => [(11, .int (nI i)), (10, .int (nI (cR (hfB M (mW M k)) 0 i))), (9, .int (nI 0)), (8, .int (nI k)), (7, .int (nI (cR (ftB M 1) 0 k))), (0, .ref z), (1, .ref (L 0)), (2, .ref (L 1)), (3, .ref (L 2)), (4, .ref (L 3)), (5, .ref (L 4)), (6, .ref ua)]) (fun (i : Nat) => k - i) 0 (Nat.zero_le _) (lv_sub hl [0, 1, 2, 3, 4, 5, 6, 7, 8, 9, 10, 11] rfl) ?_
      rintro i ls h2 hl ih44
      have hl : lv_has ls 13 [(11, .int (nI i)), (10, .int (nI (cR (hfB M (mW M k)) 0 i))), (9, .int (nI 0)), (8, .int (nI k)), (7, .int (nI (cR (ftB M 1) 0 k))), (0, .ref z), (1, .ref (L 0)), (2, .ref (L 1)), (3, .ref (L 2)), (4, .ref (L 3)), (5, .ref (L 4)), (6, .ref ua)] := hl
      have b4 := bW i
      refine lv_iload hx hb dL_areOrders_44 (lv_at hl 0 rfl) ?_
      refine lv_iload hx hb dL_areOrders_46 (lv_at hl 3 rfl) ?_
      refine o_icmp_ge (tgt := 98) hx hb dL_areOrders_48 (by decide) (by omega) (by omega) (fun c48 => ?_) (fun c48 => ?_)
      · obtain rfl : k = i := by omega
        refine lv_aload_n hx hb dL_areOrders_98 rfl (lv_at hl 5 rfl) ?_
        refine lv_iload hx hb dL_areOrders_99 (lv_at hl 3 rfl) ?_
        refine lv_iconst (v := nI 0) hx hb dL_areOrders_101 (by decide +kernel) ?_
        refine o_VI (As := [.int (nI k), .int (nI 0)]) (rest := []) ⟨hx, hb, hml, hown, hts⟩ (kX7_order_0 l G cy hW hPq k hk) (cwV 2 hts gL_areOrders_X7_order rfl rfl rfl (by decide +kernel) ⟨Nat.le_of_ble_eq_true rfl, Nat.le_of_ble_eq_true rfl⟩) hK (va_recv hK hP (ci := 6) (q0 := 0) rfl rfl) rfl hl.1 rfl (Nat.le_of_ble_eq_true rfl) dL_areOrders_102 ⟨Nat.le_of_ble_eq_true rfl, Nat.le_of_ble_eq_true rfl⟩ ?_
        refine lv_aload_n hx hb dL_areOrders_105 rfl (lv_at hl 8 rfl) ?_
        refine lv_iconst (v := nI 4) hx hb dL_areOrders_106 (by decide +kernel) ?_
        refine lv_iload hx hb dL_areOrders_107 (lv_at hl 3 rfl) ?_
        refine lv_imul hx hb dL_areOrders_109 ?_
        rw [pk_mul]
        refine o_iald hx hb hK hP 16 0 rfl rfl (4 * k) (by omega) (by decide) dL_areOrders_110 ?_
        rw [aI_0]
        refine lv_icmp_ne (tgt := 221) hx hb dL_areOrders_111 (by decide) (fun c111 => ?_) (fun c111 => ?_)
        · exact absurd rfl c111
        · refine lv_aload_n hx hb dL_areOrders_114 rfl (lv_at hl 5 rfl) ?_
          refine lv_iload hx hb dL_areOrders_115 (lv_at hl 3 rfl) ?_
          refine lv_iconst (v := nI 1) hx hb dL_areOrders_117 (by decide +kernel) ?_
          refine o_VI (As := [.int (nI k), .int (nI 1)]) (rest := []) ⟨hx, hb, hml, hown, hts⟩ (kX7_order_1 l G cy hW hPq k hk) (cwV 2 hts gL_areOrders_X7_order rfl rfl rfl (by decide +kernel) ⟨Nat.le_of_ble_eq_true rfl, Nat.le_of_ble_eq_true rfl⟩) hK (va_recv hK hP (ci := 6) (q0 := 0) rfl rfl) rfl hl.1 rfl (Nat.le_of_ble_eq_true rfl) dL_areOrders_118 ⟨Nat.le_of_ble_eq_true rfl, Nat.le_of_ble_eq_true rfl⟩ ?_
          refine lv_aload_n hx hb dL_areOrders_121 rfl (lv_at hl 8 rfl) ?_
          refine lv_iconst (v := nI 4) hx hb dL_areOrders_122 (by decide +kernel) ?_
          refine lv_iload hx hb dL_areOrders_123 (lv_at hl 3 rfl) ?_
          refine lv_imul hx hb dL_areOrders_125 ?_
          rw [pk_mul]
          refine lv_iconst (v := nI 1) hx hb dL_areOrders_126 (by decide +kernel) ?_
          refine lv_iadd hx hb dL_areOrders_127 ?_
          rw [nI_add]
          refine o_iald hx hb hK hP 16 0 rfl rfl ((4 * k) + 1) (by omega) (by decide) dL_areOrders_128 ?_
          rw [aI_1]
          refine lv_icmp_ne (tgt := 221) hx hb dL_areOrders_129 (by decide) (fun c129 => ?_) (fun c129 => ?_)
          · exact absurd rfl c129
          · refine lv_aload_n hx hb dL_areOrders_132 rfl (lv_at hl 5 rfl) ?_
            refine lv_iload hx hb dL_areOrders_133 (lv_at hl 3 rfl) ?_
            refine lv_iconst (v := nI 2) hx hb dL_areOrders_135 (by decide +kernel) ?_
            refine o_VI (As := [.int (nI k), .int (nI 2)]) (rest := []) ⟨hx, hb, hml, hown, hts⟩ (kX7_order_2 l G cy hW hPq k hk) (cwV 2 hts gL_areOrders_X7_order rfl rfl rfl (by decide +kernel) ⟨Nat.le_of_ble_eq_true rfl, Nat.le_of_ble_eq_true rfl⟩) hK (va_recv hK hP (ci := 6) (q0 := 0) rfl rfl) rfl hl.1 rfl (Nat.le_of_ble_eq_true rfl) dL_areOrders_136 ⟨Nat.le_of_ble_eq_true rfl, Nat.le_of_ble_eq_true rfl⟩ ?_
            refine lv_aload_n hx hb dL_areOrders_139 rfl (lv_at hl 8 rfl) ?_
            refine lv_iconst (v := nI 4) hx hb dL_areOrders_140 (by decide +kernel) ?_
            refine lv_iload hx hb dL_areOrders_141 (lv_at hl 3 rfl) ?_
            refine lv_imul hx hb dL_areOrders_143 ?_
            rw [pk_mul]
            refine lv_iconst (v := nI 2) hx hb dL_areOrders_144 (by decide +kernel) ?_
            refine lv_iadd hx hb dL_areOrders_145 ?_
            rw [nI_add]
            refine o_iald hx hb hK hP 16 0 rfl rfl ((4 * k) + 2) (by omega) (by decide) dL_areOrders_146 ?_
            rw [aI_2]
            refine lv_icmp_ne (tgt := 221) hx hb dL_areOrders_147 (by decide) (fun c147 => ?_) (fun c147 => ?_)
            · exact absurd rfl c147
            · refine lv_aload_n hx hb dL_areOrders_150 rfl (lv_at hl 5 rfl) ?_
              refine lv_iload hx hb dL_areOrders_151 (lv_at hl 3 rfl) ?_
              refine lv_iconst (v := nI 3) hx hb dL_areOrders_153 (by decide +kernel) ?_
              refine o_VI (As := [.int (nI k), .int (nI 3)]) (rest := []) ⟨hx, hb, hml, hown, hts⟩ (kX7_order_3 l G cy hW hPq k hk) (cwV 2 hts gL_areOrders_X7_order rfl rfl rfl (by decide +kernel) ⟨Nat.le_of_ble_eq_true rfl, Nat.le_of_ble_eq_true rfl⟩) hK (va_recv hK hP (ci := 6) (q0 := 0) rfl rfl) rfl hl.1 rfl (Nat.le_of_ble_eq_true rfl) dL_areOrders_154 ⟨Nat.le_of_ble_eq_true rfl, Nat.le_of_ble_eq_true rfl⟩ ?_
              refine lv_aload_n hx hb dL_areOrders_157 rfl (lv_at hl 8 rfl) ?_
              refine lv_iconst (v := nI 4) hx hb dL_areOrders_158 (by decide +kernel) ?_
              refine lv_iload hx hb dL_areOrders_159 (lv_at hl 3 rfl) ?_
              refine lv_imul hx hb dL_areOrders_161 ?_
              rw [pk_mul]
              refine lv_iconst (v := nI 3) hx hb dL_areOrders_162 (by decide +kernel) ?_
              refine lv_iadd hx hb dL_areOrders_163 ?_
              rw [nI_add]
              refine o_iald hx hb hK hP 16 0 rfl rfl ((4 * k) + 3) (by omega) (by decide) dL_areOrders_164 ?_
              rw [aI_3]
              refine lv_icmp_ne (tgt := 221) hx hb dL_areOrders_165 (by decide) (fun c165 => ?_) (fun c165 => ?_)
              · exact absurd rfl c165
              · refine lv_aload_n hx hb dL_areOrders_168 rfl (lv_at hl 5 rfl) ?_
                refine lv_iload hx hb dL_areOrders_169 (lv_at hl 3 rfl) ?_
                refine lv_iconst (v := nI 4) hx hb dL_areOrders_171 (by decide +kernel) ?_
                refine o_VI (As := [.int (nI k), .int (nI 4)]) (rest := []) ⟨hx, hb, hml, hown, hts⟩ (kX7_order_4n l G cy hW hPq k hk c28) (cwV 2 hts gL_areOrders_X7_order rfl rfl rfl (by decide +kernel) ⟨Nat.le_of_ble_eq_true rfl, Nat.le_of_ble_eq_true rfl⟩) hK (va_recv hK hP (ci := 6) (q0 := 0) rfl rfl) rfl hl.1 rfl (Nat.le_of_ble_eq_true rfl) dL_areOrders_172 ⟨Nat.le_of_ble_eq_true rfl, Nat.le_of_ble_eq_true rfl⟩ ?_
                refine lv_iload hx hb dL_areOrders_175 (lv_at hl 2 rfl) ?_
                refine o_if_eq (tgt := 190) hx hb dL_areOrders_177 (by decide) (by omega) (fun c177 => ?_) (fun c177 => ?_)
                · refine lv_bipush (v := (-5)) hx hb dL_areOrders_190 (by decide +kernel) ?_
                  refine lv_icmp_ne (tgt := 221) hx hb dL_areOrders_192 (by decide) (fun c192 => ?_) (fun c192 => ?_)
                  · exact absurd rfl c192
                  · refine lv_aload_n hx hb dL_areOrders_195 rfl (lv_at hl 5 rfl) ?_
                    refine lv_iload hx hb dL_areOrders_196 (lv_at hl 3 rfl) ?_
                    refine lv_iconst (v := nI 5) hx hb dL_areOrders_198 (by decide +kernel) ?_
                    refine o_VI (As := [.int (nI k), .int (nI 5)]) (rest := []) ⟨hx, hb, hml, hown, hts⟩ (kX7_order_5n l G cy hW hPq k hk c28) (cwV 2 hts gL_areOrders_X7_order rfl rfl rfl (by decide +kernel) ⟨Nat.le_of_ble_eq_true rfl, Nat.le_of_ble_eq_true rfl⟩) hK (va_recv hK hP (ci := 6) (q0 := 0) rfl rfl) rfl hl.1 rfl (Nat.le_of_ble_eq_true rfl) dL_areOrders_199 ⟨Nat.le_of_ble_eq_true rfl, Nat.le_of_ble_eq_true rfl⟩ ?_
                    refine lv_iload hx hb dL_areOrders_202 (lv_at hl 2 rfl) ?_
                    refine o_if_eq (tgt := 212) hx hb dL_areOrders_204 (by decide) (by omega) (fun c204 => ?_) (fun c204 => ?_)
                    · refine lv_bipush (v := (-5)) hx hb dL_areOrders_212 (by decide +kernel) ?_
                      refine lv_icmp_ne (tgt := 221) hx hb dL_areOrders_214 (by decide) (fun c214 => ?_) (fun c214 => ?_)
                      · exact absurd rfl c214
                      · refine lv_iconst (v := nI 1) hx hb dL_areOrders_217 (by decide +kernel) ?_
                        refine lv_goto (tgt := 222) hx hb dL_areOrders_218 (by decide) ?_
                        refine lv_istore (lv' := [(11, .int (nI 1)), (10, .int (nI (cR (hfB M (mW M k)) 0 k))), (9, .int (nI 0)), (8, .int (nI k)), (7, .int (nI (cR (ftB M 1) 0 k))), (0, .ref z), (1, .ref (L 0)), (2, .ref (L 1)), (3, .ref (L 2)), (4, .ref (L 3)), (5, .ref (L 4)), (6, .ref ua)]) hx hb dL_areOrders_222 hl (by decide) rfl (fun ls hl => ?_)
                        refine lv_iload hx hb dL_areOrders_224 (lv_at hl 0 rfl) ?_
                        refine o_if_eq (tgt := 285) hx hb dL_areOrders_226 (by decide) (by omega) (fun c226 => ?_) (fun c226 => ?_)
                        · exact absurd c226 (by decide)
                        · refine lv_aload_n hx hb dL_areOrders_229 rfl (lv_at hl 5 rfl) ?_
                          refine lv_iload hx hb dL_areOrders_230 (lv_at hl 3 rfl) ?_
                          refine lv_bipush (v := nI 6) hx hb dL_areOrders_232 (by decide +kernel) ?_
                          refine o_VI (As := [.int (nI k), .int (nI 6)]) (rest := []) ⟨hx, hb, hml, hown, hts⟩ (kX7_order_6 l G cy hW hPq k hk (n32_of (mul_n (hH k) f100))) (cwV 2 hts gL_areOrders_X7_order rfl rfl rfl (by decide +kernel) ⟨Nat.le_of_ble_eq_true rfl, Nat.le_of_ble_eq_true rfl⟩) hK (va_recv hK hP (ci := 6) (q0 := 0) rfl rfl) rfl hl.1 rfl (Nat.le_of_ble_eq_true rfl) dL_areOrders_234 ⟨Nat.le_of_ble_eq_true rfl, Nat.le_of_ble_eq_true rfl⟩ ?_
                          refine lv_aload hx hb dL_areOrders_237 (lv_at hl 10 rfl) ?_
                          refine lv_iload hx hb dL_areOrders_239 (lv_at hl 3 rfl) ?_
                          refine o_dald hx hb hK hP 18 3 rfl rfl k (by omega) (by decide) dL_areOrders_241 ?_
                          rw [tD_k _ (by omega)]
                          refine lv_d2f hx hb dL_areOrders_242 (d2f_n (FP.Core.FFin.notNaN (hH k))) ?_
                          rw [d2f_f2d (FP.Core.FFin.notNaN (hH k))]
                          refine lv_ldcf hx hb hown (hts (.constantFloat RL 57 (1120403456)) (by decide +kernel)) dL_areOrders_243 ?_
                          refine lv_fmul hx hb dL_areOrders_245 (n32_of (mul_n (hH k) f100)) ?_
                          refine lv_f2i hx hb dL_areOrders_246 ?_
                          refine lv_icmp_ne (tgt := 285) hx hb dL_areOrders_247 (by decide) (fun c247 => ?_) (fun c247 => ?_)
                          · exact absurd rfl c247
                          · refine lv_aload_n hx hb dL_areOrders_250 rfl (lv_at hl 5 rfl) ?_
                            refine lv_iload hx hb dL_areOrders_251 (lv_at hl 3 rfl) ?_
                            refine lv_bipush (v := nI 7) hx hb dL_areOrders_253 (by decide +kernel) ?_
                            have hPc := hP.sub (ws' := [oSy z q h x r y] ++ (wRe cy r (q 0) ru1 kn1 va1 ++ wDo cy q M)) [0, 1, 2, 3, 4, 5, 6, 7, 8, 9, 10, 11, 12, 13] rfl
                            have hDc := hD.sub (ws' := [oSy z q h x r y] ++ (wRe cy r (q 0) ru1 kn1 va1 ++ wDo cy q M)) [0, 1, 2, 3, 4, 5, 6, 7, 8, 9, 10, 11, 12, 13] (by decide) rfl
                            have hFc := va_free (wc := [oSy z q h x r y] ++ (wRe cy r (q 0) ru1 kn1 va1 ++ wDo cy q M)) hD hS hA [0, 1, 2, 3, 4, 5, 6, 7, 8, 9, 10, 11, 12, 13] rfl
                            refine va_calli (va_runV (As := [.int (nI k), .int (nI 7)]) (rest := []) ⟨hx, hb, hml, hown, hts⟩ (kX7_order_7 l G cy hW hF hPc hDc k hk) (cwV 2 hts gL_areOrders_X7_order rfl rfl rfl (by decide +kernel) ⟨Nat.le_of_ble_eq_true rfl, Nat.le_of_ble_eq_true rfl⟩) ⟨pR_blind, va_recv hK hP (ci := 6) (q0 := 0) rfl rfl, pR_at hK⟩ rfl rfl hl.1 rfl (lv_room (Nat.le_of_ble_eq_true rfl)) dL_areOrders_255 ⟨Nat.le_of_ble_eq_true rfl, Nat.le_of_ble_eq_true rfl⟩) hS (fun q _ h => hFc q h) hFc (fun r_ u_ t_ H locs ht hvm hw_ hB hz1 hk1 hS => ?_)
                            rw [ht] at hB
                            have hP : va_P G vwCl ([oSy z q h x r y] ++ wRe cy r (q 0) (rl M) (kF M) (vF M) ++ wDo cy q M ++ wLa cy L M ++ [(ua, eD cy 1 u1)]) H := (o_join hP hD [0, 1, 2, 3, 4, 5, 6, 7, 8, 9, 10, 11, 12, 13] [14, 15, 16, 17, 18, 19] rfl (wr := wLa cy L M ++ [(ua, eD cy 1 u1)]) rfl (by decide) (by decide) (by decide) hk1 hFc hB rfl).sub [6, 7, 8, 9, 10, 11, 12, 13, 14, 15, 16, 17, 18, 19, 0, 1, 2, 3, 4, 5] rfl
                            have hD : va_D A ([oSy z q h x r y] ++ wRe cy r (q 0) (rl M) (kF M) (vF M) ++ wDo cy q M ++ wLa cy L M ++ [(ua, eD cy 1 u1)]) := vd_same hD rfl
                            obtain rfl : r_ = bI (rl M (mW M k) = some k) := hw_
                            have hPl := hP.sub (ws' := wLa cy L M) [14, 15, 16, 17, 18] rfl
                            have hPq := hP.sub (ws' := [oSy z q h x r y] ++ wDo cy q M) [0, 5, 6, 7, 8, 9, 10, 11, 12, 13] rfl
                            refine lv_aload_n hx hb dL_areOrders_258 rfl (lv_at hl 6 rfl) ?_
                            refine lv_aload_n hx hb dL_areOrders_259 rfl (lv_at hl 7 rfl) ?_
                            refine lv_aload_n hx hb dL_areOrders_260 rfl (lv_at hl 8 rfl) ?_
                            refine lv_aload_n hx hb dL_areOrders_261 rfl (lv_at hl 8 rfl) ?_
                            refine lv_iconst (v := nI 4) hx hb dL_areOrders_262 (by decide +kernel) ?_
                            refine lv_iload hx hb dL_areOrders_263 (lv_at hl 3 rfl) ?_
                            refine lv_imul hx hb dL_areOrders_265 ?_
                            rw [pk_mul]
                            refine lv_iconst (v := nI 1) hx hb dL_areOrders_266 (by decide +kernel) ?_
                            refine lv_iadd hx hb dL_areOrders_267 ?_
                            rw [nI_add]
                            refine o_iald hx hb hK hP 16 0 rfl rfl ((4 * k) + 1) (by omega) (by decide) dL_areOrders_268 ?_
                            rw [aI_1]
                            refine o_SI (As := [.ref (L 0), .ref (L 1), .ref (L 2), .int (nI (mW M k))]) (rest := [.int (bI (rl M (mW M k) = some k))]) ⟨hx, hb, hml, hown, hts⟩ (kL_ruling l G cy hW hN hPl (mW M k) b1) (va_cwS 4 hts gL_areOrders_L_ruling rfl rfl rfl (by decide +kernel) ⟨Nat.le_of_ble_eq_true rfl, Nat.le_of_ble_eq_true rfl⟩) hK rfl hl.1 rfl (Nat.le_of_ble_eq_true rfl) dL_areOrders_269 ⟨Nat.le_of_ble_eq_true rfl, Nat.le_of_ble_eq_true rfl⟩ ?_
                            refine lv_iload hx hb dL_areOrders_272 (lv_at hl 3 rfl) ?_
                            refine lv_icmp_ne (tgt := 281) hx hb dL_areOrders_274 (by decide) (fun c274 => ?_) (fun c274 => ?_)
                            · refine lv_iconst (v := nI 0) hx hb dL_areOrders_281 (by decide +kernel) ?_
                              refine lv_icmp_eq (tgt := 287) hx hb dL_areOrders_282 (by decide) (fun c282 => ?_) (fun c282 => ?_)
                              · refine lv_aload_n hx hb dL_areOrders_287 rfl (lv_at hl 5 rfl) ?_
                                refine lv_iload hx hb dL_areOrders_288 (lv_at hl 3 rfl) ?_
                                refine lv_iconst (v := nI 0) hx hb dL_areOrders_290 (by decide +kernel) ?_
                                refine o_VF (As := [.int (nI k), .int (nI 0)]) (rest := []) ⟨hx, hb, hml, hown, hts⟩ (kX7_real_0 l G cy hW hPq k hk) (cwV 2 hts gL_areOrders_X7_real rfl rfl rfl (by decide +kernel) ⟨Nat.le_of_ble_eq_true rfl, Nat.le_of_ble_eq_true rfl⟩) hK (va_recv hK hP (ci := 6) (q0 := 0) rfl rfl) rfl hl.1 rfl (Nat.le_of_ble_eq_true rfl) dL_areOrders_291 ⟨Nat.le_of_ble_eq_true rfl, Nat.le_of_ble_eq_true rfl⟩ ?_
                                refine lv_f2d hx hb dL_areOrders_294 (f2d_n (FP.Core.FFin.notNaN (hF.2 k))) ?_
                                refine lv_aload hx hb dL_areOrders_295 (lv_at hl 9 rfl) ?_
                                refine lv_iconst (v := nI 2) hx hb dL_areOrders_297 (by decide +kernel) ?_
                                refine lv_iload hx hb dL_areOrders_298 (lv_at hl 3 rfl) ?_
                                refine lv_imul hx hb dL_areOrders_300 ?_
                                rw [pk_mul]
                                refine lv_iconst (v := nI 1) hx hb dL_areOrders_301 (by decide +kernel) ?_
                                refine lv_iadd hx hb dL_areOrders_302 ?_
                                rw [nI_add]
                                refine o_dald hx hb hK hP 17 3 rfl rfl ((2 * k) + 1) (by omega) (by decide) dL_areOrders_303 ?_
                                rw [vD_1]
                                refine lv_dcmp hx hb dL_areOrders_304 ?_
                                refine lv_if_ne (tgt := 344) hx hb dL_areOrders_305 (by decide) (fun c305 => ?_) (fun c305 => ?_)
                                · exact absurd (cmp_same (hF.2 k)) c305
                                · refine lv_aload_n hx hb dL_areOrders_308 rfl (lv_at hl 5 rfl) ?_
                                  refine lv_iload hx hb dL_areOrders_309 (lv_at hl 3 rfl) ?_
                                  refine lv_iconst (v := nI 1) hx hb dL_areOrders_311 (by decide +kernel) ?_
                                  refine o_VF (As := [.int (nI k), .int (nI 1)]) (rest := []) ⟨hx, hb, hml, hown, hts⟩ (kX7_real_1 l G cy hW hPq k hk) (cwV 2 hts gL_areOrders_X7_real rfl rfl rfl (by decide +kernel) ⟨Nat.le_of_ble_eq_true rfl, Nat.le_of_ble_eq_true rfl⟩) hK (va_recv hK hP (ci := 6) (q0 := 0) rfl rfl) rfl hl.1 rfl (Nat.le_of_ble_eq_true rfl) dL_areOrders_312 ⟨Nat.le_of_ble_eq_true rfl, Nat.le_of_ble_eq_true rfl⟩ ?_
                                  refine lv_f2d hx hb dL_areOrders_315 (f2d_n (FP.Core.FFin.notNaN (hF.1 k))) ?_
                                  refine lv_aload hx hb dL_areOrders_316 (lv_at hl 9 rfl) ?_
                                  refine lv_iconst (v := nI 2) hx hb dL_areOrders_318 (by decide +kernel) ?_
                                  refine lv_iload hx hb dL_areOrders_319 (lv_at hl 3 rfl) ?_
                                  refine lv_imul hx hb dL_areOrders_321 ?_
                                  rw [pk_mul]
                                  refine o_dald hx hb hK hP 17 3 rfl rfl (2 * k) (by omega) (by decide) dL_areOrders_322 ?_
                                  rw [vD_0]
                                  refine lv_dcmp hx hb dL_areOrders_323 ?_
                                  refine lv_if_ne (tgt := 344) hx hb dL_areOrders_324 (by decide) (fun c324 => ?_) (fun c324 => ?_)
                                  · exact absurd (cmp_same (hF.1 k)) c324
                                  · refine lv_aload_n hx hb dL_areOrders_327 rfl (lv_at hl 5 rfl) ?_
                                    refine lv_iload hx hb dL_areOrders_328 (lv_at hl 3 rfl) ?_
                                    refine lv_iconst (v := nI 2) hx hb dL_areOrders_330 (by decide +kernel) ?_
                                    refine o_VF (As := [.int (nI k), .int (nI 2)]) (rest := []) ⟨hx, hb, hml, hown, hts⟩ (kX7_real_2 l G cy hW hPq k hk) (cwV 2 hts gL_areOrders_X7_real rfl rfl rfl (by decide +kernel) ⟨Nat.le_of_ble_eq_true rfl, Nat.le_of_ble_eq_true rfl⟩) hK (va_recv hK hP (ci := 6) (q0 := 0) rfl rfl) rfl hl.1 rfl (Nat.le_of_ble_eq_true rfl) dL_areOrders_331 ⟨Nat.le_of_ble_eq_true rfl, Nat.le_of_ble_eq_true rfl⟩ ?_
                                    refine lv_f2d hx hb dL_areOrders_334 (f2d_n (FP.Core.FFin.notNaN (hH k))) ?_
                                    refine lv_aload hx hb dL_areOrders_335 (lv_at hl 10 rfl) ?_
                                    refine lv_iload hx hb dL_areOrders_337 (lv_at hl 3 rfl) ?_
                                    refine o_dald hx hb hK hP 18 3 rfl rfl k (by omega) (by decide) dL_areOrders_339 ?_
                                    rw [tD_k _ (by omega)]
                                    refine lv_dcmp hx hb dL_areOrders_340 ?_
                                    refine lv_if_eq (tgt := 346) hx hb dL_areOrders_341 (by decide) (fun c341 => ?_) (fun c341 => ?_)
                                    · refine lv_iload hx hb dL_areOrders_346 (lv_at hl 4 rfl) ?_
                                      refine lv_aload_n hx hb dL_areOrders_348 rfl (lv_at hl 8 rfl) ?_
                                      refine lv_iconst (v := nI 4) hx hb dL_areOrders_349 (by decide +kernel) ?_
                                      refine lv_iload hx hb dL_areOrders_350 (lv_at hl 3 rfl) ?_
                                      refine lv_imul hx hb dL_areOrders_352 ?_
                                      rw [pk_mul]
                                      refine lv_iconst (v := nI 3) hx hb dL_areOrders_353 (by decide +kernel) ?_
                                      refine lv_iadd hx hb dL_areOrders_354 ?_
                                      rw [nI_add]
                                      refine o_iald hx hb hK hP 16 0 rfl rfl ((4 * k) + 3) (by omega) (by decide) dL_areOrders_355 ?_
                                      rw [aI_3]
                                      refine lv_iadd hx hb dL_areOrders_356 ?_
                                      rw [bI_f c28, Int32.add_zero]
                                      refine lv_istore (lv' := [(7, .int (nI (cR (ftB M 1) 0 k))), (11, .int (nI 1)), (10, .int (nI (cR (hfB M (mW M k)) 0 k))), (9, .int (nI 0)), (8, .int (nI k)), (0, .ref z), (1, .ref (L 0)), (2, .ref (L 1)), (3, .ref (L 2)), (4, .ref (L 3)), (5, .ref (L 4)), (6, .ref ua)]) hx hb dL_areOrders_357 hl (by decide) rfl (fun ls hl => ?_)
                                      refine lv_iload hx hb dL_areOrders_359 (lv_at hl 3 rfl) ?_
                                      refine o_if_eq (tgt := 411) hx hb dL_areOrders_361 (by decide) (by omega) (fun c361 => ?_) (fun c361 => ?_)
                                      · refine lv_iinc (v := nI (k + 1)) (lv' := [(8, .int (nI (k + 1))), (7, .int (nI (cR (ftB M 1) 0 k))), (11, .int (nI 1)), (10, .int (nI (cR (hfB M (mW M k)) 0 k))), (9, .int (nI 0)), (0, .ref z), (1, .ref (L 0)), (2, .ref (L 1)), (3, .ref (L 2)), (4, .ref (L 3)), (5, .ref (L 4)), (6, .ref ua)]) hx hb dL_areOrders_411 hl (k := 4) rfl (nI_1 k) (by decide) rfl (fun ls hl => ?_)
                                        refine lv_goto (tgt := 11) hx hb dL_areOrders_414 (by decide) ?_
                                        refine ih11 (k + 1, rl M, kF M, vF M, u1) ls H locs ?_ ?_ ?_
                                        · exact ⟨by omega, hP, hD, hS⟩
                                        · show lv_has ls 13 [(8, .int (nI (k + 1))), (7, .int (nI (cR (ftB M 1) 0 (k + 1)))), (0, .ref z), (1, .ref (L 0)), (2, .ref (L 1)), (3, .ref (L 2)), (4, .ref (L 3)), (5, .ref (L 4)), (6, .ref ua)]
                                          rw [cZ_f (p := ftB M 1) (fun z => c28 (ftB_iff.mp z))]
                                          exact lv_sub hl [0, 1, 5, 6, 7, 8, 9, 10, 11] rfl
                                        · show mN M - (k + 1) < mN M - k; omega
                                      · exact absurd c361 (by decide)
                                    · exact absurd (cmp_same (hH k)) c341
                              · exact absurd (by rw [bI_f (fun z => c274 ((lk_eq (nI_lt40 (by omega)) (lk_b hW)).mpr z))]; decide) c282
                            · refine lv_iconst (v := nI 1) hx hb dL_areOrders_277 (by decide +kernel) ?_
                              refine lv_goto (tgt := 282) hx hb dL_areOrders_278 (by decide) ?_
                              refine lv_icmp_eq (tgt := 287) hx hb dL_areOrders_282 (by decide) (fun c282 => ?_) (fun c282 => ?_)
                              · refine lv_aload_n hx hb dL_areOrders_287 rfl (lv_at hl 5 rfl) ?_
                                refine lv_iload hx hb dL_areOrders_288 (lv_at hl 3 rfl) ?_
                                refine lv_iconst (v := nI 0) hx hb dL_areOrders_290 (by decide +kernel) ?_
                                refine o_VF (As := [.int (nI k), .int (nI 0)]) (rest := []) ⟨hx, hb, hml, hown, hts⟩ (kX7_real_0 l G cy hW hPq k hk) (cwV 2 hts gL_areOrders_X7_real rfl rfl rfl (by decide +kernel) ⟨Nat.le_of_ble_eq_true rfl, Nat.le_of_ble_eq_true rfl⟩) hK (va_recv hK hP (ci := 6) (q0 := 0) rfl rfl) rfl hl.1 rfl (Nat.le_of_ble_eq_true rfl) dL_areOrders_291 ⟨Nat.le_of_ble_eq_true rfl, Nat.le_of_ble_eq_true rfl⟩ ?_
                                refine lv_f2d hx hb dL_areOrders_294 (f2d_n (FP.Core.FFin.notNaN (hF.2 k))) ?_
                                refine lv_aload hx hb dL_areOrders_295 (lv_at hl 9 rfl) ?_
                                refine lv_iconst (v := nI 2) hx hb dL_areOrders_297 (by decide +kernel) ?_
                                refine lv_iload hx hb dL_areOrders_298 (lv_at hl 3 rfl) ?_
                                refine lv_imul hx hb dL_areOrders_300 ?_
                                rw [pk_mul]
                                refine lv_iconst (v := nI 1) hx hb dL_areOrders_301 (by decide +kernel) ?_
                                refine lv_iadd hx hb dL_areOrders_302 ?_
                                rw [nI_add]
                                refine o_dald hx hb hK hP 17 3 rfl rfl ((2 * k) + 1) (by omega) (by decide) dL_areOrders_303 ?_
                                rw [vD_1]
                                refine lv_dcmp hx hb dL_areOrders_304 ?_
                                refine lv_if_ne (tgt := 344) hx hb dL_areOrders_305 (by decide) (fun c305 => ?_) (fun c305 => ?_)
                                · exact absurd (cmp_same (hF.2 k)) c305
                                · refine lv_aload_n hx hb dL_areOrders_308 rfl (lv_at hl 5 rfl) ?_
                                  refine lv_iload hx hb dL_areOrders_309 (lv_at hl 3 rfl) ?_
                                  refine lv_iconst (v := nI 1) hx hb dL_areOrders_311 (by decide +kernel) ?_
                                  refine o_VF (As := [.int (nI k), .int (nI 1)]) (rest := []) ⟨hx, hb, hml, hown, hts⟩ (kX7_real_1 l G cy hW hPq k hk) (cwV 2 hts gL_areOrders_X7_real rfl rfl rfl (by decide +kernel) ⟨Nat.le_of_ble_eq_true rfl, Nat.le_of_ble_eq_true rfl⟩) hK (va_recv hK hP (ci := 6) (q0 := 0) rfl rfl) rfl hl.1 rfl (Nat.le_of_ble_eq_true rfl) dL_areOrders_312 ⟨Nat.le_of_ble_eq_true rfl, Nat.le_of_ble_eq_true rfl⟩ ?_
                                  refine lv_f2d hx hb dL_areOrders_315 (f2d_n (FP.Core.FFin.notNaN (hF.1 k))) ?_
                                  refine lv_aload hx hb dL_areOrders_316 (lv_at hl 9 rfl) ?_
                                  refine lv_iconst (v := nI 2) hx hb dL_areOrders_318 (by decide +kernel) ?_
                                  refine lv_iload hx hb dL_areOrders_319 (lv_at hl 3 rfl) ?_
                                  refine lv_imul hx hb dL_areOrders_321 ?_
                                  rw [pk_mul]
                                  refine o_dald hx hb hK hP 17 3 rfl rfl (2 * k) (by omega) (by decide) dL_areOrders_322 ?_
                                  rw [vD_0]
                                  refine lv_dcmp hx hb dL_areOrders_323 ?_
                                  refine lv_if_ne (tgt := 344) hx hb dL_areOrders_324 (by decide) (fun c324 => ?_) (fun c324 => ?_)
                                  · exact absurd (cmp_same (hF.1 k)) c324
                                  · refine lv_aload_n hx hb dL_areOrders_327 rfl (lv_at hl 5 rfl) ?_
                                    refine lv_iload hx hb dL_areOrders_328 (lv_at hl 3 rfl) ?_
                                    refine lv_iconst (v := nI 2) hx hb dL_areOrders_330 (by decide +kernel) ?_
                                    refine o_VF (As := [.int (nI k), .int (nI 2)]) (rest := []) ⟨hx, hb, hml, hown, hts⟩ (kX7_real_2 l G cy hW hPq k hk) (cwV 2 hts gL_areOrders_X7_real rfl rfl rfl (by decide +kernel) ⟨Nat.le_of_ble_eq_true rfl, Nat.le_of_ble_eq_true rfl⟩) hK (va_recv hK hP (ci := 6) (q0 := 0) rfl rfl) rfl hl.1 rfl (Nat.le_of_ble_eq_true rfl) dL_areOrders_331 ⟨Nat.le_of_ble_eq_true rfl, Nat.le_of_ble_eq_true rfl⟩ ?_
                                    refine lv_f2d hx hb dL_areOrders_334 (f2d_n (FP.Core.FFin.notNaN (hH k))) ?_
                                    refine lv_aload hx hb dL_areOrders_335 (lv_at hl 10 rfl) ?_
                                    refine lv_iload hx hb dL_areOrders_337 (lv_at hl 3 rfl) ?_
                                    refine o_dald hx hb hK hP 18 3 rfl rfl k (by omega) (by decide) dL_areOrders_339 ?_
                                    rw [tD_k _ (by omega)]
                                    refine lv_dcmp hx hb dL_areOrders_340 ?_
                                    refine lv_if_eq (tgt := 346) hx hb dL_areOrders_341 (by decide) (fun c341 => ?_) (fun c341 => ?_)
                                    · refine lv_iload hx hb dL_areOrders_346 (lv_at hl 4 rfl) ?_
                                      refine lv_aload_n hx hb dL_areOrders_348 rfl (lv_at hl 8 rfl) ?_
                                      refine lv_iconst (v := nI 4) hx hb dL_areOrders_349 (by decide +kernel) ?_
                                      refine lv_iload hx hb dL_areOrders_350 (lv_at hl 3 rfl) ?_
                                      refine lv_imul hx hb dL_areOrders_352 ?_
                                      rw [pk_mul]
                                      refine lv_iconst (v := nI 3) hx hb dL_areOrders_353 (by decide +kernel) ?_
                                      refine lv_iadd hx hb dL_areOrders_354 ?_
                                      rw [nI_add]
                                      refine o_iald hx hb hK hP 16 0 rfl rfl ((4 * k) + 3) (by omega) (by decide) dL_areOrders_355 ?_
                                      rw [aI_3]
                                      refine lv_iadd hx hb dL_areOrders_356 ?_
                                      rw [bI_f c28, Int32.add_zero]
                                      refine lv_istore (lv' := [(7, .int (nI (cR (ftB M 1) 0 k))), (11, .int (nI 1)), (10, .int (nI (cR (hfB M (mW M k)) 0 k))), (9, .int (nI 0)), (8, .int (nI k)), (0, .ref z), (1, .ref (L 0)), (2, .ref (L 1)), (3, .ref (L 2)), (4, .ref (L 3)), (5, .ref (L 4)), (6, .ref ua)]) hx hb dL_areOrders_357 hl (by decide) rfl (fun ls hl => ?_)
                                      refine lv_iload hx hb dL_areOrders_359 (lv_at hl 3 rfl) ?_
                                      refine o_if_eq (tgt := 411) hx hb dL_areOrders_361 (by decide) (by omega) (fun c361 => ?_) (fun c361 => ?_)
                                      · refine lv_iinc (v := nI (k + 1)) (lv' := [(8, .int (nI (k + 1))), (7, .int (nI (cR (ftB M 1) 0 k))), (11, .int (nI 1)), (10, .int (nI (cR (hfB M (mW M k)) 0 k))), (9, .int (nI 0)), (0, .ref z), (1, .ref (L 0)), (2, .ref (L 1)), (3, .ref (L 2)), (4, .ref (L 3)), (5, .ref (L 4)), (6, .ref ua)]) hx hb dL_areOrders_411 hl (k := 4) rfl (nI_1 k) (by decide) rfl (fun ls hl => ?_)
                                        refine lv_goto (tgt := 11) hx hb dL_areOrders_414 (by decide) ?_
                                        refine ih11 (k + 1, rl M, kF M, vF M, u1) ls H locs ?_ ?_ ?_
                                        · exact ⟨by omega, hP, hD, hS⟩
                                        · show lv_has ls 13 [(8, .int (nI (k + 1))), (7, .int (nI (cR (ftB M 1) 0 (k + 1)))), (0, .ref z), (1, .ref (L 0)), (2, .ref (L 1)), (3, .ref (L 2)), (4, .ref (L 3)), (5, .ref (L 4)), (6, .ref ua)]
                                          rw [cZ_f (p := ftB M 1) (fun z => c28 (ftB_iff.mp z))]
                                          exact lv_sub hl [0, 1, 5, 6, 7, 8, 9, 10, 11] rfl
                                        · show mN M - (k + 1) < mN M - k; omega
                                      · exact absurd c361 (by decide)
                                    · exact absurd (cmp_same (hH k)) c341
                              · exact absurd (by rw [bI_t ((lk_eq (nI_lt40 (by omega)) (lk_b hW)).mp c274)]; decide) c282
                    · exact absurd c204 (by decide)
                · exact absurd c177 (by decide)
      · refine lv_iload hx hb dL_areOrders_51 (lv_at hl 1 rfl) ?_
        refine lv_aload_n hx hb dL_areOrders_53 rfl (lv_at hl 8 rfl) ?_
        refine lv_iconst (v := nI 4) hx hb dL_areOrders_54 (by decide +kernel) ?_
        refine lv_iload hx hb dL_areOrders_55 (lv_at hl 0 rfl) ?_
        refine lv_imul hx hb dL_areOrders_57 ?_
        rw [pk_mul]
        refine lv_iconst (v := nI 3) hx hb dL_areOrders_58 (by decide +kernel) ?_
        refine lv_iadd hx hb dL_areOrders_59 ?_
        rw [nI_add]
        refine o_iald hx hb hK hP 16 0 rfl rfl ((4 * i) + 3) (by omega) (by decide) dL_areOrders_60 ?_
        rw [aI_3]
        refine lv_iconst (v := nI 1) hx hb dL_areOrders_61 (by decide +kernel) ?_
        refine o_icmp1_ne (tgt := 88) hx hb dL_areOrders_62 (by decide) (fun c62 => ?_) (fun c62 => ?_)
        · refine lv_iconst (v := nI 0) hx hb dL_areOrders_88 (by decide +kernel) ?_
          refine lv_iadd hx hb dL_areOrders_89 ?_
          rw [nI_add]
          refine lv_istore (lv' := [(10, .int (nI ((cR (hfB M (mW M k)) 0 i) + 0))), (11, .int (nI i)), (9, .int (nI 0)), (8, .int (nI k)), (7, .int (nI (cR (ftB M 1) 0 k))), (0, .ref z), (1, .ref (L 0)), (2, .ref (L 1)), (3, .ref (L 2)), (4, .ref (L 3)), (5, .ref (L 4)), (6, .ref ua)]) hx hb dL_areOrders_90 hl (by decide) rfl (fun ls hl => ?_)
          refine lv_iinc (v := nI (i + 1)) (lv' := [(11, .int (nI (i + 1))), (10, .int (nI ((cR (hfB M (mW M k)) 0 i) + 0))), (9, .int (nI 0)), (8, .int (nI k)), (7, .int (nI (cR (ftB M 1) 0 k))), (0, .ref z), (1, .ref (L 0)), (2, .ref (L 1)), (3, .ref (L 2)), (4, .ref (L 3)), (5, .ref (L 4)), (6, .ref ua)]) hx hb dL_areOrders_92 hl (k := 1) rfl (nI_1 i) (by decide) rfl (fun ls hl => ?_)
          refine lv_goto (tgt := 44) hx hb dL_areOrders_95 (by decide) ?_
          refine ih44 (i + 1) ls ?_ ?_ ?_
          · omega
          · show lv_has ls 13 [(11, .int (nI (i + 1))), (10, .int (nI (cR (hfB M (mW M k)) 0 (i + 1)))), (9, .int (nI 0)), (8, .int (nI k)), (7, .int (nI (cR (ftB M 1) 0 k))), (0, .ref z), (1, .ref (L 0)), (2, .ref (L 1)), (3, .ref (L 2)), (4, .ref (L 3)), (5, .ref (L 4)), (6, .ref ua)]
            rw [cZ_f (fun z => c62 (hfB_iff.mp z).1)]
            exact lv_sub hl [0, 1, 2, 3, 4, 5, 6, 7, 8, 9, 10, 11] rfl
          · omega
        · refine lv_aload_n hx hb dL_areOrders_65 rfl (lv_at hl 8 rfl) ?_
          refine lv_iconst (v := nI 4) hx hb dL_areOrders_66 (by decide +kernel) ?_
          refine lv_iload hx hb dL_areOrders_67 (lv_at hl 0 rfl) ?_
          refine lv_imul hx hb dL_areOrders_69 ?_
          rw [pk_mul]
          refine lv_iconst (v := nI 1) hx hb dL_areOrders_70 (by decide +kernel) ?_
          refine lv_iadd hx hb dL_areOrders_71 ?_
          rw [nI_add]
          refine o_iald hx hb hK hP 16 0 rfl rfl ((4 * i) + 1) (by omega) (by decide) dL_areOrders_72 ?_
          rw [aI_1]
          refine lv_aload_n hx hb dL_areOrders_73 rfl (lv_at hl 8 rfl) ?_
          refine lv_iconst (v := nI 4) hx hb dL_areOrders_74 (by decide +kernel) ?_
          refine lv_iload hx hb dL_areOrders_75 (lv_at hl 3 rfl) ?_
          refine lv_imul hx hb dL_areOrders_77 ?_
          rw [pk_mul]
          refine lv_iconst (v := nI 1) hx hb dL_areOrders_78 (by decide +kernel) ?_
          refine lv_iadd hx hb dL_areOrders_79 ?_
          rw [nI_add]
          refine o_iald hx hb hK hP 16 0 rfl rfl ((4 * k) + 1) (by omega) (by decide) dL_areOrders_80 ?_
          rw [aI_1]
          refine o_icmp_ne (tgt := 88) hx hb dL_areOrders_81 (by decide) (by omega) (by omega) (fun c81 => ?_) (fun c81 => ?_)
          · refine lv_iconst (v := nI 0) hx hb dL_areOrders_88 (by decide +kernel) ?_
            refine lv_iadd hx hb dL_areOrders_89 ?_
            rw [nI_add]
            refine lv_istore (lv' := [(10, .int (nI ((cR (hfB M (mW M k)) 0 i) + 0))), (11, .int (nI i)), (9, .int (nI 0)), (8, .int (nI k)), (7, .int (nI (cR (ftB M 1) 0 k))), (0, .ref z), (1, .ref (L 0)), (2, .ref (L 1)), (3, .ref (L 2)), (4, .ref (L 3)), (5, .ref (L 4)), (6, .ref ua)]) hx hb dL_areOrders_90 hl (by decide) rfl (fun ls hl => ?_)
            refine lv_iinc (v := nI (i + 1)) (lv' := [(11, .int (nI (i + 1))), (10, .int (nI ((cR (hfB M (mW M k)) 0 i) + 0))), (9, .int (nI 0)), (8, .int (nI k)), (7, .int (nI (cR (ftB M 1) 0 k))), (0, .ref z), (1, .ref (L 0)), (2, .ref (L 1)), (3, .ref (L 2)), (4, .ref (L 3)), (5, .ref (L 4)), (6, .ref ua)]) hx hb dL_areOrders_92 hl (k := 1) rfl (nI_1 i) (by decide) rfl (fun ls hl => ?_)
            refine lv_goto (tgt := 44) hx hb dL_areOrders_95 (by decide) ?_
            refine ih44 (i + 1) ls ?_ ?_ ?_
            · omega
            · show lv_has ls 13 [(11, .int (nI (i + 1))), (10, .int (nI (cR (hfB M (mW M k)) 0 (i + 1)))), (9, .int (nI 0)), (8, .int (nI k)), (7, .int (nI (cR (ftB M 1) 0 k))), (0, .ref z), (1, .ref (L 0)), (2, .ref (L 1)), (3, .ref (L 2)), (4, .ref (L 3)), (5, .ref (L 4)), (6, .ref ua)]
              rw [cZ_f (fun z => c81 (hfB_iff.mp z).2)]
              exact lv_sub hl [0, 1, 2, 3, 4, 5, 6, 7, 8, 9, 10, 11] rfl
            · omega
          · refine lv_iconst (v := nI 1) hx hb dL_areOrders_84 (by decide +kernel) ?_
            refine lv_goto (tgt := 89) hx hb dL_areOrders_85 (by decide) ?_
            refine lv_iadd hx hb dL_areOrders_89 ?_
            rw [nI_add]
            refine lv_istore (lv' := [(10, .int (nI ((cR (hfB M (mW M k)) 0 i) + 1))), (11, .int (nI i)), (9, .int (nI 0)), (8, .int (nI k)), (7, .int (nI (cR (ftB M 1) 0 k))), (0, .ref z), (1, .ref (L 0)), (2, .ref (L 1)), (3, .ref (L 2)), (4, .ref (L 3)), (5, .ref (L 4)), (6, .ref ua)]) hx hb dL_areOrders_90 hl (by decide) rfl (fun ls hl => ?_)
            refine lv_iinc (v := nI (i + 1)) (lv' := [(11, .int (nI (i + 1))), (10, .int (nI ((cR (hfB M (mW M k)) 0 i) + 1))), (9, .int (nI 0)), (8, .int (nI k)), (7, .int (nI (cR (ftB M 1) 0 k))), (0, .ref z), (1, .ref (L 0)), (2, .ref (L 1)), (3, .ref (L 2)), (4, .ref (L 3)), (5, .ref (L 4)), (6, .ref ua)]) hx hb dL_areOrders_92 hl (k := 1) rfl (nI_1 i) (by decide) rfl (fun ls hl => ?_)
            refine lv_goto (tgt := 44) hx hb dL_areOrders_95 (by decide) ?_
            refine ih44 (i + 1) ls ?_ ?_ ?_
            · omega
            · show lv_has ls 13 [(11, .int (nI (i + 1))), (10, .int (nI (cR (hfB M (mW M k)) 0 (i + 1)))), (9, .int (nI 0)), (8, .int (nI k)), (7, .int (nI (cR (ftB M 1) 0 k))), (0, .ref z), (1, .ref (L 0)), (2, .ref (L 1)), (3, .ref (L 2)), (4, .ref (L 3)), (5, .ref (L 4)), (6, .ref ua)]
              rw [cZ_t (hfB_iff.mpr ⟨c62, c81⟩)]
              exact lv_sub hl [0, 1, 2, 3, 4, 5, 6, 7, 8, 9, 10, 11] rfl
            · omega
    · refine lv_iconst (v := nI 1) hx hb dL_areOrders_31 (by decide +kernel) ?_
      refine lv_goto (tgt := 36) hx hb dL_areOrders_32 (by decide) ?_
      refine lv_istore (lv' := [(9, .int (nI 1)), (8, .int (nI k)), (7, .int (nI (cR (ftB M 1) 0 k))), (0, .ref z), (1, .ref (L 0)), (2, .ref (L 1)), (3, .ref (L 2)), (4, .ref (L 3)), (5, .ref (L 4)), (6, .ref ua)]) hx hb dL_areOrders_36 hl (by decide) rfl (fun ls hl => ?_)
      refine lv_iconst (v := nI 0) hx hb dL_areOrders_38 (by decide +kernel) ?_
      refine lv_istore (lv' := [(10, .int (nI 0)), (9, .int (nI 1)), (8, .int (nI k)), (7, .int (nI (cR (ftB M 1) 0 k))), (0, .ref z), (1, .ref (L 0)), (2, .ref (L 1)), (3, .ref (L 2)), (4, .ref (L 3)), (5, .ref (L 4)), (6, .ref ua)]) hx hb dL_areOrders_39 hl (by decide) rfl (fun ls hl => ?_)
      refine lv_iconst (v := nI 0) hx hb dL_areOrders_41 (by decide +kernel) ?_
      refine lv_istore (lv' := [(11, .int (nI 0)), (10, .int (nI 0)), (9, .int (nI 1)), (8, .int (nI k)), (7, .int (nI (cR (ftB M 1) 0 k))), (0, .ref z), (1, .ref (L 0)), (2, .ref (L 1)), (3, .ref (L 2)), (4, .ref (L 3)), (5, .ref (L 4)), (6, .ref ua)]) hx hb dL_areOrders_42 hl (by decide) rfl (fun ls hl => ?_)
      refine o_loop (σ := Nat) (fun (i : Nat) => i ≤ k) (fun (i : Nat) => [(11, .int (nI i)), (10, .int (nI (cR (hfB M (mW M k)) 0 i))), (9, .int (nI 1)), (8, .int (nI k)), (7, .int (nI (cR (ftB M 1) 0 k))), (0, .ref z), (1, .ref (L 0)), (2, .ref (L 1)), (3, .ref (L 2)), (4, .ref (L 3)), (5, .ref (L 4)), (6, .ref ua)]) (fun (i : Nat) => k - i) 0 (Nat.zero_le _) (lv_sub hl [0, 1, 2, 3, 4, 5, 6, 7, 8, 9, 10, 11] rfl) ?_
      rintro i ls h2 hl ih44
      have hl : lv_has ls 13 [(11, .int (nI i)), (10, .int (nI (cR (hfB M (mW M k)) 0 i))), (9, .int (nI 1)), (8, .int (nI k)), (7, .int (nI (cR (ftB M 1) 0 k))), (0, .ref z), (1, .ref (L 0)), (2, .ref (L 1)), (3, .ref (L 2)), (4, .ref (L 3)), (5, .ref (L 4)), (6, .ref ua)] := hl
      have b4 := bW i
      refine lv_iload hx hb dL_areOrders_44 (lv_at hl 0 rfl) ?_
      refine lv_iload hx hb dL_areOrders_46 (lv_at hl 3 rfl) ?_
      refine o_icmp_ge (tgt := 98) hx hb dL_areOrders_48 (by decide) (by omega) (by omega) (fun c48 => ?_) (fun c48 => ?_)
      · obtain rfl : k = i := by omega
        refine lv_aload_n hx hb dL_areOrders_98 rfl (lv_at hl 5 rfl) ?_
        refine lv_iload hx hb dL_areOrders_99 (lv_at hl 3 rfl) ?_
        refine lv_iconst (v := nI 0) hx hb dL_areOrders_101 (by decide +kernel) ?_
        refine o_VI (As := [.int (nI k), .int (nI 0)]) (rest := []) ⟨hx, hb, hml, hown, hts⟩ (kX7_order_0 l G cy hW hPq k hk) (cwV 2 hts gL_areOrders_X7_order rfl rfl rfl (by decide +kernel) ⟨Nat.le_of_ble_eq_true rfl, Nat.le_of_ble_eq_true rfl⟩) hK (va_recv hK hP (ci := 6) (q0 := 0) rfl rfl) rfl hl.1 rfl (Nat.le_of_ble_eq_true rfl) dL_areOrders_102 ⟨Nat.le_of_ble_eq_true rfl, Nat.le_of_ble_eq_true rfl⟩ ?_
        refine lv_aload_n hx hb dL_areOrders_105 rfl (lv_at hl 8 rfl) ?_
        refine lv_iconst (v := nI 4) hx hb dL_areOrders_106 (by decide +kernel) ?_
        refine lv_iload hx hb dL_areOrders_107 (lv_at hl 3 rfl) ?_
        refine lv_imul hx hb dL_areOrders_109 ?_
        rw [pk_mul]
        refine o_iald hx hb hK hP 16 0 rfl rfl (4 * k) (by omega) (by decide) dL_areOrders_110 ?_
        rw [aI_0]
        refine lv_icmp_ne (tgt := 221) hx hb dL_areOrders_111 (by decide) (fun c111 => ?_) (fun c111 => ?_)
        · exact absurd rfl c111
        · refine lv_aload_n hx hb dL_areOrders_114 rfl (lv_at hl 5 rfl) ?_
          refine lv_iload hx hb dL_areOrders_115 (lv_at hl 3 rfl) ?_
          refine lv_iconst (v := nI 1) hx hb dL_areOrders_117 (by decide +kernel) ?_
          refine o_VI (As := [.int (nI k), .int (nI 1)]) (rest := []) ⟨hx, hb, hml, hown, hts⟩ (kX7_order_1 l G cy hW hPq k hk) (cwV 2 hts gL_areOrders_X7_order rfl rfl rfl (by decide +kernel) ⟨Nat.le_of_ble_eq_true rfl, Nat.le_of_ble_eq_true rfl⟩) hK (va_recv hK hP (ci := 6) (q0 := 0) rfl rfl) rfl hl.1 rfl (Nat.le_of_ble_eq_true rfl) dL_areOrders_118 ⟨Nat.le_of_ble_eq_true rfl, Nat.le_of_ble_eq_true rfl⟩ ?_
          refine lv_aload_n hx hb dL_areOrders_121 rfl (lv_at hl 8 rfl) ?_
          refine lv_iconst (v := nI 4) hx hb dL_areOrders_122 (by decide +kernel) ?_
          refine lv_iload hx hb dL_areOrders_123 (lv_at hl 3 rfl) ?_
          refine lv_imul hx hb dL_areOrders_125 ?_
          rw [pk_mul]
          refine lv_iconst (v := nI 1) hx hb dL_areOrders_126 (by decide +kernel) ?_
          refine lv_iadd hx hb dL_areOrders_127 ?_
          rw [nI_add]
          refine o_iald hx hb hK hP 16 0 rfl rfl ((4 * k) + 1) (by omega) (by decide) dL_areOrders_128 ?_
          rw [aI_1]
          refine lv_icmp_ne (tgt := 221) hx hb dL_areOrders_129 (by decide) (fun c129 => ?_) (fun c129 => ?_)
          · exact absurd rfl c129
          · refine lv_aload_n hx hb dL_areOrders_132 rfl (lv_at hl 5 rfl) ?_
            refine lv_iload hx hb dL_areOrders_133 (lv_at hl 3 rfl) ?_
            refine lv_iconst (v := nI 2) hx hb dL_areOrders_135 (by decide +kernel) ?_
            refine o_VI (As := [.int (nI k), .int (nI 2)]) (rest := []) ⟨hx, hb, hml, hown, hts⟩ (kX7_order_2 l G cy hW hPq k hk) (cwV 2 hts gL_areOrders_X7_order rfl rfl rfl (by decide +kernel) ⟨Nat.le_of_ble_eq_true rfl, Nat.le_of_ble_eq_true rfl⟩) hK (va_recv hK hP (ci := 6) (q0 := 0) rfl rfl) rfl hl.1 rfl (Nat.le_of_ble_eq_true rfl) dL_areOrders_136 ⟨Nat.le_of_ble_eq_true rfl, Nat.le_of_ble_eq_true rfl⟩ ?_
            refine lv_aload_n hx hb dL_areOrders_139 rfl (lv_at hl 8 rfl) ?_
            refine lv_iconst (v := nI 4) hx hb dL_areOrders_140 (by decide +kernel) ?_
            refine lv_iload hx hb dL_areOrders_141 (lv_at hl 3 rfl) ?_
            refine lv_imul hx hb dL_areOrders_143 ?_
            rw [pk_mul]
            refine lv_iconst (v := nI 2) hx hb dL_areOrders_144 (by decide +kernel) ?_
            refine lv_iadd hx hb dL_areOrders_145 ?_
            rw [nI_add]
            refine o_iald hx hb hK hP 16 0 rfl rfl ((4 * k) + 2) (by omega) (by decide) dL_areOrders_146 ?_
            rw [aI_2]
            refine lv_icmp_ne (tgt := 221) hx hb dL_areOrders_147 (by decide) (fun c147 => ?_) (fun c147 => ?_)
            · exact absurd rfl c147
            · refine lv_aload_n hx hb dL_areOrders_150 rfl (lv_at hl 5 rfl) ?_
              refine lv_iload hx hb dL_areOrders_151 (lv_at hl 3 rfl) ?_
              refine lv_iconst (v := nI 3) hx hb dL_areOrders_153 (by decide +kernel) ?_
              refine o_VI (As := [.int (nI k), .int (nI 3)]) (rest := []) ⟨hx, hb, hml, hown, hts⟩ (kX7_order_3 l G cy hW hPq k hk) (cwV 2 hts gL_areOrders_X7_order rfl rfl rfl (by decide +kernel) ⟨Nat.le_of_ble_eq_true rfl, Nat.le_of_ble_eq_true rfl⟩) hK (va_recv hK hP (ci := 6) (q0 := 0) rfl rfl) rfl hl.1 rfl (Nat.le_of_ble_eq_true rfl) dL_areOrders_154 ⟨Nat.le_of_ble_eq_true rfl, Nat.le_of_ble_eq_true rfl⟩ ?_
              refine lv_aload_n hx hb dL_areOrders_157 rfl (lv_at hl 8 rfl) ?_
              refine lv_iconst (v := nI 4) hx hb dL_areOrders_158 (by decide +kernel) ?_
              refine lv_iload hx hb dL_areOrders_159 (lv_at hl 3 rfl) ?_
              refine lv_imul hx hb dL_areOrders_161 ?_
              rw [pk_mul]
              refine lv_iconst (v := nI 3) hx hb dL_areOrders_162 (by decide +kernel) ?_
              refine lv_iadd hx hb dL_areOrders_163 ?_
              rw [nI_add]
              refine o_iald hx hb hK hP 16 0 rfl rfl ((4 * k) + 3) (by omega) (by decide) dL_areOrders_164 ?_
              rw [aI_3]
              refine lv_icmp_ne (tgt := 221) hx hb dL_areOrders_165 (by decide) (fun c165 => ?_) (fun c165 => ?_)
              · exact absurd rfl c165
              · refine lv_aload_n hx hb dL_areOrders_168 rfl (lv_at hl 5 rfl) ?_
                refine lv_iload hx hb dL_areOrders_169 (lv_at hl 3 rfl) ?_
                refine lv_iconst (v := nI 4) hx hb dL_areOrders_171 (by decide +kernel) ?_
                refine o_VI (As := [.int (nI k), .int (nI 4)]) (rest := []) ⟨hx, hb, hml, hown, hts⟩ (kX7_order_4 l G cy hW hPq k hk c28) (cwV 2 hts gL_areOrders_X7_order rfl rfl rfl (by decide +kernel) ⟨Nat.le_of_ble_eq_true rfl, Nat.le_of_ble_eq_true rfl⟩) hK (va_recv hK hP (ci := 6) (q0 := 0) rfl rfl) rfl hl.1 rfl (Nat.le_of_ble_eq_true rfl) dL_areOrders_172 ⟨Nat.le_of_ble_eq_true rfl, Nat.le_of_ble_eq_true rfl⟩ ?_
                refine lv_iload hx hb dL_areOrders_175 (lv_at hl 2 rfl) ?_
                refine o_if_eq (tgt := 190) hx hb dL_areOrders_177 (by decide) (by omega) (fun c177 => ?_) (fun c177 => ?_)
                · exact absurd c177 (by decide)
                · refine lv_aload_n hx hb dL_areOrders_180 rfl (lv_at hl 6 rfl) ?_
                  refine lv_aload_n hx hb dL_areOrders_181 rfl (lv_at hl 8 rfl) ?_
                  refine lv_iload hx hb dL_areOrders_182 (lv_at hl 3 rfl) ?_
                  refine o_SI (As := [.ref (L 0), .ref (L 2), .int (nI k)]) (rest := [.int (nI (cR (hfB M (mW M k)) (k + 1) (mN M - (k + 1))))]) ⟨hx, hb, hml, hown, hts⟩ (kL_over l G cy hW hN hPl k hk) (va_cwS 3 hts gL_areOrders_L_over rfl rfl rfl (by decide +kernel) ⟨Nat.le_of_ble_eq_true rfl, Nat.le_of_ble_eq_true rfl⟩) hK rfl hl.1 rfl (Nat.le_of_ble_eq_true rfl) dL_areOrders_184 ⟨Nat.le_of_ble_eq_true rfl, Nat.le_of_ble_eq_true rfl⟩ ?_
                  refine lv_goto (tgt := 192) hx hb dL_areOrders_187 (by decide) ?_
                  refine lv_icmp_ne (tgt := 221) hx hb dL_areOrders_192 (by decide) (fun c192 => ?_) (fun c192 => ?_)
                  · exact absurd rfl c192
                  · refine lv_aload_n hx hb dL_areOrders_195 rfl (lv_at hl 5 rfl) ?_
                    refine lv_iload hx hb dL_areOrders_196 (lv_at hl 3 rfl) ?_
                    refine lv_iconst (v := nI 5) hx hb dL_areOrders_198 (by decide +kernel) ?_
                    refine o_VI (As := [.int (nI k), .int (nI 5)]) (rest := []) ⟨hx, hb, hml, hown, hts⟩ (kX7_order_5 l G cy hW hPq k hk c28) (cwV 2 hts gL_areOrders_X7_order rfl rfl rfl (by decide +kernel) ⟨Nat.le_of_ble_eq_true rfl, Nat.le_of_ble_eq_true rfl⟩) hK (va_recv hK hP (ci := 6) (q0 := 0) rfl rfl) rfl hl.1 rfl (Nat.le_of_ble_eq_true rfl) dL_areOrders_199 ⟨Nat.le_of_ble_eq_true rfl, Nat.le_of_ble_eq_true rfl⟩ ?_
                    refine lv_iload hx hb dL_areOrders_202 (lv_at hl 2 rfl) ?_
                    refine o_if_eq (tgt := 212) hx hb dL_areOrders_204 (by decide) (by omega) (fun c204 => ?_) (fun c204 => ?_)
                    · exact absurd c204 (by decide)
                    · refine lv_iload hx hb dL_areOrders_207 (lv_at hl 1 rfl) ?_
                      refine lv_goto (tgt := 214) hx hb dL_areOrders_209 (by decide) ?_
                      refine lv_icmp_ne (tgt := 221) hx hb dL_areOrders_214 (by decide) (fun c214 => ?_) (fun c214 => ?_)
                      · exact absurd rfl c214
                      · refine lv_iconst (v := nI 1) hx hb dL_areOrders_217 (by decide +kernel) ?_
                        refine lv_goto (tgt := 222) hx hb dL_areOrders_218 (by decide) ?_
                        refine lv_istore (lv' := [(11, .int (nI 1)), (10, .int (nI (cR (hfB M (mW M k)) 0 k))), (9, .int (nI 1)), (8, .int (nI k)), (7, .int (nI (cR (ftB M 1) 0 k))), (0, .ref z), (1, .ref (L 0)), (2, .ref (L 1)), (3, .ref (L 2)), (4, .ref (L 3)), (5, .ref (L 4)), (6, .ref ua)]) hx hb dL_areOrders_222 hl (by decide) rfl (fun ls hl => ?_)
                        refine lv_iload hx hb dL_areOrders_224 (lv_at hl 0 rfl) ?_
                        refine o_if_eq (tgt := 285) hx hb dL_areOrders_226 (by decide) (by omega) (fun c226 => ?_) (fun c226 => ?_)
                        · exact absurd c226 (by decide)
                        · refine lv_aload_n hx hb dL_areOrders_229 rfl (lv_at hl 5 rfl) ?_
                          refine lv_iload hx hb dL_areOrders_230 (lv_at hl 3 rfl) ?_
                          refine lv_bipush (v := nI 6) hx hb dL_areOrders_232 (by decide +kernel) ?_
                          refine o_VI (As := [.int (nI k), .int (nI 6)]) (rest := []) ⟨hx, hb, hml, hown, hts⟩ (kX7_order_6 l G cy hW hPq k hk (n32_of (mul_n (hH k) f100))) (cwV 2 hts gL_areOrders_X7_order rfl rfl rfl (by decide +kernel) ⟨Nat.le_of_ble_eq_true rfl, Nat.le_of_ble_eq_true rfl⟩) hK (va_recv hK hP (ci := 6) (q0 := 0) rfl rfl) rfl hl.1 rfl (Nat.le_of_ble_eq_true rfl) dL_areOrders_234 ⟨Nat.le_of_ble_eq_true rfl, Nat.le_of_ble_eq_true rfl⟩ ?_
                          refine lv_aload hx hb dL_areOrders_237 (lv_at hl 10 rfl) ?_
                          refine lv_iload hx hb dL_areOrders_239 (lv_at hl 3 rfl) ?_
                          refine o_dald hx hb hK hP 18 3 rfl rfl k (by omega) (by decide) dL_areOrders_241 ?_
                          rw [tD_k _ (by omega)]
                          refine lv_d2f hx hb dL_areOrders_242 (d2f_n (FP.Core.FFin.notNaN (hH k))) ?_
                          rw [d2f_f2d (FP.Core.FFin.notNaN (hH k))]
                          refine lv_ldcf hx hb hown (hts (.constantFloat RL 57 (1120403456)) (by decide +kernel)) dL_areOrders_243 ?_
                          refine lv_fmul hx hb dL_areOrders_245 (n32_of (mul_n (hH k) f100)) ?_
                          refine lv_f2i hx hb dL_areOrders_246 ?_
                          refine lv_icmp_ne (tgt := 285) hx hb dL_areOrders_247 (by decide) (fun c247 => ?_) (fun c247 => ?_)
                          · exact absurd rfl c247
                          · refine lv_aload_n hx hb dL_areOrders_250 rfl (lv_at hl 5 rfl) ?_
                            refine lv_iload hx hb dL_areOrders_251 (lv_at hl 3 rfl) ?_
                            refine lv_bipush (v := nI 7) hx hb dL_areOrders_253 (by decide +kernel) ?_
                            have hPc := hP.sub (ws' := [oSy z q h x r y] ++ (wRe cy r (q 0) ru1 kn1 va1 ++ wDo cy q M)) [0, 1, 2, 3, 4, 5, 6, 7, 8, 9, 10, 11, 12, 13] rfl
                            have hDc := hD.sub (ws' := [oSy z q h x r y] ++ (wRe cy r (q 0) ru1 kn1 va1 ++ wDo cy q M)) [0, 1, 2, 3, 4, 5, 6, 7, 8, 9, 10, 11, 12, 13] (by decide) rfl
                            have hFc := va_free (wc := [oSy z q h x r y] ++ (wRe cy r (q 0) ru1 kn1 va1 ++ wDo cy q M)) hD hS hA [0, 1, 2, 3, 4, 5, 6, 7, 8, 9, 10, 11, 12, 13] rfl
                            refine va_calli (va_runV (As := [.int (nI k), .int (nI 7)]) (rest := []) ⟨hx, hb, hml, hown, hts⟩ (kX7_order_7 l G cy hW hF hPc hDc k hk) (cwV 2 hts gL_areOrders_X7_order rfl rfl rfl (by decide +kernel) ⟨Nat.le_of_ble_eq_true rfl, Nat.le_of_ble_eq_true rfl⟩) ⟨pR_blind, va_recv hK hP (ci := 6) (q0 := 0) rfl rfl, pR_at hK⟩ rfl rfl hl.1 rfl (lv_room (Nat.le_of_ble_eq_true rfl)) dL_areOrders_255 ⟨Nat.le_of_ble_eq_true rfl, Nat.le_of_ble_eq_true rfl⟩) hS (fun q _ h => hFc q h) hFc (fun r_ u_ t_ H locs ht hvm hw_ hB hz1 hk1 hS => ?_)
                            rw [ht] at hB
                            have hP : va_P G vwCl ([oSy z q h x r y] ++ wRe cy r (q 0) (rl M) (kF M) (vF M) ++ wDo cy q M ++ wLa cy L M ++ [(ua, eD cy 1 u1)]) H := (o_join hP hD [0, 1, 2, 3, 4, 5, 6, 7, 8, 9, 10, 11, 12, 13] [14, 15, 16, 17, 18, 19] rfl (wr := wLa cy L M ++ [(ua, eD cy 1 u1)]) rfl (by decide) (by decide) (by decide) hk1 hFc hB rfl).sub [6, 7, 8, 9, 10, 11, 12, 13, 14, 15, 16, 17, 18, 19, 0, 1, 2, 3, 4, 5] rfl
                            have hD : va_D A ([oSy z q h x r y] ++ wRe cy r (q 0) (rl M) (kF M) (vF M) ++ wDo cy q M ++ wLa cy L M ++ [(ua, eD cy 1 u1)]) := vd_same hD rfl
                            obtain rfl : r_ = bI (rl M (mW M k) = some k) := hw_
                            have hPl := hP.sub (ws' := wLa cy L M) [14, 15, 16, 17, 18] rfl
                            have hPq := hP.sub (ws' := [oSy z q h x r y] ++ wDo cy q M) [0, 5, 6, 7, 8, 9, 10, 11, 12, 13] rfl
                            refine lv_aload_n hx hb dL_areOrders_258 rfl (lv_at hl 6 rfl) ?_
                            refine lv_aload_n hx hb dL_areOrders_259 rfl (lv_at hl 7 rfl) ?_
                            refine lv_aload_n hx hb dL_areOrders_260 rfl (lv_at hl 8 rfl) ?_
                            refine lv_aload_n hx hb dL_areOrders_261 rfl (lv_at hl 8 rfl) ?_
                            refine lv_iconst (v := nI 4) hx hb dL_areOrders_262 (by decide +kernel) ?_
                            refine lv_iload hx hb dL_areOrders_263 (lv_at hl 3 rfl) ?_
                            refine lv_imul hx hb dL_areOrders_265 ?_
                            rw [pk_mul]
                            refine lv_iconst (v := nI 1) hx hb dL_areOrders_266 (by decide +kernel) ?_
                            refine lv_iadd hx hb dL_areOrders_267 ?_
                            rw [nI_add]
                            refine o_iald hx hb hK hP 16 0 rfl rfl ((4 * k) + 1) (by omega) (by decide) dL_areOrders_268 ?_
                            rw [aI_1]
                            refine o_SI (As := [.ref (L 0), .ref (L 1), .ref (L 2), .int (nI (mW M k))]) (rest := [.int (bI (rl M (mW M k) = some k))]) ⟨hx, hb, hml, hown, hts⟩ (kL_ruling l G cy hW hN hPl (mW M k) b1) (va_cwS 4 hts gL_areOrders_L_ruling rfl rfl rfl (by decide +kernel) ⟨Nat.le_of_ble_eq_true rfl, Nat.le_of_ble_eq_true rfl⟩) hK rfl hl.1 rfl (Nat.le_of_ble_eq_true rfl) dL_areOrders_269 ⟨Nat.le_of_ble_eq_true rfl, Nat.le_of_ble_eq_true rfl⟩ ?_
                            refine lv_iload hx hb dL_areOrders_272 (lv_at hl 3 rfl) ?_
                            refine lv_icmp_ne (tgt := 281) hx hb dL_areOrders_274 (by decide) (fun c274 => ?_) (fun c274 => ?_)
                            · refine lv_iconst (v := nI 0) hx hb dL_areOrders_281 (by decide +kernel) ?_
                              refine lv_icmp_eq (tgt := 287) hx hb dL_areOrders_282 (by decide) (fun c282 => ?_) (fun c282 => ?_)
                              · refine lv_aload_n hx hb dL_areOrders_287 rfl (lv_at hl 5 rfl) ?_
                                refine lv_iload hx hb dL_areOrders_288 (lv_at hl 3 rfl) ?_
                                refine lv_iconst (v := nI 0) hx hb dL_areOrders_290 (by decide +kernel) ?_
                                refine o_VF (As := [.int (nI k), .int (nI 0)]) (rest := []) ⟨hx, hb, hml, hown, hts⟩ (kX7_real_0 l G cy hW hPq k hk) (cwV 2 hts gL_areOrders_X7_real rfl rfl rfl (by decide +kernel) ⟨Nat.le_of_ble_eq_true rfl, Nat.le_of_ble_eq_true rfl⟩) hK (va_recv hK hP (ci := 6) (q0 := 0) rfl rfl) rfl hl.1 rfl (Nat.le_of_ble_eq_true rfl) dL_areOrders_291 ⟨Nat.le_of_ble_eq_true rfl, Nat.le_of_ble_eq_true rfl⟩ ?_
                                refine lv_f2d hx hb dL_areOrders_294 (f2d_n (FP.Core.FFin.notNaN (hF.2 k))) ?_
                                refine lv_aload hx hb dL_areOrders_295 (lv_at hl 9 rfl) ?_
                                refine lv_iconst (v := nI 2) hx hb dL_areOrders_297 (by decide +kernel) ?_
                                refine lv_iload hx hb dL_areOrders_298 (lv_at hl 3 rfl) ?_
                                refine lv_imul hx hb dL_areOrders_300 ?_
                                rw [pk_mul]
                                refine lv_iconst (v := nI 1) hx hb dL_areOrders_301 (by decide +kernel) ?_
                                refine lv_iadd hx hb dL_areOrders_302 ?_
                                rw [nI_add]
                                refine o_dald hx hb hK hP 17 3 rfl rfl ((2 * k) + 1) (by omega) (by decide) dL_areOrders_303 ?_
                                rw [vD_1]
                                refine lv_dcmp hx hb dL_areOrders_304 ?_
                                refine lv_if_ne (tgt := 344) hx hb dL_areOrders_305 (by decide) (fun c305 => ?_) (fun c305 => ?_)
                                · exact absurd (cmp_same (hF.2 k)) c305
                                · refine lv_aload_n hx hb dL_areOrders_308 rfl (lv_at hl 5 rfl) ?_
                                  refine lv_iload hx hb dL_areOrders_309 (lv_at hl 3 rfl) ?_
                                  refine lv_iconst (v := nI 1) hx hb dL_areOrders_311 (by decide +kernel) ?_
                                  refine o_VF (As := [.int (nI k), .int (nI 1)]) (rest := []) ⟨hx, hb, hml, hown, hts⟩ (kX7_real_1 l G cy hW hPq k hk) (cwV 2 hts gL_areOrders_X7_real rfl rfl rfl (by decide +kernel) ⟨Nat.le_of_ble_eq_true rfl, Nat.le_of_ble_eq_true rfl⟩) hK (va_recv hK hP (ci := 6) (q0 := 0) rfl rfl) rfl hl.1 rfl (Nat.le_of_ble_eq_true rfl) dL_areOrders_312 ⟨Nat.le_of_ble_eq_true rfl, Nat.le_of_ble_eq_true rfl⟩ ?_
                                  refine lv_f2d hx hb dL_areOrders_315 (f2d_n (FP.Core.FFin.notNaN (hF.1 k))) ?_
                                  refine lv_aload hx hb dL_areOrders_316 (lv_at hl 9 rfl) ?_
                                  refine lv_iconst (v := nI 2) hx hb dL_areOrders_318 (by decide +kernel) ?_
                                  refine lv_iload hx hb dL_areOrders_319 (lv_at hl 3 rfl) ?_
                                  refine lv_imul hx hb dL_areOrders_321 ?_
                                  rw [pk_mul]
                                  refine o_dald hx hb hK hP 17 3 rfl rfl (2 * k) (by omega) (by decide) dL_areOrders_322 ?_
                                  rw [vD_0]
                                  refine lv_dcmp hx hb dL_areOrders_323 ?_
                                  refine lv_if_ne (tgt := 344) hx hb dL_areOrders_324 (by decide) (fun c324 => ?_) (fun c324 => ?_)
                                  · exact absurd (cmp_same (hF.1 k)) c324
                                  · refine lv_aload_n hx hb dL_areOrders_327 rfl (lv_at hl 5 rfl) ?_
                                    refine lv_iload hx hb dL_areOrders_328 (lv_at hl 3 rfl) ?_
                                    refine lv_iconst (v := nI 2) hx hb dL_areOrders_330 (by decide +kernel) ?_
                                    refine o_VF (As := [.int (nI k), .int (nI 2)]) (rest := []) ⟨hx, hb, hml, hown, hts⟩ (kX7_real_2 l G cy hW hPq k hk) (cwV 2 hts gL_areOrders_X7_real rfl rfl rfl (by decide +kernel) ⟨Nat.le_of_ble_eq_true rfl, Nat.le_of_ble_eq_true rfl⟩) hK (va_recv hK hP (ci := 6) (q0 := 0) rfl rfl) rfl hl.1 rfl (Nat.le_of_ble_eq_true rfl) dL_areOrders_331 ⟨Nat.le_of_ble_eq_true rfl, Nat.le_of_ble_eq_true rfl⟩ ?_
                                    refine lv_f2d hx hb dL_areOrders_334 (f2d_n (FP.Core.FFin.notNaN (hH k))) ?_
                                    refine lv_aload hx hb dL_areOrders_335 (lv_at hl 10 rfl) ?_
                                    refine lv_iload hx hb dL_areOrders_337 (lv_at hl 3 rfl) ?_
                                    refine o_dald hx hb hK hP 18 3 rfl rfl k (by omega) (by decide) dL_areOrders_339 ?_
                                    rw [tD_k _ (by omega)]
                                    refine lv_dcmp hx hb dL_areOrders_340 ?_
                                    refine lv_if_eq (tgt := 346) hx hb dL_areOrders_341 (by decide) (fun c341 => ?_) (fun c341 => ?_)
                                    · refine lv_iload hx hb dL_areOrders_346 (lv_at hl 4 rfl) ?_
                                      refine lv_aload_n hx hb dL_areOrders_348 rfl (lv_at hl 8 rfl) ?_
                                      refine lv_iconst (v := nI 4) hx hb dL_areOrders_349 (by decide +kernel) ?_
                                      refine lv_iload hx hb dL_areOrders_350 (lv_at hl 3 rfl) ?_
                                      refine lv_imul hx hb dL_areOrders_352 ?_
                                      rw [pk_mul]
                                      refine lv_iconst (v := nI 3) hx hb dL_areOrders_353 (by decide +kernel) ?_
                                      refine lv_iadd hx hb dL_areOrders_354 ?_
                                      rw [nI_add]
                                      refine o_iald hx hb hK hP 16 0 rfl rfl ((4 * k) + 3) (by omega) (by decide) dL_areOrders_355 ?_
                                      rw [aI_3]
                                      refine lv_iadd hx hb dL_areOrders_356 ?_
                                      rw [bI_t c28, nI_1]
                                      refine lv_istore (lv' := [(7, .int (nI (cR (ftB M 1) 0 k + 1))), (11, .int (nI 1)), (10, .int (nI (cR (hfB M (mW M k)) 0 k))), (9, .int (nI 1)), (8, .int (nI k)), (0, .ref z), (1, .ref (L 0)), (2, .ref (L 1)), (3, .ref (L 2)), (4, .ref (L 3)), (5, .ref (L 4)), (6, .ref ua)]) hx hb dL_areOrders_357 hl (by decide) rfl (fun ls hl => ?_)
                                      refine lv_iload hx hb dL_areOrders_359 (lv_at hl 3 rfl) ?_
                                      refine o_if_eq (tgt := 411) hx hb dL_areOrders_361 (by decide) (by omega) (fun c361 => ?_) (fun c361 => ?_)
                                      · exact absurd c361 (by decide)
                                      · rcases Classical.em (oHas M (kF M) (vF M) k = true) with hoh | hoh
                                        · refine lv_aload_n hx hb dL_areOrders_364 rfl (lv_at hl 5 rfl) ?_
                                          refine lv_iload hx hb dL_areOrders_365 (lv_at hl 4 rfl) ?_
                                          have hPc := hP.sub (ws' := [oSy z q h x r y] ++ (wRe cy r (q 0) (rl M) (kF M) (vF M) ++ wDo cy q M)) [0, 1, 2, 3, 4, 5, 6, 7, 8, 9, 10, 11, 12, 13] rfl
                                          have hDc := hD.sub (ws' := [oSy z q h x r y] ++ (wRe cy r (q 0) (rl M) (kF M) (vF M) ++ wDo cy q M)) [0, 1, 2, 3, 4, 5, 6, 7, 8, 9, 10, 11, 12, 13] (by decide) rfl
                                          have hFc := va_free (wc := [oSy z q h x r y] ++ (wRe cy r (q 0) (rl M) (kF M) (vF M) ++ wDo cy q M)) hD hS hA [0, 1, 2, 3, 4, 5, 6, 7, 8, 9, 10, 11, 12, 13] rfl
                                          refine va_callf (va_runV (As := [.int (nI k)]) (rest := []) ⟨hx, hb, hml, hown, hts⟩ (kX7_valueOf_k l G cy hW hF hPc hDc k hk hoh) (cwV 1 hts gL_areOrders_X7_valueOf rfl rfl rfl (by decide +kernel) ⟨Nat.le_of_ble_eq_true rfl, Nat.le_of_ble_eq_true rfl⟩) ⟨pR_blind, va_recv hK hP (ci := 6) (q0 := 0) rfl rfl, pR_at hK⟩ rfl rfl hl.1 rfl (lv_room (Nat.le_of_ble_eq_true rfl)) dL_areOrders_367 ⟨Nat.le_of_ble_eq_true rfl, Nat.le_of_ble_eq_true rfl⟩) hS (fun q _ h => hFc q h) hFc (fun r_ u_ t_ H locs ht hvm hw_ hB hz1 hk1 hS => ?_)
                                          rw [ht] at hB
                                          have hP : va_P G vwCl ([oSy z q h x r y] ++ wRe cy r (q 0) (rl M) (kF M) (vF M) ++ wDo cy q M ++ wLa cy L M ++ [(ua, eD cy 1 u1)]) H := (o_join hP hD [0, 1, 2, 3, 4, 5, 6, 7, 8, 9, 10, 11, 12, 13] [14, 15, 16, 17, 18, 19] rfl (wr := wLa cy L M ++ [(ua, eD cy 1 u1)]) rfl (by decide) (by decide) (by decide) hk1 hFc hB rfl).sub [6, 7, 8, 9, 10, 11, 12, 13, 14, 15, 16, 17, 18, 19, 0, 1, 2, 3, 4, 5] rfl
                                          have hD : va_D A ([oSy z q h x r y] ++ wRe cy r (q 0) (rl M) (kF M) (vF M) ++ wDo cy q M ++ wLa cy L M ++ [(ua, eD cy 1 u1)]) := vd_same hD rfl
                                          obtain rfl : r_ = oVal M (vF M) k := hw_
                                          have hPl := hP.sub (ws' := wLa cy L M) [14, 15, 16, 17, 18] rfl
                                          have hPq := hP.sub (ws' := [oSy z q h x r y] ++ wDo cy q M) [0, 5, 6, 7, 8, 9, 10, 11, 12, 13] rfl
                                          refine lv_fstore (lv' := [(12, .float (oVal M (vF M) k)), (7, .int (nI (cR (ftB M 1) 0 k + 1))), (11, .int (nI 1)), (10, .int (nI (cR (hfB M (mW M k)) 0 k))), (9, .int (nI 1)), (8, .int (nI k)), (0, .ref z), (1, .ref (L 0)), (2, .ref (L 1)), (3, .ref (L 2)), (4, .ref (L 3)), (5, .ref (L 4)), (6, .ref ua)]) hx hb dL_areOrders_370 hl (by decide) rfl (fun ls hl => ?_)
                                          refine lv_aload_n hx hb dL_areOrders_372 rfl (lv_at hl 7 rfl) ?_
                                          refine lv_aload_n hx hb dL_areOrders_373 rfl (lv_at hl 8 rfl) ?_
                                          refine lv_aload_n hx hb dL_areOrders_374 rfl (lv_at hl 9 rfl) ?_
                                          refine lv_aload hx hb dL_areOrders_375 (lv_at hl 10 rfl) ?_
                                          refine lv_iload hx hb dL_areOrders_377 (lv_at hl 5 rfl) ?_
                                          refine lv_aload hx hb dL_areOrders_379 (lv_at hl 12 rfl) ?_
                                          have hPc := hP.sub (ws' := wLa cy L M ++ [(ua, eD cy 1 u1)]) [14, 15, 16, 17, 18, 19] rfl
                                          have hDc := hD.sub (ws' := wLa cy L M ++ [(ua, eD cy 1 u1)]) [14, 15, 16, 17, 18, 19] (by decide) rfl
                                          have hFc := va_free (wc := wLa cy L M ++ [(ua, eD cy 1 u1)]) hD hS hA [14, 15, 16, 17, 18, 19] rfl
                                          refine va_calli (va_runS (As := [.ref (L 0), .ref (L 1), .ref (L 2), .ref (L 3), .int (nI k), .ref ua]) (rest := []) ⟨hx, hb, hml, hown, hts⟩ (kL_hasOf l G cy hW hF hU hN hPc hDc k hk) (va_cwS 6 hts gL_areOrders_L_hasOf rfl rfl rfl (by decide +kernel) ⟨Nat.le_of_ble_eq_true rfl, Nat.le_of_ble_eq_true rfl⟩) ⟨pR_blind, pR_at hK⟩ rfl rfl hl.1 rfl (lv_room (Nat.le_of_ble_eq_true rfl)) dL_areOrders_381 ⟨Nat.le_of_ble_eq_true rfl, Nat.le_of_ble_eq_true rfl⟩) hS (fun q _ h => hFc q h) hFc (fun r_ u2 t_ H locs ht hvm hw_ hB hz1 hk1 hS => ?_)
                                          obtain ⟨hr_, huu2⟩ := hw_
                                          subst hr_
                                          have hB : va_P G vwCl (wLa cy L M ++ [(ua, eD cy 1 u2)]) t_.heap := hB
                                          rw [ht] at hB
                                          have hP : va_P G vwCl ([oSy z q h x r y] ++ (wRe cy r (q 0) (rl M) (kF M) (vF M) ++ wDo cy q M) ++ (wLa cy L M ++ [(ua, eD cy 1 u2)])) H := o_join hP hD [14, 15, 16, 17, 18, 19] [0, 1, 2, 3, 4, 5, 6, 7, 8, 9, 10, 11, 12, 13] rfl (wr := [oSy z q h x r y] ++ (wRe cy r (q 0) (rl M) (kF M) (vF M) ++ wDo cy q M)) rfl (by decide) (by decide) (by decide) hk1 hFc hB rfl
                                          have hD : va_D A ([oSy z q h x r y] ++ (wRe cy r (q 0) (rl M) (kF M) (vF M) ++ wDo cy q M) ++ (wLa cy L M ++ [(ua, eD cy 1 u2)])) := vd_same hD rfl
                                          have hPl := hP.sub (ws' := wLa cy L M) [14, 15, 16, 17, 18] rfl
                                          have hPq := hP.sub (ws' := [oSy z q h x r y] ++ wDo cy q M) [0, 5, 6, 7, 8, 9, 10, 11, 12, 13] rfl
                                          refine o_ifb_eq (tgt := 401) hx hb dL_areOrders_384 (by decide) (fun c384 => ?_) (fun c384 => ?_)
                                          · exact absurd hoh c384
                                          · refine lv_fload hx hb dL_areOrders_387 (lv_at hl 0 rfl) ?_
                                            refine lv_f2d hx hb dL_areOrders_389 (f2d_n (FP.Core.FFin.notNaN (rng_fin (oHas_rng hoh)))) ?_
                                            refine lv_aload hx hb dL_areOrders_390 (lv_at hl 12 rfl) ?_
                                            refine lv_iconst (v := nI 0) hx hb dL_areOrders_392 (by decide +kernel) ?_
                                            refine o_dald hx hb hK hP 19 3 rfl rfl 0 (by omega) (by decide) dL_areOrders_393 ?_
                                            rw [huu2 hoh]
                                            refine lv_dcmp hx hb dL_areOrders_394 ?_
                                            refine lv_if_eq (tgt := 411) hx hb dL_areOrders_395 (by decide) (fun c395 => ?_) (fun c395 => ?_)
                                            · refine lv_iinc (v := nI (k + 1)) (lv' := [(8, .int (nI (k + 1))), (12, .float (oVal M (vF M) k)), (7, .int (nI (cR (ftB M 1) 0 k + 1))), (11, .int (nI 1)), (10, .int (nI (cR (hfB M (mW M k)) 0 k))), (9, .int (nI 1)), (0, .ref z), (1, .ref (L 0)), (2, .ref (L 1)), (3, .ref (L 2)), (4, .ref (L 3)), (5, .ref (L 4)), (6, .ref ua)]) hx hb dL_areOrders_411 hl (k := 5) rfl (nI_1 k) (by decide) rfl (fun ls hl => ?_)
                                              refine lv_goto (tgt := 11) hx hb dL_areOrders_414 (by decide) ?_
                                              refine ih11 (k + 1, rl M, kF M, vF M, u2) ls H locs ?_ ?_ ?_
                                              · exact ⟨by omega, hP, hD, hS⟩
                                              · show lv_has ls 13 [(8, .int (nI (k + 1))), (7, .int (nI (cR (ftB M 1) 0 (k + 1)))), (0, .ref z), (1, .ref (L 0)), (2, .ref (L 1)), (3, .ref (L 2)), (4, .ref (L 3)), (5, .ref (L 4)), (6, .ref ua)]
                                                rw [cZ_t (p := ftB M 1) (ftB_iff.mpr c28)]
                                                exact lv_sub hl [0, 2, 6, 7, 8, 9, 10, 11, 12] rfl
                                              · show mN M - (k + 1) < mN M - k; omega
                                            · exact absurd (cmp_same (rng_fin (oHas_rng hoh))) c395
                                        · refine lv_aload_n hx hb dL_areOrders_364 rfl (lv_at hl 5 rfl) ?_
                                          refine lv_iload hx hb dL_areOrders_365 (lv_at hl 4 rfl) ?_
                                          have hPc := hP.sub (ws' := [oSy z q h x r y] ++ (wRe cy r (q 0) (rl M) (kF M) (vF M) ++ wDo cy q M)) [0, 1, 2, 3, 4, 5, 6, 7, 8, 9, 10, 11, 12, 13] rfl
                                          have hDc := hD.sub (ws' := [oSy z q h x r y] ++ (wRe cy r (q 0) (rl M) (kF M) (vF M) ++ wDo cy q M)) [0, 1, 2, 3, 4, 5, 6, 7, 8, 9, 10, 11, 12, 13] (by decide) rfl
                                          have hFc := va_free (wc := [oSy z q h x r y] ++ (wRe cy r (q 0) (rl M) (kF M) (vF M) ++ wDo cy q M)) hD hS hA [0, 1, 2, 3, 4, 5, 6, 7, 8, 9, 10, 11, 12, 13] rfl
                                          refine va_callf (va_runV (As := [.int (nI k)]) (rest := []) ⟨hx, hb, hml, hown, hts⟩ (kX7_valueOf_n l G cy hW hF hPc hDc k hk hoh) (cwV 1 hts gL_areOrders_X7_valueOf rfl rfl rfl (by decide +kernel) ⟨Nat.le_of_ble_eq_true rfl, Nat.le_of_ble_eq_true rfl⟩) ⟨pR_blind, va_recv hK hP (ci := 6) (q0 := 0) rfl rfl, pR_at hK⟩ rfl rfl hl.1 rfl (lv_room (Nat.le_of_ble_eq_true rfl)) dL_areOrders_367 ⟨Nat.le_of_ble_eq_true rfl, Nat.le_of_ble_eq_true rfl⟩) hS (fun q _ h => hFc q h) hFc (fun r_ u_ t_ H locs ht hvm hw_ hB hz1 hk1 hS => ?_)
                                          rw [ht] at hB
                                          have hP : va_P G vwCl ([oSy z q h x r y] ++ wRe cy r (q 0) (rl M) (kF M) (vF M) ++ wDo cy q M ++ wLa cy L M ++ [(ua, eD cy 1 u1)]) H := (o_join hP hD [0, 1, 2, 3, 4, 5, 6, 7, 8, 9, 10, 11, 12, 13] [14, 15, 16, 17, 18, 19] rfl (wr := wLa cy L M ++ [(ua, eD cy 1 u1)]) rfl (by decide) (by decide) (by decide) hk1 hFc hB rfl).sub [6, 7, 8, 9, 10, 11, 12, 13, 14, 15, 16, 17, 18, 19, 0, 1, 2, 3, 4, 5] rfl
                                          have hD : va_D A ([oSy z q h x r y] ++ wRe cy r (q 0) (rl M) (kF M) (vF M) ++ wDo cy q M ++ wLa cy L M ++ [(ua, eD cy 1 u1)]) := vd_same hD rfl
                                          obtain rfl : r_ = 2143289344 := hw_
                                          have hPl := hP.sub (ws' := wLa cy L M) [14, 15, 16, 17, 18] rfl
                                          have hPq := hP.sub (ws' := [oSy z q h x r y] ++ wDo cy q M) [0, 5, 6, 7, 8, 9, 10, 11, 12, 13] rfl
                                          refine lv_fstore (lv' := [(12, .float 2143289344), (7, .int (nI (cR (ftB M 1) 0 k + 1))), (11, .int (nI 1)), (10, .int (nI (cR (hfB M (mW M k)) 0 k))), (9, .int (nI 1)), (8, .int (nI k)), (0, .ref z), (1, .ref (L 0)), (2, .ref (L 1)), (3, .ref (L 2)), (4, .ref (L 3)), (5, .ref (L 4)), (6, .ref ua)]) hx hb dL_areOrders_370 hl (by decide) rfl (fun ls hl => ?_)
                                          refine lv_aload_n hx hb dL_areOrders_372 rfl (lv_at hl 7 rfl) ?_
                                          refine lv_aload_n hx hb dL_areOrders_373 rfl (lv_at hl 8 rfl) ?_
                                          refine lv_aload_n hx hb dL_areOrders_374 rfl (lv_at hl 9 rfl) ?_
                                          refine lv_aload hx hb dL_areOrders_375 (lv_at hl 10 rfl) ?_
                                          refine lv_iload hx hb dL_areOrders_377 (lv_at hl 5 rfl) ?_
                                          refine lv_aload hx hb dL_areOrders_379 (lv_at hl 12 rfl) ?_
                                          have hPc := hP.sub (ws' := wLa cy L M ++ [(ua, eD cy 1 u1)]) [14, 15, 16, 17, 18, 19] rfl
                                          have hDc := hD.sub (ws' := wLa cy L M ++ [(ua, eD cy 1 u1)]) [14, 15, 16, 17, 18, 19] (by decide) rfl
                                          have hFc := va_free (wc := wLa cy L M ++ [(ua, eD cy 1 u1)]) hD hS hA [14, 15, 16, 17, 18, 19] rfl
                                          refine va_calli (va_runS (As := [.ref (L 0), .ref (L 1), .ref (L 2), .ref (L 3), .int (nI k), .ref ua]) (rest := []) ⟨hx, hb, hml, hown, hts⟩ (kL_hasOf l G cy hW hF hU hN hPc hDc k hk) (va_cwS 6 hts gL_areOrders_L_hasOf rfl rfl rfl (by decide +kernel) ⟨Nat.le_of_ble_eq_true rfl, Nat.le_of_ble_eq_true rfl⟩) ⟨pR_blind, pR_at hK⟩ rfl rfl hl.1 rfl (lv_room (Nat.le_of_ble_eq_true rfl)) dL_areOrders_381 ⟨Nat.le_of_ble_eq_true rfl, Nat.le_of_ble_eq_true rfl⟩) hS (fun q _ h => hFc q h) hFc (fun r_ u2 t_ H locs ht hvm hw_ hB hz1 hk1 hS => ?_)
                                          obtain ⟨hr_, huu2⟩ := hw_
                                          subst hr_
                                          have hB : va_P G vwCl (wLa cy L M ++ [(ua, eD cy 1 u2)]) t_.heap := hB
                                          rw [ht] at hB
                                          have hP : va_P G vwCl ([oSy z q h x r y] ++ (wRe cy r (q 0) (rl M) (kF M) (vF M) ++ wDo cy q M) ++ (wLa cy L M ++ [(ua, eD cy 1 u2)])) H := o_join hP hD [14, 15, 16, 17, 18, 19] [0, 1, 2, 3, 4, 5, 6, 7, 8, 9, 10, 11, 12, 13] rfl (wr := [oSy z q h x r y] ++ (wRe cy r (q 0) (rl M) (kF M) (vF M) ++ wDo cy q M)) rfl (by decide) (by decide) (by decide) hk1 hFc hB rfl
                                          have hD : va_D A ([oSy z q h x r y] ++ (wRe cy r (q 0) (rl M) (kF M) (vF M) ++ wDo cy q M) ++ (wLa cy L M ++ [(ua, eD cy 1 u2)])) := vd_same hD rfl
                                          have hPl := hP.sub (ws' := wLa cy L M) [14, 15, 16, 17, 18] rfl
                                          have hPq := hP.sub (ws' := [oSy z q h x r y] ++ wDo cy q M) [0, 5, 6, 7, 8, 9, 10, 11, 12, 13] rfl
                                          refine o_ifb_eq (tgt := 401) hx hb dL_areOrders_384 (by decide) (fun c384 => ?_) (fun c384 => ?_)
                                          · refine lv_fload hx hb dL_areOrders_401 (lv_at hl 0 rfl) ?_
                                            refine lv_fload hx hb dL_areOrders_403 (lv_at hl 0 rfl) ?_
                                            refine lv_fcmp hx hb dL_areOrders_405 ?_
                                            refine lv_if_ne (tgt := 411) hx hb dL_areOrders_406 (by decide) (fun c406 => ?_) (fun c406 => ?_)
                                            · refine lv_iinc (v := nI (k + 1)) (lv' := [(8, .int (nI (k + 1))), (12, .float 2143289344), (7, .int (nI (cR (ftB M 1) 0 k + 1))), (11, .int (nI 1)), (10, .int (nI (cR (hfB M (mW M k)) 0 k))), (9, .int (nI 1)), (0, .ref z), (1, .ref (L 0)), (2, .ref (L 1)), (3, .ref (L 2)), (4, .ref (L 3)), (5, .ref (L 4)), (6, .ref ua)]) hx hb dL_areOrders_411 hl (k := 5) rfl (nI_1 k) (by decide) rfl (fun ls hl => ?_)
                                              refine lv_goto (tgt := 11) hx hb dL_areOrders_414 (by decide) ?_
                                              refine ih11 (k + 1, rl M, kF M, vF M, u2) ls H locs ?_ ?_ ?_
                                              · exact ⟨by omega, hP, hD, hS⟩
                                              · show lv_has ls 13 [(8, .int (nI (k + 1))), (7, .int (nI (cR (ftB M 1) 0 (k + 1)))), (0, .ref z), (1, .ref (L 0)), (2, .ref (L 1)), (3, .ref (L 2)), (4, .ref (L 3)), (5, .ref (L 4)), (6, .ref ua)]
                                                rw [cZ_t (p := ftB M 1) (ftB_iff.mpr c28)]
                                                exact lv_sub hl [0, 2, 6, 7, 8, 9, 10, 11, 12] rfl
                                              · show mN M - (k + 1) < mN M - k; omega
                                            · exact absurd c406 (by decide +kernel)
                                          · exact absurd c384 hoh
                                    · exact absurd (cmp_same (hH k)) c341
                              · exact absurd (by rw [bI_f (fun z => c274 ((lk_eq (nI_lt40 (by omega)) (lk_b hW)).mpr z))]; decide) c282
                            · refine lv_iconst (v := nI 1) hx hb dL_areOrders_277 (by decide +kernel) ?_
                              refine lv_goto (tgt := 282) hx hb dL_areOrders_278 (by decide) ?_
                              refine lv_icmp_eq (tgt := 287) hx hb dL_areOrders_282 (by decide) (fun c282 => ?_) (fun c282 => ?_)
                              · refine lv_aload_n hx hb dL_areOrders_287 rfl (lv_at hl 5 rfl) ?_
                                refine lv_iload hx hb dL_areOrders_288 (lv_at hl 3 rfl) ?_
                                refine lv_iconst (v := nI 0) hx hb dL_areOrders_290 (by decide +kernel) ?_
                                refine o_VF (As := [.int (nI k), .int (nI 0)]) (rest := []) ⟨hx, hb, hml, hown, hts⟩ (kX7_real_0 l G cy hW hPq k hk) (cwV 2 hts gL_areOrders_X7_real rfl rfl rfl (by decide +kernel) ⟨Nat.le_of_ble_eq_true rfl, Nat.le_of_ble_eq_true rfl⟩) hK (va_recv hK hP (ci := 6) (q0 := 0) rfl rfl) rfl hl.1 rfl (Nat.le_of_ble_eq_true rfl) dL_areOrders_291 ⟨Nat.le_of_ble_eq_true rfl, Nat.le_of_ble_eq_true rfl⟩ ?_
                                refine lv_f2d hx hb dL_areOrders_294 (f2d_n (FP.Core.FFin.notNaN (hF.2 k))) ?_
                                refine lv_aload hx hb dL_areOrders_295 (lv_at hl 9 rfl) ?_
                                refine lv_iconst (v := nI 2) hx hb dL_areOrders_297 (by decide +kernel) ?_
                                refine lv_iload hx hb dL_areOrders_298 (lv_at hl 3 rfl) ?_
                                refine lv_imul hx hb dL_areOrders_300 ?_
                                rw [pk_mul]
                                refine lv_iconst (v := nI 1) hx hb dL_areOrders_301 (by decide +kernel) ?_
                                refine lv_iadd hx hb dL_areOrders_302 ?_
                                rw [nI_add]
                                refine o_dald hx hb hK hP 17 3 rfl rfl ((2 * k) + 1) (by omega) (by decide) dL_areOrders_303 ?_
                                rw [vD_1]
                                refine lv_dcmp hx hb dL_areOrders_304 ?_
                                refine lv_if_ne (tgt := 344) hx hb dL_areOrders_305 (by decide) (fun c305 => ?_) (fun c305 => ?_)
                                · exact absurd (cmp_same (hF.2 k)) c305
                                · refine lv_aload_n hx hb dL_areOrders_308 rfl (lv_at hl 5 rfl) ?_
                                  refine lv_iload hx hb dL_areOrders_309 (lv_at hl 3 rfl) ?_
                                  refine lv_iconst (v := nI 1) hx hb dL_areOrders_311 (by decide +kernel) ?_
                                  refine o_VF (As := [.int (nI k), .int (nI 1)]) (rest := []) ⟨hx, hb, hml, hown, hts⟩ (kX7_real_1 l G cy hW hPq k hk) (cwV 2 hts gL_areOrders_X7_real rfl rfl rfl (by decide +kernel) ⟨Nat.le_of_ble_eq_true rfl, Nat.le_of_ble_eq_true rfl⟩) hK (va_recv hK hP (ci := 6) (q0 := 0) rfl rfl) rfl hl.1 rfl (Nat.le_of_ble_eq_true rfl) dL_areOrders_312 ⟨Nat.le_of_ble_eq_true rfl, Nat.le_of_ble_eq_true rfl⟩ ?_
                                  refine lv_f2d hx hb dL_areOrders_315 (f2d_n (FP.Core.FFin.notNaN (hF.1 k))) ?_
                                  refine lv_aload hx hb dL_areOrders_316 (lv_at hl 9 rfl) ?_
                                  refine lv_iconst (v := nI 2) hx hb dL_areOrders_318 (by decide +kernel) ?_
                                  refine lv_iload hx hb dL_areOrders_319 (lv_at hl 3 rfl) ?_
                                  refine lv_imul hx hb dL_areOrders_321 ?_
                                  rw [pk_mul]
                                  refine o_dald hx hb hK hP 17 3 rfl rfl (2 * k) (by omega) (by decide) dL_areOrders_322 ?_
                                  rw [vD_0]
                                  refine lv_dcmp hx hb dL_areOrders_323 ?_
                                  refine lv_if_ne (tgt := 344) hx hb dL_areOrders_324 (by decide) (fun c324 => ?_) (fun c324 => ?_)
                                  · exact absurd (cmp_same (hF.1 k)) c324
                                  · refine lv_aload_n hx hb dL_areOrders_327 rfl (lv_at hl 5 rfl) ?_
                                    refine lv_iload hx hb dL_areOrders_328 (lv_at hl 3 rfl) ?_
                                    refine lv_iconst (v := nI 2) hx hb dL_areOrders_330 (by decide +kernel) ?_
                                    refine o_VF (As := [.int (nI k), .int (nI 2)]) (rest := []) ⟨hx, hb, hml, hown, hts⟩ (kX7_real_2 l G cy hW hPq k hk) (cwV 2 hts gL_areOrders_X7_real rfl rfl rfl (by decide +kernel) ⟨Nat.le_of_ble_eq_true rfl, Nat.le_of_ble_eq_true rfl⟩) hK (va_recv hK hP (ci := 6) (q0 := 0) rfl rfl) rfl hl.1 rfl (Nat.le_of_ble_eq_true rfl) dL_areOrders_331 ⟨Nat.le_of_ble_eq_true rfl, Nat.le_of_ble_eq_true rfl⟩ ?_
                                    refine lv_f2d hx hb dL_areOrders_334 (f2d_n (FP.Core.FFin.notNaN (hH k))) ?_
                                    refine lv_aload hx hb dL_areOrders_335 (lv_at hl 10 rfl) ?_
                                    refine lv_iload hx hb dL_areOrders_337 (lv_at hl 3 rfl) ?_
                                    refine o_dald hx hb hK hP 18 3 rfl rfl k (by omega) (by decide) dL_areOrders_339 ?_
                                    rw [tD_k _ (by omega)]
                                    refine lv_dcmp hx hb dL_areOrders_340 ?_
                                    refine lv_if_eq (tgt := 346) hx hb dL_areOrders_341 (by decide) (fun c341 => ?_) (fun c341 => ?_)
                                    · refine lv_iload hx hb dL_areOrders_346 (lv_at hl 4 rfl) ?_
                                      refine lv_aload_n hx hb dL_areOrders_348 rfl (lv_at hl 8 rfl) ?_
                                      refine lv_iconst (v := nI 4) hx hb dL_areOrders_349 (by decide +kernel) ?_
                                      refine lv_iload hx hb dL_areOrders_350 (lv_at hl 3 rfl) ?_
                                      refine lv_imul hx hb dL_areOrders_352 ?_
                                      rw [pk_mul]
                                      refine lv_iconst (v := nI 3) hx hb dL_areOrders_353 (by decide +kernel) ?_
                                      refine lv_iadd hx hb dL_areOrders_354 ?_
                                      rw [nI_add]
                                      refine o_iald hx hb hK hP 16 0 rfl rfl ((4 * k) + 3) (by omega) (by decide) dL_areOrders_355 ?_
                                      rw [aI_3]
                                      refine lv_iadd hx hb dL_areOrders_356 ?_
                                      rw [bI_t c28, nI_1]
                                      refine lv_istore (lv' := [(7, .int (nI (cR (ftB M 1) 0 k + 1))), (11, .int (nI 1)), (10, .int (nI (cR (hfB M (mW M k)) 0 k))), (9, .int (nI 1)), (8, .int (nI k)), (0, .ref z), (1, .ref (L 0)), (2, .ref (L 1)), (3, .ref (L 2)), (4, .ref (L 3)), (5, .ref (L 4)), (6, .ref ua)]) hx hb dL_areOrders_357 hl (by decide) rfl (fun ls hl => ?_)
                                      refine lv_iload hx hb dL_areOrders_359 (lv_at hl 3 rfl) ?_
                                      refine o_if_eq (tgt := 411) hx hb dL_areOrders_361 (by decide) (by omega) (fun c361 => ?_) (fun c361 => ?_)
                                      · exact absurd c361 (by decide)
                                      · rcases Classical.em (oHas M (kF M) (vF M) k = true) with hoh | hoh
                                        · refine lv_aload_n hx hb dL_areOrders_364 rfl (lv_at hl 5 rfl) ?_
                                          refine lv_iload hx hb dL_areOrders_365 (lv_at hl 4 rfl) ?_
                                          have hPc := hP.sub (ws' := [oSy z q h x r y] ++ (wRe cy r (q 0) (rl M) (kF M) (vF M) ++ wDo cy q M)) [0, 1, 2, 3, 4, 5, 6, 7, 8, 9, 10, 11, 12, 13] rfl
                                          have hDc := hD.sub (ws' := [oSy z q h x r y] ++ (wRe cy r (q 0) (rl M) (kF M) (vF M) ++ wDo cy q M)) [0, 1, 2, 3, 4, 5, 6, 7, 8, 9, 10, 11, 12, 13] (by decide) rfl
                                          have hFc := va_free (wc := [oSy z q h x r y] ++ (wRe cy r (q 0) (rl M) (kF M) (vF M) ++ wDo cy q M)) hD hS hA [0, 1, 2, 3, 4, 5, 6, 7, 8, 9, 10, 11, 12, 13] rfl
                                          refine va_callf (va_runV (As := [.int (nI k)]) (rest := []) ⟨hx, hb, hml, hown, hts⟩ (kX7_valueOf_k l G cy hW hF hPc hDc k hk hoh) (cwV 1 hts gL_areOrders_X7_valueOf rfl rfl rfl (by decide +kernel) ⟨Nat.le_of_ble_eq_true rfl, Nat.le_of_ble_eq_true rfl⟩) ⟨pR_blind, va_recv hK hP (ci := 6) (q0 := 0) rfl rfl, pR_at hK⟩ rfl rfl hl.1 rfl (lv_room (Nat.le_of_ble_eq_true rfl)) dL_areOrders_367 ⟨Nat.le_of_ble_eq_true rfl, Nat.le_of_ble_eq_true rfl⟩) hS (fun q _ h => hFc q h) hFc (fun r_ u_ t_ H locs ht hvm hw_ hB hz1 hk1 hS => ?_)
                                          rw [ht] at hB
                                          have hP : va_P G vwCl ([oSy z q h x r y] ++ wRe cy r (q 0) (rl M) (kF M) (vF M) ++ wDo cy q M ++ wLa cy L M ++ [(ua, eD cy 1 u1)]) H := (o_join hP hD [0, 1, 2, 3, 4, 5, 6, 7, 8, 9, 10, 11, 12, 13] [14, 15, 16, 17, 18, 19] rfl (wr := wLa cy L M ++ [(ua, eD cy 1 u1)]) rfl (by decide) (by decide) (by decide) hk1 hFc hB rfl).sub [6, 7, 8, 9, 10, 11, 12, 13, 14, 15, 16, 17, 18, 19, 0, 1, 2, 3, 4, 5] rfl
                                          have hD : va_D A ([oSy z q h x r y] ++ wRe cy r (q 0) (rl M) (kF M) (vF M) ++ wDo cy q M ++ wLa cy L M ++ [(ua, eD cy 1 u1)]) := vd_same hD rfl
                                          obtain rfl : r_ = oVal M (vF M) k := hw_
                                          have hPl := hP.sub (ws' := wLa cy L M) [14, 15, 16, 17, 18] rfl
                                          have hPq := hP.sub (ws' := [oSy z q h x r y] ++ wDo cy q M) [0, 5, 6, 7, 8, 9, 10, 11, 12, 13] rfl
                                          refine lv_fstore (lv' := [(12, .float (oVal M (vF M) k)), (7, .int (nI (cR (ftB M 1) 0 k + 1))), (11, .int (nI 1)), (10, .int (nI (cR (hfB M (mW M k)) 0 k))), (9, .int (nI 1)), (8, .int (nI k)), (0, .ref z), (1, .ref (L 0)), (2, .ref (L 1)), (3, .ref (L 2)), (4, .ref (L 3)), (5, .ref (L 4)), (6, .ref ua)]) hx hb dL_areOrders_370 hl (by decide) rfl (fun ls hl => ?_)
                                          refine lv_aload_n hx hb dL_areOrders_372 rfl (lv_at hl 7 rfl) ?_
                                          refine lv_aload_n hx hb dL_areOrders_373 rfl (lv_at hl 8 rfl) ?_
                                          refine lv_aload_n hx hb dL_areOrders_374 rfl (lv_at hl 9 rfl) ?_
                                          refine lv_aload hx hb dL_areOrders_375 (lv_at hl 10 rfl) ?_
                                          refine lv_iload hx hb dL_areOrders_377 (lv_at hl 5 rfl) ?_
                                          refine lv_aload hx hb dL_areOrders_379 (lv_at hl 12 rfl) ?_
                                          have hPc := hP.sub (ws' := wLa cy L M ++ [(ua, eD cy 1 u1)]) [14, 15, 16, 17, 18, 19] rfl
                                          have hDc := hD.sub (ws' := wLa cy L M ++ [(ua, eD cy 1 u1)]) [14, 15, 16, 17, 18, 19] (by decide) rfl
                                          have hFc := va_free (wc := wLa cy L M ++ [(ua, eD cy 1 u1)]) hD hS hA [14, 15, 16, 17, 18, 19] rfl
                                          refine va_calli (va_runS (As := [.ref (L 0), .ref (L 1), .ref (L 2), .ref (L 3), .int (nI k), .ref ua]) (rest := []) ⟨hx, hb, hml, hown, hts⟩ (kL_hasOf l G cy hW hF hU hN hPc hDc k hk) (va_cwS 6 hts gL_areOrders_L_hasOf rfl rfl rfl (by decide +kernel) ⟨Nat.le_of_ble_eq_true rfl, Nat.le_of_ble_eq_true rfl⟩) ⟨pR_blind, pR_at hK⟩ rfl rfl hl.1 rfl (lv_room (Nat.le_of_ble_eq_true rfl)) dL_areOrders_381 ⟨Nat.le_of_ble_eq_true rfl, Nat.le_of_ble_eq_true rfl⟩) hS (fun q _ h => hFc q h) hFc (fun r_ u2 t_ H locs ht hvm hw_ hB hz1 hk1 hS => ?_)
                                          obtain ⟨hr_, huu2⟩ := hw_
                                          subst hr_
                                          have hB : va_P G vwCl (wLa cy L M ++ [(ua, eD cy 1 u2)]) t_.heap := hB
                                          rw [ht] at hB
                                          have hP : va_P G vwCl ([oSy z q h x r y] ++ (wRe cy r (q 0) (rl M) (kF M) (vF M) ++ wDo cy q M) ++ (wLa cy L M ++ [(ua, eD cy 1 u2)])) H := o_join hP hD [14, 15, 16, 17, 18, 19] [0, 1, 2, 3, 4, 5, 6, 7, 8, 9, 10, 11, 12, 13] rfl (wr := [oSy z q h x r y] ++ (wRe cy r (q 0) (rl M) (kF M) (vF M) ++ wDo cy q M)) rfl (by decide) (by decide) (by decide) hk1 hFc hB rfl
                                          have hD : va_D A ([oSy z q h x r y] ++ (wRe cy r (q 0) (rl M) (kF M) (vF M) ++ wDo cy q M) ++ (wLa cy L M ++ [(ua, eD cy 1 u2)])) := vd_same hD rfl
                                          have hPl := hP.sub (ws' := wLa cy L M) [14, 15, 16, 17, 18] rfl
                                          have hPq := hP.sub (ws' := [oSy z q h x r y] ++ wDo cy q M) [0, 5, 6, 7, 8, 9, 10, 11, 12, 13] rfl
                                          refine o_ifb_eq (tgt := 401) hx hb dL_areOrders_384 (by decide) (fun c384 => ?_) (fun c384 => ?_)
                                          · exact absurd hoh c384
                                          · refine lv_fload hx hb dL_areOrders_387 (lv_at hl 0 rfl) ?_
                                            refine lv_f2d hx hb dL_areOrders_389 (f2d_n (FP.Core.FFin.notNaN (rng_fin (oHas_rng hoh)))) ?_
                                            refine lv_aload hx hb dL_areOrders_390 (lv_at hl 12 rfl) ?_
                                            refine lv_iconst (v := nI 0) hx hb dL_areOrders_392 (by decide +kernel) ?_
                                            refine o_dald hx hb hK hP 19 3 rfl rfl 0 (by omega) (by decide) dL_areOrders_393 ?_
                                            rw [huu2 hoh]
                                            refine lv_dcmp hx hb dL_areOrders_394 ?_
                                            refine lv_if_eq (tgt := 411) hx hb dL_areOrders_395 (by decide) (fun c395 => ?_) (fun c395 => ?_)
                                            · refine lv_iinc (v := nI (k + 1)) (lv' := [(8, .int (nI (k + 1))), (12, .float (oVal M (vF M) k)), (7, .int (nI (cR (ftB M 1) 0 k + 1))), (11, .int (nI 1)), (10, .int (nI (cR (hfB M (mW M k)) 0 k))), (9, .int (nI 1)), (0, .ref z), (1, .ref (L 0)), (2, .ref (L 1)), (3, .ref (L 2)), (4, .ref (L 3)), (5, .ref (L 4)), (6, .ref ua)]) hx hb dL_areOrders_411 hl (k := 5) rfl (nI_1 k) (by decide) rfl (fun ls hl => ?_)
                                              refine lv_goto (tgt := 11) hx hb dL_areOrders_414 (by decide) ?_
                                              refine ih11 (k + 1, rl M, kF M, vF M, u2) ls H locs ?_ ?_ ?_
                                              · exact ⟨by omega, hP, hD, hS⟩
                                              · show lv_has ls 13 [(8, .int (nI (k + 1))), (7, .int (nI (cR (ftB M 1) 0 (k + 1)))), (0, .ref z), (1, .ref (L 0)), (2, .ref (L 1)), (3, .ref (L 2)), (4, .ref (L 3)), (5, .ref (L 4)), (6, .ref ua)]
                                                rw [cZ_t (p := ftB M 1) (ftB_iff.mpr c28)]
                                                exact lv_sub hl [0, 2, 6, 7, 8, 9, 10, 11, 12] rfl
                                              · show mN M - (k + 1) < mN M - k; omega
                                            · exact absurd (cmp_same (rng_fin (oHas_rng hoh))) c395
                                        · refine lv_aload_n hx hb dL_areOrders_364 rfl (lv_at hl 5 rfl) ?_
                                          refine lv_iload hx hb dL_areOrders_365 (lv_at hl 4 rfl) ?_
                                          have hPc := hP.sub (ws' := [oSy z q h x r y] ++ (wRe cy r (q 0) (rl M) (kF M) (vF M) ++ wDo cy q M)) [0, 1, 2, 3, 4, 5, 6, 7, 8, 9, 10, 11, 12, 13] rfl
                                          have hDc := hD.sub (ws' := [oSy z q h x r y] ++ (wRe cy r (q 0) (rl M) (kF M) (vF M) ++ wDo cy q M)) [0, 1, 2, 3, 4, 5, 6, 7, 8, 9, 10, 11, 12, 13] (by decide) rfl
                                          have hFc := va_free (wc := [oSy z q h x r y] ++ (wRe cy r (q 0) (rl M) (kF M) (vF M) ++ wDo cy q M)) hD hS hA [0, 1, 2, 3, 4, 5, 6, 7, 8, 9, 10, 11, 12, 13] rfl
                                          refine va_callf (va_runV (As := [.int (nI k)]) (rest := []) ⟨hx, hb, hml, hown, hts⟩ (kX7_valueOf_n l G cy hW hF hPc hDc k hk hoh) (cwV 1 hts gL_areOrders_X7_valueOf rfl rfl rfl (by decide +kernel) ⟨Nat.le_of_ble_eq_true rfl, Nat.le_of_ble_eq_true rfl⟩) ⟨pR_blind, va_recv hK hP (ci := 6) (q0 := 0) rfl rfl, pR_at hK⟩ rfl rfl hl.1 rfl (lv_room (Nat.le_of_ble_eq_true rfl)) dL_areOrders_367 ⟨Nat.le_of_ble_eq_true rfl, Nat.le_of_ble_eq_true rfl⟩) hS (fun q _ h => hFc q h) hFc (fun r_ u_ t_ H locs ht hvm hw_ hB hz1 hk1 hS => ?_)
                                          rw [ht] at hB
                                          have hP : va_P G vwCl ([oSy z q h x r y] ++ wRe cy r (q 0) (rl M) (kF M) (vF M) ++ wDo cy q M ++ wLa cy L M ++ [(ua, eD cy 1 u1)]) H := (o_join hP hD [0, 1, 2, 3, 4, 5, 6, 7, 8, 9, 10, 11, 12, 13] [14, 15, 16, 17, 18, 19] rfl (wr := wLa cy L M ++ [(ua, eD cy 1 u1)]) rfl (by decide) (by decide) (by decide) hk1 hFc hB rfl).sub [6, 7, 8, 9, 10, 11, 12, 13, 14, 15, 16, 17, 18, 19, 0, 1, 2, 3, 4, 5] rfl
                                          have hD : va_D A ([oSy z q h x r y] ++ wRe cy r (q 0) (rl M) (kF M) (vF M) ++ wDo cy q M ++ wLa cy L M ++ [(ua, eD cy 1 u1)]) := vd_same hD rfl
                                          obtain rfl : r_ = 2143289344 := hw_
                                          have hPl := hP.sub (ws' := wLa cy L M) [14, 15, 16, 17, 18] rfl
                                          have hPq := hP.sub (ws' := [oSy z q h x r y] ++ wDo cy q M) [0, 5, 6, 7, 8, 9, 10, 11, 12, 13] rfl
                                          refine lv_fstore (lv' := [(12, .float 2143289344), (7, .int (nI (cR (ftB M 1) 0 k + 1))), (11, .int (nI 1)), (10, .int (nI (cR (hfB M (mW M k)) 0 k))), (9, .int (nI 1)), (8, .int (nI k)), (0, .ref z), (1, .ref (L 0)), (2, .ref (L 1)), (3, .ref (L 2)), (4, .ref (L 3)), (5, .ref (L 4)), (6, .ref ua)]) hx hb dL_areOrders_370 hl (by decide) rfl (fun ls hl => ?_)
                                          refine lv_aload_n hx hb dL_areOrders_372 rfl (lv_at hl 7 rfl) ?_
                                          refine lv_aload_n hx hb dL_areOrders_373 rfl (lv_at hl 8 rfl) ?_
                                          refine lv_aload_n hx hb dL_areOrders_374 rfl (lv_at hl 9 rfl) ?_
                                          refine lv_aload hx hb dL_areOrders_375 (lv_at hl 10 rfl) ?_
                                          refine lv_iload hx hb dL_areOrders_377 (lv_at hl 5 rfl) ?_
                                          refine lv_aload hx hb dL_areOrders_379 (lv_at hl 12 rfl) ?_
                                          have hPc := hP.sub (ws' := wLa cy L M ++ [(ua, eD cy 1 u1)]) [14, 15, 16, 17, 18, 19] rfl
                                          have hDc := hD.sub (ws' := wLa cy L M ++ [(ua, eD cy 1 u1)]) [14, 15, 16, 17, 18, 19] (by decide) rfl
                                          have hFc := va_free (wc := wLa cy L M ++ [(ua, eD cy 1 u1)]) hD hS hA [14, 15, 16, 17, 18, 19] rfl
                                          refine va_calli (va_runS (As := [.ref (L 0), .ref (L 1), .ref (L 2), .ref (L 3), .int (nI k), .ref ua]) (rest := []) ⟨hx, hb, hml, hown, hts⟩ (kL_hasOf l G cy hW hF hU hN hPc hDc k hk) (va_cwS 6 hts gL_areOrders_L_hasOf rfl rfl rfl (by decide +kernel) ⟨Nat.le_of_ble_eq_true rfl, Nat.le_of_ble_eq_true rfl⟩) ⟨pR_blind, pR_at hK⟩ rfl rfl hl.1 rfl (lv_room (Nat.le_of_ble_eq_true rfl)) dL_areOrders_381 ⟨Nat.le_of_ble_eq_true rfl, Nat.le_of_ble_eq_true rfl⟩) hS (fun q _ h => hFc q h) hFc (fun r_ u2 t_ H locs ht hvm hw_ hB hz1 hk1 hS => ?_)
                                          obtain ⟨hr_, huu2⟩ := hw_
                                          subst hr_
                                          have hB : va_P G vwCl (wLa cy L M ++ [(ua, eD cy 1 u2)]) t_.heap := hB
                                          rw [ht] at hB
                                          have hP : va_P G vwCl ([oSy z q h x r y] ++ (wRe cy r (q 0) (rl M) (kF M) (vF M) ++ wDo cy q M) ++ (wLa cy L M ++ [(ua, eD cy 1 u2)])) H := o_join hP hD [14, 15, 16, 17, 18, 19] [0, 1, 2, 3, 4, 5, 6, 7, 8, 9, 10, 11, 12, 13] rfl (wr := [oSy z q h x r y] ++ (wRe cy r (q 0) (rl M) (kF M) (vF M) ++ wDo cy q M)) rfl (by decide) (by decide) (by decide) hk1 hFc hB rfl
                                          have hD : va_D A ([oSy z q h x r y] ++ (wRe cy r (q 0) (rl M) (kF M) (vF M) ++ wDo cy q M) ++ (wLa cy L M ++ [(ua, eD cy 1 u2)])) := vd_same hD rfl
                                          have hPl := hP.sub (ws' := wLa cy L M) [14, 15, 16, 17, 18] rfl
                                          have hPq := hP.sub (ws' := [oSy z q h x r y] ++ wDo cy q M) [0, 5, 6, 7, 8, 9, 10, 11, 12, 13] rfl
                                          refine o_ifb_eq (tgt := 401) hx hb dL_areOrders_384 (by decide) (fun c384 => ?_) (fun c384 => ?_)
                                          · refine lv_fload hx hb dL_areOrders_401 (lv_at hl 0 rfl) ?_
                                            refine lv_fload hx hb dL_areOrders_403 (lv_at hl 0 rfl) ?_
                                            refine lv_fcmp hx hb dL_areOrders_405 ?_
                                            refine lv_if_ne (tgt := 411) hx hb dL_areOrders_406 (by decide) (fun c406 => ?_) (fun c406 => ?_)
                                            · refine lv_iinc (v := nI (k + 1)) (lv' := [(8, .int (nI (k + 1))), (12, .float 2143289344), (7, .int (nI (cR (ftB M 1) 0 k + 1))), (11, .int (nI 1)), (10, .int (nI (cR (hfB M (mW M k)) 0 k))), (9, .int (nI 1)), (0, .ref z), (1, .ref (L 0)), (2, .ref (L 1)), (3, .ref (L 2)), (4, .ref (L 3)), (5, .ref (L 4)), (6, .ref ua)]) hx hb dL_areOrders_411 hl (k := 5) rfl (nI_1 k) (by decide) rfl (fun ls hl => ?_)
                                              refine lv_goto (tgt := 11) hx hb dL_areOrders_414 (by decide) ?_
                                              refine ih11 (k + 1, rl M, kF M, vF M, u2) ls H locs ?_ ?_ ?_
                                              · exact ⟨by omega, hP, hD, hS⟩
                                              · show lv_has ls 13 [(8, .int (nI (k + 1))), (7, .int (nI (cR (ftB M 1) 0 (k + 1)))), (0, .ref z), (1, .ref (L 0)), (2, .ref (L 1)), (3, .ref (L 2)), (4, .ref (L 3)), (5, .ref (L 4)), (6, .ref ua)]
                                                rw [cZ_t (p := ftB M 1) (ftB_iff.mpr c28)]
                                                exact lv_sub hl [0, 2, 6, 7, 8, 9, 10, 11, 12] rfl
                                              · show mN M - (k + 1) < mN M - k; omega
                                            · exact absurd c406 (by decide +kernel)
                                          · exact absurd c384 hoh
                                    · exact absurd (cmp_same (hH k)) c341
                              · exact absurd (by rw [bI_t ((lk_eq (nI_lt40 (by omega)) (lk_b hW)).mp c274)]; decide) c282
      · refine lv_iload hx hb dL_areOrders_51 (lv_at hl 1 rfl) ?_
        refine lv_aload_n hx hb dL_areOrders_53 rfl (lv_at hl 8 rfl) ?_
        refine lv_iconst (v := nI 4) hx hb dL_areOrders_54 (by decide +kernel) ?_
        refine lv_iload hx hb dL_areOrders_55 (lv_at hl 0 rfl) ?_
        refine lv_imul hx hb dL_areOrders_57 ?_
        rw [pk_mul]
        refine lv_iconst (v := nI 3) hx hb dL_areOrders_58 (by decide +kernel) ?_
        refine lv_iadd hx hb dL_areOrders_59 ?_
        rw [nI_add]
        refine o_iald hx hb hK hP 16 0 rfl rfl ((4 * i) + 3) (by omega) (by decide) dL_areOrders_60 ?_
        rw [aI_3]
        refine lv_iconst (v := nI 1) hx hb dL_areOrders_61 (by decide +kernel) ?_
        refine o_icmp1_ne (tgt := 88) hx hb dL_areOrders_62 (by decide) (fun c62 => ?_) (fun c62 => ?_)
        · refine lv_iconst (v := nI 0) hx hb dL_areOrders_88 (by decide +kernel) ?_
          refine lv_iadd hx hb dL_areOrders_89 ?_
          rw [nI_add]
          refine lv_istore (lv' := [(10, .int (nI ((cR (hfB M (mW M k)) 0 i) + 0))), (11, .int (nI i)), (9, .int (nI 1)), (8, .int (nI k)), (7, .int (nI (cR (ftB M 1) 0 k))), (0, .ref z), (1, .ref (L 0)), (2, .ref (L 1)), (3, .ref (L 2)), (4, .ref (L 3)), (5, .ref (L 4)), (6, .ref ua)]) hx hb dL_areOrders_90 hl (by decide) rfl (fun ls hl => ?_)
          refine lv_iinc (v := nI (i + 1)) (lv' := [(11, .int (nI (i + 1))), (10, .int (nI ((cR (hfB M (mW M k)) 0 i) + 0))), (9, .int (nI 1)), (8, .int (nI k)), (7, .int (nI (cR (ftB M 1) 0 k))), (0, .ref z), (1, .ref (L 0)), (2, .ref (L 1)), (3, .ref (L 2)), (4, .ref (L 3)), (5, .ref (L 4)), (6, .ref ua)]) hx hb dL_areOrders_92 hl (k := 1) rfl (nI_1 i) (by decide) rfl (fun ls hl => ?_)
          refine lv_goto (tgt := 44) hx hb dL_areOrders_95 (by decide) ?_
          refine ih44 (i + 1) ls ?_ ?_ ?_
          · omega
          · show lv_has ls 13 [(11, .int (nI (i + 1))), (10, .int (nI (cR (hfB M (mW M k)) 0 (i + 1)))), (9, .int (nI 1)), (8, .int (nI k)), (7, .int (nI (cR (ftB M 1) 0 k))), (0, .ref z), (1, .ref (L 0)), (2, .ref (L 1)), (3, .ref (L 2)), (4, .ref (L 3)), (5, .ref (L 4)), (6, .ref ua)]
            rw [cZ_f (fun z => c62 (hfB_iff.mp z).1)]
            exact lv_sub hl [0, 1, 2, 3, 4, 5, 6, 7, 8, 9, 10, 11] rfl
          · omega
        · refine lv_aload_n hx hb dL_areOrders_65 rfl (lv_at hl 8 rfl) ?_
          refine lv_iconst (v := nI 4) hx hb dL_areOrders_66 (by decide +kernel) ?_
          refine lv_iload hx hb dL_areOrders_67 (lv_at hl 0 rfl) ?_
          refine lv_imul hx hb dL_areOrders_69 ?_
          rw [pk_mul]
          refine lv_iconst (v := nI 1) hx hb dL_areOrders_70 (by decide +kernel) ?_
          refine lv_iadd hx hb dL_areOrders_71 ?_
          rw [nI_add]
          refine o_iald hx hb hK hP 16 0 rfl rfl ((4 * i) + 1) (by omega) (by decide) dL_areOrders_72 ?_
          rw [aI_1]
          refine lv_aload_n hx hb dL_areOrders_73 rfl (lv_at hl 8 rfl) ?_
          refine lv_iconst (v := nI 4) hx hb dL_areOrders_74 (by decide +kernel) ?_
          refine lv_iload hx hb dL_areOrders_75 (lv_at hl 3 rfl) ?_
          refine lv_imul hx hb dL_areOrders_77 ?_
          rw [pk_mul]
          refine lv_iconst (v := nI 1) hx hb dL_areOrders_78 (by decide +kernel) ?_
          refine lv_iadd hx hb dL_areOrders_79 ?_
          rw [nI_add]
          refine o_iald hx hb hK hP 16 0 rfl rfl ((4 * k) + 1) (by omega) (by decide) dL_areOrders_80 ?_
          rw [aI_1]
          refine o_icmp_ne (tgt := 88) hx hb dL_areOrders_81 (by decide) (by omega) (by omega) (fun c81 => ?_) (fun c81 => ?_)
          · refine lv_iconst (v := nI 0) hx hb dL_areOrders_88 (by decide +kernel) ?_
            refine lv_iadd hx hb dL_areOrders_89 ?_
            rw [nI_add]
            refine lv_istore (lv' := [(10, .int (nI ((cR (hfB M (mW M k)) 0 i) + 0))), (11, .int (nI i)), (9, .int (nI 1)), (8, .int (nI k)), (7, .int (nI (cR (ftB M 1) 0 k))), (0, .ref z), (1, .ref (L 0)), (2, .ref (L 1)), (3, .ref (L 2)), (4, .ref (L 3)), (5, .ref (L 4)), (6, .ref ua)]) hx hb dL_areOrders_90 hl (by decide) rfl (fun ls hl => ?_)
            refine lv_iinc (v := nI (i + 1)) (lv' := [(11, .int (nI (i + 1))), (10, .int (nI ((cR (hfB M (mW M k)) 0 i) + 0))), (9, .int (nI 1)), (8, .int (nI k)), (7, .int (nI (cR (ftB M 1) 0 k))), (0, .ref z), (1, .ref (L 0)), (2, .ref (L 1)), (3, .ref (L 2)), (4, .ref (L 3)), (5, .ref (L 4)), (6, .ref ua)]) hx hb dL_areOrders_92 hl (k := 1) rfl (nI_1 i) (by decide) rfl (fun ls hl => ?_)
            refine lv_goto (tgt := 44) hx hb dL_areOrders_95 (by decide) ?_
            refine ih44 (i + 1) ls ?_ ?_ ?_
            · omega
            · show lv_has ls 13 [(11, .int (nI (i + 1))), (10, .int (nI (cR (hfB M (mW M k)) 0 (i + 1)))), (9, .int (nI 1)), (8, .int (nI k)), (7, .int (nI (cR (ftB M 1) 0 k))), (0, .ref z), (1, .ref (L 0)), (2, .ref (L 1)), (3, .ref (L 2)), (4, .ref (L 3)), (5, .ref (L 4)), (6, .ref ua)]
              rw [cZ_f (fun z => c81 (hfB_iff.mp z).2)]
              exact lv_sub hl [0, 1, 2, 3, 4, 5, 6, 7, 8, 9, 10, 11] rfl
            · omega
          · refine lv_iconst (v := nI 1) hx hb dL_areOrders_84 (by decide +kernel) ?_
            refine lv_goto (tgt := 89) hx hb dL_areOrders_85 (by decide) ?_
            refine lv_iadd hx hb dL_areOrders_89 ?_
            rw [nI_add]
            refine lv_istore (lv' := [(10, .int (nI ((cR (hfB M (mW M k)) 0 i) + 1))), (11, .int (nI i)), (9, .int (nI 1)), (8, .int (nI k)), (7, .int (nI (cR (ftB M 1) 0 k))), (0, .ref z), (1, .ref (L 0)), (2, .ref (L 1)), (3, .ref (L 2)), (4, .ref (L 3)), (5, .ref (L 4)), (6, .ref ua)]) hx hb dL_areOrders_90 hl (by decide) rfl (fun ls hl => ?_)
            refine lv_iinc (v := nI (i + 1)) (lv' := [(11, .int (nI (i + 1))), (10, .int (nI ((cR (hfB M (mW M k)) 0 i) + 1))), (9, .int (nI 1)), (8, .int (nI k)), (7, .int (nI (cR (ftB M 1) 0 k))), (0, .ref z), (1, .ref (L 0)), (2, .ref (L 1)), (3, .ref (L 2)), (4, .ref (L 3)), (5, .ref (L 4)), (6, .ref ua)]) hx hb dL_areOrders_92 hl (k := 1) rfl (nI_1 i) (by decide) rfl (fun ls hl => ?_)
            refine lv_goto (tgt := 44) hx hb dL_areOrders_95 (by decide) ?_
            refine ih44 (i + 1) ls ?_ ?_ ?_
            · omega
            · show lv_has ls 13 [(11, .int (nI (i + 1))), (10, .int (nI (cR (hfB M (mW M k)) 0 (i + 1)))), (9, .int (nI 1)), (8, .int (nI k)), (7, .int (nI (cR (ftB M 1) 0 k))), (0, .ref z), (1, .ref (L 0)), (2, .ref (L 1)), (3, .ref (L 2)), (4, .ref (L 3)), (5, .ref (L 4)), (6, .ref ua)]
              rw [cZ_t (hfB_iff.mpr ⟨c62, c81⟩)]
              exact lv_sub hl [0, 1, 2, 3, 4, 5, 6, 7, 8, 9, 10, 11] rfl
            · omega

set_option maxHeartbeats 4000000 in
set_option maxRecDepth 100000 in
theorem kL_arePersons (l : Launch) (G : va_G) (cy : Nat → ClassId) {H0 : Heap} {z : Nat} {q h x r y L : Nat → Nat} {M : MT} {ru : Nat → Option Nat} {kn : Nat → Bool} {va : Nat → UInt32} {A0 : Nat → Prop} (hW : WB M) (hF : WF M) (hU : ∀ k, rngB (mU M k) = true) (hT : Fin32 (mT M)) (hN : mN M ≤ 15) (hP : va_P G vwCl ([oSy z q h x r y] ++ (wRe cy r (q 0) ru kn va ++ wDo cy q M) ++ wLa cy L M) H0) (hD0 : va_D A0 ([oSy z q h x r y] ++ (wRe cy r (q 0) ru kn va ++ wDo cy q M) ++ wLa cy L M)) (hp0 : 0 < mP M) : MutN l yL_arePersons wsL_arePersons 7 185 0 0 [.ref z, .ref (L 0), .ref (L 1), .ref (L 2)] H0 G cy 1 ([oSy z q h x r y] ++ (wRe cy r (q 0) ru kn va ++ wDo cy q M) ++ wLa cy L M) ([oSy z q h x r y] ++ (wRe cy r (q 0) (rl M) (kF M) (vF M) ++ wDo cy q M) ++ wLa cy L M) := by
  refine Met.ofW (cc := cL_arePersons) (maxL := 11) (ret := (some .boolean)) (by decide) rfl ?_
  intro p e s m args below meth c s₁ B hml hv
  obtain ⟨rfl, hH, hK⟩ := hv
  subst hH
  have hx := B.exec
  have hb := B.bytes
  have hr := B.returns
  have hts := atoms_spec (ws := wsL_arePersons) B.pre
  have hown : s.vm.findClass RL = some m.cls := findClass_of_methodNamed B.named
  have hlocks := B.notSynchronized
  have hl := lv_entry ([.ref z, .ref (L 0), .ref (L 1), .ref (L 2)]) (n := 11) (Nat.le_of_ble_eq_true rfl)
  rw [lg_entry_eq]
  generalize (lg_sl ([.ref z, .ref (L 0), .ref (L 1), .ref (L 2)]) ++ List.replicate (11 - (lg_sl ([.ref z, .ref (L 0), .ref (L 1), .ref (L 2)])).length) Slot.unset).toArray = ls at hl ⊢
  have hl : lv_has ls 11 [(0, .ref z), (1, .ref (L 0)), (2, .ref (L 1)), (3, .ref (L 2))] := hl
  obtain ⟨bP, bN, bR, bO, bW, bL, bF⟩ := id hW
  have hD := hD0.self (sz := s.heap.size)
  generalize hAe : va_A ([oSy z q h x r y] ++ (wRe cy r (q 0) ru kn va ++ wDo cy q M) ++ wLa cy L M) s.heap.size = A at hD ⊢
  have hA : ∀ q : Nat, s.heap.size ≤ q → A q := fun q h => by rw [← hAe]; exact Or.inr h
  have hS : va_S A s.heap s.heap [] := va_S.rf
  refine lv_iconst (v := nI 0) hx hb dL_arePersons_0 (by decide +kernel) ?_
  refine lv_istore (lv' := [(4, .int (nI 0)), (0, .ref z), (1, .ref (L 0)), (2, .ref (L 1)), (3, .ref (L 2))]) hx hb dL_arePersons_1 hl (by decide) rfl (fun ls hl => ?_)
  refine o_loopM (σ := Nat × (Nat → Option Nat) × (Nat → Bool) × (Nat → UInt32)) (fun (x_ : Nat × (Nat → Option Nat) × (Nat → Bool) × (Nat → UInt32)) (H : Heap) (locs : List Loc) => match x_ with | (p, ru1, kn1, va1) => p ≤ mP M ∧ (0 < p → ru1 = rl M ∧ kn1 = kF M ∧ va1 = vF M) ∧ va_P G vwCl ([oSy z q h x r y] ++ (wRe cy r (q 0) ru1 kn1 va1 ++ wDo cy q M) ++ wLa cy L M) H ∧ va_D A ([oSy z q h x r y] ++ (wRe cy r (q 0) ru1 kn1 va1 ++ wDo cy q M) ++ wLa cy L M) ∧ va_S A s.heap H locs) (fun (x_ : Nat × (Nat → Option Nat) × (Nat → Bool) × (Nat → UInt32)) => match x_ with | (p, ru1, kn1, va1) => [(4, .int (nI p)), (0, .ref z), (1, .ref (L 0)), (2, .ref (L 1)), (3, .ref (L 2))]) (fun (x_ : Nat × (Nat → Option Nat) × (Nat → Bool) × (Nat → UInt32)) => match x_ with | (p, ru1, kn1, va1) => mP M - p) (0, ru, kn, va) ⟨Nat.zero_le _, fun z => absurd z (Nat.lt_irrefl _), hP, hD, hS⟩ (lv_sub hl [0, 1, 2, 3, 4] rfl) ?_
  rintro ⟨p, ru1, kn1, va1⟩ ls H locs ⟨h1, hq0, hP, hD, hS⟩ hl ih3
  have hl : lv_has ls 11 [(4, .int (nI p)), (0, .ref z), (1, .ref (L 0)), (2, .ref (L 1)), (3, .ref (L 2))] := hl
  have hPl := hP.sub (ws' := wLa cy L M) [14, 15, 16, 17, 18] rfl
  have hPq := hP.sub (ws' := [oSy z q h x r y] ++ wDo cy q M) [0, 5, 6, 7, 8, 9, 10, 11, 12, 13] rfl
  refine lv_iload hx hb dL_arePersons_3 (lv_at hl 0 rfl) ?_
  refine lv_aload_n hx hb dL_arePersons_5 rfl (lv_at hl 2 rfl) ?_
  refine lv_iconst (v := nI 0) hx hb dL_arePersons_6 (by decide +kernel) ?_
  refine o_iald hx hb hK hP 14 0 rfl rfl 0 (by omega) (by decide) dL_arePersons_7 ?_
  rw [show gI M 0 = mP M from rfl]
  refine o_icmp_ge (tgt := 235) hx hb dL_arePersons_8 (by decide) (by omega) (by omega) (fun c8 => ?_) (fun c8 => ?_)
  · obtain rfl : p = mP M := by omega
    obtain ⟨e1, e2, e3⟩ := hq0 hp0
    subst e1
    subst e2
    subst e3
    refine lv_aload_n hx hb dL_arePersons_235 rfl (lv_at hl 1 rfl) ?_
    refine lv_aload_n hx hb dL_arePersons_236 rfl (lv_at hl 2 rfl) ?_
    refine lv_iconst (v := nI 0) hx hb dL_arePersons_237 (by decide +kernel) ?_
    refine o_iald hx hb hK hP 14 0 rfl rfl 0 (by omega) (by decide) dL_arePersons_238 ?_
    rw [show gI M 0 = mP M from rfl]
    refine lv_iconst (v := nI 0) hx hb dL_arePersons_239 (by decide +kernel) ?_
    refine o_VI (As := [.int (nI (mP M)), .int (nI 0)]) (rest := []) ⟨hx, hb, hml, hown, hts⟩ (kX7_person_u l G cy hW hPq (mP M) 0 (Nat.lt_irrefl _) (by omega)) (cwV 2 hts gL_arePersons_X7_person rfl rfl rfl (by decide +kernel) ⟨Nat.le_of_ble_eq_true rfl, Nat.le_of_ble_eq_true rfl⟩) hK (va_recv hK hP (ci := 6) (q0 := 0) rfl rfl) rfl hl.1 rfl (Nat.le_of_ble_eq_true rfl) dL_arePersons_240 ⟨Nat.le_of_ble_eq_true rfl, Nat.le_of_ble_eq_true rfl⟩ ?_
    refine lv_iconst (v := (-1)) hx hb dL_arePersons_243 (by decide +kernel) ?_
    refine lv_icmp_ne (tgt := 251) hx hb dL_arePersons_244 (by decide) (fun c244 => ?_) (fun c244 => ?_)
    · exact absurd rfl c244
    · refine lv_iconst (v := nI 1) hx hb dL_arePersons_247 (by decide +kernel) ?_
      refine lv_goto (tgt := 252) hx hb dL_arePersons_248 (by decide) ?_
      exact o_endZn hx hb hr hlocks dL_arePersons_252 (by decide) hP hS (by decide)
  · refine lv_iconst (v := nI 0) hx hb dL_arePersons_11 (by decide +kernel) ?_
    refine lv_istore (lv' := [(5, .int (nI 0)), (4, .int (nI p)), (0, .ref z), (1, .ref (L 0)), (2, .ref (L 1)), (3, .ref (L 2))]) hx hb dL_arePersons_12 hl (by decide) rfl (fun ls hl => ?_)
    refine lv_iconst (v := nI 0) hx hb dL_arePersons_14 (by decide +kernel) ?_
    refine lv_istore (lv' := [(6, .int (nI 0)), (5, .int (nI 0)), (4, .int (nI p)), (0, .ref z), (1, .ref (L 0)), (2, .ref (L 1)), (3, .ref (L 2))]) hx hb dL_arePersons_15 hl (by decide) rfl (fun ls hl => ?_)
    refine lv_iconst (v := nI 0) hx hb dL_arePersons_17 (by decide +kernel) ?_
    refine lv_istore (lv' := [(7, .int (nI 0)), (6, .int (nI 0)), (5, .int (nI 0)), (4, .int (nI p)), (0, .ref z), (1, .ref (L 0)), (2, .ref (L 1)), (3, .ref (L 2))]) hx hb dL_arePersons_18 hl (by decide) rfl (fun ls hl => ?_)
    refine lv_iconst (v := nI 0) hx hb dL_arePersons_20 (by decide +kernel) ?_
    refine lv_istore (lv' := [(8, .int (nI 0)), (7, .int (nI 0)), (6, .int (nI 0)), (5, .int (nI 0)), (4, .int (nI p)), (0, .ref z), (1, .ref (L 0)), (2, .ref (L 1)), (3, .ref (L 2))]) hx hb dL_arePersons_21 hl (by decide) rfl (fun ls hl => ?_)
    refine lv_iconst (v := nI 0) hx hb dL_arePersons_23 (by decide +kernel) ?_
    refine lv_istore (lv' := [(9, .int (nI 0)), (8, .int (nI 0)), (7, .int (nI 0)), (6, .int (nI 0)), (5, .int (nI 0)), (4, .int (nI p)), (0, .ref z), (1, .ref (L 0)), (2, .ref (L 1)), (3, .ref (L 2))]) hx hb dL_arePersons_24 hl (by decide) rfl (fun ls hl => ?_)
    refine o_loop (σ := Nat) (fun (k : Nat) => k ≤ mN M) (fun (k : Nat) => [(9, .int (nI k)), (5, .int (nI (cR (owB M p) 0 k))), (6, .int (nI (cR (hoB M p) 0 k))), (7, .int (nI (cR (rpB M p) 0 k))), (8, .int (wBt M p k)), (4, .int (nI p)), (0, .ref z), (1, .ref (L 0)), (2, .ref (L 1)), (3, .ref (L 2))]) (fun (k : Nat) => mN M - k) 0 (Nat.zero_le _) (lv_sub hl [0, 4, 3, 2, 1, 5, 6, 7, 8, 9] rfl) ?_
    rintro k ls h2 hl ih26
    have hl : lv_has ls 11 [(9, .int (nI k)), (5, .int (nI (cR (owB M p) 0 k))), (6, .int (nI (cR (hoB M p) 0 k))), (7, .int (nI (cR (rpB M p) 0 k))), (8, .int (wBt M p k)), (4, .int (nI p)), (0, .ref z), (1, .ref (L 0)), (2, .ref (L 1)), (3, .ref (L 2))] := hl
    have b1 := bW k
    have b2 := bO k
    have b3 := bF k
    refine lv_iload hx hb dL_arePersons_26 (lv_at hl 0 rfl) ?_
    refine lv_aload_n hx hb dL_arePersons_28 rfl (lv_at hl 7 rfl) ?_
    refine lv_iconst (v := nI 1) hx hb dL_arePersons_29 (by decide +kernel) ?_
    refine o_iald hx hb hK hP 14 0 rfl rfl 1 (by omega) (by decide) dL_arePersons_30 ?_
    rw [show gI M 1 = mN M from rfl]
    refine o_icmp_ge (tgt := 165) hx hb dL_arePersons_31 (by decide) (by omega) (by omega) (fun c31 => ?_) (fun c31 => ?_)
    · obtain rfl : k = mN M := by omega
      have hp : p < mP M := c8
      refine lv_aload_n hx hb dL_arePersons_165 rfl (lv_at hl 6 rfl) ?_
      refine lv_iload hx hb dL_arePersons_166 (lv_at hl 5 rfl) ?_
      refine lv_iconst (v := nI 0) hx hb dL_arePersons_168 (by decide +kernel) ?_
      refine o_VI (As := [.int (nI p), .int (nI 0)]) (rest := []) ⟨hx, hb, hml, hown, hts⟩ (kX7_person_0 l G cy hW hPq p hp) (cwV 2 hts gL_arePersons_X7_person rfl rfl rfl (by decide +kernel) ⟨Nat.le_of_ble_eq_true rfl, Nat.le_of_ble_eq_true rfl⟩) hK (va_recv hK hP (ci := 6) (q0 := 0) rfl rfl) rfl hl.1 rfl (Nat.le_of_ble_eq_true rfl) dL_arePersons_169 ⟨Nat.le_of_ble_eq_true rfl, Nat.le_of_ble_eq_true rfl⟩ ?_
      refine lv_aload_n hx hb dL_arePersons_172 rfl (lv_at hl 8 rfl) ?_
      refine lv_iload hx hb dL_arePersons_173 (lv_at hl 5 rfl) ?_
      refine o_iald hx hb hK hP 15 0 rfl rfl p (by omega) (by decide) dL_arePersons_175 ?_
      refine lv_icmp_ne (tgt := 227) hx hb dL_arePersons_176 (by decide) (fun c176 => ?_) (fun c176 => ?_)
      · exact absurd rfl c176
      · refine lv_aload_n hx hb dL_arePersons_179 rfl (lv_at hl 6 rfl) ?_
        refine lv_iload hx hb dL_arePersons_180 (lv_at hl 5 rfl) ?_
        refine lv_iconst (v := nI 1) hx hb dL_arePersons_182 (by decide +kernel) ?_
        refine o_VI (As := [.int (nI p), .int (nI 1)]) (rest := []) ⟨hx, hb, hml, hown, hts⟩ (kX7_person_1 l G cy hW hPq p hp) (cwV 2 hts gL_arePersons_X7_person rfl rfl rfl (by decide +kernel) ⟨Nat.le_of_ble_eq_true rfl, Nat.le_of_ble_eq_true rfl⟩) hK (va_recv hK hP (ci := 6) (q0 := 0) rfl rfl) rfl hl.1 rfl (Nat.le_of_ble_eq_true rfl) dL_arePersons_183 ⟨Nat.le_of_ble_eq_true rfl, Nat.le_of_ble_eq_true rfl⟩ ?_
        refine lv_iload hx hb dL_arePersons_186 (lv_at hl 1 rfl) ?_
        refine lv_icmp_ne (tgt := 227) hx hb dL_arePersons_188 (by decide) (fun c188 => ?_) (fun c188 => ?_)
        · exact absurd rfl c188
        · refine lv_aload_n hx hb dL_arePersons_191 rfl (lv_at hl 6 rfl) ?_
          refine lv_iload hx hb dL_arePersons_192 (lv_at hl 5 rfl) ?_
          refine lv_iconst (v := nI 2) hx hb dL_arePersons_194 (by decide +kernel) ?_
          refine o_VI (As := [.int (nI p), .int (nI 2)]) (rest := []) ⟨hx, hb, hml, hown, hts⟩ (kX7_person_2 l G cy hW hPq p hp) (cwV 2 hts gL_arePersons_X7_person rfl rfl rfl (by decide +kernel) ⟨Nat.le_of_ble_eq_true rfl, Nat.le_of_ble_eq_true rfl⟩) hK (va_recv hK hP (ci := 6) (q0 := 0) rfl rfl) rfl hl.1 rfl (Nat.le_of_ble_eq_true rfl) dL_arePersons_195 ⟨Nat.le_of_ble_eq_true rfl, Nat.le_of_ble_eq_true rfl⟩ ?_
          refine lv_iload hx hb dL_arePersons_198 (lv_at hl 2 rfl) ?_
          refine lv_icmp_ne (tgt := 227) hx hb dL_arePersons_200 (by decide) (fun c200 => ?_) (fun c200 => ?_)
          · exact absurd rfl c200
          · refine lv_aload_n hx hb dL_arePersons_203 rfl (lv_at hl 6 rfl) ?_
            refine lv_iload hx hb dL_arePersons_204 (lv_at hl 5 rfl) ?_
            refine lv_iconst (v := nI 3) hx hb dL_arePersons_206 (by decide +kernel) ?_
            have hPc := hP.sub (ws' := [oSy z q h x r y] ++ (wRe cy r (q 0) ru1 kn1 va1 ++ wDo cy q M)) [0, 1, 2, 3, 4, 5, 6, 7, 8, 9, 10, 11, 12, 13] rfl
            have hDc := hD.sub (ws' := [oSy z q h x r y] ++ (wRe cy r (q 0) ru1 kn1 va1 ++ wDo cy q M)) [0, 1, 2, 3, 4, 5, 6, 7, 8, 9, 10, 11, 12, 13] (by decide) rfl
            have hFc := va_free (wc := [oSy z q h x r y] ++ (wRe cy r (q 0) ru1 kn1 va1 ++ wDo cy q M)) hD hS hA [0, 1, 2, 3, 4, 5, 6, 7, 8, 9, 10, 11, 12, 13] rfl
            refine va_calli (va_runV (As := [.int (nI p), .int (nI 3)]) (rest := []) ⟨hx, hb, hml, hown, hts⟩ (kX7_person_3 l G cy hW hF hPc hDc p hp) (cwV 2 hts gL_arePersons_X7_person rfl rfl rfl (by decide +kernel) ⟨Nat.le_of_ble_eq_true rfl, Nat.le_of_ble_eq_true rfl⟩) ⟨pR_blind, va_recv hK hP (ci := 6) (q0 := 0) rfl rfl, pR_at hK⟩ rfl rfl hl.1 rfl (lv_room (Nat.le_of_ble_eq_true rfl)) dL_arePersons_207 ⟨Nat.le_of_ble_eq_true rfl, Nat.le_of_ble_eq_true rfl⟩) hS (fun q _ h => hFc q h) hFc (fun r_ u_ t_ H locs ht hvm hw_ hB hz1 hk1 hS => ?_)
            rw [ht] at hB
            have hP : va_P G vwCl ([oSy z q h x r y] ++ wRe cy r (q 0) (rl M) (kF M) (vF M) ++ wDo cy q M ++ wLa cy L M) H := (o_join hP hD [0, 1, 2, 3, 4, 5, 6, 7, 8, 9, 10, 11, 12, 13] [14, 15, 16, 17, 18] rfl (wr := wLa cy L M) rfl (by decide) (by decide) (by decide) hk1 hFc hB rfl).sub [5, 6, 7, 8, 9, 10, 11, 12, 13, 14, 15, 16, 17, 18, 0, 1, 2, 3, 4] rfl
            have hD : va_D A ([oSy z q h x r y] ++ wRe cy r (q 0) (rl M) (kF M) (vF M) ++ wDo cy q M ++ wLa cy L M) := vd_same hD rfl
            obtain rfl : r_ = nI (cR (rbB M (rl M) p) 0 16) := hw_
            have hPl := hP.sub (ws' := wLa cy L M) [14, 15, 16, 17, 18] rfl
            have hPq := hP.sub (ws' := [oSy z q h x r y] ++ wDo cy q M) [0, 5, 6, 7, 8, 9, 10, 11, 12, 13] rfl
            refine lv_iload hx hb dL_arePersons_210 (lv_at hl 3 rfl) ?_
            refine o_icmp_ne (tgt := 227) hx hb dL_arePersons_212 (by decide) (by have := cR_le (rbB M (rl M) p) 0 16; omega) (by have := cR_le (rpB M p) 0 (mN M); omega) (fun c212 => ?_) (fun c212 => ?_)
            · exact absurd (rp_rb hW p) c212
            · refine lv_aload_n hx hb dL_arePersons_215 rfl (lv_at hl 6 rfl) ?_
              refine lv_iload hx hb dL_arePersons_216 (lv_at hl 5 rfl) ?_
              refine lv_iconst (v := nI 4) hx hb dL_arePersons_218 (by decide +kernel) ?_
              refine o_VI (As := [.int (nI p), .int (nI 4)]) (rest := []) ⟨hx, hb, hml, hown, hts⟩ (kX7_person_4 l G cy hW hPq p hp) (cwV 2 hts gL_arePersons_X7_person rfl rfl rfl (by decide +kernel) ⟨Nat.le_of_ble_eq_true rfl, Nat.le_of_ble_eq_true rfl⟩) hK (va_recv hK hP (ci := 6) (q0 := 0) rfl rfl) rfl hl.1 rfl (Nat.le_of_ble_eq_true rfl) dL_arePersons_219 ⟨Nat.le_of_ble_eq_true rfl, Nat.le_of_ble_eq_true rfl⟩ ?_
              refine lv_iload hx hb dL_arePersons_222 (lv_at hl 4 rfl) ?_
              refine lv_icmp_eq (tgt := 229) hx hb dL_arePersons_224 (by decide) (fun c224 => ?_) (fun c224 => ?_)
              · refine lv_iinc (v := nI (p + 1)) (lv' := [(4, .int (nI (p + 1))), (9, .int (nI ((mN M)))), (5, .int (nI (cR (owB M p) 0 (mN M)))), (6, .int (nI (cR (hoB M p) 0 (mN M)))), (7, .int (nI (cR (rpB M p) 0 (mN M)))), (8, .int (wBt M p (mN M))), (0, .ref z), (1, .ref (L 0)), (2, .ref (L 1)), (3, .ref (L 2))]) hx hb dL_arePersons_229 hl (k := 5) rfl (nI_1 p) (by decide) rfl (fun ls hl => ?_)
                refine lv_goto (tgt := 3) hx hb dL_arePersons_232 (by decide) ?_
                refine ih3 (p + 1, rl M, kF M, vF M) ls H locs ?_ ?_ ?_
                · exact ⟨by omega, fun _ => ⟨rfl, rfl, rfl⟩, hP, hD, hS⟩
                · show lv_has ls 11 [(4, .int (nI (p + 1))), (0, .ref z), (1, .ref (L 0)), (2, .ref (L 1)), (3, .ref (L 2))]
                  exact lv_sub hl [0, 6, 7, 8, 9] rfl
                · show mP M - (p + 1) < mP M - p; omega
              · exact absurd rfl c224
    · refine lv_aload_n hx hb dL_arePersons_34 rfl (lv_at hl 9 rfl) ?_
      refine lv_iconst (v := nI 4) hx hb dL_arePersons_35 (by decide +kernel) ?_
      refine lv_iload hx hb dL_arePersons_36 (lv_at hl 0 rfl) ?_
      refine lv_imul hx hb dL_arePersons_38 ?_
      rw [pk_mul]
      refine o_iald hx hb hK hP 16 0 rfl rfl (4 * k) (by omega) (by decide) dL_arePersons_39 ?_
      rw [aI_0]
      refine lv_iload hx hb dL_arePersons_40 (lv_at hl 5 rfl) ?_
      refine o_icmp_ne (tgt := 49) hx hb dL_arePersons_42 (by decide) (by omega) (by omega) (fun c42 => ?_) (fun c42 => ?_)
      · refine lv_iconst (v := nI 0) hx hb dL_arePersons_49 (by decide +kernel) ?_
        refine lv_istore (lv' := [(10, .int (nI 0)), (9, .int (nI k)), (5, .int (nI (cR (owB M p) 0 k))), (6, .int (nI (cR (hoB M p) 0 k))), (7, .int (nI (cR (rpB M p) 0 k))), (8, .int (wBt M p k)), (4, .int (nI p)), (0, .ref z), (1, .ref (L 0)), (2, .ref (L 1)), (3, .ref (L 2))]) hx hb dL_arePersons_50 hl (by decide) rfl (fun ls hl => ?_)
        refine lv_iload hx hb dL_arePersons_52 (lv_at hl 2 rfl) ?_
        refine lv_iload hx hb dL_arePersons_54 (lv_at hl 0 rfl) ?_
        refine o_if_eq (tgt := 63) hx hb dL_arePersons_56 (by decide) (by omega) (fun c56 => ?_) (fun c56 => ?_)
        · refine lv_iconst (v := nI 0) hx hb dL_arePersons_63 (by decide +kernel) ?_
          refine lv_iadd hx hb dL_arePersons_64 ?_
          rw [nI_add]
          refine lv_istore (lv' := [(5, .int (nI ((cR (owB M p) 0 k) + 0))), (10, .int (nI 0)), (9, .int (nI k)), (6, .int (nI (cR (hoB M p) 0 k))), (7, .int (nI (cR (rpB M p) 0 k))), (8, .int (wBt M p k)), (4, .int (nI p)), (0, .ref z), (1, .ref (L 0)), (2, .ref (L 1)), (3, .ref (L 2))]) hx hb dL_arePersons_65 hl (by decide) rfl (fun ls hl => ?_)
          refine lv_iload hx hb dL_arePersons_67 (lv_at hl 3 rfl) ?_
          refine lv_iload hx hb dL_arePersons_69 (lv_at hl 1 rfl) ?_
          refine o_if_eq (tgt := 85) hx hb dL_arePersons_71 (by decide) (by omega) (fun c71 => ?_) (fun c71 => ?_)
          · refine lv_iconst (v := nI 0) hx hb dL_arePersons_85 (by decide +kernel) ?_
            refine lv_iadd hx hb dL_arePersons_86 ?_
            rw [nI_add]
            refine lv_istore (lv' := [(6, .int (nI ((cR (hoB M p) 0 k) + 0))), (5, .int (nI ((cR (owB M p) 0 k) + 0))), (10, .int (nI 0)), (9, .int (nI k)), (7, .int (nI (cR (rpB M p) 0 k))), (8, .int (wBt M p k)), (4, .int (nI p)), (0, .ref z), (1, .ref (L 0)), (2, .ref (L 1)), (3, .ref (L 2))]) hx hb dL_arePersons_87 hl (by decide) rfl (fun ls hl => ?_)
            refine lv_iload hx hb dL_arePersons_89 (lv_at hl 4 rfl) ?_
            refine lv_iload hx hb dL_arePersons_91 (lv_at hl 2 rfl) ?_
            refine o_if_eq (tgt := 119) hx hb dL_arePersons_93 (by decide) (by omega) (fun c93 => ?_) (fun c93 => ?_)
            · refine lv_iconst (v := nI 0) hx hb dL_arePersons_119 (by decide +kernel) ?_
              refine lv_iadd hx hb dL_arePersons_120 ?_
              rw [nI_add]
              refine lv_istore (lv' := [(7, .int (nI ((cR (rpB M p) 0 k) + 0))), (6, .int (nI ((cR (hoB M p) 0 k) + 0))), (5, .int (nI ((cR (owB M p) 0 k) + 0))), (10, .int (nI 0)), (9, .int (nI k)), (8, .int (wBt M p k)), (4, .int (nI p)), (0, .ref z), (1, .ref (L 0)), (2, .ref (L 1)), (3, .ref (L 2))]) hx hb dL_arePersons_121 hl (by decide) rfl (fun ls hl => ?_)
              refine lv_iload hx hb dL_arePersons_123 (lv_at hl 5 rfl) ?_
              refine lv_iload hx hb dL_arePersons_125 (lv_at hl 3 rfl) ?_
              refine o_if_eq (tgt := 155) hx hb dL_arePersons_127 (by decide) (by omega) (fun c127 => ?_) (fun c127 => ?_)
              · refine lv_iconst (v := nI 0) hx hb dL_arePersons_155 (by decide +kernel) ?_
                refine lv_ior hx hb dL_arePersons_156 ?_
                rw [or0]
                refine lv_istore (lv' := [(8, .int (wBt M p k)), (7, .int (nI ((cR (rpB M p) 0 k) + 0))), (6, .int (nI ((cR (hoB M p) 0 k) + 0))), (5, .int (nI ((cR (owB M p) 0 k) + 0))), (10, .int (nI 0)), (9, .int (nI k)), (4, .int (nI p)), (0, .ref z), (1, .ref (L 0)), (2, .ref (L 1)), (3, .ref (L 2))]) hx hb dL_arePersons_157 hl (by decide) rfl (fun ls hl => ?_)
                refine lv_iinc (v := nI (k + 1)) (lv' := [(9, .int (nI (k + 1))), (8, .int (wBt M p k)), (7, .int (nI ((cR (rpB M p) 0 k) + 0))), (6, .int (nI ((cR (hoB M p) 0 k) + 0))), (5, .int (nI ((cR (owB M p) 0 k) + 0))), (10, .int (nI 0)), (4, .int (nI p)), (0, .ref z), (1, .ref (L 0)), (2, .ref (L 1)), (3, .ref (L 2))]) hx hb dL_arePersons_159 hl (k := 5) rfl (nI_1 k) (by decide) rfl (fun ls hl => ?_)
                refine lv_goto (tgt := 26) hx hb dL_arePersons_162 (by decide) ?_
                refine ih26 (k + 1) ls ?_ ?_ ?_
                · omega
                · show lv_has ls 11 [(9, .int (nI (k + 1))), (5, .int (nI (cR (owB M p) 0 (k + 1)))), (6, .int (nI (cR (hoB M p) 0 (k + 1)))), (7, .int (nI (cR (rpB M p) 0 (k + 1)))), (8, .int (wBt M p (k + 1))), (4, .int (nI p)), (0, .ref z), (1, .ref (L 0)), (2, .ref (L 1)), (3, .ref (L 2))]
                  rw [cZ_f (p := owB M p) (fun z => c42 (owB_iff.mp z))]
                  rw [cZ_f (p := hoB M p) (fun z => (fun z => c42 z.2) (hoB_iff.mp z))]
                  rw [wBt_f (fun z => c42 z.2)]
                  rw [cZ_f (p := rpB M p) (fun z => c42 (rpB_iff.mp z).1)]
                  exact lv_sub hl [0, 4, 3, 2, 1, 6, 7, 8, 9, 10] rfl
                · omega
              · exact absurd c127 (by decide)
            · exact absurd c93 (by decide)
          · exact absurd c71 (by decide)
        · exact absurd c56 (by decide)
      · refine lv_iconst (v := nI 1) hx hb dL_arePersons_45 (by decide +kernel) ?_
        refine lv_goto (tgt := 50) hx hb dL_arePersons_46 (by decide) ?_
        refine lv_istore (lv' := [(10, .int (nI 1)), (9, .int (nI k)), (5, .int (nI (cR (owB M p) 0 k))), (6, .int (nI (cR (hoB M p) 0 k))), (7, .int (nI (cR (rpB M p) 0 k))), (8, .int (wBt M p k)), (4, .int (nI p)), (0, .ref z), (1, .ref (L 0)), (2, .ref (L 1)), (3, .ref (L 2))]) hx hb dL_arePersons_50 hl (by decide) rfl (fun ls hl => ?_)
        refine lv_iload hx hb dL_arePersons_52 (lv_at hl 2 rfl) ?_
        refine lv_iload hx hb dL_arePersons_54 (lv_at hl 0 rfl) ?_
        refine o_if_eq (tgt := 63) hx hb dL_arePersons_56 (by decide) (by omega) (fun c56 => ?_) (fun c56 => ?_)
        · exact absurd c56 (by decide)
        · refine lv_iconst (v := nI 1) hx hb dL_arePersons_59 (by decide +kernel) ?_
          refine lv_goto (tgt := 64) hx hb dL_arePersons_60 (by decide) ?_
          refine lv_iadd hx hb dL_arePersons_64 ?_
          rw [nI_add]
          refine lv_istore (lv' := [(5, .int (nI ((cR (owB M p) 0 k) + 1))), (10, .int (nI 1)), (9, .int (nI k)), (6, .int (nI (cR (hoB M p) 0 k))), (7, .int (nI (cR (rpB M p) 0 k))), (8, .int (wBt M p k)), (4, .int (nI p)), (0, .ref z), (1, .ref (L 0)), (2, .ref (L 1)), (3, .ref (L 2))]) hx hb dL_arePersons_65 hl (by decide) rfl (fun ls hl => ?_)
          refine lv_iload hx hb dL_arePersons_67 (lv_at hl 3 rfl) ?_
          refine lv_iload hx hb dL_arePersons_69 (lv_at hl 1 rfl) ?_
          refine o_if_eq (tgt := 85) hx hb dL_arePersons_71 (by decide) (by omega) (fun c71 => ?_) (fun c71 => ?_)
          · exact absurd c71 (by decide)
          · rcases Classical.em (mF M k = 1) with hhg | hhg
            · refine lv_aload_n hx hb dL_arePersons_74 rfl (lv_at hl 10 rfl) ?_
              refine lv_iconst (v := nI 4) hx hb dL_arePersons_75 (by decide +kernel) ?_
              refine lv_iload hx hb dL_arePersons_76 (lv_at hl 2 rfl) ?_
              refine lv_imul hx hb dL_arePersons_78 ?_
              rw [pk_mul]
              refine lv_iconst (v := nI 3) hx hb dL_arePersons_79 (by decide +kernel) ?_
              refine lv_iadd hx hb dL_arePersons_80 ?_
              rw [nI_add]
              refine o_iald hx hb hK hP 16 0 rfl rfl ((4 * k) + 3) (by omega) (by decide) dL_arePersons_81 ?_
              rw [aI_3]
              refine lv_goto (tgt := 86) hx hb dL_arePersons_82 (by decide) ?_
              refine lv_iadd hx hb dL_arePersons_86 ?_
              rw [bI_t hhg, nI_1]
              refine lv_istore (lv' := [(6, .int (nI (cR (hoB M p) 0 k + 1))), (5, .int (nI ((cR (owB M p) 0 k) + 1))), (10, .int (nI 1)), (9, .int (nI k)), (7, .int (nI (cR (rpB M p) 0 k))), (8, .int (wBt M p k)), (4, .int (nI p)), (0, .ref z), (1, .ref (L 0)), (2, .ref (L 1)), (3, .ref (L 2))]) hx hb dL_arePersons_87 hl (by decide) rfl (fun ls hl => ?_)
              refine lv_iload hx hb dL_arePersons_89 (lv_at hl 4 rfl) ?_
              refine lv_iload hx hb dL_arePersons_91 (lv_at hl 2 rfl) ?_
              refine o_if_eq (tgt := 119) hx hb dL_arePersons_93 (by decide) (by omega) (fun c93 => ?_) (fun c93 => ?_)
              · exact absurd c93 (by decide)
              · refine lv_aload_n hx hb dL_arePersons_96 rfl (lv_at hl 8 rfl) ?_
                refine lv_aload_n hx hb dL_arePersons_97 rfl (lv_at hl 9 rfl) ?_
                refine lv_aload_n hx hb dL_arePersons_98 rfl (lv_at hl 10 rfl) ?_
                refine lv_aload_n hx hb dL_arePersons_99 rfl (lv_at hl 10 rfl) ?_
                refine lv_iconst (v := nI 4) hx hb dL_arePersons_100 (by decide +kernel) ?_
                refine lv_iload hx hb dL_arePersons_101 (lv_at hl 3 rfl) ?_
                refine lv_imul hx hb dL_arePersons_103 ?_
                rw [pk_mul]
                refine lv_iconst (v := nI 1) hx hb dL_arePersons_104 (by decide +kernel) ?_
                refine lv_iadd hx hb dL_arePersons_105 ?_
                rw [nI_add]
                refine o_iald hx hb hK hP 16 0 rfl rfl ((4 * k) + 1) (by omega) (by decide) dL_arePersons_106 ?_
                rw [aI_1]
                refine o_SI (As := [.ref (L 0), .ref (L 1), .ref (L 2), .int (nI (mW M k))]) (rest := [.int (nI (cR (rpB M p) 0 k))]) ⟨hx, hb, hml, hown, hts⟩ (kL_ruling l G cy hW hN hPl (mW M k) b1) (va_cwS 4 hts gL_arePersons_L_ruling rfl rfl rfl (by decide +kernel) ⟨Nat.le_of_ble_eq_true rfl, Nat.le_of_ble_eq_true rfl⟩) hK rfl hl.1 rfl (Nat.le_of_ble_eq_true rfl) dL_arePersons_107 ⟨Nat.le_of_ble_eq_true rfl, Nat.le_of_ble_eq_true rfl⟩ ?_
                refine lv_iload hx hb dL_arePersons_110 (lv_at hl 3 rfl) ?_
                refine lv_icmp_ne (tgt := 119) hx hb dL_arePersons_112 (by decide) (fun c112 => ?_) (fun c112 => ?_)
                · refine lv_iconst (v := nI 0) hx hb dL_arePersons_119 (by decide +kernel) ?_
                  refine lv_iadd hx hb dL_arePersons_120 ?_
                  rw [nI_add]
                  refine lv_istore (lv' := [(7, .int (nI ((cR (rpB M p) 0 k) + 0))), (6, .int (nI (cR (hoB M p) 0 k + 1))), (5, .int (nI ((cR (owB M p) 0 k) + 1))), (10, .int (nI 1)), (9, .int (nI k)), (8, .int (wBt M p k)), (4, .int (nI p)), (0, .ref z), (1, .ref (L 0)), (2, .ref (L 1)), (3, .ref (L 2))]) hx hb dL_arePersons_121 hl (by decide) rfl (fun ls hl => ?_)
                  refine lv_iload hx hb dL_arePersons_123 (lv_at hl 5 rfl) ?_
                  refine lv_iload hx hb dL_arePersons_125 (lv_at hl 3 rfl) ?_
                  refine o_if_eq (tgt := 155) hx hb dL_arePersons_127 (by decide) (by omega) (fun c127 => ?_) (fun c127 => ?_)
                  · exact absurd c127 (by decide)
                  · refine lv_aload_n hx hb dL_arePersons_130 rfl (lv_at hl 10 rfl) ?_
                    refine lv_iconst (v := nI 4) hx hb dL_arePersons_131 (by decide +kernel) ?_
                    refine lv_iload hx hb dL_arePersons_132 (lv_at hl 4 rfl) ?_
                    refine lv_imul hx hb dL_arePersons_134 ?_
                    rw [pk_mul]
                    refine lv_iconst (v := nI 3) hx hb dL_arePersons_135 (by decide +kernel) ?_
                    refine lv_iadd hx hb dL_arePersons_136 ?_
                    rw [nI_add]
                    refine o_iald hx hb hK hP 16 0 rfl rfl ((4 * k) + 3) (by omega) (by decide) dL_arePersons_137 ?_
                    rw [aI_3]
                    refine lv_iconst (v := nI 1) hx hb dL_arePersons_138 (by decide +kernel) ?_
                    refine o_icmp1_ne (tgt := 155) hx hb dL_arePersons_139 (by decide) (fun c139 => ?_) (fun c139 => ?_)
                    · exact absurd hhg c139
                    · refine lv_iconst (v := nI 1) hx hb dL_arePersons_142 (by decide +kernel) ?_
                      refine lv_aload_n hx hb dL_arePersons_143 rfl (lv_at hl 10 rfl) ?_
                      refine lv_iconst (v := nI 4) hx hb dL_arePersons_144 (by decide +kernel) ?_
                      refine lv_iload hx hb dL_arePersons_145 (lv_at hl 4 rfl) ?_
                      refine lv_imul hx hb dL_arePersons_147 ?_
                      rw [pk_mul]
                      refine lv_iconst (v := nI 1) hx hb dL_arePersons_148 (by decide +kernel) ?_
                      refine lv_iadd hx hb dL_arePersons_149 ?_
                      rw [nI_add]
                      refine o_iald hx hb hK hP 16 0 rfl rfl ((4 * k) + 1) (by omega) (by decide) dL_arePersons_150 ?_
                      rw [aI_1]
                      refine lv_ishl hx hb dL_arePersons_151 ?_
                      refine lv_goto (tgt := 156) hx hb dL_arePersons_152 (by decide) ?_
                      refine lv_ior hx hb dL_arePersons_156 ?_
                      refine lv_istore (lv' := [(8, .int (wBt M p k ||| (nI 1 <<< (nI (mW M k) &&& 31)))), (7, .int (nI ((cR (rpB M p) 0 k) + 0))), (6, .int (nI (cR (hoB M p) 0 k + 1))), (5, .int (nI ((cR (owB M p) 0 k) + 1))), (10, .int (nI 1)), (9, .int (nI k)), (4, .int (nI p)), (0, .ref z), (1, .ref (L 0)), (2, .ref (L 1)), (3, .ref (L 2))]) hx hb dL_arePersons_157 hl (by decide) rfl (fun ls hl => ?_)
                      refine lv_iinc (v := nI (k + 1)) (lv' := [(9, .int (nI (k + 1))), (8, .int (wBt M p k ||| (nI 1 <<< (nI (mW M k) &&& 31)))), (7, .int (nI ((cR (rpB M p) 0 k) + 0))), (6, .int (nI (cR (hoB M p) 0 k + 1))), (5, .int (nI ((cR (owB M p) 0 k) + 1))), (10, .int (nI 1)), (4, .int (nI p)), (0, .ref z), (1, .ref (L 0)), (2, .ref (L 1)), (3, .ref (L 2))]) hx hb dL_arePersons_159 hl (k := 5) rfl (nI_1 k) (by decide) rfl (fun ls hl => ?_)
                      refine lv_goto (tgt := 26) hx hb dL_arePersons_162 (by decide) ?_
                      refine ih26 (k + 1) ls ?_ ?_ ?_
                      · omega
                      · show lv_has ls 11 [(9, .int (nI (k + 1))), (5, .int (nI (cR (owB M p) 0 (k + 1)))), (6, .int (nI (cR (hoB M p) 0 (k + 1)))), (7, .int (nI (cR (rpB M p) 0 (k + 1)))), (8, .int (wBt M p (k + 1))), (4, .int (nI p)), (0, .ref z), (1, .ref (L 0)), (2, .ref (L 1)), (3, .ref (L 2))]
                        rw [cZ_t (p := owB M p) (owB_iff.mpr c42)]
                        rw [cZ_t (p := hoB M p) (hoB_iff.mpr ⟨hhg, c42⟩)]
                        rw [wBt_t ⟨hhg, c42⟩]
                        rw [cZ_f (p := rpB M p) (fun z => c112 ((lk_eq (nI_lt40 (by omega)) (lk_b hW)).mpr (rpB_iff.mp z).2))]
                        exact lv_sub hl [0, 4, 3, 2, 1, 6, 7, 8, 9, 10] rfl
                      · omega
                · refine lv_iconst (v := nI 1) hx hb dL_arePersons_115 (by decide +kernel) ?_
                  refine lv_goto (tgt := 120) hx hb dL_arePersons_116 (by decide) ?_
                  refine lv_iadd hx hb dL_arePersons_120 ?_
                  rw [nI_add]
                  refine lv_istore (lv' := [(7, .int (nI ((cR (rpB M p) 0 k) + 1))), (6, .int (nI (cR (hoB M p) 0 k + 1))), (5, .int (nI ((cR (owB M p) 0 k) + 1))), (10, .int (nI 1)), (9, .int (nI k)), (8, .int (wBt M p k)), (4, .int (nI p)), (0, .ref z), (1, .ref (L 0)), (2, .ref (L 1)), (3, .ref (L 2))]) hx hb dL_arePersons_121 hl (by decide) rfl (fun ls hl => ?_)
                  refine lv_iload hx hb dL_arePersons_123 (lv_at hl 5 rfl) ?_
                  refine lv_iload hx hb dL_arePersons_125 (lv_at hl 3 rfl) ?_
                  refine o_if_eq (tgt := 155) hx hb dL_arePersons_127 (by decide) (by omega) (fun c127 => ?_) (fun c127 => ?_)
                  · exact absurd c127 (by decide)
                  · refine lv_aload_n hx hb dL_arePersons_130 rfl (lv_at hl 10 rfl) ?_
                    refine lv_iconst (v := nI 4) hx hb dL_arePersons_131 (by decide +kernel) ?_
                    refine lv_iload hx hb dL_arePersons_132 (lv_at hl 4 rfl) ?_
                    refine lv_imul hx hb dL_arePersons_134 ?_
                    rw [pk_mul]
                    refine lv_iconst (v := nI 3) hx hb dL_arePersons_135 (by decide +kernel) ?_
                    refine lv_iadd hx hb dL_arePersons_136 ?_
                    rw [nI_add]
                    refine o_iald hx hb hK hP 16 0 rfl rfl ((4 * k) + 3) (by omega) (by decide) dL_arePersons_137 ?_
                    rw [aI_3]
                    refine lv_iconst (v := nI 1) hx hb dL_arePersons_138 (by decide +kernel) ?_
                    refine o_icmp1_ne (tgt := 155) hx hb dL_arePersons_139 (by decide) (fun c139 => ?_) (fun c139 => ?_)
                    · exact absurd hhg c139
                    · refine lv_iconst (v := nI 1) hx hb dL_arePersons_142 (by decide +kernel) ?_
                      refine lv_aload_n hx hb dL_arePersons_143 rfl (lv_at hl 10 rfl) ?_
                      refine lv_iconst (v := nI 4) hx hb dL_arePersons_144 (by decide +kernel) ?_
                      refine lv_iload hx hb dL_arePersons_145 (lv_at hl 4 rfl) ?_
                      refine lv_imul hx hb dL_arePersons_147 ?_
                      rw [pk_mul]
                      refine lv_iconst (v := nI 1) hx hb dL_arePersons_148 (by decide +kernel) ?_
                      refine lv_iadd hx hb dL_arePersons_149 ?_
                      rw [nI_add]
                      refine o_iald hx hb hK hP 16 0 rfl rfl ((4 * k) + 1) (by omega) (by decide) dL_arePersons_150 ?_
                      rw [aI_1]
                      refine lv_ishl hx hb dL_arePersons_151 ?_
                      refine lv_goto (tgt := 156) hx hb dL_arePersons_152 (by decide) ?_
                      refine lv_ior hx hb dL_arePersons_156 ?_
                      refine lv_istore (lv' := [(8, .int (wBt M p k ||| (nI 1 <<< (nI (mW M k) &&& 31)))), (7, .int (nI ((cR (rpB M p) 0 k) + 1))), (6, .int (nI (cR (hoB M p) 0 k + 1))), (5, .int (nI ((cR (owB M p) 0 k) + 1))), (10, .int (nI 1)), (9, .int (nI k)), (4, .int (nI p)), (0, .ref z), (1, .ref (L 0)), (2, .ref (L 1)), (3, .ref (L 2))]) hx hb dL_arePersons_157 hl (by decide) rfl (fun ls hl => ?_)
                      refine lv_iinc (v := nI (k + 1)) (lv' := [(9, .int (nI (k + 1))), (8, .int (wBt M p k ||| (nI 1 <<< (nI (mW M k) &&& 31)))), (7, .int (nI ((cR (rpB M p) 0 k) + 1))), (6, .int (nI (cR (hoB M p) 0 k + 1))), (5, .int (nI ((cR (owB M p) 0 k) + 1))), (10, .int (nI 1)), (4, .int (nI p)), (0, .ref z), (1, .ref (L 0)), (2, .ref (L 1)), (3, .ref (L 2))]) hx hb dL_arePersons_159 hl (k := 5) rfl (nI_1 k) (by decide) rfl (fun ls hl => ?_)
                      refine lv_goto (tgt := 26) hx hb dL_arePersons_162 (by decide) ?_
                      refine ih26 (k + 1) ls ?_ ?_ ?_
                      · omega
                      · show lv_has ls 11 [(9, .int (nI (k + 1))), (5, .int (nI (cR (owB M p) 0 (k + 1)))), (6, .int (nI (cR (hoB M p) 0 (k + 1)))), (7, .int (nI (cR (rpB M p) 0 (k + 1)))), (8, .int (wBt M p (k + 1))), (4, .int (nI p)), (0, .ref z), (1, .ref (L 0)), (2, .ref (L 1)), (3, .ref (L 2))]
                        rw [cZ_t (p := owB M p) (owB_iff.mpr c42)]
                        rw [cZ_t (p := hoB M p) (hoB_iff.mpr ⟨hhg, c42⟩)]
                        rw [wBt_t ⟨hhg, c42⟩]
                        rw [cZ_t (p := rpB M p) (rpB_iff.mpr ⟨c42, (lk_eq (nI_lt40 (by omega)) (lk_b hW)).mp c112⟩)]
                        exact lv_sub hl [0, 4, 3, 2, 1, 6, 7, 8, 9, 10] rfl
                      · omega
            · refine lv_aload_n hx hb dL_arePersons_74 rfl (lv_at hl 10 rfl) ?_
              refine lv_iconst (v := nI 4) hx hb dL_arePersons_75 (by decide +kernel) ?_
              refine lv_iload hx hb dL_arePersons_76 (lv_at hl 2 rfl) ?_
              refine lv_imul hx hb dL_arePersons_78 ?_
              rw [pk_mul]
              refine lv_iconst (v := nI 3) hx hb dL_arePersons_79 (by decide +kernel) ?_
              refine lv_iadd hx hb dL_arePersons_80 ?_
              rw [nI_add]
              refine o_iald hx hb hK hP 16 0 rfl rfl ((4 * k) + 3) (by omega) (by decide) dL_arePersons_81 ?_
              rw [aI_3]
              refine lv_goto (tgt := 86) hx hb dL_arePersons_82 (by decide) ?_
              refine lv_iadd hx hb dL_arePersons_86 ?_
              rw [bI_f hhg, Int32.add_zero]
              refine lv_istore (lv' := [(6, .int (nI (cR (hoB M p) 0 k))), (5, .int (nI ((cR (owB M p) 0 k) + 1))), (10, .int (nI 1)), (9, .int (nI k)), (7, .int (nI (cR (rpB M p) 0 k))), (8, .int (wBt M p k)), (4, .int (nI p)), (0, .ref z), (1, .ref (L 0)), (2, .ref (L 1)), (3, .ref (L 2))]) hx hb dL_arePersons_87 hl (by decide) rfl (fun ls hl => ?_)
              refine lv_iload hx hb dL_arePersons_89 (lv_at hl 4 rfl) ?_
              refine lv_iload hx hb dL_arePersons_91 (lv_at hl 2 rfl) ?_
              refine o_if_eq (tgt := 119) hx hb dL_arePersons_93 (by decide) (by omega) (fun c93 => ?_) (fun c93 => ?_)
              · exact absurd c93 (by decide)
              · refine lv_aload_n hx hb dL_arePersons_96 rfl (lv_at hl 8 rfl) ?_
                refine lv_aload_n hx hb dL_arePersons_97 rfl (lv_at hl 9 rfl) ?_
                refine lv_aload_n hx hb dL_arePersons_98 rfl (lv_at hl 10 rfl) ?_
                refine lv_aload_n hx hb dL_arePersons_99 rfl (lv_at hl 10 rfl) ?_
                refine lv_iconst (v := nI 4) hx hb dL_arePersons_100 (by decide +kernel) ?_
                refine lv_iload hx hb dL_arePersons_101 (lv_at hl 3 rfl) ?_
                refine lv_imul hx hb dL_arePersons_103 ?_
                rw [pk_mul]
                refine lv_iconst (v := nI 1) hx hb dL_arePersons_104 (by decide +kernel) ?_
                refine lv_iadd hx hb dL_arePersons_105 ?_
                rw [nI_add]
                refine o_iald hx hb hK hP 16 0 rfl rfl ((4 * k) + 1) (by omega) (by decide) dL_arePersons_106 ?_
                rw [aI_1]
                refine o_SI (As := [.ref (L 0), .ref (L 1), .ref (L 2), .int (nI (mW M k))]) (rest := [.int (nI (cR (rpB M p) 0 k))]) ⟨hx, hb, hml, hown, hts⟩ (kL_ruling l G cy hW hN hPl (mW M k) b1) (va_cwS 4 hts gL_arePersons_L_ruling rfl rfl rfl (by decide +kernel) ⟨Nat.le_of_ble_eq_true rfl, Nat.le_of_ble_eq_true rfl⟩) hK rfl hl.1 rfl (Nat.le_of_ble_eq_true rfl) dL_arePersons_107 ⟨Nat.le_of_ble_eq_true rfl, Nat.le_of_ble_eq_true rfl⟩ ?_
                refine lv_iload hx hb dL_arePersons_110 (lv_at hl 3 rfl) ?_
                refine lv_icmp_ne (tgt := 119) hx hb dL_arePersons_112 (by decide) (fun c112 => ?_) (fun c112 => ?_)
                · refine lv_iconst (v := nI 0) hx hb dL_arePersons_119 (by decide +kernel) ?_
                  refine lv_iadd hx hb dL_arePersons_120 ?_
                  rw [nI_add]
                  refine lv_istore (lv' := [(7, .int (nI ((cR (rpB M p) 0 k) + 0))), (6, .int (nI (cR (hoB M p) 0 k))), (5, .int (nI ((cR (owB M p) 0 k) + 1))), (10, .int (nI 1)), (9, .int (nI k)), (8, .int (wBt M p k)), (4, .int (nI p)), (0, .ref z), (1, .ref (L 0)), (2, .ref (L 1)), (3, .ref (L 2))]) hx hb dL_arePersons_121 hl (by decide) rfl (fun ls hl => ?_)
                  refine lv_iload hx hb dL_arePersons_123 (lv_at hl 5 rfl) ?_
                  refine lv_iload hx hb dL_arePersons_125 (lv_at hl 3 rfl) ?_
                  refine o_if_eq (tgt := 155) hx hb dL_arePersons_127 (by decide) (by omega) (fun c127 => ?_) (fun c127 => ?_)
                  · exact absurd c127 (by decide)
                  · refine lv_aload_n hx hb dL_arePersons_130 rfl (lv_at hl 10 rfl) ?_
                    refine lv_iconst (v := nI 4) hx hb dL_arePersons_131 (by decide +kernel) ?_
                    refine lv_iload hx hb dL_arePersons_132 (lv_at hl 4 rfl) ?_
                    refine lv_imul hx hb dL_arePersons_134 ?_
                    rw [pk_mul]
                    refine lv_iconst (v := nI 3) hx hb dL_arePersons_135 (by decide +kernel) ?_
                    refine lv_iadd hx hb dL_arePersons_136 ?_
                    rw [nI_add]
                    refine o_iald hx hb hK hP 16 0 rfl rfl ((4 * k) + 3) (by omega) (by decide) dL_arePersons_137 ?_
                    rw [aI_3]
                    refine lv_iconst (v := nI 1) hx hb dL_arePersons_138 (by decide +kernel) ?_
                    refine o_icmp1_ne (tgt := 155) hx hb dL_arePersons_139 (by decide) (fun c139 => ?_) (fun c139 => ?_)
                    · refine lv_iconst (v := nI 0) hx hb dL_arePersons_155 (by decide +kernel) ?_
                      refine lv_ior hx hb dL_arePersons_156 ?_
                      rw [or0]
                      refine lv_istore (lv' := [(8, .int (wBt M p k)), (7, .int (nI ((cR (rpB M p) 0 k) + 0))), (6, .int (nI (cR (hoB M p) 0 k))), (5, .int (nI ((cR (owB M p) 0 k) + 1))), (10, .int (nI 1)), (9, .int (nI k)), (4, .int (nI p)), (0, .ref z), (1, .ref (L 0)), (2, .ref (L 1)), (3, .ref (L 2))]) hx hb dL_arePersons_157 hl (by decide) rfl (fun ls hl => ?_)
                      refine lv_iinc (v := nI (k + 1)) (lv' := [(9, .int (nI (k + 1))), (8, .int (wBt M p k)), (7, .int (nI ((cR (rpB M p) 0 k) + 0))), (6, .int (nI (cR (hoB M p) 0 k))), (5, .int (nI ((cR (owB M p) 0 k) + 1))), (10, .int (nI 1)), (4, .int (nI p)), (0, .ref z), (1, .ref (L 0)), (2, .ref (L 1)), (3, .ref (L 2))]) hx hb dL_arePersons_159 hl (k := 5) rfl (nI_1 k) (by decide) rfl (fun ls hl => ?_)
                      refine lv_goto (tgt := 26) hx hb dL_arePersons_162 (by decide) ?_
                      refine ih26 (k + 1) ls ?_ ?_ ?_
                      · omega
                      · show lv_has ls 11 [(9, .int (nI (k + 1))), (5, .int (nI (cR (owB M p) 0 (k + 1)))), (6, .int (nI (cR (hoB M p) 0 (k + 1)))), (7, .int (nI (cR (rpB M p) 0 (k + 1)))), (8, .int (wBt M p (k + 1))), (4, .int (nI p)), (0, .ref z), (1, .ref (L 0)), (2, .ref (L 1)), (3, .ref (L 2))]
                        rw [cZ_t (p := owB M p) (owB_iff.mpr c42)]
                        rw [cZ_f (p := hoB M p) (fun z => (fun z => hhg z.1) (hoB_iff.mp z))]
                        rw [wBt_f (fun z => hhg z.1)]
                        rw [cZ_f (p := rpB M p) (fun z => c112 ((lk_eq (nI_lt40 (by omega)) (lk_b hW)).mpr (rpB_iff.mp z).2))]
                        exact lv_sub hl [0, 4, 3, 2, 1, 6, 7, 8, 9, 10] rfl
                      · omega
                    · exact absurd c139 hhg
                · refine lv_iconst (v := nI 1) hx hb dL_arePersons_115 (by decide +kernel) ?_
                  refine lv_goto (tgt := 120) hx hb dL_arePersons_116 (by decide) ?_
                  refine lv_iadd hx hb dL_arePersons_120 ?_
                  rw [nI_add]
                  refine lv_istore (lv' := [(7, .int (nI ((cR (rpB M p) 0 k) + 1))), (6, .int (nI (cR (hoB M p) 0 k))), (5, .int (nI ((cR (owB M p) 0 k) + 1))), (10, .int (nI 1)), (9, .int (nI k)), (8, .int (wBt M p k)), (4, .int (nI p)), (0, .ref z), (1, .ref (L 0)), (2, .ref (L 1)), (3, .ref (L 2))]) hx hb dL_arePersons_121 hl (by decide) rfl (fun ls hl => ?_)
                  refine lv_iload hx hb dL_arePersons_123 (lv_at hl 5 rfl) ?_
                  refine lv_iload hx hb dL_arePersons_125 (lv_at hl 3 rfl) ?_
                  refine o_if_eq (tgt := 155) hx hb dL_arePersons_127 (by decide) (by omega) (fun c127 => ?_) (fun c127 => ?_)
                  · exact absurd c127 (by decide)
                  · refine lv_aload_n hx hb dL_arePersons_130 rfl (lv_at hl 10 rfl) ?_
                    refine lv_iconst (v := nI 4) hx hb dL_arePersons_131 (by decide +kernel) ?_
                    refine lv_iload hx hb dL_arePersons_132 (lv_at hl 4 rfl) ?_
                    refine lv_imul hx hb dL_arePersons_134 ?_
                    rw [pk_mul]
                    refine lv_iconst (v := nI 3) hx hb dL_arePersons_135 (by decide +kernel) ?_
                    refine lv_iadd hx hb dL_arePersons_136 ?_
                    rw [nI_add]
                    refine o_iald hx hb hK hP 16 0 rfl rfl ((4 * k) + 3) (by omega) (by decide) dL_arePersons_137 ?_
                    rw [aI_3]
                    refine lv_iconst (v := nI 1) hx hb dL_arePersons_138 (by decide +kernel) ?_
                    refine o_icmp1_ne (tgt := 155) hx hb dL_arePersons_139 (by decide) (fun c139 => ?_) (fun c139 => ?_)
                    · refine lv_iconst (v := nI 0) hx hb dL_arePersons_155 (by decide +kernel) ?_
                      refine lv_ior hx hb dL_arePersons_156 ?_
                      rw [or0]
                      refine lv_istore (lv' := [(8, .int (wBt M p k)), (7, .int (nI ((cR (rpB M p) 0 k) + 1))), (6, .int (nI (cR (hoB M p) 0 k))), (5, .int (nI ((cR (owB M p) 0 k) + 1))), (10, .int (nI 1)), (9, .int (nI k)), (4, .int (nI p)), (0, .ref z), (1, .ref (L 0)), (2, .ref (L 1)), (3, .ref (L 2))]) hx hb dL_arePersons_157 hl (by decide) rfl (fun ls hl => ?_)
                      refine lv_iinc (v := nI (k + 1)) (lv' := [(9, .int (nI (k + 1))), (8, .int (wBt M p k)), (7, .int (nI ((cR (rpB M p) 0 k) + 1))), (6, .int (nI (cR (hoB M p) 0 k))), (5, .int (nI ((cR (owB M p) 0 k) + 1))), (10, .int (nI 1)), (4, .int (nI p)), (0, .ref z), (1, .ref (L 0)), (2, .ref (L 1)), (3, .ref (L 2))]) hx hb dL_arePersons_159 hl (k := 5) rfl (nI_1 k) (by decide) rfl (fun ls hl => ?_)
                      refine lv_goto (tgt := 26) hx hb dL_arePersons_162 (by decide) ?_
                      refine ih26 (k + 1) ls ?_ ?_ ?_
                      · omega
                      · show lv_has ls 11 [(9, .int (nI (k + 1))), (5, .int (nI (cR (owB M p) 0 (k + 1)))), (6, .int (nI (cR (hoB M p) 0 (k + 1)))), (7, .int (nI (cR (rpB M p) 0 (k + 1)))), (8, .int (wBt M p (k + 1))), (4, .int (nI p)), (0, .ref z), (1, .ref (L 0)), (2, .ref (L 1)), (3, .ref (L 2))]
                        rw [cZ_t (p := owB M p) (owB_iff.mpr c42)]
                        rw [cZ_f (p := hoB M p) (fun z => (fun z => hhg z.1) (hoB_iff.mp z))]
                        rw [wBt_f (fun z => hhg z.1)]
                        rw [cZ_t (p := rpB M p) (rpB_iff.mpr ⟨c42, (lk_eq (nI_lt40 (by omega)) (lk_b hW)).mp c112⟩)]
                        exact lv_sub hl [0, 4, 3, 2, 1, 6, 7, 8, 9, 10] rfl
                      · omega
                    · exact absurd c139 hhg
