set_option maxHeartbeats 4000000 in
set_option maxRecDepth 100000 in
theorem kL_areWords (l : Launch) (G : va_G) (cy : Nat → ClassId) {H0 : Heap} {z : Nat} {q h x r y L : Nat → Nat} {M : MT} {ru : Nat → Option Nat} {kn : Nat → Bool} {va : Nat → UInt32} {A0 : Nat → Prop} (hW : WB M) (hF : WF M) (hU : ∀ k, rngB (mU M k) = true) (hT : Fin32 (mT M)) (hN : mN M ≤ 15) (hP : va_P G vwCl ([oSy z q h x r y] ++ (wRe cy r (q 0) ru kn va ++ wDo cy q M) ++ wLa cy L M) H0) (hD0 : va_D A0 ([oSy z q h x r y] ++ (wRe cy r (q 0) ru kn va ++ wDo cy q M) ++ wLa cy L M)) : MutN l yL_areWords wsL_areWords 6 150 1 1 [.ref z, .ref (L 0), .ref (L 1), .ref (L 2), .ref (L 3), .ref (L 4)] H0 G cy 1 ([oSy z q h x r y] ++ (wRe cy r (q 0) ru kn va ++ wDo cy q M) ++ wLa cy L M) ([oSy z q h x r y] ++ (wRe cy r (q 0) (rl M) (kF M) (vF M) ++ wDo cy q M) ++ wLa cy L M) := by
  refine Met.ofW (cc := cL_areWords) (maxL := 16) (ret := (some .boolean)) (by decide) rfl ?_
  intro p e s m args below meth c s₁ B hml hv
  obtain ⟨rfl, hH, hK⟩ := hv
  subst hH
  have hx := B.exec
  have hb := B.bytes
  have hr := B.returns
  have hts := atoms_spec (ws := wsL_areWords) B.pre
  have hown : s.vm.findClass RL = some m.cls := findClass_of_methodNamed B.named
  have hlocks := B.notSynchronized
  have hl := lv_entry ([.ref z, .ref (L 0), .ref (L 1), .ref (L 2), .ref (L 3), .ref (L 4)]) (n := 16) (Nat.le_of_ble_eq_true rfl)
  rw [lg_entry_eq]
  generalize (lg_sl ([.ref z, .ref (L 0), .ref (L 1), .ref (L 2), .ref (L 3), .ref (L 4)]) ++ List.replicate (16 - (lg_sl ([.ref z, .ref (L 0), .ref (L 1), .ref (L 2), .ref (L 3), .ref (L 4)])).length) Slot.unset).toArray = ls at hl ⊢
  have hl : lv_has ls 16 [(0, .ref z), (1, .ref (L 0)), (2, .ref (L 1)), (3, .ref (L 2)), (4, .ref (L 3)), (5, .ref (L 4))] := hl
  obtain ⟨bP, bN, bR, bO, bW, bL, bF⟩ := id hW
  have hD := hD0.self (sz := s.heap.size)
  generalize hAe : va_A ([oSy z q h x r y] ++ (wRe cy r (q 0) ru kn va ++ wDo cy q M) ++ wLa cy L M) s.heap.size = A at hD ⊢
  have hA : ∀ q : Nat, s.heap.size ≤ q → A q := fun q h => by rw [← hAe]; exact Or.inr h
  have hS : va_S A s.heap s.heap [] := va_S.rf
  refine lv_iconst (v := nI 1) hx hb dL_areWords_0 (by decide +kernel) ?_
  refine o_newD hx hb (hts (.arrayClass .double) (by decide +kernel)) hK hP hD hS hA (n := 1) (by decide) (Nat.le_of_ble_eq_true rfl) (Nat.le_of_ble_eq_true rfl) dL_areWords_1 (fun ua H hP hD hS => ?_)
  have hP : va_P G vwCl ([oSy z q h x r y] ++ wRe cy r (q 0) ru kn va ++ wDo cy q M ++ wLa cy L M ++ [(ua, eD cy 1 ((fun _ => 0)))]) H := hP
  have hD : va_D A ([oSy z q h x r y] ++ wRe cy r (q 0) ru kn va ++ wDo cy q M ++ wLa cy L M ++ [(ua, eD cy 1 ((fun _ => 0)))]) := hD
  refine lv_astore (lv' := [(6, .ref ua), (0, .ref z), (1, .ref (L 0)), (2, .ref (L 1)), (3, .ref (L 2)), (4, .ref (L 3)), (5, .ref (L 4))]) hx hb dL_areWords_3 hl (by decide) rfl (fun ls hl => ?_)
  refine lv_iconst (v := nI 0) hx hb dL_areWords_5 (by decide +kernel) ?_
  refine lv_istore (lv' := [(7, .int (nI 0)), (6, .ref ua), (0, .ref z), (1, .ref (L 0)), (2, .ref (L 1)), (3, .ref (L 2)), (4, .ref (L 3)), (5, .ref (L 4))]) hx hb dL_areWords_6 hl (by decide) rfl (fun ls hl => ?_)
  refine lv_iconst (v := nI 0) hx hb dL_areWords_8 (by decide +kernel) ?_
  refine lv_istore (lv' := [(8, .int (nI 0)), (7, .int (nI 0)), (6, .ref ua), (0, .ref z), (1, .ref (L 0)), (2, .ref (L 1)), (3, .ref (L 2)), (4, .ref (L 3)), (5, .ref (L 4))]) hx hb dL_areWords_9 hl (by decide) rfl (fun ls hl => ?_)
  refine lv_iconst (v := nI 0) hx hb dL_areWords_11 (by decide +kernel) ?_
  refine lv_istore (lv' := [(9, .int (nI 0)), (8, .int (nI 0)), (7, .int (nI 0)), (6, .ref ua), (0, .ref z), (1, .ref (L 0)), (2, .ref (L 1)), (3, .ref (L 2)), (4, .ref (L 3)), (5, .ref (L 4))]) hx hb dL_areWords_12 hl (by decide) rfl (fun ls hl => ?_)
  refine lv_iconst (v := nI 0) hx hb dL_areWords_14 (by decide +kernel) ?_
  refine lv_istore (lv' := [(10, .int (nI 0)), (9, .int (nI 0)), (8, .int (nI 0)), (7, .int (nI 0)), (6, .ref ua), (0, .ref z), (1, .ref (L 0)), (2, .ref (L 1)), (3, .ref (L 2)), (4, .ref (L 3)), (5, .ref (L 4))]) hx hb dL_areWords_15 hl (by decide) rfl (fun ls hl => ?_)
  refine o_loopM (σ := Nat × (Nat → Option Nat) × (Nat → Bool) × (Nat → UInt32) × (Nat → UInt64)) (fun (x_ : Nat × (Nat → Option Nat) × (Nat → Bool) × (Nat → UInt32) × (Nat → UInt64)) (H : Heap) (locs : List Loc) => match x_ with | (w, ru1, kn1, va1, u1) => w ≤ 16 ∧ va_P G vwCl ([oSy z q h x r y] ++ (wRe cy r (q 0) ru1 kn1 va1 ++ wDo cy q M) ++ (wLa cy L M ++ [(ua, eD cy 1 u1)])) H ∧ va_D A ([oSy z q h x r y] ++ (wRe cy r (q 0) ru1 kn1 va1 ++ wDo cy q M) ++ (wLa cy L M ++ [(ua, eD cy 1 u1)])) ∧ va_S A s.heap H locs) (fun (x_ : Nat × (Nat → Option Nat) × (Nat → Bool) × (Nat → UInt32) × (Nat → UInt64)) => match x_ with | (w, ru1, kn1, va1, u1) => [(10, .int (nI w)), (7, .int (nI (cR (kF M) 0 w))), (8, .int (nI (cR (rwB (rl M) (kF M)) 0 w))), (9, .int (nI (cR (cfB M (rl M) (kF M) (vF M)) 0 w))), (0, .ref z), (1, .ref (L 0)), (2, .ref (L 1)), (3, .ref (L 2)), (4, .ref (L 3)), (5, .ref (L 4)), (6, .ref ua)]) (fun (x_ : Nat × (Nat → Option Nat) × (Nat → Bool) × (Nat → UInt32) × (Nat → UInt64)) => match x_ with | (w, ru1, kn1, va1, u1) => 16 - w) (0, ru, kn, va, (fun _ => 0)) ⟨Nat.zero_le _, hP, hD, hS⟩ (lv_sub hl [0, 3, 2, 1, 5, 6, 7, 8, 9, 10, 4] rfl) ?_
  rintro ⟨w, ru1, kn1, va1, u1⟩ ls H locs ⟨h1, hP, hD, hS⟩ hl ih17
  have hl : lv_has ls 16 [(10, .int (nI w)), (7, .int (nI (cR (kF M) 0 w))), (8, .int (nI (cR (rwB (rl M) (kF M)) 0 w))), (9, .int (nI (cR (cfB M (rl M) (kF M) (vF M)) 0 w))), (0, .ref z), (1, .ref (L 0)), (2, .ref (L 1)), (3, .ref (L 2)), (4, .ref (L 3)), (5, .ref (L 4)), (6, .ref ua)] := hl
  have hPl := hP.sub (ws' := wLa cy L M) [14, 15, 16, 17, 18] rfl
  have hPq := hP.sub (ws' := [oSy z q h x r y] ++ wDo cy q M) [0, 5, 6, 7, 8, 9, 10, 11, 12, 13] rfl
  refine lv_iload hx hb dL_areWords_17 (lv_at hl 0 rfl) ?_
  refine lv_bipush (v := nI 16) hx hb dL_areWords_19 (by decide +kernel) ?_
  refine o_icmp_ge (tgt := 333) hx hb dL_areWords_21 (by decide) (by omega) (by omega) (fun c21 => ?_) (fun c21 => ?_)
  · obtain rfl : w = 16 := by omega
    refine lv_aload_n hx hb dL_areWords_333 rfl (lv_at hl 4 rfl) ?_
    refine lv_bipush (v := nI 16) hx hb dL_areWords_334 (by decide +kernel) ?_
    refine o_VF (As := [.int (nI 16)]) (rest := []) ⟨hx, hb, hml, hown, hts⟩ (kX7_value_u l G cy hW hPq 16 (by decide) (by decide)) (cwV 1 hts gL_areWords_X7_value rfl rfl rfl (by decide +kernel) ⟨Nat.le_of_ble_eq_true rfl, Nat.le_of_ble_eq_true rfl⟩) hK (va_recv hK hP (ci := 6) (q0 := 0) rfl rfl) rfl hl.1 rfl (Nat.le_of_ble_eq_true rfl) dL_areWords_336 ⟨Nat.le_of_ble_eq_true rfl, Nat.le_of_ble_eq_true rfl⟩ ?_
    refine lv_fstore (lv' := [(10, .float 2143289344), (7, .int (nI (cR (kF M) 0 16))), (8, .int (nI (cR (rwB (rl M) (kF M)) 0 16))), (9, .int (nI (cR (cfB M (rl M) (kF M) (vF M)) 0 16))), (0, .ref z), (1, .ref (L 0)), (2, .ref (L 1)), (3, .ref (L 2)), (4, .ref (L 3)), (5, .ref (L 4)), (6, .ref ua)]) hx hb dL_areWords_339 hl (by decide) rfl (fun ls hl => ?_)
    refine lv_aload_n hx hb dL_areWords_341 rfl (lv_at hl 4 rfl) ?_
    refine lv_iconst (v := nI 5) hx hb dL_areWords_342 (by decide +kernel) ?_
    have hPc := hP.sub (ws' := [oSy z q h x r y] ++ (wRe cy r (q 0) ru1 kn1 va1 ++ wDo cy q M)) [0, 1, 2, 3, 4, 5, 6, 7, 8, 9, 10, 11, 12, 13] rfl
    have hDc := hD.sub (ws' := [oSy z q h x r y] ++ (wRe cy r (q 0) ru1 kn1 va1 ++ wDo cy q M)) [0, 1, 2, 3, 4, 5, 6, 7, 8, 9, 10, 11, 12, 13] (by decide) rfl
    have hFc := va_free (wc := [oSy z q h x r y] ++ (wRe cy r (q 0) ru1 kn1 va1 ++ wDo cy q M)) hD hS hA [0, 1, 2, 3, 4, 5, 6, 7, 8, 9, 10, 11, 12, 13] rfl
    refine va_calli (va_runV (As := [.int (nI 5)]) (rest := []) ⟨hx, hb, hml, hown, hts⟩ (kX7_count_5 l G cy hW hF hPc hDc) (cwV 1 hts gL_areWords_X7_count rfl rfl rfl (by decide +kernel) ⟨Nat.le_of_ble_eq_true rfl, Nat.le_of_ble_eq_true rfl⟩) ⟨pR_blind, va_recv hK hP (ci := 6) (q0 := 0) rfl rfl, pR_at hK⟩ rfl rfl hl.1 rfl (lv_room (Nat.le_of_ble_eq_true rfl)) dL_areWords_343 ⟨Nat.le_of_ble_eq_true rfl, Nat.le_of_ble_eq_true rfl⟩) hS (fun q _ h => hFc q h) hFc (fun r_ u_ t_ H locs ht hvm hw_ hB hz1 hk1 hS => ?_)
    rw [ht] at hB
    have hP : va_P G vwCl ([oSy z q h x r y] ++ wRe cy r (q 0) (rl M) (kF M) (vF M) ++ wDo cy q M ++ wLa cy L M ++ [(ua, eD cy 1 u1)]) H := (o_join hP hD [0, 1, 2, 3, 4, 5, 6, 7, 8, 9, 10, 11, 12, 13] [14, 15, 16, 17, 18, 19] rfl (wr := wLa cy L M ++ [(ua, eD cy 1 u1)]) rfl (by decide) (by decide) (by decide) hk1 hFc hB rfl).sub [6, 7, 8, 9, 10, 11, 12, 13, 14, 15, 16, 17, 18, 19, 0, 1, 2, 3, 4, 5] rfl
    have hD : va_D A ([oSy z q h x r y] ++ wRe cy r (q 0) (rl M) (kF M) (vF M) ++ wDo cy q M ++ wLa cy L M ++ [(ua, eD cy 1 u1)]) := vd_same hD rfl
    obtain rfl : r_ = nI (cR (kF M) 0 16) := hw_
    have hPl := hP.sub (ws' := wLa cy L M) [14, 15, 16, 17, 18] rfl
    have hPq := hP.sub (ws' := [oSy z q h x r y] ++ wDo cy q M) [0, 5, 6, 7, 8, 9, 10, 11, 12, 13] rfl
    refine lv_iload hx hb dL_areWords_346 (lv_at hl 1 rfl) ?_
    refine lv_icmp_ne (tgt := 419) hx hb dL_areWords_348 (by decide) (fun c348 => ?_) (fun c348 => ?_)
    · exact absurd rfl c348
    · refine lv_aload_n hx hb dL_areWords_351 rfl (lv_at hl 4 rfl) ?_
      refine lv_bipush (v := nI 6) hx hb dL_areWords_352 (by decide +kernel) ?_
      have hPc := hP.sub (ws' := [oSy z q h x r y] ++ (wRe cy r (q 0) (rl M) (kF M) (vF M) ++ wDo cy q M)) [0, 1, 2, 3, 4, 5, 6, 7, 8, 9, 10, 11, 12, 13] rfl
      have hDc := hD.sub (ws' := [oSy z q h x r y] ++ (wRe cy r (q 0) (rl M) (kF M) (vF M) ++ wDo cy q M)) [0, 1, 2, 3, 4, 5, 6, 7, 8, 9, 10, 11, 12, 13] (by decide) rfl
      have hFc := va_free (wc := [oSy z q h x r y] ++ (wRe cy r (q 0) (rl M) (kF M) (vF M) ++ wDo cy q M)) hD hS hA [0, 1, 2, 3, 4, 5, 6, 7, 8, 9, 10, 11, 12, 13] rfl
      refine va_calli (va_runV (As := [.int (nI 6)]) (rest := []) ⟨hx, hb, hml, hown, hts⟩ (kX7_count_6 l G cy hW hF hPc hDc) (cwV 1 hts gL_areWords_X7_count rfl rfl rfl (by decide +kernel) ⟨Nat.le_of_ble_eq_true rfl, Nat.le_of_ble_eq_true rfl⟩) ⟨pR_blind, va_recv hK hP (ci := 6) (q0 := 0) rfl rfl, pR_at hK⟩ rfl rfl hl.1 rfl (lv_room (Nat.le_of_ble_eq_true rfl)) dL_areWords_354 ⟨Nat.le_of_ble_eq_true rfl, Nat.le_of_ble_eq_true rfl⟩) hS (fun q _ h => hFc q h) hFc (fun r_ u_ t_ H locs ht hvm hw_ hB hz1 hk1 hS => ?_)
      rw [ht] at hB
      have hP : va_P G vwCl ([oSy z q h x r y] ++ wRe cy r (q 0) (rl M) (kF M) (vF M) ++ wDo cy q M ++ wLa cy L M ++ [(ua, eD cy 1 u1)]) H := (o_join hP hD [0, 1, 2, 3, 4, 5, 6, 7, 8, 9, 10, 11, 12, 13] [14, 15, 16, 17, 18, 19] rfl (wr := wLa cy L M ++ [(ua, eD cy 1 u1)]) rfl (by decide) (by decide) (by decide) hk1 hFc hB rfl).sub [6, 7, 8, 9, 10, 11, 12, 13, 14, 15, 16, 17, 18, 19, 0, 1, 2, 3, 4, 5] rfl
      have hD : va_D A ([oSy z q h x r y] ++ wRe cy r (q 0) (rl M) (kF M) (vF M) ++ wDo cy q M ++ wLa cy L M ++ [(ua, eD cy 1 u1)]) := vd_same hD rfl
      obtain rfl : r_ = nI (cR (rwB (rl M) (kF M)) 0 16) := hw_
      have hPl := hP.sub (ws' := wLa cy L M) [14, 15, 16, 17, 18] rfl
      have hPq := hP.sub (ws' := [oSy z q h x r y] ++ wDo cy q M) [0, 5, 6, 7, 8, 9, 10, 11, 12, 13] rfl
      refine lv_iload hx hb dL_areWords_357 (lv_at hl 2 rfl) ?_
      refine lv_icmp_ne (tgt := 419) hx hb dL_areWords_359 (by decide) (fun c359 => ?_) (fun c359 => ?_)
      · exact absurd rfl c359
      · refine lv_aload_n hx hb dL_areWords_362 rfl (lv_at hl 4 rfl) ?_
        refine lv_bipush (v := nI 7) hx hb dL_areWords_363 (by decide +kernel) ?_
        have hPc := hP.sub (ws' := [oSy z q h x r y] ++ (wRe cy r (q 0) (rl M) (kF M) (vF M) ++ wDo cy q M)) [0, 1, 2, 3, 4, 5, 6, 7, 8, 9, 10, 11, 12, 13] rfl
        have hDc := hD.sub (ws' := [oSy z q h x r y] ++ (wRe cy r (q 0) (rl M) (kF M) (vF M) ++ wDo cy q M)) [0, 1, 2, 3, 4, 5, 6, 7, 8, 9, 10, 11, 12, 13] (by decide) rfl
        have hFc := va_free (wc := [oSy z q h x r y] ++ (wRe cy r (q 0) (rl M) (kF M) (vF M) ++ wDo cy q M)) hD hS hA [0, 1, 2, 3, 4, 5, 6, 7, 8, 9, 10, 11, 12, 13] rfl
        refine va_calli (va_runV (As := [.int (nI 7)]) (rest := []) ⟨hx, hb, hml, hown, hts⟩ (kX7_count_7 l G cy hW hF hPc hDc) (cwV 1 hts gL_areWords_X7_count rfl rfl rfl (by decide +kernel) ⟨Nat.le_of_ble_eq_true rfl, Nat.le_of_ble_eq_true rfl⟩) ⟨pR_blind, va_recv hK hP (ci := 6) (q0 := 0) rfl rfl, pR_at hK⟩ rfl rfl hl.1 rfl (lv_room (Nat.le_of_ble_eq_true rfl)) dL_areWords_365 ⟨Nat.le_of_ble_eq_true rfl, Nat.le_of_ble_eq_true rfl⟩) hS (fun q _ h => hFc q h) hFc (fun r_ u_ t_ H locs ht hvm hw_ hB hz1 hk1 hS => ?_)
        rw [ht] at hB
        have hP : va_P G vwCl ([oSy z q h x r y] ++ wRe cy r (q 0) (rl M) (kF M) (vF M) ++ wDo cy q M ++ wLa cy L M ++ [(ua, eD cy 1 u1)]) H := (o_join hP hD [0, 1, 2, 3, 4, 5, 6, 7, 8, 9, 10, 11, 12, 13] [14, 15, 16, 17, 18, 19] rfl (wr := wLa cy L M ++ [(ua, eD cy 1 u1)]) rfl (by decide) (by decide) (by decide) hk1 hFc hB rfl).sub [6, 7, 8, 9, 10, 11, 12, 13, 14, 15, 16, 17, 18, 19, 0, 1, 2, 3, 4, 5] rfl
        have hD : va_D A ([oSy z q h x r y] ++ wRe cy r (q 0) (rl M) (kF M) (vF M) ++ wDo cy q M ++ wLa cy L M ++ [(ua, eD cy 1 u1)]) := vd_same hD rfl
        obtain rfl : r_ = nI (cR (cfB M (rl M) (kF M) (vF M)) 0 16) := hw_
        have hPl := hP.sub (ws' := wLa cy L M) [14, 15, 16, 17, 18] rfl
        have hPq := hP.sub (ws' := [oSy z q h x r y] ++ wDo cy q M) [0, 5, 6, 7, 8, 9, 10, 11, 12, 13] rfl
        refine lv_iload hx hb dL_areWords_368 (lv_at hl 3 rfl) ?_
        refine lv_icmp_ne (tgt := 419) hx hb dL_areWords_370 (by decide) (fun c370 => ?_) (fun c370 => ?_)
        · exact absurd rfl c370
        · refine lv_aload_n hx hb dL_areWords_373 rfl (lv_at hl 4 rfl) ?_
          refine lv_bipush (v := nI 16) hx hb dL_areWords_374 (by decide +kernel) ?_
          refine lv_iconst (v := nI 0) hx hb dL_areWords_376 (by decide +kernel) ?_
          refine o_VI (As := [.int (nI 16), .int (nI 0)]) (rest := []) ⟨hx, hb, hml, hown, hts⟩ (kX7_word_u l G cy hW hPq 16 0 (by decide) (by decide)) (cwV 2 hts gL_areWords_X7_word rfl rfl rfl (by decide +kernel) ⟨Nat.le_of_ble_eq_true rfl, Nat.le_of_ble_eq_true rfl⟩) hK (va_recv hK hP (ci := 6) (q0 := 0) rfl rfl) rfl hl.1 rfl (Nat.le_of_ble_eq_true rfl) dL_areWords_377 ⟨Nat.le_of_ble_eq_true rfl, Nat.le_of_ble_eq_true rfl⟩ ?_
          refine lv_iconst (v := (-1)) hx hb dL_areWords_380 (by decide +kernel) ?_
          refine lv_icmp_ne (tgt := 419) hx hb dL_areWords_381 (by decide) (fun c381 => ?_) (fun c381 => ?_)
          · exact absurd rfl c381
          · refine lv_aload_n hx hb dL_areWords_384 rfl (lv_at hl 4 rfl) ?_
            refine lv_iconst (v := nI 0) hx hb dL_areWords_385 (by decide +kernel) ?_
            refine lv_bipush (v := nI 7) hx hb dL_areWords_386 (by decide +kernel) ?_
            have hPc := hP.sub (ws' := [oSy z q h x r y] ++ (wRe cy r (q 0) (rl M) (kF M) (vF M) ++ wDo cy q M)) [0, 1, 2, 3, 4, 5, 6, 7, 8, 9, 10, 11, 12, 13] rfl
            have hDc := hD.sub (ws' := [oSy z q h x r y] ++ (wRe cy r (q 0) (rl M) (kF M) (vF M) ++ wDo cy q M)) [0, 1, 2, 3, 4, 5, 6, 7, 8, 9, 10, 11, 12, 13] (by decide) rfl
            have hFc := va_free (wc := [oSy z q h x r y] ++ (wRe cy r (q 0) (rl M) (kF M) (vF M) ++ wDo cy q M)) hD hS hA [0, 1, 2, 3, 4, 5, 6, 7, 8, 9, 10, 11, 12, 13] rfl
            refine va_calli (va_runV (As := [.int (nI 0), .int (nI 7)]) (rest := []) ⟨hx, hb, hml, hown, hts⟩ (kX7_word_7 l G cy hW hF hPc hDc 0 (by decide)) (cwV 2 hts gL_areWords_X7_word rfl rfl rfl (by decide +kernel) ⟨Nat.le_of_ble_eq_true rfl, Nat.le_of_ble_eq_true rfl⟩) ⟨pR_blind, va_recv hK hP (ci := 6) (q0 := 0) rfl rfl, pR_at hK⟩ rfl rfl hl.1 rfl (lv_room (Nat.le_of_ble_eq_true rfl)) dL_areWords_388 ⟨Nat.le_of_ble_eq_true rfl, Nat.le_of_ble_eq_true rfl⟩) hS (fun q _ h => hFc q h) hFc (fun r_ u_ t_ H locs ht hvm hw_ hB hz1 hk1 hS => ?_)
            rw [ht] at hB
            have hP : va_P G vwCl ([oSy z q h x r y] ++ wRe cy r (q 0) (rl M) (kF M) (vF M) ++ wDo cy q M ++ wLa cy L M ++ [(ua, eD cy 1 u1)]) H := (o_join hP hD [0, 1, 2, 3, 4, 5, 6, 7, 8, 9, 10, 11, 12, 13] [14, 15, 16, 17, 18, 19] rfl (wr := wLa cy L M ++ [(ua, eD cy 1 u1)]) rfl (by decide) (by decide) (by decide) hk1 hFc hB rfl).sub [6, 7, 8, 9, 10, 11, 12, 13, 14, 15, 16, 17, 18, 19, 0, 1, 2, 3, 4, 5] rfl
            have hD : va_D A ([oSy z q h x r y] ++ wRe cy r (q 0) (rl M) (kF M) (vF M) ++ wDo cy q M ++ wLa cy L M ++ [(ua, eD cy 1 u1)]) := vd_same hD rfl
            obtain rfl : r_ = (-2) := hw_
            have hPl := hP.sub (ws' := wLa cy L M) [14, 15, 16, 17, 18] rfl
            have hPq := hP.sub (ws' := [oSy z q h x r y] ++ wDo cy q M) [0, 5, 6, 7, 8, 9, 10, 11, 12, 13] rfl
            refine lv_bipush (v := (-2)) hx hb dL_areWords_391 (by decide +kernel) ?_
            refine lv_icmp_ne (tgt := 419) hx hb dL_areWords_393 (by decide) (fun c393 => ?_) (fun c393 => ?_)
            · exact absurd rfl c393
            · refine lv_fload hx hb dL_areWords_396 (lv_at hl 0 rfl) ?_
              refine lv_fload hx hb dL_areWords_398 (lv_at hl 0 rfl) ?_
              refine lv_fcmp hx hb dL_areWords_400 ?_
              refine lv_if_eq (tgt := 419) hx hb dL_areWords_401 (by decide) (fun c401 => ?_) (fun c401 => ?_)
              · exact absurd c401 (by decide +kernel)
              · refine lv_aload_n hx hb dL_areWords_404 rfl (lv_at hl 4 rfl) ?_
                refine lv_iconst (v := nI 0) hx hb dL_areWords_405 (by decide +kernel) ?_
                refine lv_iconst (v := (-1)) hx hb dL_areWords_406 (by decide +kernel) ?_
                refine o_VI (As := [.int (nI 0), .int ((-1))]) (rest := []) ⟨hx, hb, hml, hown, hts⟩ (kX7_hangsAt_b l G cy hW hPq 0 (by decide)) (cwV 2 hts gL_areWords_X7_hangsAt rfl rfl rfl (by decide +kernel) ⟨Nat.le_of_ble_eq_true rfl, Nat.le_of_ble_eq_true rfl⟩) hK (va_recv hK hP (ci := 6) (q0 := 0) rfl rfl) rfl hl.1 rfl (Nat.le_of_ble_eq_true rfl) dL_areWords_407 ⟨Nat.le_of_ble_eq_true rfl, Nat.le_of_ble_eq_true rfl⟩ ?_
                refine lv_bipush (v := (-2)) hx hb dL_areWords_410 (by decide +kernel) ?_
                refine lv_icmp_ne (tgt := 419) hx hb dL_areWords_412 (by decide) (fun c412 => ?_) (fun c412 => ?_)
                · exact absurd rfl c412
                · refine lv_iconst (v := nI 1) hx hb dL_areWords_415 (by decide +kernel) ?_
                  refine lv_goto (tgt := 420) hx hb dL_areWords_416 (by decide) ?_
                  exact o_endZn hx hb hr hlocks dL_areWords_420 (by decide) (hP.sub (ws' := [oSy z q h x r y] ++ (wRe cy r (q 0) (rl M) (kF M) (vF M) ++ wDo cy q M) ++ wLa cy L M) [0, 1, 2, 3, 4, 5, 6, 7, 8, 9, 10, 11, 12, 13, 14, 15, 16, 17, 18] rfl) hS (by decide)
  · refine lv_iconst (v := nI 0) hx hb dL_areWords_24 (by decide +kernel) ?_
    refine lv_istore (lv' := [(11, .int (nI 0)), (10, .int (nI w)), (7, .int (nI (cR (kF M) 0 w))), (8, .int (nI (cR (rwB (rl M) (kF M)) 0 w))), (9, .int (nI (cR (cfB M (rl M) (kF M) (vF M)) 0 w))), (0, .ref z), (1, .ref (L 0)), (2, .ref (L 1)), (3, .ref (L 2)), (4, .ref (L 3)), (5, .ref (L 4)), (6, .ref ua)]) hx hb dL_areWords_25 hl (by decide) rfl (fun ls hl => ?_)
    refine lv_bipush (v := (-5)) hx hb dL_areWords_27 (by decide +kernel) ?_
    refine lv_istore (lv' := [(12, .int ((-5))), (11, .int (nI 0)), (10, .int (nI w)), (7, .int (nI (cR (kF M) 0 w))), (8, .int (nI (cR (rwB (rl M) (kF M)) 0 w))), (9, .int (nI (cR (cfB M (rl M) (kF M) (vF M)) 0 w))), (0, .ref z), (1, .ref (L 0)), (2, .ref (L 1)), (3, .ref (L 2)), (4, .ref (L 3)), (5, .ref (L 4)), (6, .ref ua)]) hx hb dL_areWords_29 hl (by decide) rfl (fun ls hl => ?_)
    refine lv_iconst (v := nI 0) hx hb dL_areWords_31 (by decide +kernel) ?_
    refine lv_istore (lv' := [(13, .int (nI 0)), (12, .int ((-5))), (11, .int (nI 0)), (10, .int (nI w)), (7, .int (nI (cR (kF M) 0 w))), (8, .int (nI (cR (rwB (rl M) (kF M)) 0 w))), (9, .int (nI (cR (cfB M (rl M) (kF M) (vF M)) 0 w))), (0, .ref z), (1, .ref (L 0)), (2, .ref (L 1)), (3, .ref (L 2)), (4, .ref (L 3)), (5, .ref (L 4)), (6, .ref ua)]) hx hb dL_areWords_32 hl (by decide) rfl (fun ls hl => ?_)
    refine o_loop (σ := Nat) (fun (i : Nat) => i ≤ mN M) (fun (i : Nat) => [(13, .int (nI i)), (12, .int (hAt (hfB M w) i 0)), (11, .int (nI (cR (hfB M w) 0 i))), (10, .int (nI w)), (7, .int (nI (cR (kF M) 0 w))), (8, .int (nI (cR (rwB (rl M) (kF M)) 0 w))), (9, .int (nI (cR (cfB M (rl M) (kF M) (vF M)) 0 w))), (0, .ref z), (1, .ref (L 0)), (2, .ref (L 1)), (3, .ref (L 2)), (4, .ref (L 3)), (5, .ref (L 4)), (6, .ref ua)]) (fun (i : Nat) => mN M - i) 0 (Nat.zero_le _) (lv_sub hl [0, 1, 2, 3, 4, 5, 6, 7, 8, 9, 10, 11, 12, 13] rfl) ?_
    rintro i ls h2 hl ih34
    have hl : lv_has ls 16 [(13, .int (nI i)), (12, .int (hAt (hfB M w) i 0)), (11, .int (nI (cR (hfB M w) 0 i))), (10, .int (nI w)), (7, .int (nI (cR (kF M) 0 w))), (8, .int (nI (cR (rwB (rl M) (kF M)) 0 w))), (9, .int (nI (cR (cfB M (rl M) (kF M) (vF M)) 0 w))), (0, .ref z), (1, .ref (L 0)), (2, .ref (L 1)), (3, .ref (L 2)), (4, .ref (L 3)), (5, .ref (L 4)), (6, .ref ua)] := hl
    have b1 := bW i
    refine lv_iload hx hb dL_areWords_34 (lv_at hl 0 rfl) ?_
    refine lv_aload_n hx hb dL_areWords_36 rfl (lv_at hl 8 rfl) ?_
    refine lv_iconst (v := nI 1) hx hb dL_areWords_37 (by decide +kernel) ?_
    refine o_iald hx hb hK hP 14 0 rfl rfl 1 (by omega) (by decide) dL_areWords_38 ?_
    rw [show gI M 1 = mN M from rfl]
    refine o_icmp_ge (tgt := 109) hx hb dL_areWords_39 (by decide) (by omega) (by omega) (fun c39 => ?_) (fun c39 => ?_)
    · obtain rfl : i = mN M := by omega
      refine lv_aload_n hx hb dL_areWords_109 rfl (lv_at hl 8 rfl) ?_
      refine lv_aload_n hx hb dL_areWords_110 rfl (lv_at hl 9 rfl) ?_
      refine lv_aload_n hx hb dL_areWords_111 rfl (lv_at hl 10 rfl) ?_
      refine lv_aload hx hb dL_areWords_112 (lv_at hl 11 rfl) ?_
      refine lv_iload hx hb dL_areWords_114 (lv_at hl 3 rfl) ?_
      refine lv_aload hx hb dL_areWords_116 (lv_at hl 13 rfl) ?_
      have hPc := hP.sub (ws' := wLa cy L M ++ [(ua, eD cy 1 u1)]) [14, 15, 16, 17, 18, 19] rfl
      have hDc := hD.sub (ws' := wLa cy L M ++ [(ua, eD cy 1 u1)]) [14, 15, 16, 17, 18, 19] (by decide) rfl
      have hFc := va_free (wc := wLa cy L M ++ [(ua, eD cy 1 u1)]) hD hS hA [14, 15, 16, 17, 18, 19] rfl
      refine va_calli (va_runS (As := [.ref (L 0), .ref (L 1), .ref (L 2), .ref (L 3), .int (nI w), .ref ua]) (rest := []) ⟨hx, hb, hml, hown, hts⟩ (kL_has l G cy hW hF hU hN hPc hDc w c21) (va_cwS 6 hts gL_areWords_L_has rfl rfl rfl (by decide +kernel) ⟨Nat.le_of_ble_eq_true rfl, Nat.le_of_ble_eq_true rfl⟩) ⟨pR_blind, pR_at hK⟩ rfl rfl hl.1 rfl (lv_room (Nat.le_of_ble_eq_true rfl)) dL_areWords_118 ⟨Nat.le_of_ble_eq_true rfl, Nat.le_of_ble_eq_true rfl⟩) hS (fun q _ h => hFc q h) hFc (fun r_ u2 t_ H locs ht hvm hw_ hB hz1 hk1 hS => ?_)
      obtain ⟨hr_, huu2⟩ := hw_
      subst hr_
      have hB : va_P G vwCl (wLa cy L M ++ [(ua, eD cy 1 u2)]) t_.heap := hB
      rw [ht] at hB
      have hP : va_P G vwCl ([oSy z q h x r y] ++ (wRe cy r (q 0) ru1 kn1 va1 ++ wDo cy q M) ++ (wLa cy L M ++ [(ua, eD cy 1 u2)])) H := o_join hP hD [14, 15, 16, 17, 18, 19] [0, 1, 2, 3, 4, 5, 6, 7, 8, 9, 10, 11, 12, 13] rfl (wr := [oSy z q h x r y] ++ (wRe cy r (q 0) ru1 kn1 va1 ++ wDo cy q M)) rfl (by decide) (by decide) (by decide) hk1 hFc hB rfl
      have hD : va_D A ([oSy z q h x r y] ++ (wRe cy r (q 0) ru1 kn1 va1 ++ wDo cy q M) ++ (wLa cy L M ++ [(ua, eD cy 1 u2)])) := vd_same hD rfl
      have hPl := hP.sub (ws' := wLa cy L M) [14, 15, 16, 17, 18] rfl
      have hPq := hP.sub (ws' := [oSy z q h x r y] ++ wDo cy q M) [0, 5, 6, 7, 8, 9, 10, 11, 12, 13] rfl
      refine lv_istore (lv' := [(13, .int (bI (kF M w = true))), (12, .int (hAt (hfB M w) (mN M) 0)), (11, .int (nI (cR (hfB M w) 0 (mN M)))), (10, .int (nI w)), (7, .int (nI (cR (kF M) 0 w))), (8, .int (nI (cR (rwB (rl M) (kF M)) 0 w))), (9, .int (nI (cR (cfB M (rl M) (kF M) (vF M)) 0 w))), (0, .ref z), (1, .ref (L 0)), (2, .ref (L 1)), (3, .ref (L 2)), (4, .ref (L 3)), (5, .ref (L 4)), (6, .ref ua)]) hx hb dL_areWords_121 hl (by decide) rfl (fun ls hl => ?_)
      rcases Classical.em (kF M w = true) with hkw | hkw
      · refine lv_aload_n hx hb dL_areWords_123 rfl (lv_at hl 7 rfl) ?_
        refine lv_iload hx hb dL_areWords_124 (lv_at hl 3 rfl) ?_
        have hPc := hP.sub (ws' := [oSy z q h x r y] ++ (wRe cy r (q 0) ru1 kn1 va1 ++ wDo cy q M)) [0, 1, 2, 3, 4, 5, 6, 7, 8, 9, 10, 11, 12, 13] rfl
        have hDc := hD.sub (ws' := [oSy z q h x r y] ++ (wRe cy r (q 0) ru1 kn1 va1 ++ wDo cy q M)) [0, 1, 2, 3, 4, 5, 6, 7, 8, 9, 10, 11, 12, 13] (by decide) rfl
        have hFc := va_free (wc := [oSy z q h x r y] ++ (wRe cy r (q 0) ru1 kn1 va1 ++ wDo cy q M)) hD hS hA [0, 1, 2, 3, 4, 5, 6, 7, 8, 9, 10, 11, 12, 13] rfl
        refine va_callf (va_runV (As := [.int (nI w)]) (rest := []) ⟨hx, hb, hml, hown, hts⟩ (kX7_value_k l G cy hW hF hPc hDc w c21 hkw) (cwV 1 hts gL_areWords_X7_value rfl rfl rfl (by decide +kernel) ⟨Nat.le_of_ble_eq_true rfl, Nat.le_of_ble_eq_true rfl⟩) ⟨pR_blind, va_recv hK hP (ci := 6) (q0 := 0) rfl rfl, pR_at hK⟩ rfl rfl hl.1 rfl (lv_room (Nat.le_of_ble_eq_true rfl)) dL_areWords_126 ⟨Nat.le_of_ble_eq_true rfl, Nat.le_of_ble_eq_true rfl⟩) hS (fun q _ h => hFc q h) hFc (fun r_ u_ t_ H locs ht hvm hw_ hB hz1 hk1 hS => ?_)
        rw [ht] at hB
        have hP : va_P G vwCl ([oSy z q h x r y] ++ wRe cy r (q 0) (rl M) (kF M) (vF M) ++ wDo cy q M ++ wLa cy L M ++ [(ua, eD cy 1 u2)]) H := (o_join hP hD [0, 1, 2, 3, 4, 5, 6, 7, 8, 9, 10, 11, 12, 13] [14, 15, 16, 17, 18, 19] rfl (wr := wLa cy L M ++ [(ua, eD cy 1 u2)]) rfl (by decide) (by decide) (by decide) hk1 hFc hB rfl).sub [6, 7, 8, 9, 10, 11, 12, 13, 14, 15, 16, 17, 18, 19, 0, 1, 2, 3, 4, 5] rfl
        have hD : va_D A ([oSy z q h x r y] ++ wRe cy r (q 0) (rl M) (kF M) (vF M) ++ wDo cy q M ++ wLa cy L M ++ [(ua, eD cy 1 u2)]) := vd_same hD rfl
        obtain rfl : r_ = vF M w := hw_
        have hPl := hP.sub (ws' := wLa cy L M) [14, 15, 16, 17, 18] rfl
        have hPq := hP.sub (ws' := [oSy z q h x r y] ++ wDo cy q M) [0, 5, 6, 7, 8, 9, 10, 11, 12, 13] rfl
        refine lv_fstore (lv' := [(14, .float (vF M w)), (13, .int (bI (kF M w = true))), (12, .int (hAt (hfB M w) (mN M) 0)), (11, .int (nI (cR (hfB M w) 0 (mN M)))), (10, .int (nI w)), (7, .int (nI (cR (kF M) 0 w))), (8, .int (nI (cR (rwB (rl M) (kF M)) 0 w))), (9, .int (nI (cR (cfB M (rl M) (kF M) (vF M)) 0 w))), (0, .ref z), (1, .ref (L 0)), (2, .ref (L 1)), (3, .ref (L 2)), (4, .ref (L 3)), (5, .ref (L 4)), (6, .ref ua)]) hx hb dL_areWords_129 hl (by decide) rfl (fun ls hl => ?_)
        refine lv_iload hx hb dL_areWords_131 (lv_at hl 1 rfl) ?_
        refine o_ifb_eq (tgt := 150) hx hb dL_areWords_133 (by decide) (fun c133 => ?_) (fun c133 => ?_)
        · exact absurd hkw c133
        · refine lv_fload hx hb dL_areWords_136 (lv_at hl 0 rfl) ?_
          refine lv_f2d hx hb dL_areWords_138 (f2d_n (FP.Core.FFin.notNaN (vaF_fin w))) ?_
          refine lv_aload hx hb dL_areWords_139 (lv_at hl 14 rfl) ?_
          refine lv_iconst (v := nI 0) hx hb dL_areWords_141 (by decide +kernel) ?_
          refine o_dald hx hb hK hP 19 3 rfl rfl 0 (by omega) (by decide) dL_areWords_142 ?_
          rw [huu2 hkw]
          refine lv_dcmp hx hb dL_areWords_143 ?_
          refine lv_if_eq (tgt := 160) hx hb dL_areWords_144 (by decide) (fun c144 => ?_) (fun c144 => ?_)
          · refine lv_aload_n hx hb dL_areWords_160 rfl (lv_at hl 9 rfl) ?_
            refine lv_aload_n hx hb dL_areWords_161 rfl (lv_at hl 10 rfl) ?_
            refine lv_aload_n hx hb dL_areWords_162 rfl (lv_at hl 11 rfl) ?_
            refine lv_aload hx hb dL_areWords_163 (lv_at hl 12 rfl) ?_
            refine lv_aload hx hb dL_areWords_165 (lv_at hl 13 rfl) ?_
            refine lv_iload hx hb dL_areWords_167 (lv_at hl 4 rfl) ?_
            refine lv_aload hx hb dL_areWords_169 (lv_at hl 14 rfl) ?_
            have hPc := hP.sub (ws' := wLa cy L M ++ [(ua, eD cy 1 u2)]) [14, 15, 16, 17, 18, 19] rfl
            have hDc := hD.sub (ws' := wLa cy L M ++ [(ua, eD cy 1 u2)]) [14, 15, 16, 17, 18, 19] (by decide) rfl
            have hFc := va_free (wc := wLa cy L M ++ [(ua, eD cy 1 u2)]) hD hS hA [14, 15, 16, 17, 18, 19] rfl
            refine va_calli (va_runS (As := [.ref (L 0), .ref (L 1), .ref (L 2), .ref (L 3), .ref (L 4), .int (nI w), .ref ua]) (rest := []) ⟨hx, hb, hml, hown, hts⟩ (kL_conflict l G cy hW hF hU hN hPc hDc hT w c21) (va_cwS 7 hts gL_areWords_L_conflict rfl rfl rfl (by decide +kernel) ⟨Nat.le_of_ble_eq_true rfl, Nat.le_of_ble_eq_true rfl⟩) ⟨pR_blind, pR_at hK⟩ rfl rfl hl.1 rfl (lv_room (Nat.le_of_ble_eq_true rfl)) dL_areWords_171 ⟨Nat.le_of_ble_eq_true rfl, Nat.le_of_ble_eq_true rfl⟩) hS (fun q _ h => hFc q h) hFc (fun r_ u3 t_ H locs ht hvm hw_ hB hz1 hk1 hS => ?_)
            obtain rfl : r_ = lkI (rivOf M (rl M) (kF M) (vF M) w) := hw_
            have hB : va_P G vwCl (wLa cy L M ++ [(ua, eD cy 1 u3)]) t_.heap := hB
            rw [ht] at hB
            have hP : va_P G vwCl ([oSy z q h x r y] ++ (wRe cy r (q 0) (rl M) (kF M) (vF M) ++ wDo cy q M) ++ (wLa cy L M ++ [(ua, eD cy 1 u3)])) H := o_join hP hD [14, 15, 16, 17, 18, 19] [0, 1, 2, 3, 4, 5, 6, 7, 8, 9, 10, 11, 12, 13] rfl (wr := [oSy z q h x r y] ++ (wRe cy r (q 0) (rl M) (kF M) (vF M) ++ wDo cy q M)) rfl (by decide) (by decide) (by decide) hk1 hFc hB rfl
            have hD : va_D A ([oSy z q h x r y] ++ (wRe cy r (q 0) (rl M) (kF M) (vF M) ++ wDo cy q M) ++ (wLa cy L M ++ [(ua, eD cy 1 u3)])) := vd_same hD rfl
            have hPl := hP.sub (ws' := wLa cy L M) [14, 15, 16, 17, 18] rfl
            have hPq := hP.sub (ws' := [oSy z q h x r y] ++ wDo cy q M) [0, 5, 6, 7, 8, 9, 10, 11, 12, 13] rfl
            refine lv_istore (lv' := [(15, .int (lkI (rivOf M (rl M) (kF M) (vF M) w))), (14, .float (vF M w)), (13, .int (bI (kF M w = true))), (12, .int (hAt (hfB M w) (mN M) 0)), (11, .int (nI (cR (hfB M w) 0 (mN M)))), (10, .int (nI w)), (7, .int (nI (cR (kF M) 0 w))), (8, .int (nI (cR (rwB (rl M) (kF M)) 0 w))), (9, .int (nI (cR (cfB M (rl M) (kF M) (vF M)) 0 w))), (0, .ref z), (1, .ref (L 0)), (2, .ref (L 1)), (3, .ref (L 2)), (4, .ref (L 3)), (5, .ref (L 4)), (6, .ref ua)]) hx hb dL_areWords_174 hl (by decide) rfl (fun ls hl => ?_)
            refine lv_aload_n hx hb dL_areWords_176 rfl (lv_at hl 9 rfl) ?_
            refine lv_iload hx hb dL_areWords_177 (lv_at hl 5 rfl) ?_
            refine lv_iconst (v := nI 0) hx hb dL_areWords_179 (by decide +kernel) ?_
            have hPc := hP.sub (ws' := [oSy z q h x r y] ++ (wRe cy r (q 0) (rl M) (kF M) (vF M) ++ wDo cy q M)) [0, 1, 2, 3, 4, 5, 6, 7, 8, 9, 10, 11, 12, 13] rfl
            have hDc := hD.sub (ws' := [oSy z q h x r y] ++ (wRe cy r (q 0) (rl M) (kF M) (vF M) ++ wDo cy q M)) [0, 1, 2, 3, 4, 5, 6, 7, 8, 9, 10, 11, 12, 13] (by decide) rfl
            have hFc := va_free (wc := [oSy z q h x r y] ++ (wRe cy r (q 0) (rl M) (kF M) (vF M) ++ wDo cy q M)) hD hS hA [0, 1, 2, 3, 4, 5, 6, 7, 8, 9, 10, 11, 12, 13] rfl
            refine va_calli (va_runV (As := [.int (nI w), .int (nI 0)]) (rest := []) ⟨hx, hb, hml, hown, hts⟩ (kX7_word_0 l G cy hW hF hPc hDc w c21) (cwV 2 hts gL_areWords_X7_word rfl rfl rfl (by decide +kernel) ⟨Nat.le_of_ble_eq_true rfl, Nat.le_of_ble_eq_true rfl⟩) ⟨pR_blind, va_recv hK hP (ci := 6) (q0 := 0) rfl rfl, pR_at hK⟩ rfl rfl hl.1 rfl (lv_room (Nat.le_of_ble_eq_true rfl)) dL_areWords_180 ⟨Nat.le_of_ble_eq_true rfl, Nat.le_of_ble_eq_true rfl⟩) hS (fun q _ h => hFc q h) hFc (fun r_ u_ t_ H locs ht hvm hw_ hB hz1 hk1 hS => ?_)
            rw [ht] at hB
            have hP : va_P G vwCl ([oSy z q h x r y] ++ wRe cy r (q 0) (rl M) (kF M) (vF M) ++ wDo cy q M ++ wLa cy L M ++ [(ua, eD cy 1 u3)]) H := (o_join hP hD [0, 1, 2, 3, 4, 5, 6, 7, 8, 9, 10, 11, 12, 13] [14, 15, 16, 17, 18, 19] rfl (wr := wLa cy L M ++ [(ua, eD cy 1 u3)]) rfl (by decide) (by decide) (by decide) hk1 hFc hB rfl).sub [6, 7, 8, 9, 10, 11, 12, 13, 14, 15, 16, 17, 18, 19, 0, 1, 2, 3, 4, 5] rfl
            have hD : va_D A ([oSy z q h x r y] ++ wRe cy r (q 0) (rl M) (kF M) (vF M) ++ wDo cy q M ++ wLa cy L M ++ [(ua, eD cy 1 u3)]) := vd_same hD rfl
            obtain rfl : r_ = lkI (rl M w) := hw_
            have hPl := hP.sub (ws' := wLa cy L M) [14, 15, 16, 17, 18] rfl
            have hPq := hP.sub (ws' := [oSy z q h x r y] ++ wDo cy q M) [0, 5, 6, 7, 8, 9, 10, 11, 12, 13] rfl
            refine lv_aload_n hx hb dL_areWords_183 rfl (lv_at hl 10 rfl) ?_
            refine lv_aload_n hx hb dL_areWords_184 rfl (lv_at hl 11 rfl) ?_
            refine lv_aload_n hx hb dL_areWords_185 rfl (lv_at hl 12 rfl) ?_
            refine lv_iload hx hb dL_areWords_186 (lv_at hl 5 rfl) ?_
            refine o_SI (As := [.ref (L 0), .ref (L 1), .ref (L 2), .int (nI w)]) (rest := [.int (lkI (rl M w))]) ⟨hx, hb, hml, hown, hts⟩ (kL_ruling l G cy hW hN hPl w c21) (va_cwS 4 hts gL_areWords_L_ruling rfl rfl rfl (by decide +kernel) ⟨Nat.le_of_ble_eq_true rfl, Nat.le_of_ble_eq_true rfl⟩) hK rfl hl.1 rfl (Nat.le_of_ble_eq_true rfl) dL_areWords_188 ⟨Nat.le_of_ble_eq_true rfl, Nat.le_of_ble_eq_true rfl⟩ ?_
            refine lv_icmp_ne (tgt := 275) hx hb dL_areWords_191 (by decide) (fun c191 => ?_) (fun c191 => ?_)
            · exact absurd rfl c191
            · refine lv_aload_n hx hb dL_areWords_194 rfl (lv_at hl 9 rfl) ?_
              refine lv_iload hx hb dL_areWords_195 (lv_at hl 5 rfl) ?_
              refine lv_iconst (v := nI 1) hx hb dL_areWords_197 (by decide +kernel) ?_
              have hPc := hP.sub (ws' := [oSy z q h x r y] ++ (wRe cy r (q 0) (rl M) (kF M) (vF M) ++ wDo cy q M)) [0, 1, 2, 3, 4, 5, 6, 7, 8, 9, 10, 11, 12, 13] rfl
              have hDc := hD.sub (ws' := [oSy z q h x r y] ++ (wRe cy r (q 0) (rl M) (kF M) (vF M) ++ wDo cy q M)) [0, 1, 2, 3, 4, 5, 6, 7, 8, 9, 10, 11, 12, 13] (by decide) rfl
              have hFc := va_free (wc := [oSy z q h x r y] ++ (wRe cy r (q 0) (rl M) (kF M) (vF M) ++ wDo cy q M)) hD hS hA [0, 1, 2, 3, 4, 5, 6, 7, 8, 9, 10, 11, 12, 13] rfl
              refine va_calli (va_runV (As := [.int (nI w), .int (nI 1)]) (rest := []) ⟨hx, hb, hml, hown, hts⟩ (kX7_word_1 l G cy hW hF hPc hDc w c21) (cwV 2 hts gL_areWords_X7_word rfl rfl rfl (by decide +kernel) ⟨Nat.le_of_ble_eq_true rfl, Nat.le_of_ble_eq_true rfl⟩) ⟨pR_blind, va_recv hK hP (ci := 6) (q0 := 0) rfl rfl, pR_at hK⟩ rfl rfl hl.1 rfl (lv_room (Nat.le_of_ble_eq_true rfl)) dL_areWords_198 ⟨Nat.le_of_ble_eq_true rfl, Nat.le_of_ble_eq_true rfl⟩) hS (fun q _ h => hFc q h) hFc (fun r_ u_ t_ H locs ht hvm hw_ hB hz1 hk1 hS => ?_)
              rw [ht] at hB
              have hP : va_P G vwCl ([oSy z q h x r y] ++ wRe cy r (q 0) (rl M) (kF M) (vF M) ++ wDo cy q M ++ wLa cy L M ++ [(ua, eD cy 1 u3)]) H := (o_join hP hD [0, 1, 2, 3, 4, 5, 6, 7, 8, 9, 10, 11, 12, 13] [14, 15, 16, 17, 18, 19] rfl (wr := wLa cy L M ++ [(ua, eD cy 1 u3)]) rfl (by decide) (by decide) (by decide) hk1 hFc hB rfl).sub [6, 7, 8, 9, 10, 11, 12, 13, 14, 15, 16, 17, 18, 19, 0, 1, 2, 3, 4, 5] rfl
              have hD : va_D A ([oSy z q h x r y] ++ wRe cy r (q 0) (rl M) (kF M) (vF M) ++ wDo cy q M ++ wLa cy L M ++ [(ua, eD cy 1 u3)]) := vd_same hD rfl
              obtain rfl : r_ = hAt (hfB M w) (mN M) 0 := hw_
              have hPl := hP.sub (ws' := wLa cy L M) [14, 15, 16, 17, 18] rfl
              have hPq := hP.sub (ws' := [oSy z q h x r y] ++ wDo cy q M) [0, 5, 6, 7, 8, 9, 10, 11, 12, 13] rfl
              refine lv_iload hx hb dL_areWords_201 (lv_at hl 3 rfl) ?_
              refine lv_icmp_ne (tgt := 275) hx hb dL_areWords_203 (by decide) (fun c203 => ?_) (fun c203 => ?_)
              · exact absurd rfl c203
              · refine lv_aload_n hx hb dL_areWords_206 rfl (lv_at hl 9 rfl) ?_
                refine lv_iload hx hb dL_areWords_207 (lv_at hl 5 rfl) ?_
                refine lv_iconst (v := nI 2) hx hb dL_areWords_209 (by decide +kernel) ?_
                have hPc := hP.sub (ws' := [oSy z q h x r y] ++ (wRe cy r (q 0) (rl M) (kF M) (vF M) ++ wDo cy q M)) [0, 1, 2, 3, 4, 5, 6, 7, 8, 9, 10, 11, 12, 13] rfl
                have hDc := hD.sub (ws' := [oSy z q h x r y] ++ (wRe cy r (q 0) (rl M) (kF M) (vF M) ++ wDo cy q M)) [0, 1, 2, 3, 4, 5, 6, 7, 8, 9, 10, 11, 12, 13] (by decide) rfl
                have hFc := va_free (wc := [oSy z q h x r y] ++ (wRe cy r (q 0) (rl M) (kF M) (vF M) ++ wDo cy q M)) hD hS hA [0, 1, 2, 3, 4, 5, 6, 7, 8, 9, 10, 11, 12, 13] rfl
                refine va_calli (va_runV (As := [.int (nI w), .int (nI 2)]) (rest := []) ⟨hx, hb, hml, hown, hts⟩ (kX7_word_2 l G cy hW hF hPc hDc w c21) (cwV 2 hts gL_areWords_X7_word rfl rfl rfl (by decide +kernel) ⟨Nat.le_of_ble_eq_true rfl, Nat.le_of_ble_eq_true rfl⟩) ⟨pR_blind, va_recv hK hP (ci := 6) (q0 := 0) rfl rfl, pR_at hK⟩ rfl rfl hl.1 rfl (lv_room (Nat.le_of_ble_eq_true rfl)) dL_areWords_210 ⟨Nat.le_of_ble_eq_true rfl, Nat.le_of_ble_eq_true rfl⟩) hS (fun q _ h => hFc q h) hFc (fun r_ u_ t_ H locs ht hvm hw_ hB hz1 hk1 hS => ?_)
                rw [ht] at hB
                have hP : va_P G vwCl ([oSy z q h x r y] ++ wRe cy r (q 0) (rl M) (kF M) (vF M) ++ wDo cy q M ++ wLa cy L M ++ [(ua, eD cy 1 u3)]) H := (o_join hP hD [0, 1, 2, 3, 4, 5, 6, 7, 8, 9, 10, 11, 12, 13] [14, 15, 16, 17, 18, 19] rfl (wr := wLa cy L M ++ [(ua, eD cy 1 u3)]) rfl (by decide) (by decide) (by decide) hk1 hFc hB rfl).sub [6, 7, 8, 9, 10, 11, 12, 13, 14, 15, 16, 17, 18, 19, 0, 1, 2, 3, 4, 5] rfl
                have hD : va_D A ([oSy z q h x r y] ++ wRe cy r (q 0) (rl M) (kF M) (vF M) ++ wDo cy q M ++ wLa cy L M ++ [(ua, eD cy 1 u3)]) := vd_same hD rfl
                obtain rfl : r_ = nI (cR (hfB M w) 0 (mN M)) := hw_
                have hPl := hP.sub (ws' := wLa cy L M) [14, 15, 16, 17, 18] rfl
                have hPq := hP.sub (ws' := [oSy z q h x r y] ++ wDo cy q M) [0, 5, 6, 7, 8, 9, 10, 11, 12, 13] rfl
                refine lv_iload hx hb dL_areWords_213 (lv_at hl 4 rfl) ?_
                refine lv_icmp_ne (tgt := 275) hx hb dL_areWords_215 (by decide) (fun c215 => ?_) (fun c215 => ?_)
                · exact absurd rfl c215
                · refine lv_aload_n hx hb dL_areWords_218 rfl (lv_at hl 9 rfl) ?_
                  refine lv_iload hx hb dL_areWords_219 (lv_at hl 5 rfl) ?_
                  refine lv_iconst (v := nI 3) hx hb dL_areWords_221 (by decide +kernel) ?_
                  have hPc := hP.sub (ws' := [oSy z q h x r y] ++ (wRe cy r (q 0) (rl M) (kF M) (vF M) ++ wDo cy q M)) [0, 1, 2, 3, 4, 5, 6, 7, 8, 9, 10, 11, 12, 13] rfl
                  have hDc := hD.sub (ws' := [oSy z q h x r y] ++ (wRe cy r (q 0) (rl M) (kF M) (vF M) ++ wDo cy q M)) [0, 1, 2, 3, 4, 5, 6, 7, 8, 9, 10, 11, 12, 13] (by decide) rfl
                  have hFc := va_free (wc := [oSy z q h x r y] ++ (wRe cy r (q 0) (rl M) (kF M) (vF M) ++ wDo cy q M)) hD hS hA [0, 1, 2, 3, 4, 5, 6, 7, 8, 9, 10, 11, 12, 13] rfl
                  refine va_calli (va_runV (As := [.int (nI w), .int (nI 3)]) (rest := []) ⟨hx, hb, hml, hown, hts⟩ (kX7_word_3 l G cy hW hF hPc hDc w c21) (cwV 2 hts gL_areWords_X7_word rfl rfl rfl (by decide +kernel) ⟨Nat.le_of_ble_eq_true rfl, Nat.le_of_ble_eq_true rfl⟩) ⟨pR_blind, va_recv hK hP (ci := 6) (q0 := 0) rfl rfl, pR_at hK⟩ rfl rfl hl.1 rfl (lv_room (Nat.le_of_ble_eq_true rfl)) dL_areWords_222 ⟨Nat.le_of_ble_eq_true rfl, Nat.le_of_ble_eq_true rfl⟩) hS (fun q _ h => hFc q h) hFc (fun r_ u_ t_ H locs ht hvm hw_ hB hz1 hk1 hS => ?_)
                  rw [ht] at hB
                  have hP : va_P G vwCl ([oSy z q h x r y] ++ wRe cy r (q 0) (rl M) (kF M) (vF M) ++ wDo cy q M ++ wLa cy L M ++ [(ua, eD cy 1 u3)]) H := (o_join hP hD [0, 1, 2, 3, 4, 5, 6, 7, 8, 9, 10, 11, 12, 13] [14, 15, 16, 17, 18, 19] rfl (wr := wLa cy L M ++ [(ua, eD cy 1 u3)]) rfl (by decide) (by decide) (by decide) hk1 hFc hB rfl).sub [6, 7, 8, 9, 10, 11, 12, 13, 14, 15, 16, 17, 18, 19, 0, 1, 2, 3, 4, 5] rfl
                  have hD : va_D A ([oSy z q h x r y] ++ wRe cy r (q 0) (rl M) (kF M) (vF M) ++ wDo cy q M ++ wLa cy L M ++ [(ua, eD cy 1 u3)]) := vd_same hD rfl
                  obtain rfl : r_ = bI (kF M w = true) := hw_
                  have hPl := hP.sub (ws' := wLa cy L M) [14, 15, 16, 17, 18] rfl
                  have hPq := hP.sub (ws' := [oSy z q h x r y] ++ wDo cy q M) [0, 5, 6, 7, 8, 9, 10, 11, 12, 13] rfl
                  refine lv_iload hx hb dL_areWords_225 (lv_at hl 2 rfl) ?_
                  refine o_ifb_eq (tgt := 234) hx hb dL_areWords_227 (by decide) (fun c227 => ?_) (fun c227 => ?_)
                  · exact absurd hkw c227
                  · refine lv_iconst (v := nI 1) hx hb dL_areWords_230 (by decide +kernel) ?_
                    refine lv_goto (tgt := 235) hx hb dL_areWords_231 (by decide) ?_
                    refine o_icmp1_ne (tgt := 275) hx hb dL_areWords_235 (by decide) (fun c235 => ?_) (fun c235 => ?_)
                    · exact absurd hkw c235
                    · refine lv_aload_n hx hb dL_areWords_238 rfl (lv_at hl 9 rfl) ?_
                      refine lv_iload hx hb dL_areWords_239 (lv_at hl 5 rfl) ?_
                      refine lv_iconst (v := nI 4) hx hb dL_areWords_241 (by decide +kernel) ?_
                      have hPc := hP.sub (ws' := [oSy z q h x r y] ++ (wRe cy r (q 0) (rl M) (kF M) (vF M) ++ wDo cy q M)) [0, 1, 2, 3, 4, 5, 6, 7, 8, 9, 10, 11, 12, 13] rfl
                      have hDc := hD.sub (ws' := [oSy z q h x r y] ++ (wRe cy r (q 0) (rl M) (kF M) (vF M) ++ wDo cy q M)) [0, 1, 2, 3, 4, 5, 6, 7, 8, 9, 10, 11, 12, 13] (by decide) rfl
                      have hFc := va_free (wc := [oSy z q h x r y] ++ (wRe cy r (q 0) (rl M) (kF M) (vF M) ++ wDo cy q M)) hD hS hA [0, 1, 2, 3, 4, 5, 6, 7, 8, 9, 10, 11, 12, 13] rfl
                      refine va_calli (va_runV (As := [.int (nI w), .int (nI 4)]) (rest := []) ⟨hx, hb, hml, hown, hts⟩ (kX7_word_4 l G cy hW hF hPc hDc w c21) (cwV 2 hts gL_areWords_X7_word rfl rfl rfl (by decide +kernel) ⟨Nat.le_of_ble_eq_true rfl, Nat.le_of_ble_eq_true rfl⟩) ⟨pR_blind, va_recv hK hP (ci := 6) (q0 := 0) rfl rfl, pR_at hK⟩ rfl rfl hl.1 rfl (lv_room (Nat.le_of_ble_eq_true rfl)) dL_areWords_242 ⟨Nat.le_of_ble_eq_true rfl, Nat.le_of_ble_eq_true rfl⟩) hS (fun q _ h => hFc q h) hFc (fun r_ u_ t_ H locs ht hvm hw_ hB hz1 hk1 hS => ?_)
                      rw [ht] at hB
                      have hP : va_P G vwCl ([oSy z q h x r y] ++ wRe cy r (q 0) (rl M) (kF M) (vF M) ++ wDo cy q M ++ wLa cy L M ++ [(ua, eD cy 1 u3)]) H := (o_join hP hD [0, 1, 2, 3, 4, 5, 6, 7, 8, 9, 10, 11, 12, 13] [14, 15, 16, 17, 18, 19] rfl (wr := wLa cy L M ++ [(ua, eD cy 1 u3)]) rfl (by decide) (by decide) (by decide) hk1 hFc hB rfl).sub [6, 7, 8, 9, 10, 11, 12, 13, 14, 15, 16, 17, 18, 19, 0, 1, 2, 3, 4, 5] rfl
                      have hD : va_D A ([oSy z q h x r y] ++ wRe cy r (q 0) (rl M) (kF M) (vF M) ++ wDo cy q M ++ wLa cy L M ++ [(ua, eD cy 1 u3)]) := vd_same hD rfl
                      obtain rfl : r_ = lkI (rivOf M (rl M) (kF M) (vF M) w) := hw_
                      have hPl := hP.sub (ws' := wLa cy L M) [14, 15, 16, 17, 18] rfl
                      have hPq := hP.sub (ws' := [oSy z q h x r y] ++ wDo cy q M) [0, 5, 6, 7, 8, 9, 10, 11, 12, 13] rfl
                      refine lv_iload hx hb dL_areWords_245 (lv_at hl 0 rfl) ?_
                      refine lv_icmp_ne (tgt := 275) hx hb dL_areWords_247 (by decide) (fun c247 => ?_) (fun c247 => ?_)
                      · exact absurd rfl c247
                      · refine lv_aload_n hx hb dL_areWords_250 rfl (lv_at hl 9 rfl) ?_
                        refine lv_iload hx hb dL_areWords_251 (lv_at hl 5 rfl) ?_
                        refine lv_iconst (v := nI 0) hx hb dL_areWords_253 (by decide +kernel) ?_
                        refine o_VI (As := [.int (nI w), .int (nI 0)]) (rest := []) ⟨hx, hb, hml, hown, hts⟩ (kX7_hangsAt l G cy hW hPq w 0 c21 (by decide)) (cwV 2 hts gL_areWords_X7_hangsAt rfl rfl rfl (by decide +kernel) ⟨Nat.le_of_ble_eq_true rfl, Nat.le_of_ble_eq_true rfl⟩) hK (va_recv hK hP (ci := 6) (q0 := 0) rfl rfl) rfl hl.1 rfl (Nat.le_of_ble_eq_true rfl) dL_areWords_254 ⟨Nat.le_of_ble_eq_true rfl, Nat.le_of_ble_eq_true rfl⟩ ?_
                        refine lv_iload hx hb dL_areWords_257 (lv_at hl 3 rfl) ?_
                        refine lv_icmp_ne (tgt := 275) hx hb dL_areWords_259 (by decide) (fun c259 => ?_) (fun c259 => ?_)
                        · exact absurd rfl c259
                        · refine lv_aload_n hx hb dL_areWords_262 rfl (lv_at hl 9 rfl) ?_
                          refine lv_iload hx hb dL_areWords_263 (lv_at hl 5 rfl) ?_
                          refine lv_iload hx hb dL_areWords_265 (lv_at hl 4 rfl) ?_
                          refine o_VI (As := [.int (nI w), .int (nI (cR (hfB M w) 0 (mN M)))]) (rest := []) ⟨hx, hb, hml, hown, hts⟩ (kX7_hangsAt l G cy hW hPq w (cR (hfB M w) 0 (mN M)) c21 (by have := cR_le (hfB M w) 0 (mN M); omega)) (cwV 2 hts gL_areWords_X7_hangsAt rfl rfl rfl (by decide +kernel) ⟨Nat.le_of_ble_eq_true rfl, Nat.le_of_ble_eq_true rfl⟩) hK (va_recv hK hP (ci := 6) (q0 := 0) rfl rfl) rfl hl.1 rfl (Nat.le_of_ble_eq_true rfl) dL_areWords_267 ⟨Nat.le_of_ble_eq_true rfl, Nat.le_of_ble_eq_true rfl⟩ ?_
                          refine lv_bipush (v := (-5)) hx hb dL_areWords_270 (by decide +kernel) ?_
                          refine lv_icmp_eq (tgt := 277) hx hb dL_areWords_272 (by decide) (fun c272 => ?_) (fun c272 => ?_)
                          · refine lv_iload hx hb dL_areWords_277 (lv_at hl 6 rfl) ?_
                            refine lv_iload hx hb dL_areWords_279 (lv_at hl 2 rfl) ?_
                            refine o_ifb_eq (tgt := 288) hx hb dL_areWords_281 (by decide) (fun c281 => ?_) (fun c281 => ?_)
                            · exact absurd hkw c281
                            · refine lv_iconst (v := nI 1) hx hb dL_areWords_284 (by decide +kernel) ?_
                              refine lv_goto (tgt := 289) hx hb dL_areWords_285 (by decide) ?_
                              refine lv_iadd hx hb dL_areWords_289 ?_
                              rw [nI_add]
                              refine lv_istore (lv' := [(7, .int (nI ((cR (kF M) 0 w) + 1))), (15, .int (lkI (rivOf M (rl M) (kF M) (vF M) w))), (14, .float (vF M w)), (13, .int (bI (kF M w = true))), (12, .int (hAt (hfB M w) (mN M) 0)), (11, .int (nI (cR (hfB M w) 0 (mN M)))), (10, .int (nI w)), (8, .int (nI (cR (rwB (rl M) (kF M)) 0 w))), (9, .int (nI (cR (cfB M (rl M) (kF M) (vF M)) 0 w))), (0, .ref z), (1, .ref (L 0)), (2, .ref (L 1)), (3, .ref (L 2)), (4, .ref (L 3)), (5, .ref (L 4)), (6, .ref ua)]) hx hb dL_areWords_290 hl (by decide) rfl (fun ls hl => ?_)
                              refine lv_iload hx hb dL_areWords_292 (lv_at hl 7 rfl) ?_
                              refine lv_iload hx hb dL_areWords_294 (lv_at hl 5 rfl) ?_
                              refine o_if_le (tgt := 308) hx hb dL_areWords_296 (by decide) (by have := cR_le (hfB M w) 0 (mN M); omega) (fun c296 => ?_) (fun c296 => ?_)
                              · refine lv_iconst (v := nI 0) hx hb dL_areWords_308 (by decide +kernel) ?_
                                refine lv_iadd hx hb dL_areWords_309 ?_
                                rw [nI_add]
                                refine lv_istore (lv' := [(8, .int (nI ((cR (rwB (rl M) (kF M)) 0 w) + 0))), (7, .int (nI ((cR (kF M) 0 w) + 1))), (15, .int (lkI (rivOf M (rl M) (kF M) (vF M) w))), (14, .float (vF M w)), (13, .int (bI (kF M w = true))), (12, .int (hAt (hfB M w) (mN M) 0)), (11, .int (nI (cR (hfB M w) 0 (mN M)))), (10, .int (nI w)), (9, .int (nI (cR (cfB M (rl M) (kF M) (vF M)) 0 w))), (0, .ref z), (1, .ref (L 0)), (2, .ref (L 1)), (3, .ref (L 2)), (4, .ref (L 3)), (5, .ref (L 4)), (6, .ref ua)]) hx hb dL_areWords_310 hl (by decide) rfl (fun ls hl => ?_)
                                refine lv_iload hx hb dL_areWords_312 (lv_at hl 8 rfl) ?_
                                refine lv_iload hx hb dL_areWords_314 (lv_at hl 2 rfl) ?_
                                refine o_lk_lt (tgt := 323) hx hb dL_areWords_316 (by decide) (fun j hj => by have := rivOf_lt hj; omega) (fun c316 => ?_) (fun c316 => ?_)
                                · refine lv_iconst (v := nI 0) hx hb dL_areWords_323 (by decide +kernel) ?_
                                  refine lv_iadd hx hb dL_areWords_324 ?_
                                  rw [nI_add]
                                  refine lv_istore (lv' := [(9, .int (nI ((cR (cfB M (rl M) (kF M) (vF M)) 0 w) + 0))), (8, .int (nI ((cR (rwB (rl M) (kF M)) 0 w) + 0))), (7, .int (nI ((cR (kF M) 0 w) + 1))), (15, .int (lkI (rivOf M (rl M) (kF M) (vF M) w))), (14, .float (vF M w)), (13, .int (bI (kF M w = true))), (12, .int (hAt (hfB M w) (mN M) 0)), (11, .int (nI (cR (hfB M w) 0 (mN M)))), (10, .int (nI w)), (0, .ref z), (1, .ref (L 0)), (2, .ref (L 1)), (3, .ref (L 2)), (4, .ref (L 3)), (5, .ref (L 4)), (6, .ref ua)]) hx hb dL_areWords_325 hl (by decide) rfl (fun ls hl => ?_)
                                  refine lv_iinc (v := nI (w + 1)) (lv' := [(10, .int (nI (w + 1))), (9, .int (nI ((cR (cfB M (rl M) (kF M) (vF M)) 0 w) + 0))), (8, .int (nI ((cR (rwB (rl M) (kF M)) 0 w) + 0))), (7, .int (nI ((cR (kF M) 0 w) + 1))), (15, .int (lkI (rivOf M (rl M) (kF M) (vF M) w))), (14, .float (vF M w)), (13, .int (bI (kF M w = true))), (12, .int (hAt (hfB M w) (mN M) 0)), (11, .int (nI (cR (hfB M w) 0 (mN M)))), (0, .ref z), (1, .ref (L 0)), (2, .ref (L 1)), (3, .ref (L 2)), (4, .ref (L 3)), (5, .ref (L 4)), (6, .ref ua)]) hx hb dL_areWords_327 hl (k := 8) rfl (nI_1 w) (by decide) rfl (fun ls hl => ?_)
                                  refine lv_goto (tgt := 17) hx hb dL_areWords_330 (by decide) ?_
                                  refine ih17 (w + 1, rl M, kF M, vF M, u3) ls H locs ?_ ?_ ?_
                                  · exact ⟨by omega, hP, hD, hS⟩
                                  · show lv_has ls 16 [(10, .int (nI (w + 1))), (7, .int (nI (cR (kF M) 0 (w + 1)))), (8, .int (nI (cR (rwB (rl M) (kF M)) 0 (w + 1)))), (9, .int (nI (cR (cfB M (rl M) (kF M) (vF M)) 0 (w + 1)))), (0, .ref z), (1, .ref (L 0)), (2, .ref (L 1)), (3, .ref (L 2)), (4, .ref (L 3)), (5, .ref (L 4)), (6, .ref ua)]
                                    rw [cZ_t (p := kF M) hkw]
                                    rw [cZ_f (p := rwB (rl M) (kF M)) (fun q => (rwB_iff.mp q).1 (rl_none.mpr c296))]
                                    rw [cZ_f (p := cfB M (rl M) (kF M) (vF M)) (fun q => (cfB_iff.mp q) c316)]
                                    exact lv_sub hl [0, 3, 2, 1, 9, 10, 11, 12, 13, 14, 15] rfl
                                  · show 16 - (w + 1) < 16 - w; omega
                                · obtain ⟨jj, hjj⟩ := c316
                                  rw [hjj] at hl
                                  have hl : lv_has ls 16 [(8, .int (nI ((cR (rwB (rl M) (kF M)) 0 w) + 0))), (7, .int (nI ((cR (kF M) 0 w) + 1))), (15, .int (nI jj)), (14, .float (vF M w)), (13, .int (bI (kF M w = true))), (12, .int (hAt (hfB M w) (mN M) 0)), (11, .int (nI (cR (hfB M w) 0 (mN M)))), (10, .int (nI w)), (9, .int (nI (cR (cfB M (rl M) (kF M) (vF M)) 0 w))), (0, .ref z), (1, .ref (L 0)), (2, .ref (L 1)), (3, .ref (L 2)), (4, .ref (L 3)), (5, .ref (L 4)), (6, .ref ua)] := hl
                                  refine lv_iconst (v := nI 1) hx hb dL_areWords_319 (by decide +kernel) ?_
                                  refine lv_goto (tgt := 324) hx hb dL_areWords_320 (by decide) ?_
                                  refine lv_iadd hx hb dL_areWords_324 ?_
                                  rw [nI_add]
                                  refine lv_istore (lv' := [(9, .int (nI ((cR (cfB M (rl M) (kF M) (vF M)) 0 w) + 1))), (8, .int (nI ((cR (rwB (rl M) (kF M)) 0 w) + 0))), (7, .int (nI ((cR (kF M) 0 w) + 1))), (15, .int (nI jj)), (14, .float (vF M w)), (13, .int (bI (kF M w = true))), (12, .int (hAt (hfB M w) (mN M) 0)), (11, .int (nI (cR (hfB M w) 0 (mN M)))), (10, .int (nI w)), (0, .ref z), (1, .ref (L 0)), (2, .ref (L 1)), (3, .ref (L 2)), (4, .ref (L 3)), (5, .ref (L 4)), (6, .ref ua)]) hx hb dL_areWords_325 hl (by decide) rfl (fun ls hl => ?_)
                                  refine lv_iinc (v := nI (w + 1)) (lv' := [(10, .int (nI (w + 1))), (9, .int (nI ((cR (cfB M (rl M) (kF M) (vF M)) 0 w) + 1))), (8, .int (nI ((cR (rwB (rl M) (kF M)) 0 w) + 0))), (7, .int (nI ((cR (kF M) 0 w) + 1))), (15, .int (nI jj)), (14, .float (vF M w)), (13, .int (bI (kF M w = true))), (12, .int (hAt (hfB M w) (mN M) 0)), (11, .int (nI (cR (hfB M w) 0 (mN M)))), (0, .ref z), (1, .ref (L 0)), (2, .ref (L 1)), (3, .ref (L 2)), (4, .ref (L 3)), (5, .ref (L 4)), (6, .ref ua)]) hx hb dL_areWords_327 hl (k := 8) rfl (nI_1 w) (by decide) rfl (fun ls hl => ?_)
                                  refine lv_goto (tgt := 17) hx hb dL_areWords_330 (by decide) ?_
                                  refine ih17 (w + 1, rl M, kF M, vF M, u3) ls H locs ?_ ?_ ?_
                                  · exact ⟨by omega, hP, hD, hS⟩
                                  · show lv_has ls 16 [(10, .int (nI (w + 1))), (7, .int (nI (cR (kF M) 0 (w + 1)))), (8, .int (nI (cR (rwB (rl M) (kF M)) 0 (w + 1)))), (9, .int (nI (cR (cfB M (rl M) (kF M) (vF M)) 0 (w + 1)))), (0, .ref z), (1, .ref (L 0)), (2, .ref (L 1)), (3, .ref (L 2)), (4, .ref (L 3)), (5, .ref (L 4)), (6, .ref ua)]
                                    rw [cZ_t (p := kF M) hkw]
                                    rw [cZ_f (p := rwB (rl M) (kF M)) (fun q => (rwB_iff.mp q).1 (rl_none.mpr c296))]
                                    rw [cZ_t (p := cfB M (rl M) (kF M) (vF M)) (cfB_iff.mpr (by rw [hjj]; intro z; cases z))]
                                    exact lv_sub hl [0, 3, 2, 1, 9, 10, 11, 12, 13, 14, 15] rfl
                                  · show 16 - (w + 1) < 16 - w; omega
                              · refine lv_iload hx hb dL_areWords_299 (lv_at hl 3 rfl) ?_
                                refine o_ifb_ne (tgt := 308) hx hb dL_areWords_301 (by decide) (fun c301 => ?_) (fun c301 => ?_)
                                · refine lv_iconst (v := nI 0) hx hb dL_areWords_308 (by decide +kernel) ?_
                                  refine lv_iadd hx hb dL_areWords_309 ?_
                                  rw [nI_add]
                                  refine lv_istore (lv' := [(8, .int (nI ((cR (rwB (rl M) (kF M)) 0 w) + 0))), (7, .int (nI ((cR (kF M) 0 w) + 1))), (15, .int (lkI (rivOf M (rl M) (kF M) (vF M) w))), (14, .float (vF M w)), (13, .int (bI (kF M w = true))), (12, .int (hAt (hfB M w) (mN M) 0)), (11, .int (nI (cR (hfB M w) 0 (mN M)))), (10, .int (nI w)), (9, .int (nI (cR (cfB M (rl M) (kF M) (vF M)) 0 w))), (0, .ref z), (1, .ref (L 0)), (2, .ref (L 1)), (3, .ref (L 2)), (4, .ref (L 3)), (5, .ref (L 4)), (6, .ref ua)]) hx hb dL_areWords_310 hl (by decide) rfl (fun ls hl => ?_)
                                  refine lv_iload hx hb dL_areWords_312 (lv_at hl 8 rfl) ?_
                                  refine lv_iload hx hb dL_areWords_314 (lv_at hl 2 rfl) ?_
                                  refine o_lk_lt (tgt := 323) hx hb dL_areWords_316 (by decide) (fun j hj => by have := rivOf_lt hj; omega) (fun c316 => ?_) (fun c316 => ?_)
                                  · refine lv_iconst (v := nI 0) hx hb dL_areWords_323 (by decide +kernel) ?_
                                    refine lv_iadd hx hb dL_areWords_324 ?_
                                    rw [nI_add]
                                    refine lv_istore (lv' := [(9, .int (nI ((cR (cfB M (rl M) (kF M) (vF M)) 0 w) + 0))), (8, .int (nI ((cR (rwB (rl M) (kF M)) 0 w) + 0))), (7, .int (nI ((cR (kF M) 0 w) + 1))), (15, .int (lkI (rivOf M (rl M) (kF M) (vF M) w))), (14, .float (vF M w)), (13, .int (bI (kF M w = true))), (12, .int (hAt (hfB M w) (mN M) 0)), (11, .int (nI (cR (hfB M w) 0 (mN M)))), (10, .int (nI w)), (0, .ref z), (1, .ref (L 0)), (2, .ref (L 1)), (3, .ref (L 2)), (4, .ref (L 3)), (5, .ref (L 4)), (6, .ref ua)]) hx hb dL_areWords_325 hl (by decide) rfl (fun ls hl => ?_)
                                    refine lv_iinc (v := nI (w + 1)) (lv' := [(10, .int (nI (w + 1))), (9, .int (nI ((cR (cfB M (rl M) (kF M) (vF M)) 0 w) + 0))), (8, .int (nI ((cR (rwB (rl M) (kF M)) 0 w) + 0))), (7, .int (nI ((cR (kF M) 0 w) + 1))), (15, .int (lkI (rivOf M (rl M) (kF M) (vF M) w))), (14, .float (vF M w)), (13, .int (bI (kF M w = true))), (12, .int (hAt (hfB M w) (mN M) 0)), (11, .int (nI (cR (hfB M w) 0 (mN M)))), (0, .ref z), (1, .ref (L 0)), (2, .ref (L 1)), (3, .ref (L 2)), (4, .ref (L 3)), (5, .ref (L 4)), (6, .ref ua)]) hx hb dL_areWords_327 hl (k := 8) rfl (nI_1 w) (by decide) rfl (fun ls hl => ?_)
                                    refine lv_goto (tgt := 17) hx hb dL_areWords_330 (by decide) ?_
                                    refine ih17 (w + 1, rl M, kF M, vF M, u3) ls H locs ?_ ?_ ?_
                                    · exact ⟨by omega, hP, hD, hS⟩
                                    · show lv_has ls 16 [(10, .int (nI (w + 1))), (7, .int (nI (cR (kF M) 0 (w + 1)))), (8, .int (nI (cR (rwB (rl M) (kF M)) 0 (w + 1)))), (9, .int (nI (cR (cfB M (rl M) (kF M) (vF M)) 0 (w + 1)))), (0, .ref z), (1, .ref (L 0)), (2, .ref (L 1)), (3, .ref (L 2)), (4, .ref (L 3)), (5, .ref (L 4)), (6, .ref ua)]
                                      rw [cZ_t (p := kF M) hkw]
                                      rw [cZ_f (p := rwB (rl M) (kF M)) (fun q => (rwB_iff.mp q).2 hkw)]
                                      rw [cZ_f (p := cfB M (rl M) (kF M) (vF M)) (fun q => (cfB_iff.mp q) c316)]
                                      exact lv_sub hl [0, 3, 2, 1, 9, 10, 11, 12, 13, 14, 15] rfl
                                    · show 16 - (w + 1) < 16 - w; omega
                                  · obtain ⟨jj, hjj⟩ := c316
                                    rw [hjj] at hl
                                    have hl : lv_has ls 16 [(8, .int (nI ((cR (rwB (rl M) (kF M)) 0 w) + 0))), (7, .int (nI ((cR (kF M) 0 w) + 1))), (15, .int (nI jj)), (14, .float (vF M w)), (13, .int (bI (kF M w = true))), (12, .int (hAt (hfB M w) (mN M) 0)), (11, .int (nI (cR (hfB M w) 0 (mN M)))), (10, .int (nI w)), (9, .int (nI (cR (cfB M (rl M) (kF M) (vF M)) 0 w))), (0, .ref z), (1, .ref (L 0)), (2, .ref (L 1)), (3, .ref (L 2)), (4, .ref (L 3)), (5, .ref (L 4)), (6, .ref ua)] := hl
                                    refine lv_iconst (v := nI 1) hx hb dL_areWords_319 (by decide +kernel) ?_
                                    refine lv_goto (tgt := 324) hx hb dL_areWords_320 (by decide) ?_
                                    refine lv_iadd hx hb dL_areWords_324 ?_
                                    rw [nI_add]
                                    refine lv_istore (lv' := [(9, .int (nI ((cR (cfB M (rl M) (kF M) (vF M)) 0 w) + 1))), (8, .int (nI ((cR (rwB (rl M) (kF M)) 0 w) + 0))), (7, .int (nI ((cR (kF M) 0 w) + 1))), (15, .int (nI jj)), (14, .float (vF M w)), (13, .int (bI (kF M w = true))), (12, .int (hAt (hfB M w) (mN M) 0)), (11, .int (nI (cR (hfB M w) 0 (mN M)))), (10, .int (nI w)), (0, .ref z), (1, .ref (L 0)), (2, .ref (L 1)), (3, .ref (L 2)), (4, .ref (L 3)), (5, .ref (L 4)), (6, .ref ua)]) hx hb dL_areWords_325 hl (by decide) rfl (fun ls hl => ?_)
                                    refine lv_iinc (v := nI (w + 1)) (lv' := [(10, .int (nI (w + 1))), (9, .int (nI ((cR (cfB M (rl M) (kF M) (vF M)) 0 w) + 1))), (8, .int (nI ((cR (rwB (rl M) (kF M)) 0 w) + 0))), (7, .int (nI ((cR (kF M) 0 w) + 1))), (15, .int (nI jj)), (14, .float (vF M w)), (13, .int (bI (kF M w = true))), (12, .int (hAt (hfB M w) (mN M) 0)), (11, .int (nI (cR (hfB M w) 0 (mN M)))), (0, .ref z), (1, .ref (L 0)), (2, .ref (L 1)), (3, .ref (L 2)), (4, .ref (L 3)), (5, .ref (L 4)), (6, .ref ua)]) hx hb dL_areWords_327 hl (k := 8) rfl (nI_1 w) (by decide) rfl (fun ls hl => ?_)
                                    refine lv_goto (tgt := 17) hx hb dL_areWords_330 (by decide) ?_
                                    refine ih17 (w + 1, rl M, kF M, vF M, u3) ls H locs ?_ ?_ ?_
                                    · exact ⟨by omega, hP, hD, hS⟩
                                    · show lv_has ls 16 [(10, .int (nI (w + 1))), (7, .int (nI (cR (kF M) 0 (w + 1)))), (8, .int (nI (cR (rwB (rl M) (kF M)) 0 (w + 1)))), (9, .int (nI (cR (cfB M (rl M) (kF M) (vF M)) 0 (w + 1)))), (0, .ref z), (1, .ref (L 0)), (2, .ref (L 1)), (3, .ref (L 2)), (4, .ref (L 3)), (5, .ref (L 4)), (6, .ref ua)]
                                      rw [cZ_t (p := kF M) hkw]
                                      rw [cZ_f (p := rwB (rl M) (kF M)) (fun q => (rwB_iff.mp q).2 hkw)]
                                      rw [cZ_t (p := cfB M (rl M) (kF M) (vF M)) (cfB_iff.mpr (by rw [hjj]; intro z; cases z))]
                                      exact lv_sub hl [0, 3, 2, 1, 9, 10, 11, 12, 13, 14, 15] rfl
                                    · show 16 - (w + 1) < 16 - w; omega
                                · exact absurd hkw c301
                          · exact absurd (hAt_cnt (Nat.le_refl _)) c272
          · exact absurd (cmp_same (vaF_fin w)) c144
      · refine lv_aload_n hx hb dL_areWords_123 rfl (lv_at hl 7 rfl) ?_
        refine lv_iload hx hb dL_areWords_124 (lv_at hl 3 rfl) ?_
        have hPc := hP.sub (ws' := [oSy z q h x r y] ++ (wRe cy r (q 0) ru1 kn1 va1 ++ wDo cy q M)) [0, 1, 2, 3, 4, 5, 6, 7, 8, 9, 10, 11, 12, 13] rfl
        have hDc := hD.sub (ws' := [oSy z q h x r y] ++ (wRe cy r (q 0) ru1 kn1 va1 ++ wDo cy q M)) [0, 1, 2, 3, 4, 5, 6, 7, 8, 9, 10, 11, 12, 13] (by decide) rfl
        have hFc := va_free (wc := [oSy z q h x r y] ++ (wRe cy r (q 0) ru1 kn1 va1 ++ wDo cy q M)) hD hS hA [0, 1, 2, 3, 4, 5, 6, 7, 8, 9, 10, 11, 12, 13] rfl
        refine va_callf (va_runV (As := [.int (nI w)]) (rest := []) ⟨hx, hb, hml, hown, hts⟩ (kX7_value_n l G cy hW hF hPc hDc w c21 hkw) (cwV 1 hts gL_areWords_X7_value rfl rfl rfl (by decide +kernel) ⟨Nat.le_of_ble_eq_true rfl, Nat.le_of_ble_eq_true rfl⟩) ⟨pR_blind, va_recv hK hP (ci := 6) (q0 := 0) rfl rfl, pR_at hK⟩ rfl rfl hl.1 rfl (lv_room (Nat.le_of_ble_eq_true rfl)) dL_areWords_126 ⟨Nat.le_of_ble_eq_true rfl, Nat.le_of_ble_eq_true rfl⟩) hS (fun q _ h => hFc q h) hFc (fun r_ u_ t_ H locs ht hvm hw_ hB hz1 hk1 hS => ?_)
        rw [ht] at hB
        have hP : va_P G vwCl ([oSy z q h x r y] ++ wRe cy r (q 0) (rl M) (kF M) (vF M) ++ wDo cy q M ++ wLa cy L M ++ [(ua, eD cy 1 u2)]) H := (o_join hP hD [0, 1, 2, 3, 4, 5, 6, 7, 8, 9, 10, 11, 12, 13] [14, 15, 16, 17, 18, 19] rfl (wr := wLa cy L M ++ [(ua, eD cy 1 u2)]) rfl (by decide) (by decide) (by decide) hk1 hFc hB rfl).sub [6, 7, 8, 9, 10, 11, 12, 13, 14, 15, 16, 17, 18, 19, 0, 1, 2, 3, 4, 5] rfl
        have hD : va_D A ([oSy z q h x r y] ++ wRe cy r (q 0) (rl M) (kF M) (vF M) ++ wDo cy q M ++ wLa cy L M ++ [(ua, eD cy 1 u2)]) := vd_same hD rfl
        obtain rfl : r_ = 2143289344 := hw_
        have hPl := hP.sub (ws' := wLa cy L M) [14, 15, 16, 17, 18] rfl
        have hPq := hP.sub (ws' := [oSy z q h x r y] ++ wDo cy q M) [0, 5, 6, 7, 8, 9, 10, 11, 12, 13] rfl
        refine lv_fstore (lv' := [(14, .float 2143289344), (13, .int (bI (kF M w = true))), (12, .int (hAt (hfB M w) (mN M) 0)), (11, .int (nI (cR (hfB M w) 0 (mN M)))), (10, .int (nI w)), (7, .int (nI (cR (kF M) 0 w))), (8, .int (nI (cR (rwB (rl M) (kF M)) 0 w))), (9, .int (nI (cR (cfB M (rl M) (kF M) (vF M)) 0 w))), (0, .ref z), (1, .ref (L 0)), (2, .ref (L 1)), (3, .ref (L 2)), (4, .ref (L 3)), (5, .ref (L 4)), (6, .ref ua)]) hx hb dL_areWords_129 hl (by decide) rfl (fun ls hl => ?_)
        refine lv_iload hx hb dL_areWords_131 (lv_at hl 1 rfl) ?_
        refine o_ifb_eq (tgt := 150) hx hb dL_areWords_133 (by decide) (fun c133 => ?_) (fun c133 => ?_)
        · refine lv_fload hx hb dL_areWords_150 (lv_at hl 0 rfl) ?_
          refine lv_fload hx hb dL_areWords_152 (lv_at hl 0 rfl) ?_
          refine lv_fcmp hx hb dL_areWords_154 ?_
          refine lv_if_ne (tgt := 160) hx hb dL_areWords_155 (by decide) (fun c155 => ?_) (fun c155 => ?_)
          · refine lv_aload_n hx hb dL_areWords_160 rfl (lv_at hl 9 rfl) ?_
            refine lv_aload_n hx hb dL_areWords_161 rfl (lv_at hl 10 rfl) ?_
            refine lv_aload_n hx hb dL_areWords_162 rfl (lv_at hl 11 rfl) ?_
            refine lv_aload hx hb dL_areWords_163 (lv_at hl 12 rfl) ?_
            refine lv_aload hx hb dL_areWords_165 (lv_at hl 13 rfl) ?_
            refine lv_iload hx hb dL_areWords_167 (lv_at hl 4 rfl) ?_
            refine lv_aload hx hb dL_areWords_169 (lv_at hl 14 rfl) ?_
            have hPc := hP.sub (ws' := wLa cy L M ++ [(ua, eD cy 1 u2)]) [14, 15, 16, 17, 18, 19] rfl
            have hDc := hD.sub (ws' := wLa cy L M ++ [(ua, eD cy 1 u2)]) [14, 15, 16, 17, 18, 19] (by decide) rfl
            have hFc := va_free (wc := wLa cy L M ++ [(ua, eD cy 1 u2)]) hD hS hA [14, 15, 16, 17, 18, 19] rfl
            refine va_calli (va_runS (As := [.ref (L 0), .ref (L 1), .ref (L 2), .ref (L 3), .ref (L 4), .int (nI w), .ref ua]) (rest := []) ⟨hx, hb, hml, hown, hts⟩ (kL_conflict l G cy hW hF hU hN hPc hDc hT w c21) (va_cwS 7 hts gL_areWords_L_conflict rfl rfl rfl (by decide +kernel) ⟨Nat.le_of_ble_eq_true rfl, Nat.le_of_ble_eq_true rfl⟩) ⟨pR_blind, pR_at hK⟩ rfl rfl hl.1 rfl (lv_room (Nat.le_of_ble_eq_true rfl)) dL_areWords_171 ⟨Nat.le_of_ble_eq_true rfl, Nat.le_of_ble_eq_true rfl⟩) hS (fun q _ h => hFc q h) hFc (fun r_ u3 t_ H locs ht hvm hw_ hB hz1 hk1 hS => ?_)
            obtain rfl : r_ = lkI (rivOf M (rl M) (kF M) (vF M) w) := hw_
            have hB : va_P G vwCl (wLa cy L M ++ [(ua, eD cy 1 u3)]) t_.heap := hB
            rw [ht] at hB
            have hP : va_P G vwCl ([oSy z q h x r y] ++ (wRe cy r (q 0) (rl M) (kF M) (vF M) ++ wDo cy q M) ++ (wLa cy L M ++ [(ua, eD cy 1 u3)])) H := o_join hP hD [14, 15, 16, 17, 18, 19] [0, 1, 2, 3, 4, 5, 6, 7, 8, 9, 10, 11, 12, 13] rfl (wr := [oSy z q h x r y] ++ (wRe cy r (q 0) (rl M) (kF M) (vF M) ++ wDo cy q M)) rfl (by decide) (by decide) (by decide) hk1 hFc hB rfl
            have hD : va_D A ([oSy z q h x r y] ++ (wRe cy r (q 0) (rl M) (kF M) (vF M) ++ wDo cy q M) ++ (wLa cy L M ++ [(ua, eD cy 1 u3)])) := vd_same hD rfl
            have hPl := hP.sub (ws' := wLa cy L M) [14, 15, 16, 17, 18] rfl
            have hPq := hP.sub (ws' := [oSy z q h x r y] ++ wDo cy q M) [0, 5, 6, 7, 8, 9, 10, 11, 12, 13] rfl
            refine lv_istore (lv' := [(15, .int (lkI (rivOf M (rl M) (kF M) (vF M) w))), (14, .float 2143289344), (13, .int (bI (kF M w = true))), (12, .int (hAt (hfB M w) (mN M) 0)), (11, .int (nI (cR (hfB M w) 0 (mN M)))), (10, .int (nI w)), (7, .int (nI (cR (kF M) 0 w))), (8, .int (nI (cR (rwB (rl M) (kF M)) 0 w))), (9, .int (nI (cR (cfB M (rl M) (kF M) (vF M)) 0 w))), (0, .ref z), (1, .ref (L 0)), (2, .ref (L 1)), (3, .ref (L 2)), (4, .ref (L 3)), (5, .ref (L 4)), (6, .ref ua)]) hx hb dL_areWords_174 hl (by decide) rfl (fun ls hl => ?_)
            refine lv_aload_n hx hb dL_areWords_176 rfl (lv_at hl 9 rfl) ?_
            refine lv_iload hx hb dL_areWords_177 (lv_at hl 5 rfl) ?_
            refine lv_iconst (v := nI 0) hx hb dL_areWords_179 (by decide +kernel) ?_
            have hPc := hP.sub (ws' := [oSy z q h x r y] ++ (wRe cy r (q 0) (rl M) (kF M) (vF M) ++ wDo cy q M)) [0, 1, 2, 3, 4, 5, 6, 7, 8, 9, 10, 11, 12, 13] rfl
            have hDc := hD.sub (ws' := [oSy z q h x r y] ++ (wRe cy r (q 0) (rl M) (kF M) (vF M) ++ wDo cy q M)) [0, 1, 2, 3, 4, 5, 6, 7, 8, 9, 10, 11, 12, 13] (by decide) rfl
            have hFc := va_free (wc := [oSy z q h x r y] ++ (wRe cy r (q 0) (rl M) (kF M) (vF M) ++ wDo cy q M)) hD hS hA [0, 1, 2, 3, 4, 5, 6, 7, 8, 9, 10, 11, 12, 13] rfl
            refine va_calli (va_runV (As := [.int (nI w), .int (nI 0)]) (rest := []) ⟨hx, hb, hml, hown, hts⟩ (kX7_word_0 l G cy hW hF hPc hDc w c21) (cwV 2 hts gL_areWords_X7_word rfl rfl rfl (by decide +kernel) ⟨Nat.le_of_ble_eq_true rfl, Nat.le_of_ble_eq_true rfl⟩) ⟨pR_blind, va_recv hK hP (ci := 6) (q0 := 0) rfl rfl, pR_at hK⟩ rfl rfl hl.1 rfl (lv_room (Nat.le_of_ble_eq_true rfl)) dL_areWords_180 ⟨Nat.le_of_ble_eq_true rfl, Nat.le_of_ble_eq_true rfl⟩) hS (fun q _ h => hFc q h) hFc (fun r_ u_ t_ H locs ht hvm hw_ hB hz1 hk1 hS => ?_)
            rw [ht] at hB
            have hP : va_P G vwCl ([oSy z q h x r y] ++ wRe cy r (q 0) (rl M) (kF M) (vF M) ++ wDo cy q M ++ wLa cy L M ++ [(ua, eD cy 1 u3)]) H := (o_join hP hD [0, 1, 2, 3, 4, 5, 6, 7, 8, 9, 10, 11, 12, 13] [14, 15, 16, 17, 18, 19] rfl (wr := wLa cy L M ++ [(ua, eD cy 1 u3)]) rfl (by decide) (by decide) (by decide) hk1 hFc hB rfl).sub [6, 7, 8, 9, 10, 11, 12, 13, 14, 15, 16, 17, 18, 19, 0, 1, 2, 3, 4, 5] rfl
            have hD : va_D A ([oSy z q h x r y] ++ wRe cy r (q 0) (rl M) (kF M) (vF M) ++ wDo cy q M ++ wLa cy L M ++ [(ua, eD cy 1 u3)]) := vd_same hD rfl
            obtain rfl : r_ = lkI (rl M w) := hw_
            have hPl := hP.sub (ws' := wLa cy L M) [14, 15, 16, 17, 18] rfl
            have hPq := hP.sub (ws' := [oSy z q h x r y] ++ wDo cy q M) [0, 5, 6, 7, 8, 9, 10, 11, 12, 13] rfl
            refine lv_aload_n hx hb dL_areWords_183 rfl (lv_at hl 10 rfl) ?_
            refine lv_aload_n hx hb dL_areWords_184 rfl (lv_at hl 11 rfl) ?_
            refine lv_aload_n hx hb dL_areWords_185 rfl (lv_at hl 12 rfl) ?_
            refine lv_iload hx hb dL_areWords_186 (lv_at hl 5 rfl) ?_
            refine o_SI (As := [.ref (L 0), .ref (L 1), .ref (L 2), .int (nI w)]) (rest := [.int (lkI (rl M w))]) ⟨hx, hb, hml, hown, hts⟩ (kL_ruling l G cy hW hN hPl w c21) (va_cwS 4 hts gL_areWords_L_ruling rfl rfl rfl (by decide +kernel) ⟨Nat.le_of_ble_eq_true rfl, Nat.le_of_ble_eq_true rfl⟩) hK rfl hl.1 rfl (Nat.le_of_ble_eq_true rfl) dL_areWords_188 ⟨Nat.le_of_ble_eq_true rfl, Nat.le_of_ble_eq_true rfl⟩ ?_
            refine lv_icmp_ne (tgt := 275) hx hb dL_areWords_191 (by decide) (fun c191 => ?_) (fun c191 => ?_)
            · exact absurd rfl c191
            · refine lv_aload_n hx hb dL_areWords_194 rfl (lv_at hl 9 rfl) ?_
              refine lv_iload hx hb dL_areWords_195 (lv_at hl 5 rfl) ?_
              refine lv_iconst (v := nI 1) hx hb dL_areWords_197 (by decide +kernel) ?_
              have hPc := hP.sub (ws' := [oSy z q h x r y] ++ (wRe cy r (q 0) (rl M) (kF M) (vF M) ++ wDo cy q M)) [0, 1, 2, 3, 4, 5, 6, 7, 8, 9, 10, 11, 12, 13] rfl
              have hDc := hD.sub (ws' := [oSy z q h x r y] ++ (wRe cy r (q 0) (rl M) (kF M) (vF M) ++ wDo cy q M)) [0, 1, 2, 3, 4, 5, 6, 7, 8, 9, 10, 11, 12, 13] (by decide) rfl
              have hFc := va_free (wc := [oSy z q h x r y] ++ (wRe cy r (q 0) (rl M) (kF M) (vF M) ++ wDo cy q M)) hD hS hA [0, 1, 2, 3, 4, 5, 6, 7, 8, 9, 10, 11, 12, 13] rfl
              refine va_calli (va_runV (As := [.int (nI w), .int (nI 1)]) (rest := []) ⟨hx, hb, hml, hown, hts⟩ (kX7_word_1 l G cy hW hF hPc hDc w c21) (cwV 2 hts gL_areWords_X7_word rfl rfl rfl (by decide +kernel) ⟨Nat.le_of_ble_eq_true rfl, Nat.le_of_ble_eq_true rfl⟩) ⟨pR_blind, va_recv hK hP (ci := 6) (q0 := 0) rfl rfl, pR_at hK⟩ rfl rfl hl.1 rfl (lv_room (Nat.le_of_ble_eq_true rfl)) dL_areWords_198 ⟨Nat.le_of_ble_eq_true rfl, Nat.le_of_ble_eq_true rfl⟩) hS (fun q _ h => hFc q h) hFc (fun r_ u_ t_ H locs ht hvm hw_ hB hz1 hk1 hS => ?_)
              rw [ht] at hB
              have hP : va_P G vwCl ([oSy z q h x r y] ++ wRe cy r (q 0) (rl M) (kF M) (vF M) ++ wDo cy q M ++ wLa cy L M ++ [(ua, eD cy 1 u3)]) H := (o_join hP hD [0, 1, 2, 3, 4, 5, 6, 7, 8, 9, 10, 11, 12, 13] [14, 15, 16, 17, 18, 19] rfl (wr := wLa cy L M ++ [(ua, eD cy 1 u3)]) rfl (by decide) (by decide) (by decide) hk1 hFc hB rfl).sub [6, 7, 8, 9, 10, 11, 12, 13, 14, 15, 16, 17, 18, 19, 0, 1, 2, 3, 4, 5] rfl
              have hD : va_D A ([oSy z q h x r y] ++ wRe cy r (q 0) (rl M) (kF M) (vF M) ++ wDo cy q M ++ wLa cy L M ++ [(ua, eD cy 1 u3)]) := vd_same hD rfl
              obtain rfl : r_ = hAt (hfB M w) (mN M) 0 := hw_
              have hPl := hP.sub (ws' := wLa cy L M) [14, 15, 16, 17, 18] rfl
              have hPq := hP.sub (ws' := [oSy z q h x r y] ++ wDo cy q M) [0, 5, 6, 7, 8, 9, 10, 11, 12, 13] rfl
              refine lv_iload hx hb dL_areWords_201 (lv_at hl 3 rfl) ?_
              refine lv_icmp_ne (tgt := 275) hx hb dL_areWords_203 (by decide) (fun c203 => ?_) (fun c203 => ?_)
              · exact absurd rfl c203
              · refine lv_aload_n hx hb dL_areWords_206 rfl (lv_at hl 9 rfl) ?_
                refine lv_iload hx hb dL_areWords_207 (lv_at hl 5 rfl) ?_
                refine lv_iconst (v := nI 2) hx hb dL_areWords_209 (by decide +kernel) ?_
                have hPc := hP.sub (ws' := [oSy z q h x r y] ++ (wRe cy r (q 0) (rl M) (kF M) (vF M) ++ wDo cy q M)) [0, 1, 2, 3, 4, 5, 6, 7, 8, 9, 10, 11, 12, 13] rfl
                have hDc := hD.sub (ws' := [oSy z q h x r y] ++ (wRe cy r (q 0) (rl M) (kF M) (vF M) ++ wDo cy q M)) [0, 1, 2, 3, 4, 5, 6, 7, 8, 9, 10, 11, 12, 13] (by decide) rfl
                have hFc := va_free (wc := [oSy z q h x r y] ++ (wRe cy r (q 0) (rl M) (kF M) (vF M) ++ wDo cy q M)) hD hS hA [0, 1, 2, 3, 4, 5, 6, 7, 8, 9, 10, 11, 12, 13] rfl
                refine va_calli (va_runV (As := [.int (nI w), .int (nI 2)]) (rest := []) ⟨hx, hb, hml, hown, hts⟩ (kX7_word_2 l G cy hW hF hPc hDc w c21) (cwV 2 hts gL_areWords_X7_word rfl rfl rfl (by decide +kernel) ⟨Nat.le_of_ble_eq_true rfl, Nat.le_of_ble_eq_true rfl⟩) ⟨pR_blind, va_recv hK hP (ci := 6) (q0 := 0) rfl rfl, pR_at hK⟩ rfl rfl hl.1 rfl (lv_room (Nat.le_of_ble_eq_true rfl)) dL_areWords_210 ⟨Nat.le_of_ble_eq_true rfl, Nat.le_of_ble_eq_true rfl⟩) hS (fun q _ h => hFc q h) hFc (fun r_ u_ t_ H locs ht hvm hw_ hB hz1 hk1 hS => ?_)
                rw [ht] at hB
                have hP : va_P G vwCl ([oSy z q h x r y] ++ wRe cy r (q 0) (rl M) (kF M) (vF M) ++ wDo cy q M ++ wLa cy L M ++ [(ua, eD cy 1 u3)]) H := (o_join hP hD [0, 1, 2, 3, 4, 5, 6, 7, 8, 9, 10, 11, 12, 13] [14, 15, 16, 17, 18, 19] rfl (wr := wLa cy L M ++ [(ua, eD cy 1 u3)]) rfl (by decide) (by decide) (by decide) hk1 hFc hB rfl).sub [6, 7, 8, 9, 10, 11, 12, 13, 14, 15, 16, 17, 18, 19, 0, 1, 2, 3, 4, 5] rfl
                have hD : va_D A ([oSy z q h x r y] ++ wRe cy r (q 0) (rl M) (kF M) (vF M) ++ wDo cy q M ++ wLa cy L M ++ [(ua, eD cy 1 u3)]) := vd_same hD rfl
                obtain rfl : r_ = nI (cR (hfB M w) 0 (mN M)) := hw_
                have hPl := hP.sub (ws' := wLa cy L M) [14, 15, 16, 17, 18] rfl
                have hPq := hP.sub (ws' := [oSy z q h x r y] ++ wDo cy q M) [0, 5, 6, 7, 8, 9, 10, 11, 12, 13] rfl
                refine lv_iload hx hb dL_areWords_213 (lv_at hl 4 rfl) ?_
                refine lv_icmp_ne (tgt := 275) hx hb dL_areWords_215 (by decide) (fun c215 => ?_) (fun c215 => ?_)
                · exact absurd rfl c215
                · refine lv_aload_n hx hb dL_areWords_218 rfl (lv_at hl 9 rfl) ?_
                  refine lv_iload hx hb dL_areWords_219 (lv_at hl 5 rfl) ?_
                  refine lv_iconst (v := nI 3) hx hb dL_areWords_221 (by decide +kernel) ?_
                  have hPc := hP.sub (ws' := [oSy z q h x r y] ++ (wRe cy r (q 0) (rl M) (kF M) (vF M) ++ wDo cy q M)) [0, 1, 2, 3, 4, 5, 6, 7, 8, 9, 10, 11, 12, 13] rfl
                  have hDc := hD.sub (ws' := [oSy z q h x r y] ++ (wRe cy r (q 0) (rl M) (kF M) (vF M) ++ wDo cy q M)) [0, 1, 2, 3, 4, 5, 6, 7, 8, 9, 10, 11, 12, 13] (by decide) rfl
                  have hFc := va_free (wc := [oSy z q h x r y] ++ (wRe cy r (q 0) (rl M) (kF M) (vF M) ++ wDo cy q M)) hD hS hA [0, 1, 2, 3, 4, 5, 6, 7, 8, 9, 10, 11, 12, 13] rfl
                  refine va_calli (va_runV (As := [.int (nI w), .int (nI 3)]) (rest := []) ⟨hx, hb, hml, hown, hts⟩ (kX7_word_3 l G cy hW hF hPc hDc w c21) (cwV 2 hts gL_areWords_X7_word rfl rfl rfl (by decide +kernel) ⟨Nat.le_of_ble_eq_true rfl, Nat.le_of_ble_eq_true rfl⟩) ⟨pR_blind, va_recv hK hP (ci := 6) (q0 := 0) rfl rfl, pR_at hK⟩ rfl rfl hl.1 rfl (lv_room (Nat.le_of_ble_eq_true rfl)) dL_areWords_222 ⟨Nat.le_of_ble_eq_true rfl, Nat.le_of_ble_eq_true rfl⟩) hS (fun q _ h => hFc q h) hFc (fun r_ u_ t_ H locs ht hvm hw_ hB hz1 hk1 hS => ?_)
                  rw [ht] at hB
                  have hP : va_P G vwCl ([oSy z q h x r y] ++ wRe cy r (q 0) (rl M) (kF M) (vF M) ++ wDo cy q M ++ wLa cy L M ++ [(ua, eD cy 1 u3)]) H := (o_join hP hD [0, 1, 2, 3, 4, 5, 6, 7, 8, 9, 10, 11, 12, 13] [14, 15, 16, 17, 18, 19] rfl (wr := wLa cy L M ++ [(ua, eD cy 1 u3)]) rfl (by decide) (by decide) (by decide) hk1 hFc hB rfl).sub [6, 7, 8, 9, 10, 11, 12, 13, 14, 15, 16, 17, 18, 19, 0, 1, 2, 3, 4, 5] rfl
                  have hD : va_D A ([oSy z q h x r y] ++ wRe cy r (q 0) (rl M) (kF M) (vF M) ++ wDo cy q M ++ wLa cy L M ++ [(ua, eD cy 1 u3)]) := vd_same hD rfl
                  obtain rfl : r_ = bI (kF M w = true) := hw_
                  have hPl := hP.sub (ws' := wLa cy L M) [14, 15, 16, 17, 18] rfl
                  have hPq := hP.sub (ws' := [oSy z q h x r y] ++ wDo cy q M) [0, 5, 6, 7, 8, 9, 10, 11, 12, 13] rfl
                  refine lv_iload hx hb dL_areWords_225 (lv_at hl 2 rfl) ?_
                  refine o_ifb_eq (tgt := 234) hx hb dL_areWords_227 (by decide) (fun c227 => ?_) (fun c227 => ?_)
                  · refine lv_iconst (v := nI 0) hx hb dL_areWords_234 (by decide +kernel) ?_
                    refine lv_icmp_ne (tgt := 275) hx hb dL_areWords_235 (by decide) (fun c235 => ?_) (fun c235 => ?_)
                    · exact absurd (by rw [bI_f hkw]; decide) c235
                    · refine lv_aload_n hx hb dL_areWords_238 rfl (lv_at hl 9 rfl) ?_
                      refine lv_iload hx hb dL_areWords_239 (lv_at hl 5 rfl) ?_
                      refine lv_iconst (v := nI 4) hx hb dL_areWords_241 (by decide +kernel) ?_
                      have hPc := hP.sub (ws' := [oSy z q h x r y] ++ (wRe cy r (q 0) (rl M) (kF M) (vF M) ++ wDo cy q M)) [0, 1, 2, 3, 4, 5, 6, 7, 8, 9, 10, 11, 12, 13] rfl
                      have hDc := hD.sub (ws' := [oSy z q h x r y] ++ (wRe cy r (q 0) (rl M) (kF M) (vF M) ++ wDo cy q M)) [0, 1, 2, 3, 4, 5, 6, 7, 8, 9, 10, 11, 12, 13] (by decide) rfl
                      have hFc := va_free (wc := [oSy z q h x r y] ++ (wRe cy r (q 0) (rl M) (kF M) (vF M) ++ wDo cy q M)) hD hS hA [0, 1, 2, 3, 4, 5, 6, 7, 8, 9, 10, 11, 12, 13] rfl
                      refine va_calli (va_runV (As := [.int (nI w), .int (nI 4)]) (rest := []) ⟨hx, hb, hml, hown, hts⟩ (kX7_word_4 l G cy hW hF hPc hDc w c21) (cwV 2 hts gL_areWords_X7_word rfl rfl rfl (by decide +kernel) ⟨Nat.le_of_ble_eq_true rfl, Nat.le_of_ble_eq_true rfl⟩) ⟨pR_blind, va_recv hK hP (ci := 6) (q0 := 0) rfl rfl, pR_at hK⟩ rfl rfl hl.1 rfl (lv_room (Nat.le_of_ble_eq_true rfl)) dL_areWords_242 ⟨Nat.le_of_ble_eq_true rfl, Nat.le_of_ble_eq_true rfl⟩) hS (fun q _ h => hFc q h) hFc (fun r_ u_ t_ H locs ht hvm hw_ hB hz1 hk1 hS => ?_)
                      rw [ht] at hB
                      have hP : va_P G vwCl ([oSy z q h x r y] ++ wRe cy r (q 0) (rl M) (kF M) (vF M) ++ wDo cy q M ++ wLa cy L M ++ [(ua, eD cy 1 u3)]) H := (o_join hP hD [0, 1, 2, 3, 4, 5, 6, 7, 8, 9, 10, 11, 12, 13] [14, 15, 16, 17, 18, 19] rfl (wr := wLa cy L M ++ [(ua, eD cy 1 u3)]) rfl (by decide) (by decide) (by decide) hk1 hFc hB rfl).sub [6, 7, 8, 9, 10, 11, 12, 13, 14, 15, 16, 17, 18, 19, 0, 1, 2, 3, 4, 5] rfl
                      have hD : va_D A ([oSy z q h x r y] ++ wRe cy r (q 0) (rl M) (kF M) (vF M) ++ wDo cy q M ++ wLa cy L M ++ [(ua, eD cy 1 u3)]) := vd_same hD rfl
                      obtain rfl : r_ = lkI (rivOf M (rl M) (kF M) (vF M) w) := hw_
                      have hPl := hP.sub (ws' := wLa cy L M) [14, 15, 16, 17, 18] rfl
                      have hPq := hP.sub (ws' := [oSy z q h x r y] ++ wDo cy q M) [0, 5, 6, 7, 8, 9, 10, 11, 12, 13] rfl
                      refine lv_iload hx hb dL_areWords_245 (lv_at hl 0 rfl) ?_
                      refine lv_icmp_ne (tgt := 275) hx hb dL_areWords_247 (by decide) (fun c247 => ?_) (fun c247 => ?_)
                      · exact absurd rfl c247
                      · refine lv_aload_n hx hb dL_areWords_250 rfl (lv_at hl 9 rfl) ?_
                        refine lv_iload hx hb dL_areWords_251 (lv_at hl 5 rfl) ?_
                        refine lv_iconst (v := nI 0) hx hb dL_areWords_253 (by decide +kernel) ?_
                        refine o_VI (As := [.int (nI w), .int (nI 0)]) (rest := []) ⟨hx, hb, hml, hown, hts⟩ (kX7_hangsAt l G cy hW hPq w 0 c21 (by decide)) (cwV 2 hts gL_areWords_X7_hangsAt rfl rfl rfl (by decide +kernel) ⟨Nat.le_of_ble_eq_true rfl, Nat.le_of_ble_eq_true rfl⟩) hK (va_recv hK hP (ci := 6) (q0 := 0) rfl rfl) rfl hl.1 rfl (Nat.le_of_ble_eq_true rfl) dL_areWords_254 ⟨Nat.le_of_ble_eq_true rfl, Nat.le_of_ble_eq_true rfl⟩ ?_
                        refine lv_iload hx hb dL_areWords_257 (lv_at hl 3 rfl) ?_
                        refine lv_icmp_ne (tgt := 275) hx hb dL_areWords_259 (by decide) (fun c259 => ?_) (fun c259 => ?_)
                        · exact absurd rfl c259
                        · refine lv_aload_n hx hb dL_areWords_262 rfl (lv_at hl 9 rfl) ?_
                          refine lv_iload hx hb dL_areWords_263 (lv_at hl 5 rfl) ?_
                          refine lv_iload hx hb dL_areWords_265 (lv_at hl 4 rfl) ?_
                          refine o_VI (As := [.int (nI w), .int (nI (cR (hfB M w) 0 (mN M)))]) (rest := []) ⟨hx, hb, hml, hown, hts⟩ (kX7_hangsAt l G cy hW hPq w (cR (hfB M w) 0 (mN M)) c21 (by have := cR_le (hfB M w) 0 (mN M); omega)) (cwV 2 hts gL_areWords_X7_hangsAt rfl rfl rfl (by decide +kernel) ⟨Nat.le_of_ble_eq_true rfl, Nat.le_of_ble_eq_true rfl⟩) hK (va_recv hK hP (ci := 6) (q0 := 0) rfl rfl) rfl hl.1 rfl (Nat.le_of_ble_eq_true rfl) dL_areWords_267 ⟨Nat.le_of_ble_eq_true rfl, Nat.le_of_ble_eq_true rfl⟩ ?_
                          refine lv_bipush (v := (-5)) hx hb dL_areWords_270 (by decide +kernel) ?_
                          refine lv_icmp_eq (tgt := 277) hx hb dL_areWords_272 (by decide) (fun c272 => ?_) (fun c272 => ?_)
                          · refine lv_iload hx hb dL_areWords_277 (lv_at hl 6 rfl) ?_
                            refine lv_iload hx hb dL_areWords_279 (lv_at hl 2 rfl) ?_
                            refine o_ifb_eq (tgt := 288) hx hb dL_areWords_281 (by decide) (fun c281 => ?_) (fun c281 => ?_)
                            · refine lv_iconst (v := nI 0) hx hb dL_areWords_288 (by decide +kernel) ?_
                              refine lv_iadd hx hb dL_areWords_289 ?_
                              rw [nI_add]
                              refine lv_istore (lv' := [(7, .int (nI ((cR (kF M) 0 w) + 0))), (15, .int (lkI (rivOf M (rl M) (kF M) (vF M) w))), (14, .float 2143289344), (13, .int (bI (kF M w = true))), (12, .int (hAt (hfB M w) (mN M) 0)), (11, .int (nI (cR (hfB M w) 0 (mN M)))), (10, .int (nI w)), (8, .int (nI (cR (rwB (rl M) (kF M)) 0 w))), (9, .int (nI (cR (cfB M (rl M) (kF M) (vF M)) 0 w))), (0, .ref z), (1, .ref (L 0)), (2, .ref (L 1)), (3, .ref (L 2)), (4, .ref (L 3)), (5, .ref (L 4)), (6, .ref ua)]) hx hb dL_areWords_290 hl (by decide) rfl (fun ls hl => ?_)
                              refine lv_iload hx hb dL_areWords_292 (lv_at hl 7 rfl) ?_
                              refine lv_iload hx hb dL_areWords_294 (lv_at hl 5 rfl) ?_
                              refine o_if_le (tgt := 308) hx hb dL_areWords_296 (by decide) (by have := cR_le (hfB M w) 0 (mN M); omega) (fun c296 => ?_) (fun c296 => ?_)
                              · refine lv_iconst (v := nI 0) hx hb dL_areWords_308 (by decide +kernel) ?_
                                refine lv_iadd hx hb dL_areWords_309 ?_
                                rw [nI_add]
                                refine lv_istore (lv' := [(8, .int (nI ((cR (rwB (rl M) (kF M)) 0 w) + 0))), (7, .int (nI ((cR (kF M) 0 w) + 0))), (15, .int (lkI (rivOf M (rl M) (kF M) (vF M) w))), (14, .float 2143289344), (13, .int (bI (kF M w = true))), (12, .int (hAt (hfB M w) (mN M) 0)), (11, .int (nI (cR (hfB M w) 0 (mN M)))), (10, .int (nI w)), (9, .int (nI (cR (cfB M (rl M) (kF M) (vF M)) 0 w))), (0, .ref z), (1, .ref (L 0)), (2, .ref (L 1)), (3, .ref (L 2)), (4, .ref (L 3)), (5, .ref (L 4)), (6, .ref ua)]) hx hb dL_areWords_310 hl (by decide) rfl (fun ls hl => ?_)
                                refine lv_iload hx hb dL_areWords_312 (lv_at hl 8 rfl) ?_
                                refine lv_iload hx hb dL_areWords_314 (lv_at hl 2 rfl) ?_
                                refine o_lk_lt (tgt := 323) hx hb dL_areWords_316 (by decide) (fun j hj => by have := rivOf_lt hj; omega) (fun c316 => ?_) (fun c316 => ?_)
                                · refine lv_iconst (v := nI 0) hx hb dL_areWords_323 (by decide +kernel) ?_
                                  refine lv_iadd hx hb dL_areWords_324 ?_
                                  rw [nI_add]
                                  refine lv_istore (lv' := [(9, .int (nI ((cR (cfB M (rl M) (kF M) (vF M)) 0 w) + 0))), (8, .int (nI ((cR (rwB (rl M) (kF M)) 0 w) + 0))), (7, .int (nI ((cR (kF M) 0 w) + 0))), (15, .int (lkI (rivOf M (rl M) (kF M) (vF M) w))), (14, .float 2143289344), (13, .int (bI (kF M w = true))), (12, .int (hAt (hfB M w) (mN M) 0)), (11, .int (nI (cR (hfB M w) 0 (mN M)))), (10, .int (nI w)), (0, .ref z), (1, .ref (L 0)), (2, .ref (L 1)), (3, .ref (L 2)), (4, .ref (L 3)), (5, .ref (L 4)), (6, .ref ua)]) hx hb dL_areWords_325 hl (by decide) rfl (fun ls hl => ?_)
                                  refine lv_iinc (v := nI (w + 1)) (lv' := [(10, .int (nI (w + 1))), (9, .int (nI ((cR (cfB M (rl M) (kF M) (vF M)) 0 w) + 0))), (8, .int (nI ((cR (rwB (rl M) (kF M)) 0 w) + 0))), (7, .int (nI ((cR (kF M) 0 w) + 0))), (15, .int (lkI (rivOf M (rl M) (kF M) (vF M) w))), (14, .float 2143289344), (13, .int (bI (kF M w = true))), (12, .int (hAt (hfB M w) (mN M) 0)), (11, .int (nI (cR (hfB M w) 0 (mN M)))), (0, .ref z), (1, .ref (L 0)), (2, .ref (L 1)), (3, .ref (L 2)), (4, .ref (L 3)), (5, .ref (L 4)), (6, .ref ua)]) hx hb dL_areWords_327 hl (k := 8) rfl (nI_1 w) (by decide) rfl (fun ls hl => ?_)
                                  refine lv_goto (tgt := 17) hx hb dL_areWords_330 (by decide) ?_
                                  refine ih17 (w + 1, rl M, kF M, vF M, u3) ls H locs ?_ ?_ ?_
                                  · exact ⟨by omega, hP, hD, hS⟩
                                  · show lv_has ls 16 [(10, .int (nI (w + 1))), (7, .int (nI (cR (kF M) 0 (w + 1)))), (8, .int (nI (cR (rwB (rl M) (kF M)) 0 (w + 1)))), (9, .int (nI (cR (cfB M (rl M) (kF M) (vF M)) 0 (w + 1)))), (0, .ref z), (1, .ref (L 0)), (2, .ref (L 1)), (3, .ref (L 2)), (4, .ref (L 3)), (5, .ref (L 4)), (6, .ref ua)]
                                    rw [cZ_f (p := kF M) hkw]
                                    rw [cZ_f (p := rwB (rl M) (kF M)) (fun q => (rwB_iff.mp q).1 (rl_none.mpr c296))]
                                    rw [cZ_f (p := cfB M (rl M) (kF M) (vF M)) (fun q => (cfB_iff.mp q) c316)]
                                    exact lv_sub hl [0, 3, 2, 1, 9, 10, 11, 12, 13, 14, 15] rfl
                                  · show 16 - (w + 1) < 16 - w; omega
                                · obtain ⟨jj, hjj⟩ := c316
                                  rw [hjj] at hl
                                  have hl : lv_has ls 16 [(8, .int (nI ((cR (rwB (rl M) (kF M)) 0 w) + 0))), (7, .int (nI ((cR (kF M) 0 w) + 0))), (15, .int (nI jj)), (14, .float 2143289344), (13, .int (bI (kF M w = true))), (12, .int (hAt (hfB M w) (mN M) 0)), (11, .int (nI (cR (hfB M w) 0 (mN M)))), (10, .int (nI w)), (9, .int (nI (cR (cfB M (rl M) (kF M) (vF M)) 0 w))), (0, .ref z), (1, .ref (L 0)), (2, .ref (L 1)), (3, .ref (L 2)), (4, .ref (L 3)), (5, .ref (L 4)), (6, .ref ua)] := hl
                                  refine lv_iconst (v := nI 1) hx hb dL_areWords_319 (by decide +kernel) ?_
                                  refine lv_goto (tgt := 324) hx hb dL_areWords_320 (by decide) ?_
                                  refine lv_iadd hx hb dL_areWords_324 ?_
                                  rw [nI_add]
                                  refine lv_istore (lv' := [(9, .int (nI ((cR (cfB M (rl M) (kF M) (vF M)) 0 w) + 1))), (8, .int (nI ((cR (rwB (rl M) (kF M)) 0 w) + 0))), (7, .int (nI ((cR (kF M) 0 w) + 0))), (15, .int (nI jj)), (14, .float 2143289344), (13, .int (bI (kF M w = true))), (12, .int (hAt (hfB M w) (mN M) 0)), (11, .int (nI (cR (hfB M w) 0 (mN M)))), (10, .int (nI w)), (0, .ref z), (1, .ref (L 0)), (2, .ref (L 1)), (3, .ref (L 2)), (4, .ref (L 3)), (5, .ref (L 4)), (6, .ref ua)]) hx hb dL_areWords_325 hl (by decide) rfl (fun ls hl => ?_)
                                  refine lv_iinc (v := nI (w + 1)) (lv' := [(10, .int (nI (w + 1))), (9, .int (nI ((cR (cfB M (rl M) (kF M) (vF M)) 0 w) + 1))), (8, .int (nI ((cR (rwB (rl M) (kF M)) 0 w) + 0))), (7, .int (nI ((cR (kF M) 0 w) + 0))), (15, .int (nI jj)), (14, .float 2143289344), (13, .int (bI (kF M w = true))), (12, .int (hAt (hfB M w) (mN M) 0)), (11, .int (nI (cR (hfB M w) 0 (mN M)))), (0, .ref z), (1, .ref (L 0)), (2, .ref (L 1)), (3, .ref (L 2)), (4, .ref (L 3)), (5, .ref (L 4)), (6, .ref ua)]) hx hb dL_areWords_327 hl (k := 8) rfl (nI_1 w) (by decide) rfl (fun ls hl => ?_)
                                  refine lv_goto (tgt := 17) hx hb dL_areWords_330 (by decide) ?_
                                  refine ih17 (w + 1, rl M, kF M, vF M, u3) ls H locs ?_ ?_ ?_
                                  · exact ⟨by omega, hP, hD, hS⟩
                                  · show lv_has ls 16 [(10, .int (nI (w + 1))), (7, .int (nI (cR (kF M) 0 (w + 1)))), (8, .int (nI (cR (rwB (rl M) (kF M)) 0 (w + 1)))), (9, .int (nI (cR (cfB M (rl M) (kF M) (vF M)) 0 (w + 1)))), (0, .ref z), (1, .ref (L 0)), (2, .ref (L 1)), (3, .ref (L 2)), (4, .ref (L 3)), (5, .ref (L 4)), (6, .ref ua)]
                                    rw [cZ_f (p := kF M) hkw]
                                    rw [cZ_f (p := rwB (rl M) (kF M)) (fun q => (rwB_iff.mp q).1 (rl_none.mpr c296))]
                                    rw [cZ_t (p := cfB M (rl M) (kF M) (vF M)) (cfB_iff.mpr (by rw [hjj]; intro z; cases z))]
                                    exact lv_sub hl [0, 3, 2, 1, 9, 10, 11, 12, 13, 14, 15] rfl
                                  · show 16 - (w + 1) < 16 - w; omega
                              · refine lv_iload hx hb dL_areWords_299 (lv_at hl 3 rfl) ?_
                                refine o_ifb_ne (tgt := 308) hx hb dL_areWords_301 (by decide) (fun c301 => ?_) (fun c301 => ?_)
                                · exact absurd c301 hkw
                                · refine lv_iconst (v := nI 1) hx hb dL_areWords_304 (by decide +kernel) ?_
                                  refine lv_goto (tgt := 309) hx hb dL_areWords_305 (by decide) ?_
                                  refine lv_iadd hx hb dL_areWords_309 ?_
                                  rw [nI_add]
                                  refine lv_istore (lv' := [(8, .int (nI ((cR (rwB (rl M) (kF M)) 0 w) + 1))), (7, .int (nI ((cR (kF M) 0 w) + 0))), (15, .int (lkI (rivOf M (rl M) (kF M) (vF M) w))), (14, .float 2143289344), (13, .int (bI (kF M w = true))), (12, .int (hAt (hfB M w) (mN M) 0)), (11, .int (nI (cR (hfB M w) 0 (mN M)))), (10, .int (nI w)), (9, .int (nI (cR (cfB M (rl M) (kF M) (vF M)) 0 w))), (0, .ref z), (1, .ref (L 0)), (2, .ref (L 1)), (3, .ref (L 2)), (4, .ref (L 3)), (5, .ref (L 4)), (6, .ref ua)]) hx hb dL_areWords_310 hl (by decide) rfl (fun ls hl => ?_)
                                  refine lv_iload hx hb dL_areWords_312 (lv_at hl 8 rfl) ?_
                                  refine lv_iload hx hb dL_areWords_314 (lv_at hl 2 rfl) ?_
                                  refine o_lk_lt (tgt := 323) hx hb dL_areWords_316 (by decide) (fun j hj => by have := rivOf_lt hj; omega) (fun c316 => ?_) (fun c316 => ?_)
                                  · refine lv_iconst (v := nI 0) hx hb dL_areWords_323 (by decide +kernel) ?_
                                    refine lv_iadd hx hb dL_areWords_324 ?_
                                    rw [nI_add]
                                    refine lv_istore (lv' := [(9, .int (nI ((cR (cfB M (rl M) (kF M) (vF M)) 0 w) + 0))), (8, .int (nI ((cR (rwB (rl M) (kF M)) 0 w) + 1))), (7, .int (nI ((cR (kF M) 0 w) + 0))), (15, .int (lkI (rivOf M (rl M) (kF M) (vF M) w))), (14, .float 2143289344), (13, .int (bI (kF M w = true))), (12, .int (hAt (hfB M w) (mN M) 0)), (11, .int (nI (cR (hfB M w) 0 (mN M)))), (10, .int (nI w)), (0, .ref z), (1, .ref (L 0)), (2, .ref (L 1)), (3, .ref (L 2)), (4, .ref (L 3)), (5, .ref (L 4)), (6, .ref ua)]) hx hb dL_areWords_325 hl (by decide) rfl (fun ls hl => ?_)
                                    refine lv_iinc (v := nI (w + 1)) (lv' := [(10, .int (nI (w + 1))), (9, .int (nI ((cR (cfB M (rl M) (kF M) (vF M)) 0 w) + 0))), (8, .int (nI ((cR (rwB (rl M) (kF M)) 0 w) + 1))), (7, .int (nI ((cR (kF M) 0 w) + 0))), (15, .int (lkI (rivOf M (rl M) (kF M) (vF M) w))), (14, .float 2143289344), (13, .int (bI (kF M w = true))), (12, .int (hAt (hfB M w) (mN M) 0)), (11, .int (nI (cR (hfB M w) 0 (mN M)))), (0, .ref z), (1, .ref (L 0)), (2, .ref (L 1)), (3, .ref (L 2)), (4, .ref (L 3)), (5, .ref (L 4)), (6, .ref ua)]) hx hb dL_areWords_327 hl (k := 8) rfl (nI_1 w) (by decide) rfl (fun ls hl => ?_)
                                    refine lv_goto (tgt := 17) hx hb dL_areWords_330 (by decide) ?_
                                    refine ih17 (w + 1, rl M, kF M, vF M, u3) ls H locs ?_ ?_ ?_
                                    · exact ⟨by omega, hP, hD, hS⟩
                                    · show lv_has ls 16 [(10, .int (nI (w + 1))), (7, .int (nI (cR (kF M) 0 (w + 1)))), (8, .int (nI (cR (rwB (rl M) (kF M)) 0 (w + 1)))), (9, .int (nI (cR (cfB M (rl M) (kF M) (vF M)) 0 (w + 1)))), (0, .ref z), (1, .ref (L 0)), (2, .ref (L 1)), (3, .ref (L 2)), (4, .ref (L 3)), (5, .ref (L 4)), (6, .ref ua)]
                                      rw [cZ_f (p := kF M) hkw]
                                      rw [cZ_t (p := rwB (rl M) (kF M)) (rwB_iff.mpr ⟨fun q => absurd (rl_none.mp q) (by omega), hkw⟩)]
                                      rw [cZ_f (p := cfB M (rl M) (kF M) (vF M)) (fun q => (cfB_iff.mp q) c316)]
                                      exact lv_sub hl [0, 3, 2, 1, 9, 10, 11, 12, 13, 14, 15] rfl
                                    · show 16 - (w + 1) < 16 - w; omega
                                  · obtain ⟨jj, hjj⟩ := c316
                                    rw [hjj] at hl
                                    have hl : lv_has ls 16 [(8, .int (nI ((cR (rwB (rl M) (kF M)) 0 w) + 1))), (7, .int (nI ((cR (kF M) 0 w) + 0))), (15, .int (nI jj)), (14, .float 2143289344), (13, .int (bI (kF M w = true))), (12, .int (hAt (hfB M w) (mN M) 0)), (11, .int (nI (cR (hfB M w) 0 (mN M)))), (10, .int (nI w)), (9, .int (nI (cR (cfB M (rl M) (kF M) (vF M)) 0 w))), (0, .ref z), (1, .ref (L 0)), (2, .ref (L 1)), (3, .ref (L 2)), (4, .ref (L 3)), (5, .ref (L 4)), (6, .ref ua)] := hl
                                    refine lv_iconst (v := nI 1) hx hb dL_areWords_319 (by decide +kernel) ?_
                                    refine lv_goto (tgt := 324) hx hb dL_areWords_320 (by decide) ?_
                                    refine lv_iadd hx hb dL_areWords_324 ?_
                                    rw [nI_add]
                                    refine lv_istore (lv' := [(9, .int (nI ((cR (cfB M (rl M) (kF M) (vF M)) 0 w) + 1))), (8, .int (nI ((cR (rwB (rl M) (kF M)) 0 w) + 1))), (7, .int (nI ((cR (kF M) 0 w) + 0))), (15, .int (nI jj)), (14, .float 2143289344), (13, .int (bI (kF M w = true))), (12, .int (hAt (hfB M w) (mN M) 0)), (11, .int (nI (cR (hfB M w) 0 (mN M)))), (10, .int (nI w)), (0, .ref z), (1, .ref (L 0)), (2, .ref (L 1)), (3, .ref (L 2)), (4, .ref (L 3)), (5, .ref (L 4)), (6, .ref ua)]) hx hb dL_areWords_325 hl (by decide) rfl (fun ls hl => ?_)
                                    refine lv_iinc (v := nI (w + 1)) (lv' := [(10, .int (nI (w + 1))), (9, .int (nI ((cR (cfB M (rl M) (kF M) (vF M)) 0 w) + 1))), (8, .int (nI ((cR (rwB (rl M) (kF M)) 0 w) + 1))), (7, .int (nI ((cR (kF M) 0 w) + 0))), (15, .int (nI jj)), (14, .float 2143289344), (13, .int (bI (kF M w = true))), (12, .int (hAt (hfB M w) (mN M) 0)), (11, .int (nI (cR (hfB M w) 0 (mN M)))), (0, .ref z), (1, .ref (L 0)), (2, .ref (L 1)), (3, .ref (L 2)), (4, .ref (L 3)), (5, .ref (L 4)), (6, .ref ua)]) hx hb dL_areWords_327 hl (k := 8) rfl (nI_1 w) (by decide) rfl (fun ls hl => ?_)
                                    refine lv_goto (tgt := 17) hx hb dL_areWords_330 (by decide) ?_
                                    refine ih17 (w + 1, rl M, kF M, vF M, u3) ls H locs ?_ ?_ ?_
                                    · exact ⟨by omega, hP, hD, hS⟩
                                    · show lv_has ls 16 [(10, .int (nI (w + 1))), (7, .int (nI (cR (kF M) 0 (w + 1)))), (8, .int (nI (cR (rwB (rl M) (kF M)) 0 (w + 1)))), (9, .int (nI (cR (cfB M (rl M) (kF M) (vF M)) 0 (w + 1)))), (0, .ref z), (1, .ref (L 0)), (2, .ref (L 1)), (3, .ref (L 2)), (4, .ref (L 3)), (5, .ref (L 4)), (6, .ref ua)]
                                      rw [cZ_f (p := kF M) hkw]
                                      rw [cZ_t (p := rwB (rl M) (kF M)) (rwB_iff.mpr ⟨fun q => absurd (rl_none.mp q) (by omega), hkw⟩)]
                                      rw [cZ_t (p := cfB M (rl M) (kF M) (vF M)) (cfB_iff.mpr (by rw [hjj]; intro z; cases z))]
                                      exact lv_sub hl [0, 3, 2, 1, 9, 10, 11, 12, 13, 14, 15] rfl
                                    · show 16 - (w + 1) < 16 - w; omega
                            · exact absurd c281 hkw
                          · exact absurd (hAt_cnt (Nat.le_refl _)) c272
                  · exact absurd c227 hkw
          · exact absurd c155 (by decide +kernel)
        · exact absurd c133 hkw
    · refine lv_aload_n hx hb dL_areWords_42 rfl (lv_at hl 10 rfl) ?_
      refine lv_iconst (v := nI 4) hx hb dL_areWords_43 (by decide +kernel) ?_
      refine lv_iload hx hb dL_areWords_44 (lv_at hl 0 rfl) ?_
      refine lv_imul hx hb dL_areWords_46 ?_
      rw [pk_mul]
      refine lv_iconst (v := nI 3) hx hb dL_areWords_47 (by decide +kernel) ?_
      refine lv_iadd hx hb dL_areWords_48 ?_
      rw [nI_add]
      refine o_iald hx hb hK hP 16 0 rfl rfl ((4 * i) + 3) (by omega) (by decide) dL_areWords_49 ?_
      rw [aI_3]
      refine lv_iconst (v := nI 1) hx hb dL_areWords_50 (by decide +kernel) ?_
      refine o_icmp1_ne (tgt := 71) hx hb dL_areWords_51 (by decide) (fun c51 => ?_) (fun c51 => ?_)
      · refine lv_iconst (v := nI 0) hx hb dL_areWords_71 (by decide +kernel) ?_
        refine lv_istore (lv' := [(14, .int (nI 0)), (13, .int (nI i)), (12, .int (hAt (hfB M w) i 0)), (11, .int (nI (cR (hfB M w) 0 i))), (10, .int (nI w)), (7, .int (nI (cR (kF M) 0 w))), (8, .int (nI (cR (rwB (rl M) (kF M)) 0 w))), (9, .int (nI (cR (cfB M (rl M) (kF M) (vF M)) 0 w))), (0, .ref z), (1, .ref (L 0)), (2, .ref (L 1)), (3, .ref (L 2)), (4, .ref (L 3)), (5, .ref (L 4)), (6, .ref ua)]) hx hb dL_areWords_72 hl (by decide) rfl (fun ls hl => ?_)
        refine lv_iload hx hb dL_areWords_74 (lv_at hl 3 rfl) ?_
        refine lv_iload hx hb dL_areWords_76 (lv_at hl 0 rfl) ?_
        refine o_if_eq (tgt := 85) hx hb dL_areWords_78 (by decide) (by omega) (fun c78 => ?_) (fun c78 => ?_)
        · refine lv_iconst (v := nI 0) hx hb dL_areWords_85 (by decide +kernel) ?_
          refine lv_iadd hx hb dL_areWords_86 ?_
          rw [nI_add]
          refine lv_istore (lv' := [(11, .int (nI ((cR (hfB M w) 0 i) + 0))), (14, .int (nI 0)), (13, .int (nI i)), (12, .int (hAt (hfB M w) i 0)), (10, .int (nI w)), (7, .int (nI (cR (kF M) 0 w))), (8, .int (nI (cR (rwB (rl M) (kF M)) 0 w))), (9, .int (nI (cR (cfB M (rl M) (kF M) (vF M)) 0 w))), (0, .ref z), (1, .ref (L 0)), (2, .ref (L 1)), (3, .ref (L 2)), (4, .ref (L 3)), (5, .ref (L 4)), (6, .ref ua)]) hx hb dL_areWords_87 hl (by decide) rfl (fun ls hl => ?_)
          refine lv_iload hx hb dL_areWords_89 (lv_at hl 1 rfl) ?_
          refine o_if_eq (tgt := 99) hx hb dL_areWords_91 (by decide) (by omega) (fun c91 => ?_) (fun c91 => ?_)
          · refine lv_iload hx hb dL_areWords_99 (lv_at hl 3 rfl) ?_
            refine lv_istore (lv' := [(12, .int (hAt (hfB M w) i 0)), (11, .int (nI ((cR (hfB M w) 0 i) + 0))), (14, .int (nI 0)), (13, .int (nI i)), (10, .int (nI w)), (7, .int (nI (cR (kF M) 0 w))), (8, .int (nI (cR (rwB (rl M) (kF M)) 0 w))), (9, .int (nI (cR (cfB M (rl M) (kF M) (vF M)) 0 w))), (0, .ref z), (1, .ref (L 0)), (2, .ref (L 1)), (3, .ref (L 2)), (4, .ref (L 3)), (5, .ref (L 4)), (6, .ref ua)]) hx hb dL_areWords_101 hl (by decide) rfl (fun ls hl => ?_)
            refine lv_iinc (v := nI (i + 1)) (lv' := [(13, .int (nI (i + 1))), (12, .int (hAt (hfB M w) i 0)), (11, .int (nI ((cR (hfB M w) 0 i) + 0))), (14, .int (nI 0)), (10, .int (nI w)), (7, .int (nI (cR (kF M) 0 w))), (8, .int (nI (cR (rwB (rl M) (kF M)) 0 w))), (9, .int (nI (cR (cfB M (rl M) (kF M) (vF M)) 0 w))), (0, .ref z), (1, .ref (L 0)), (2, .ref (L 1)), (3, .ref (L 2)), (4, .ref (L 3)), (5, .ref (L 4)), (6, .ref ua)]) hx hb dL_areWords_103 hl (k := 3) rfl (nI_1 i) (by decide) rfl (fun ls hl => ?_)
            refine lv_goto (tgt := 34) hx hb dL_areWords_106 (by decide) ?_
            refine ih34 (i + 1) ls ?_ ?_ ?_
            · omega
            · show lv_has ls 16 [(13, .int (nI (i + 1))), (12, .int (hAt (hfB M w) (i + 1) 0)), (11, .int (nI (cR (hfB M w) 0 (i + 1)))), (10, .int (nI w)), (7, .int (nI (cR (kF M) 0 w))), (8, .int (nI (cR (rwB (rl M) (kF M)) 0 w))), (9, .int (nI (cR (cfB M (rl M) (kF M) (vF M)) 0 w))), (0, .ref z), (1, .ref (L 0)), (2, .ref (L 1)), (3, .ref (L 2)), (4, .ref (L 3)), (5, .ref (L 4)), (6, .ref ua)]
              rw [cZ_f (fun z => c51 (hfB_iff.mp z).1), hAt_n (fun z => c51 (hfB_iff.mp z).1)]
              exact lv_sub hl [0, 1, 2, 4, 5, 6, 7, 8, 9, 10, 11, 12, 13, 14] rfl
            · omega
          · exact absurd c91 (by decide)
        · exact absurd c78 (by decide)
      · refine lv_aload_n hx hb dL_areWords_54 rfl (lv_at hl 10 rfl) ?_
        refine lv_iconst (v := nI 4) hx hb dL_areWords_55 (by decide +kernel) ?_
        refine lv_iload hx hb dL_areWords_56 (lv_at hl 0 rfl) ?_
        refine lv_imul hx hb dL_areWords_58 ?_
        rw [pk_mul]
        refine lv_iconst (v := nI 1) hx hb dL_areWords_59 (by decide +kernel) ?_
        refine lv_iadd hx hb dL_areWords_60 ?_
        rw [nI_add]
        refine o_iald hx hb hK hP 16 0 rfl rfl ((4 * i) + 1) (by omega) (by decide) dL_areWords_61 ?_
        rw [aI_1]
        refine lv_iload hx hb dL_areWords_62 (lv_at hl 3 rfl) ?_
        refine o_icmp_ne (tgt := 71) hx hb dL_areWords_64 (by decide) (by omega) (by omega) (fun c64 => ?_) (fun c64 => ?_)
        · refine lv_iconst (v := nI 0) hx hb dL_areWords_71 (by decide +kernel) ?_
          refine lv_istore (lv' := [(14, .int (nI 0)), (13, .int (nI i)), (12, .int (hAt (hfB M w) i 0)), (11, .int (nI (cR (hfB M w) 0 i))), (10, .int (nI w)), (7, .int (nI (cR (kF M) 0 w))), (8, .int (nI (cR (rwB (rl M) (kF M)) 0 w))), (9, .int (nI (cR (cfB M (rl M) (kF M) (vF M)) 0 w))), (0, .ref z), (1, .ref (L 0)), (2, .ref (L 1)), (3, .ref (L 2)), (4, .ref (L 3)), (5, .ref (L 4)), (6, .ref ua)]) hx hb dL_areWords_72 hl (by decide) rfl (fun ls hl => ?_)
          refine lv_iload hx hb dL_areWords_74 (lv_at hl 3 rfl) ?_
          refine lv_iload hx hb dL_areWords_76 (lv_at hl 0 rfl) ?_
          refine o_if_eq (tgt := 85) hx hb dL_areWords_78 (by decide) (by omega) (fun c78 => ?_) (fun c78 => ?_)
          · refine lv_iconst (v := nI 0) hx hb dL_areWords_85 (by decide +kernel) ?_
            refine lv_iadd hx hb dL_areWords_86 ?_
            rw [nI_add]
            refine lv_istore (lv' := [(11, .int (nI ((cR (hfB M w) 0 i) + 0))), (14, .int (nI 0)), (13, .int (nI i)), (12, .int (hAt (hfB M w) i 0)), (10, .int (nI w)), (7, .int (nI (cR (kF M) 0 w))), (8, .int (nI (cR (rwB (rl M) (kF M)) 0 w))), (9, .int (nI (cR (cfB M (rl M) (kF M) (vF M)) 0 w))), (0, .ref z), (1, .ref (L 0)), (2, .ref (L 1)), (3, .ref (L 2)), (4, .ref (L 3)), (5, .ref (L 4)), (6, .ref ua)]) hx hb dL_areWords_87 hl (by decide) rfl (fun ls hl => ?_)
            refine lv_iload hx hb dL_areWords_89 (lv_at hl 1 rfl) ?_
            refine o_if_eq (tgt := 99) hx hb dL_areWords_91 (by decide) (by omega) (fun c91 => ?_) (fun c91 => ?_)
            · refine lv_iload hx hb dL_areWords_99 (lv_at hl 3 rfl) ?_
              refine lv_istore (lv' := [(12, .int (hAt (hfB M w) i 0)), (11, .int (nI ((cR (hfB M w) 0 i) + 0))), (14, .int (nI 0)), (13, .int (nI i)), (10, .int (nI w)), (7, .int (nI (cR (kF M) 0 w))), (8, .int (nI (cR (rwB (rl M) (kF M)) 0 w))), (9, .int (nI (cR (cfB M (rl M) (kF M) (vF M)) 0 w))), (0, .ref z), (1, .ref (L 0)), (2, .ref (L 1)), (3, .ref (L 2)), (4, .ref (L 3)), (5, .ref (L 4)), (6, .ref ua)]) hx hb dL_areWords_101 hl (by decide) rfl (fun ls hl => ?_)
              refine lv_iinc (v := nI (i + 1)) (lv' := [(13, .int (nI (i + 1))), (12, .int (hAt (hfB M w) i 0)), (11, .int (nI ((cR (hfB M w) 0 i) + 0))), (14, .int (nI 0)), (10, .int (nI w)), (7, .int (nI (cR (kF M) 0 w))), (8, .int (nI (cR (rwB (rl M) (kF M)) 0 w))), (9, .int (nI (cR (cfB M (rl M) (kF M) (vF M)) 0 w))), (0, .ref z), (1, .ref (L 0)), (2, .ref (L 1)), (3, .ref (L 2)), (4, .ref (L 3)), (5, .ref (L 4)), (6, .ref ua)]) hx hb dL_areWords_103 hl (k := 3) rfl (nI_1 i) (by decide) rfl (fun ls hl => ?_)
              refine lv_goto (tgt := 34) hx hb dL_areWords_106 (by decide) ?_
              refine ih34 (i + 1) ls ?_ ?_ ?_
              · omega
              · show lv_has ls 16 [(13, .int (nI (i + 1))), (12, .int (hAt (hfB M w) (i + 1) 0)), (11, .int (nI (cR (hfB M w) 0 (i + 1)))), (10, .int (nI w)), (7, .int (nI (cR (kF M) 0 w))), (8, .int (nI (cR (rwB (rl M) (kF M)) 0 w))), (9, .int (nI (cR (cfB M (rl M) (kF M) (vF M)) 0 w))), (0, .ref z), (1, .ref (L 0)), (2, .ref (L 1)), (3, .ref (L 2)), (4, .ref (L 3)), (5, .ref (L 4)), (6, .ref ua)]
                rw [cZ_f (fun z => c64 (hfB_iff.mp z).2), hAt_n (fun z => c64 (hfB_iff.mp z).2)]
                exact lv_sub hl [0, 1, 2, 4, 5, 6, 7, 8, 9, 10, 11, 12, 13, 14] rfl
              · omega
            · exact absurd c91 (by decide)
          · exact absurd c78 (by decide)
        · refine lv_iconst (v := nI 1) hx hb dL_areWords_67 (by decide +kernel) ?_
          refine lv_goto (tgt := 72) hx hb dL_areWords_68 (by decide) ?_
          refine lv_istore (lv' := [(14, .int (nI 1)), (13, .int (nI i)), (12, .int (hAt (hfB M w) i 0)), (11, .int (nI (cR (hfB M w) 0 i))), (10, .int (nI w)), (7, .int (nI (cR (kF M) 0 w))), (8, .int (nI (cR (rwB (rl M) (kF M)) 0 w))), (9, .int (nI (cR (cfB M (rl M) (kF M) (vF M)) 0 w))), (0, .ref z), (1, .ref (L 0)), (2, .ref (L 1)), (3, .ref (L 2)), (4, .ref (L 3)), (5, .ref (L 4)), (6, .ref ua)]) hx hb dL_areWords_72 hl (by decide) rfl (fun ls hl => ?_)
          refine lv_iload hx hb dL_areWords_74 (lv_at hl 3 rfl) ?_
          refine lv_iload hx hb dL_areWords_76 (lv_at hl 0 rfl) ?_
          refine o_if_eq (tgt := 85) hx hb dL_areWords_78 (by decide) (by omega) (fun c78 => ?_) (fun c78 => ?_)
          · exact absurd c78 (by decide)
          · refine lv_iconst (v := nI 1) hx hb dL_areWords_81 (by decide +kernel) ?_
            refine lv_goto (tgt := 86) hx hb dL_areWords_82 (by decide) ?_
            refine lv_iadd hx hb dL_areWords_86 ?_
            rw [nI_add]
            refine lv_istore (lv' := [(11, .int (nI ((cR (hfB M w) 0 i) + 1))), (14, .int (nI 1)), (13, .int (nI i)), (12, .int (hAt (hfB M w) i 0)), (10, .int (nI w)), (7, .int (nI (cR (kF M) 0 w))), (8, .int (nI (cR (rwB (rl M) (kF M)) 0 w))), (9, .int (nI (cR (cfB M (rl M) (kF M) (vF M)) 0 w))), (0, .ref z), (1, .ref (L 0)), (2, .ref (L 1)), (3, .ref (L 2)), (4, .ref (L 3)), (5, .ref (L 4)), (6, .ref ua)]) hx hb dL_areWords_87 hl (by decide) rfl (fun ls hl => ?_)
            refine lv_iload hx hb dL_areWords_89 (lv_at hl 1 rfl) ?_
            refine o_if_eq (tgt := 99) hx hb dL_areWords_91 (by decide) (by omega) (fun c91 => ?_) (fun c91 => ?_)
            · exact absurd c91 (by decide)
            · refine lv_iload hx hb dL_areWords_94 (lv_at hl 2 rfl) ?_
              refine lv_goto (tgt := 101) hx hb dL_areWords_96 (by decide) ?_
              refine lv_istore (lv' := [(12, .int (nI i)), (11, .int (nI ((cR (hfB M w) 0 i) + 1))), (14, .int (nI 1)), (13, .int (nI i)), (10, .int (nI w)), (7, .int (nI (cR (kF M) 0 w))), (8, .int (nI (cR (rwB (rl M) (kF M)) 0 w))), (9, .int (nI (cR (cfB M (rl M) (kF M) (vF M)) 0 w))), (0, .ref z), (1, .ref (L 0)), (2, .ref (L 1)), (3, .ref (L 2)), (4, .ref (L 3)), (5, .ref (L 4)), (6, .ref ua)]) hx hb dL_areWords_101 hl (by decide) rfl (fun ls hl => ?_)
              refine lv_iinc (v := nI (i + 1)) (lv' := [(13, .int (nI (i + 1))), (12, .int (nI i)), (11, .int (nI ((cR (hfB M w) 0 i) + 1))), (14, .int (nI 1)), (10, .int (nI w)), (7, .int (nI (cR (kF M) 0 w))), (8, .int (nI (cR (rwB (rl M) (kF M)) 0 w))), (9, .int (nI (cR (cfB M (rl M) (kF M) (vF M)) 0 w))), (0, .ref z), (1, .ref (L 0)), (2, .ref (L 1)), (3, .ref (L 2)), (4, .ref (L 3)), (5, .ref (L 4)), (6, .ref ua)]) hx hb dL_areWords_103 hl (k := 3) rfl (nI_1 i) (by decide) rfl (fun ls hl => ?_)
              refine lv_goto (tgt := 34) hx hb dL_areWords_106 (by decide) ?_
              refine ih34 (i + 1) ls ?_ ?_ ?_
              · omega
              · show lv_has ls 16 [(13, .int (nI (i + 1))), (12, .int (hAt (hfB M w) (i + 1) 0)), (11, .int (nI (cR (hfB M w) 0 (i + 1)))), (10, .int (nI w)), (7, .int (nI (cR (kF M) 0 w))), (8, .int (nI (cR (rwB (rl M) (kF M)) 0 w))), (9, .int (nI (cR (cfB M (rl M) (kF M) (vF M)) 0 w))), (0, .ref z), (1, .ref (L 0)), (2, .ref (L 1)), (3, .ref (L 2)), (4, .ref (L 3)), (5, .ref (L 4)), (6, .ref ua)]
                rw [cZ_t (hfB_iff.mpr ⟨c51, c64⟩), hAt_0 (hfB_iff.mpr ⟨c51, c64⟩)]
                exact lv_sub hl [0, 1, 2, 4, 5, 6, 7, 8, 9, 10, 11, 12, 13, 14] rfl
              · omega
