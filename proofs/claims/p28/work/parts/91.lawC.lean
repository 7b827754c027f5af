set_option maxHeartbeats 8000000 in
set_option maxRecDepth 100000 in
theorem law_215 {p : Program} {e : Env} {s : State} {m : MethodId} {below : List Frame} {meth : Method} {c : Code} (l : Launch) {G : va_G} {cy : Nat → ClassId} {b Ln : Nat} {xs : Nat → Int32} (hLn : Ln ≤ 260) (C0 : lw_At p s m meth c b Ln xs) (hK : oK G cy s) {z : Nat} {q h x r y L : Nat → Nat} {A : Nat → Prop} (hA : ∀ q, s.heap.size ≤ q → A q) (hbA : ¬ A b) {ov : Nat → Nat} {kh : Nat} {d : Nat → Nat → Nat} {E : Nat → MT} {ru : Nat → Option Nat} {kn : Nat → Bool} {va : Nat → UInt32} {M : MT} {K cq sq : Nat} (hcq : cq ≤ 5000) (hsq : sq ≤ 50000) (hk4 : kh ≤ 4) (hI : SInv K M) (hK1 : 133 ≤ K) (hK2 : K ≤ 250) {H : Heap} {locs : List Loc} (hP : va_P G vwCl (LW cy z q h x r y L ov kh d E ru kn va M) H) (hD : va_D A (LW cy z q h x r y L ov kh d E ru kn va M)) (hS : va_S A s.heap H locs) {ls : Array Slot} {v : Int32} {i : Nat} (hi : i < 46) (h88 : K215 88 [(7, .int (nI (i + 1))), (0, .ref b), (1, .ref z), (2, .ref (L 0)), (3, .ref (L 1)), (4, .ref (L 2)), (5, .ref (L 3)), (6, .ref (L 4))] p l e s m below meth c G cy b z q h x r y L A (cq + 10) (sq + 10) K) (hl : lv_has ls 10 [(9, .int (nI 1)), (8, .int v), (7, .int (nI i)), (0, .ref b), (1, .ref z), (2, .ref (L 0)), (3, .ref (L 1)), (4, .ref (L 2)), (5, .ref (L 3)), (6, .ref (L 4))]) : W p l e room_1 s m #[Value.ref b] below meth c H locs cq sq (lw_Z below #[Value.ref b] s) (F0 m 215 ls []) := by
  obtain ⟨hx, hb, hr, hml, hown, hts0, hX, hbl, hlocks, hgv⟩ := C0
  have hown : s.vm.findClass RL = some m.cls := hown
  have hts : ∀ w ∈ wsL_law, w.before #[Value.ref b] s = true := fun w h => hts0 w (wsL_law_in w h)
  obtain ⟨hW, hF, hU, ⟨e0, he0, hT0, hB0⟩, hp0, hN, hM⟩ := id hI
  refine lv_iload hx hb dL_law_215 (lv_at hl 0 rfl) ?_
  refine o_if_eq (tgt := 261) hx hb dL_law_217 (by decide) (by omega) (fun c217 => ?_) (fun c217 => ?_)
  · exact absurd c217 (by decide)
  · refine lv_aload_n hx hb dL_law_220 rfl (lv_at hl 4 rfl) ?_
    refine lv_aload_n hx hb dL_law_221 rfl (lv_at hl 5 rfl) ?_
    refine lv_aload_n hx hb dL_law_222 rfl (lv_at hl 6 rfl) ?_
    refine lv_aload hx hb dL_law_223 (lv_at hl 7 rfl) ?_
    refine lv_aload hx hb dL_law_225 (lv_at hl 8 rfl) ?_
    refine lv_aload hx hb dL_law_227 (lv_at hl 9 rfl) ?_
    have hPc : va_P G vwCl ([oSy z q h x r y] ++ (wRe cy r (q 0) ru kn va ++ wDo cy q M) ++ wLa cy L M) H := bw_P hP
    have hDc : va_D A ([oSy z q h x r y] ++ (wRe cy r (q 0) ru kn va ++ wDo cy q M) ++ wLa cy L M) := bw_D hD
    have hFc := bz_F (sz := H.size) hDc hA hS.1
    refine va_calli (va_runS (As := [.ref z, .ref (L 0), .ref (L 1), .ref (L 2), .ref (L 3), .ref (L 4)]) (rest := []) ⟨hx, hb, hml, hown, hts⟩ (kL_areWords l G cy hW hF hU (by rw [hT0]; exact uN_fin (by omega)) hN hPc hDc) (va_cwS 6 hts gL_law_L_areWords rfl rfl rfl (by decide +kernel) ⟨Nat.le_of_ble_eq_true rfl, Nat.le_of_ble_eq_true rfl⟩) ⟨pR_blind, pR_at hK⟩ rfl rfl hl.1 rfl (lv_room (Nat.le_of_ble_eq_true rfl)) dL_law_229 ⟨(show cq + 1 ≤ 600000 by omega), (show sq + 1 ≤ 7302250 by omega)⟩) hS (fun q _ h => hFc q h) hFc (fun r_ u_ t_ H locs ht hvm hw_ hB hz1 hk1 hS => ?_)
    have hr_ : r_ = nI 1 := hw_
    subst hr_
    have hB : va_P G vwCl ([oSy z q h x r y] ++ (wRe cy r (q 0) (rl M) (kF M) (vF M) ++ wDo cy q M) ++ wLa cy L M) t_.heap := hB
    rw [ht] at hB
    obtain ⟨hP, hD⟩ := bw_J hP hD hk1 hFc hB (vd_same hDc.self rfl)
    have hP : va_P G vwCl (LW cy z q h x r y L ov kh d E (rl M) (kF M) (vF M) M) H := hP
    have hD : va_D A (LW cy z q h x r y L ov kh d E (rl M) (kF M) (vF M) M) := hD
    refine o_if_eq (tgt := 261) hx hb dL_law_232 (by decide) (by omega) (fun c232 => ?_) (fun c232 => ?_)
    · exact absurd c232 (by decide)
    · refine lv_aload_n hx hb dL_law_235 rfl (lv_at hl 4 rfl) ?_
      refine lv_aload_n hx hb dL_law_236 rfl (lv_at hl 5 rfl) ?_
      refine lv_aload_n hx hb dL_law_237 rfl (lv_at hl 6 rfl) ?_
      refine lv_aload hx hb dL_law_238 (lv_at hl 7 rfl) ?_
      refine lv_aload hx hb dL_law_240 (lv_at hl 8 rfl) ?_
      refine lv_aload hx hb dL_law_242 (lv_at hl 9 rfl) ?_
      have hPc : va_P G vwCl ([oSy z q h x r y] ++ (wRe cy r (q 0) (rl M) (kF M) (vF M) ++ wDo cy q M) ++ wLa cy L M) H := bw_P hP
      have hDc : va_D A ([oSy z q h x r y] ++ (wRe cy r (q 0) (rl M) (kF M) (vF M) ++ wDo cy q M) ++ wLa cy L M) := bw_D hD
      have hFc := bz_F (sz := H.size) hDc hA hS.1
      refine va_calli (va_runS (As := [.ref z, .ref (L 0), .ref (L 1), .ref (L 2), .ref (L 3), .ref (L 4)]) (rest := []) ⟨hx, hb, hml, hown, hts⟩ (kL_areOrders l G cy hW hF hU (by rw [hT0]; exact uN_fin (by omega)) hN hPc hDc (fun k => Mg_fin (hM k) (by omega))) (va_cwS 6 hts gL_law_L_areOrders rfl rfl rfl (by decide +kernel) ⟨Nat.le_of_ble_eq_true rfl, Nat.le_of_ble_eq_true rfl⟩) ⟨pR_blind, pR_at hK⟩ rfl rfl hl.1 rfl (lv_room (Nat.le_of_ble_eq_true rfl)) dL_law_244 ⟨(show cq + 1 + 1 ≤ 600000 by omega), (show sq + 1 + 1 ≤ 7302250 by omega)⟩) hS (fun q _ h => hFc q h) hFc (fun r_ u_ t_ H locs ht hvm hw_ hB hz1 hk1 hS => ?_)
      have hr_ : r_ = nI 1 := hw_
      subst hr_
      have hB : va_P G vwCl ([oSy z q h x r y] ++ (wRe cy r (q 0) (rl M) (kF M) (vF M) ++ wDo cy q M) ++ wLa cy L M) t_.heap := hB
      rw [ht] at hB
      obtain ⟨hP, hD⟩ := bw_J hP hD hk1 hFc hB (vd_same hDc.self rfl)
      have hP : va_P G vwCl (LW cy z q h x r y L ov kh d E (rl M) (kF M) (vF M) M) H := hP
      have hD : va_D A (LW cy z q h x r y L ov kh d E (rl M) (kF M) (vF M) M) := hD
      refine o_if_eq (tgt := 261) hx hb dL_law_247 (by decide) (by omega) (fun c247 => ?_) (fun c247 => ?_)
      · exact absurd c247 (by decide)
      · refine lv_aload_n hx hb dL_law_250 rfl (lv_at hl 4 rfl) ?_
        refine lv_aload_n hx hb dL_law_251 rfl (lv_at hl 5 rfl) ?_
        refine lv_aload_n hx hb dL_law_252 rfl (lv_at hl 6 rfl) ?_
        refine lv_aload hx hb dL_law_253 (lv_at hl 7 rfl) ?_
        have hPc : va_P G vwCl ([oSy z q h x r y] ++ (wRe cy r (q 0) (rl M) (kF M) (vF M) ++ wDo cy q M) ++ wLa cy L M) H := bw_P hP
        have hDc : va_D A ([oSy z q h x r y] ++ (wRe cy r (q 0) (rl M) (kF M) (vF M) ++ wDo cy q M) ++ wLa cy L M) := bw_D hD
        have hFc := bz_F (sz := H.size) hDc hA hS.1
        refine va_calli (va_runS (As := [.ref z, .ref (L 0), .ref (L 1), .ref (L 2)]) (rest := []) ⟨hx, hb, hml, hown, hts⟩ (kL_arePersons l G cy hW hF hU (by rw [hT0]; exact uN_fin (by omega)) hN hPc hDc hp0) (va_cwS 4 hts gL_law_L_arePersons rfl rfl rfl (by decide +kernel) ⟨Nat.le_of_ble_eq_true rfl, Nat.le_of_ble_eq_true rfl⟩) ⟨pR_blind, pR_at hK⟩ rfl rfl hl.1 rfl (lv_room (Nat.le_of_ble_eq_true rfl)) dL_law_255 ⟨(show cq + 1 + 1 + 0 ≤ 600000 by omega), (show sq + 1 + 1 + 0 ≤ 7302250 by omega)⟩) hS (fun q _ h => hFc q h) hFc (fun r_ u_ t_ H locs ht hvm hw_ hB hz1 hk1 hS => ?_)
        have hr_ : r_ = nI 1 := hw_
        subst hr_
        have hB : va_P G vwCl ([oSy z q h x r y] ++ (wRe cy r (q 0) (rl M) (kF M) (vF M) ++ wDo cy q M) ++ wLa cy L M) t_.heap := hB
        rw [ht] at hB
        obtain ⟨hP, hD⟩ := bw_J hP hD hk1 hFc hB (vd_same hDc.self rfl)
        have hP : va_P G vwCl (LW cy z q h x r y L ov kh d E (rl M) (kF M) (vF M) M) H := hP
        have hD : va_D A (LW cy z q h x r y L ov kh d E (rl M) (kF M) (vF M) M) := hD
        refine o_if_ne (tgt := 263) hx hb dL_law_258 (by decide) (by omega) (fun c258 => ?_) (fun c258 => ?_)
        · refine lv_iinc (v := nI (i + 1)) (lv' := [(7, .int (nI (i + 1))), (9, .int (nI 1)), (8, .int v), (0, .ref b), (1, .ref z), (2, .ref (L 0)), (3, .ref (L 1)), (4, .ref (L 2)), (5, .ref (L 3)), (6, .ref (L 4))]) hx hb dL_law_263 hl (k := 2) rfl (nI_1 i) (by decide) rfl (fun ls hl => ?_)
          refine lv_goto (tgt := 88) hx hb dL_law_266 (by decide) ?_
          exact W.widen (k := cq + 10) (n := sq + 10) (by omega) (by omega) (h88 ov kh d E (rl M) (kF M) (vF M) M _ _ _ hk4 hI hP hD hS (lv_sub hl [0, 3, 4, 5, 6, 7, 8, 9] rfl))
        · exact absurd c258 (by decide)

set_option maxHeartbeats 8000000 in
set_option maxRecDepth 100000 in
theorem law_88 {p : Program} {e : Env} {s : State} {m : MethodId} {below : List Frame} {meth : Method} {c : Code} (l : Launch) {G : va_G} {cy : Nat → ClassId} {b Ln : Nat} {xs : Nat → Int32} (hLn : Ln ≤ 260) (C0 : lw_At p s m meth c b Ln xs) (hK : oK G cy s) {z : Nat} {q h x r y L : Nat → Nat} {A : Nat → Prop} (hA : ∀ q, s.heap.size ≤ q → A q) (hbA : ¬ A b) {ov : Nat → Nat} {kh : Nat} {d : Nat → Nat → Nat} {E : Nat → MT} {ru : Nat → Option Nat} {kn : Nat → Bool} {va : Nat → UInt32} {M : MT} {K cq sq : Nat} (hcq : cq ≤ 5000) (hsq : sq ≤ 50000) (hk4 : kh ≤ 4) (hI : SInv K M) (hK1 : 133 ≤ K) (hK2 : K ≤ 250) {H : Heap} {locs : List Loc} (hP : va_P G vwCl (LW cy z q h x r y L ov kh d E ru kn va M) H) (hD : va_D A (LW cy z q h x r y L ov kh d E ru kn va M)) (hS : va_S A s.heap H locs) {ls : Array Slot} (hAs : ∀ q, A q → s.heap.size ≤ q) {i : Nat} (hi9 : i ≤ 46) (hK3 : K ≤ 240) (h88 : i < 46 → K215 88 [(7, .int (nI (i + 1))), (0, .ref b), (1, .ref z), (2, .ref (L 0)), (3, .ref (L 1)), (4, .ref (L 2)), (5, .ref (L 3)), (6, .ref (L 4))] p l e s m below meth c G cy b z q h x r y L A (cq + 10) (sq + 10) (K + 2)) (hl : lv_has ls 10 [(7, .int (nI i)), (0, .ref b), (1, .ref z), (2, .ref (L 0)), (3, .ref (L 1)), (4, .ref (L 2)), (5, .ref (L 3)), (6, .ref (L 4))]) : W p l e room_1 s m #[Value.ref b] below meth c H locs cq sq (lw_Z below #[Value.ref b] s) (F0 m 88 ls []) := by
  obtain ⟨hx, hb, hr, hml, hown, hts0, hX, hbl, hlocks, hgv⟩ := C0
  have hown : s.vm.findClass RL = some m.cls := hown
  have hts : ∀ w ∈ wsL_law, w.before #[Value.ref b] s = true := fun w h => hts0 w (wsL_law_in w h)
  obtain ⟨hW, hF, hU, ⟨e0, he0, hT0, hB0⟩, hp0, hN, hM⟩ := id hI
  have hC0 : lw_At p s m meth c b Ln xs := ⟨hx, hb, hr, hml, hown, hts0, hX, hbl, hlocks, hgv⟩
  refine lv_iload hx hb dL_law_88 (lv_at hl 0 rfl) ?_
  refine lv_bipush (v := nI 46) hx hb dL_law_90 (by decide +kernel) ?_
  refine o_icmp_ge (tgt := 269) hx hb dL_law_92 (by decide) (by omega) (by omega) (fun c92 => ?_) (fun c92 => ?_)
  · refine lv_iconst (v := nI 1) hx hb dL_law_269 (by decide +kernel) ?_
    exact (va_forget (fun q hq => hAs q.base (hS.2.2 q hq)) (W.widen (k := 600000) (n := 7302250) (by omega) (by omega) (lw_ret (d0 := s.drawn) (Drawn.sameBut.refl s.drawn lw_cs) hx hb hr hlocks dL_law_270)))
  · have hi : i < 46 := by omega
    have h88 := h88 hi
    have C0 := hC0
    refine lv_aload_n hx hb dL_law_95 rfl (lv_at hl 1 rfl) ?_
    refine lv_iload hx hb dL_law_96 (lv_at hl 0 rfl) ?_
    refine o_runA (va_runS (As := [.ref b, .int (nI (i))]) (rest := []) ⟨hx, hb, hml, hown, hts⟩ (kL_cell (H0 := H) (b := b) (Ln := Ln) (xs := xs) l (i) (by omega) (by omega) (Nat.lt_of_lt_of_le hbl hS.1)) (va_cwS 2 hts gL_law_L_cell rfl rfl rfl (by decide +kernel) ⟨Nat.le_of_ble_eq_true rfl, Nat.le_of_ble_eq_true rfl⟩) ⟨cell_blind, cell_at (hX.kept (hS.2.1 b hbl hbA))⟩ rfl rfl hl.1 rfl (lv_room (Nat.le_of_ble_eq_true rfl)) dL_law_98 ⟨(show cq + 0 ≤ 600000 by omega), (show sq + 0 ≤ 7302250 by omega)⟩) (fun v => ?_)
    refine lv_istore (lv' := [(8, .int v), (7, .int (nI i)), (0, .ref b), (1, .ref z), (2, .ref (L 0)), (3, .ref (L 1)), (4, .ref (L 2)), (5, .ref (L 3)), (6, .ref (L 4))]) hx hb dL_law_101 hl (by decide) rfl (fun ls hl => ?_)
    have k144 : ∀ ls : Array Slot, lv_has ls 10 [(8, .int v), (7, .int (nI i)), (0, .ref b), (1, .ref z), (2, .ref (L 0)), (3, .ref (L 1)), (4, .ref (L 2)), (5, .ref (L 3)), (6, .ref (L 4))] → W p l e room_1 s m #[Value.ref b] below meth c H locs cq sq (lw_Z below #[Value.ref b] s) (F0 m 144 ls []) := fun ls hl => law_144 l hLn C0 hK hA hbA hcq hsq hk4 hI hK1 hK2 hP hD hS v i hi (fun ov kh d E ru kn va M H locs ls hk4 hI hP hD hS hl => law_215 l hLn C0 hK hA hbA (by omega) (by omega) hk4 hI (by omega) (by omega) hP hD hS hi h88 hl) hl
    have k160 : ∀ ls : Array Slot, lv_has ls 10 [(8, .int v), (7, .int (nI i)), (0, .ref b), (1, .ref z), (2, .ref (L 0)), (3, .ref (L 1)), (4, .ref (L 2)), (5, .ref (L 3)), (6, .ref (L 4))] → W p l e room_1 s m #[Value.ref b] below meth c H locs cq sq (lw_Z below #[Value.ref b] s) (F0 m 160 ls []) := fun ls hl => law_160 l hLn C0 hK hA hbA hcq hsq hk4 hI hK1 hK2 hP hD hS v i hi (fun ov kh d E ru kn va M H locs ls hk4 hI hP hD hS hl => law_215 l hLn C0 hK hA hbA (by omega) (by omega) hk4 hI (by omega) (by omega) hP hD hS hi h88 hl) hl
    have k176 : ∀ ls : Array Slot, lv_has ls 10 [(8, .int v), (7, .int (nI i)), (0, .ref b), (1, .ref z), (2, .ref (L 0)), (3, .ref (L 1)), (4, .ref (L 2)), (5, .ref (L 3)), (6, .ref (L 4))] → W p l e room_1 s m #[Value.ref b] below meth c H locs cq sq (lw_Z below #[Value.ref b] s) (F0 m 176 ls []) := fun ls hl => law_176 l hLn C0 hK hA hbA hcq hsq hk4 hI hK1 hK2 hP hD hS v i hi (fun ov kh d E ru kn va M H locs ls hk4 hI hP hD hS hl => law_215 l hLn C0 hK hA hbA (by omega) (by omega) hk4 hI (by omega) (by omega) hP hD hS hi h88 hl) hl
    have k191 : ∀ ls : Array Slot, lv_has ls 10 [(8, .int v), (7, .int (nI i)), (0, .ref b), (1, .ref z), (2, .ref (L 0)), (3, .ref (L 1)), (4, .ref (L 2)), (5, .ref (L 3)), (6, .ref (L 4))] → W p l e room_1 s m #[Value.ref b] below meth c H locs cq sq (lw_Z below #[Value.ref b] s) (F0 m 191 ls []) := fun ls hl => law_191 l hLn C0 hK hA hbA hcq hsq hk4 hI hK1 hK2 hP hD hS v i hi (fun ov kh d E ru kn va M H locs ls hk4 hI hP hD hS hl => law_215 l hLn C0 hK hA hbA (by omega) (by omega) hk4 hI (by omega) (by omega) hP hD hS hi h88 hl) hl
    refine lv_iload hx hb dL_law_103 (lv_at hl 0 rfl) ?_
    refine lv_bipush (v := nI 26) hx hb dL_law_105 (by decide +kernel) ?_
    refine lv_ishr hx hb dL_law_107 ?_
    rw [show v >>> (nI 26 &&& 31) = v >>> (nI 26 &&& 31) from rfl]
    refine lv_bipush (v := nI 9) hx hb dL_law_108 (by decide +kernel) ?_
    refine o_SI (As := [.int (v >>> (nI 26 &&& 31)), .int (nI 9)]) (rest := []) ⟨hx, hb, hml, hown, hts⟩ (kL_low l G cy (v >>> (nI 26 &&& 31)) 9 (by decide) (by decide)) (va_cwS 2 hts gL_law_L_low rfl rfl rfl (by decide +kernel) ⟨Nat.le_of_ble_eq_true rfl, Nat.le_of_ble_eq_true rfl⟩) hK rfl hl.1 rfl (Nat.le_of_ble_eq_true rfl) dL_law_110 ⟨(show cq + 0 ≤ 600000 by omega), (show sq + 0 ≤ 7302250 by omega)⟩ ?_
    have ht9 : lwN (v >>> (nI 26 &&& 31)) % 9 < 9 := Nat.mod_lt _ (by decide)
    generalize lwN (v >>> (nI 26 &&& 31)) % 9 = t at ht9 ⊢
    rcases (show t = 0 ∨ t = 1 ∨ t = 2 ∨ t = 3 ∨ t = 4 ∨ t = 5 ∨ t = 6 ∨ t = 7 ∨ t = 8 by omega) with rfl | rfl | rfl | rfl | rfl | rfl | rfl | rfl | rfl
    · refine lv_tableIn (x := nI 0) (off := 31) (tgt := 144) hx hb dL_law_113 (by decide +kernel) (by decide +kernel) (by decide +kernel) (by decide) ?_
      exact k144 ls hl
    · refine lv_tableIn (x := nI 1) (off := 47) (tgt := 160) hx hb dL_law_113 (by decide +kernel) (by decide +kernel) (by decide +kernel) (by decide) ?_
      exact k160 ls hl
    · refine lv_tableIn (x := nI 2) (off := 63) (tgt := 176) hx hb dL_law_113 (by decide +kernel) (by decide +kernel) (by decide +kernel) (by decide) ?_
      exact k176 ls hl
    · refine lv_tableIn (x := nI 3) (off := 63) (tgt := 176) hx hb dL_law_113 (by decide +kernel) (by decide +kernel) (by decide +kernel) (by decide) ?_
      exact k176 ls hl
    · refine lv_tableOut (x := nI 4) (tgt := 191) hx hb dL_law_113 (by decide +kernel) (by decide) ?_
      exact k191 ls hl
    · refine lv_tableOut (x := nI 5) (tgt := 191) hx hb dL_law_113 (by decide +kernel) (by decide) ?_
      exact k191 ls hl
    · refine lv_tableOut (x := nI 6) (tgt := 191) hx hb dL_law_113 (by decide +kernel) (by decide) ?_
      exact k191 ls hl
    · refine lv_tableOut (x := nI 7) (tgt := 191) hx hb dL_law_113 (by decide +kernel) (by decide) ?_
      exact k191 ls hl
    · refine lv_tableOut (x := nI 8) (tgt := 191) hx hb dL_law_113 (by decide +kernel) (by decide) ?_
      exact k191 ls hl
