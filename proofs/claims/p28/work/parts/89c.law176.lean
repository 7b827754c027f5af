set_option maxHeartbeats 8000000 in
set_option maxRecDepth 100000 in
theorem law_176 {p : Program} {e : Env} {s : State} {m : MethodId} {below : List Frame} {meth : Method} {c : Code} (l : Launch) {G : va_G} {cy : Nat → ClassId} {b Ln : Nat} {xs : Nat → Int32} (hLn : Ln ≤ 260) (C0 : lw_At p s m meth c b Ln xs) (hK : oK G cy s) {z : Nat} {q h x r y L : Nat → Nat} {A : Nat → Prop} (hA : ∀ q, s.heap.size ≤ q → A q) (hbA : ¬ A b) {ov : Nat → Nat} {kh : Nat} {d : Nat → Nat → Nat} {E : Nat → MT} {ru : Nat → Option Nat} {kn : Nat → Bool} {va : Nat → UInt32} {M : MT} {K cq sq : Nat} (hcq : cq ≤ 5000) (hsq : sq ≤ 50000) (hk4 : kh ≤ 4) (hI : SInv K M) (hK1 : 133 ≤ K) (hK2 : K ≤ 250) {H : Heap} {locs : List Loc} (hP : va_P G vwCl (LW cy z q h x r y L ov kh d E ru kn va M) H) (hD : va_D A (LW cy z q h x r y L ov kh d E ru kn va M)) (hS : va_S A s.heap H locs) {ls : Array Slot} (v : Int32) (i : Nat) (hi : i < 46) (h215 : K215 215 [(9, .int (nI 1)), (8, .int v), (7, .int (nI i)), (0, .ref b), (1, .ref z), (2, .ref (L 0)), (3, .ref (L 1)), (4, .ref (L 2)), (5, .ref (L 3)), (6, .ref (L 4))] p l e s m below meth c G cy b z q h x r y L A cq sq (K + 2)) (hl : lv_has ls 10 [(8, .int v), (7, .int (nI i)), (0, .ref b), (1, .ref z), (2, .ref (L 0)), (3, .ref (L 1)), (4, .ref (L 2)), (5, .ref (L 3)), (6, .ref (L 4))]) : W p l e room_1 s m #[Value.ref b] below meth c H locs cq sq (lw_Z below #[Value.ref b] s) (F0 m 176 ls []) := by
  obtain ⟨hx, hb, hr, hml, hown, hts0, hX, hbl, hlocks, hgv⟩ := C0
  have hown : s.vm.findClass RL = some m.cls := hown
  have hts : ∀ w ∈ wsL_law, w.before #[Value.ref b] s = true := fun w h => hts0 w (wsL_law_in w h)
  obtain ⟨hW, hF, hU, ⟨e0, he0, hT0, hB0⟩, hp0, hN, hM⟩ := id hI
  have heT : (lwN v % (if lwN (v >>> (nI 16 &&& 31)) % 2 = 0 then 801 else 30)) ≤ 800 := Nat.le_of_lt_succ (Nat.lt_of_lt_of_le (Nat.mod_lt _ (by split <;> decide)) (by split <;> decide))
  rcases Classical.em (lwN (v >>> (nI 12 &&& 31)) % 3 = 0) with h12 | h12
  · refine lv_aload_n hx hb dL_law_176 rfl (lv_at hl 3 rfl) ?_
    rcases Classical.em (e0 = (lwN v % (if lwN (v >>> (nI 16 &&& 31)) % 2 = 0 then 801 else 30))) with hs | hs
    · refine lv_aload_n hx hb dL_law_177 rfl (lv_at hl 4 rfl) ?_
      refine lv_aload_n hx hb dL_law_178 rfl (lv_at hl 5 rfl) ?_
      refine lv_aload hx hb dL_law_179 (lv_at hl 8 rfl) ?_
      refine lv_iload hx hb dL_law_181 (lv_at hl 0 rfl) ?_
      have hPc : va_P G vwCl ([oSy z q h x r y] ++ (wHi cy h kh d E ++ (wDo cy q M ++ (wRe cy r (q 0) ru kn va ++ wLa cy L M)))) H := bt_P hP
      have hDc : va_D A ([oSy z q h x r y] ++ (wHi cy h kh d E ++ (wDo cy q M ++ (wRe cy r (q 0) ru kn va ++ wLa cy L M)))) := bt_D hD
      have hFc := bz_F (sz := H.size) hDc hA hS.1
      refine va_calli (va_runS (As := [.ref z, .ref (L 0), .ref (L 1), .ref (L 4), .int v]) (rest := []) ⟨hx, hb, hml, hown, hts⟩ (kL_isRanked_ts l G cy hk4 hW hF hPc hDc v e0 (lwN v % (if lwN (v >>> (nI 16 &&& 31)) % 2 = 0 then 801 else 30)) h12 rfl he0 hT0 hB0 hs) (va_cwS 5 hts gL_law_L_isRanked rfl rfl rfl (by decide +kernel) ⟨Nat.le_of_ble_eq_true rfl, Nat.le_of_ble_eq_true rfl⟩) ⟨pR_blind, pR_at hK⟩ rfl rfl hl.1 rfl (lv_room (Nat.le_of_ble_eq_true rfl)) dL_law_183 ⟨(show cq + 0 ≤ 600000 by omega), (show sq + 0 ≤ 7302250 by omega)⟩) hS (fun q _ h => hFc q h) hFc (fun r_ u_ t_ H locs ht hvm hw_ hB hz1 hk1 hS => ?_)
      obtain ⟨k1, d1, E1⟩ := u_
      obtain ⟨hr_, hk5⟩ := hw_
      have hk5 : k1 ≤ 4 := hk5
      have hr_ : r_ = nI 1 := hr_
      subst hr_
      have hB : va_P G vwCl ([oSy z q h x r y] ++ (wHi cy h k1 d1 E1 ++ (wDo cy q M ++ (wRe cy r (q 0) (rl M) (kF M) (vF M) ++ wLa cy L M)))) t_.heap ∧ va_D (va_A ([oSy z q h x r y] ++ (wHi cy h kh d E ++ (wDo cy q M ++ (wRe cy r (q 0) ru kn va ++ wLa cy L M)))) _) ([oSy z q h x r y] ++ (wHi cy h k1 d1 E1 ++ (wDo cy q M ++ (wRe cy r (q 0) (rl M) (kF M) (vF M) ++ wLa cy L M)))) := hB
      rw [ht] at hB
      obtain ⟨hP1, hD1⟩ := hB
      obtain ⟨hP, hD⟩ := bt_J hP hD hk1 hFc hP1 hD1
      have hP : va_P G vwCl (LW cy z q h x r y L ov k1 d1 E1 (rl M) (kF M) (vF M) M) H := hP
      have hD : va_D A (LW cy z q h x r y L ov k1 d1 E1 (rl M) (kF M) (vF M) M) := hD
      refine lv_istore (lv' := [(9, .int (nI 1)), (8, .int v), (7, .int (nI i)), (0, .ref b), (1, .ref z), (2, .ref (L 0)), (3, .ref (L 1)), (4, .ref (L 2)), (5, .ref (L 3)), (6, .ref (L 4))]) hx hb dL_law_186 hl (by decide) rfl (fun ls hl => ?_)
      refine lv_goto (tgt := 215) hx hb dL_law_188 (by decide) ?_
      exact h215 ov k1 d1 E1 (rl M) (kF M) (vF M) M _ _ _ hk5 (SInv_up hI) hP hD hS (by first | exact hl | exact lv_sub hl [0, 1, 2, 3, 4, 5, 6, 7, 8, 9] rfl)
    · refine lv_aload_n hx hb dL_law_177 rfl (lv_at hl 4 rfl) ?_
      refine lv_aload_n hx hb dL_law_178 rfl (lv_at hl 5 rfl) ?_
      refine lv_aload hx hb dL_law_179 (lv_at hl 8 rfl) ?_
      refine lv_iload hx hb dL_law_181 (lv_at hl 0 rfl) ?_
      have hPc : va_P G vwCl ([oSy z q h x r y] ++ (wHi cy h kh d E ++ (wDo cy q M ++ (wRe cy r (q 0) ru kn va ++ wLa cy L M)))) H := bt_P hP
      have hDc : va_D A ([oSy z q h x r y] ++ (wHi cy h kh d E ++ (wDo cy q M ++ (wRe cy r (q 0) ru kn va ++ wLa cy L M)))) := bt_D hD
      have hFc := bz_F (sz := H.size) hDc hA hS.1
      refine va_calli (va_runS (As := [.ref z, .ref (L 0), .ref (L 1), .ref (L 4), .int v]) (rest := []) ⟨hx, hb, hml, hown, hts⟩ (kL_isRanked_tn l G cy hk4 hW hF hPc hDc v e0 (lwN v % (if lwN (v >>> (nI 16 &&& 31)) % 2 = 0 then 801 else 30)) h12 rfl he0 hT0 hB0 hs) (va_cwS 5 hts gL_law_L_isRanked rfl rfl rfl (by decide +kernel) ⟨Nat.le_of_ble_eq_true rfl, Nat.le_of_ble_eq_true rfl⟩) ⟨pR_blind, pR_at hK⟩ rfl rfl hl.1 rfl (lv_room (Nat.le_of_ble_eq_true rfl)) dL_law_183 ⟨(show cq + 0 ≤ 600000 by omega), (show sq + 0 ≤ 7302250 by omega)⟩) hS (fun q _ h => hFc q h) hFc (fun r_ u_ t_ H locs ht hvm hw_ hB hz1 hk1 hS => ?_)
      obtain ⟨k1, d1, E1⟩ := u_
      obtain ⟨hr_, hk5⟩ := hw_
      have hk5 : k1 ≤ 4 := hk5
      have hr_ : r_ = nI 1 := hr_
      subst hr_
      have hB : va_P G vwCl ([oSy z q h x r y] ++ (wHi cy h k1 d1 E1 ++ (wDo cy q (told M (nI (bN (lwN v % (if lwN (v >>> (nI 16 &&& 31)) % 2 = 0 then 801 else 30)))) (tfl (nI (bN (lwN v % (if lwN (v >>> (nI 16 &&& 31)) % 2 = 0 then 801 else 30)))))) ++ (wRe cy r (q 0) (rl (told M (nI (bN (lwN v % (if lwN (v >>> (nI 16 &&& 31)) % 2 = 0 then 801 else 30)))) (tfl (nI (bN (lwN v % (if lwN (v >>> (nI 16 &&& 31)) % 2 = 0 then 801 else 30))))))) (kF (told M (nI (bN (lwN v % (if lwN (v >>> (nI 16 &&& 31)) % 2 = 0 then 801 else 30)))) (tfl (nI (bN (lwN v % (if lwN (v >>> (nI 16 &&& 31)) % 2 = 0 then 801 else 30))))))) (vF (told M (nI (bN (lwN v % (if lwN (v >>> (nI 16 &&& 31)) % 2 = 0 then 801 else 30)))) (tfl (nI (bN (lwN v % (if lwN (v >>> (nI 16 &&& 31)) % 2 = 0 then 801 else 30))))))) ++ wLa cy L (told M (nI (bN (lwN v % (if lwN (v >>> (nI 16 &&& 31)) % 2 = 0 then 801 else 30)))) (tfl (nI (bN (lwN v % (if lwN (v >>> (nI 16 &&& 31)) % 2 = 0 then 801 else 30)))))))))) t_.heap ∧ va_D (va_A ([oSy z q h x r y] ++ (wHi cy h kh d E ++ (wDo cy q M ++ (wRe cy r (q 0) ru kn va ++ wLa cy L M)))) _) ([oSy z q h x r y] ++ (wHi cy h k1 d1 E1 ++ (wDo cy q (told M (nI (bN (lwN v % (if lwN (v >>> (nI 16 &&& 31)) % 2 = 0 then 801 else 30)))) (tfl (nI (bN (lwN v % (if lwN (v >>> (nI 16 &&& 31)) % 2 = 0 then 801 else 30)))))) ++ (wRe cy r (q 0) (rl (told M (nI (bN (lwN v % (if lwN (v >>> (nI 16 &&& 31)) % 2 = 0 then 801 else 30)))) (tfl (nI (bN (lwN v % (if lwN (v >>> (nI 16 &&& 31)) % 2 = 0 then 801 else 30))))))) (kF (told M (nI (bN (lwN v % (if lwN (v >>> (nI 16 &&& 31)) % 2 = 0 then 801 else 30)))) (tfl (nI (bN (lwN v % (if lwN (v >>> (nI 16 &&& 31)) % 2 = 0 then 801 else 30))))))) (vF (told M (nI (bN (lwN v % (if lwN (v >>> (nI 16 &&& 31)) % 2 = 0 then 801 else 30)))) (tfl (nI (bN (lwN v % (if lwN (v >>> (nI 16 &&& 31)) % 2 = 0 then 801 else 30))))))) ++ wLa cy L (told M (nI (bN (lwN v % (if lwN (v >>> (nI 16 &&& 31)) % 2 = 0 then 801 else 30)))) (tfl (nI (bN (lwN v % (if lwN (v >>> (nI 16 &&& 31)) % 2 = 0 then 801 else 30)))))))))) := hB
      rw [ht] at hB
      obtain ⟨hP1, hD1⟩ := hB
      obtain ⟨hP, hD⟩ := bt_J hP hD hk1 hFc hP1 hD1
      have hP : va_P G vwCl (LW cy z q h x r y L ov k1 d1 E1 (rl (told M (nI (bN (lwN v % (if lwN (v >>> (nI 16 &&& 31)) % 2 = 0 then 801 else 30)))) (tfl (nI (bN (lwN v % (if lwN (v >>> (nI 16 &&& 31)) % 2 = 0 then 801 else 30))))))) (kF (told M (nI (bN (lwN v % (if lwN (v >>> (nI 16 &&& 31)) % 2 = 0 then 801 else 30)))) (tfl (nI (bN (lwN v % (if lwN (v >>> (nI 16 &&& 31)) % 2 = 0 then 801 else 30))))))) (vF (told M (nI (bN (lwN v % (if lwN (v >>> (nI 16 &&& 31)) % 2 = 0 then 801 else 30)))) (tfl (nI (bN (lwN v % (if lwN (v >>> (nI 16 &&& 31)) % 2 = 0 then 801 else 30))))))) (told M (nI (bN (lwN v % (if lwN (v >>> (nI 16 &&& 31)) % 2 = 0 then 801 else 30)))) (tfl (nI (bN (lwN v % (if lwN (v >>> (nI 16 &&& 31)) % 2 = 0 then 801 else 30))))))) H := hP
      have hD : va_D A (LW cy z q h x r y L ov k1 d1 E1 (rl (told M (nI (bN (lwN v % (if lwN (v >>> (nI 16 &&& 31)) % 2 = 0 then 801 else 30)))) (tfl (nI (bN (lwN v % (if lwN (v >>> (nI 16 &&& 31)) % 2 = 0 then 801 else 30))))))) (kF (told M (nI (bN (lwN v % (if lwN (v >>> (nI 16 &&& 31)) % 2 = 0 then 801 else 30)))) (tfl (nI (bN (lwN v % (if lwN (v >>> (nI 16 &&& 31)) % 2 = 0 then 801 else 30))))))) (vF (told M (nI (bN (lwN v % (if lwN (v >>> (nI 16 &&& 31)) % 2 = 0 then 801 else 30)))) (tfl (nI (bN (lwN v % (if lwN (v >>> (nI 16 &&& 31)) % 2 = 0 then 801 else 30))))))) (told M (nI (bN (lwN v % (if lwN (v >>> (nI 16 &&& 31)) % 2 = 0 then 801 else 30)))) (tfl (nI (bN (lwN v % (if lwN (v >>> (nI 16 &&& 31)) % 2 = 0 then 801 else 30))))))) := hD
      refine lv_istore (lv' := [(9, .int (nI 1)), (8, .int v), (7, .int (nI i)), (0, .ref b), (1, .ref z), (2, .ref (L 0)), (3, .ref (L 1)), (4, .ref (L 2)), (5, .ref (L 3)), (6, .ref (L 4))]) hx hb dL_law_186 hl (by decide) rfl (fun ls hl => ?_)
      refine lv_goto (tgt := 215) hx hb dL_law_188 (by decide) ?_
      exact h215 ov k1 d1 E1 (rl (told M (nI (bN (lwN v % (if lwN (v >>> (nI 16 &&& 31)) % 2 = 0 then 801 else 30)))) (tfl (nI (bN (lwN v % (if lwN (v >>> (nI 16 &&& 31)) % 2 = 0 then 801 else 30))))))) (kF (told M (nI (bN (lwN v % (if lwN (v >>> (nI 16 &&& 31)) % 2 = 0 then 801 else 30)))) (tfl (nI (bN (lwN v % (if lwN (v >>> (nI 16 &&& 31)) % 2 = 0 then 801 else 30))))))) (vF (told M (nI (bN (lwN v % (if lwN (v >>> (nI 16 &&& 31)) % 2 = 0 then 801 else 30)))) (tfl (nI (bN (lwN v % (if lwN (v >>> (nI 16 &&& 31)) % 2 = 0 then 801 else 30))))))) (told M (nI (bN (lwN v % (if lwN (v >>> (nI 16 &&& 31)) % 2 = 0 then 801 else 30)))) (tfl (nI (bN (lwN v % (if lwN (v >>> (nI 16 &&& 31)) % 2 = 0 then 801 else 30)))))) _ _ _ hk5 (SInv_told hI heT) hP hD hS (by first | exact hl | exact lv_sub hl [0, 1, 2, 3, 4, 5, 6, 7, 8, 9] rfl)
  · refine lv_aload_n hx hb dL_law_176 rfl (lv_at hl 3 rfl) ?_
    rcases Classical.em (lwN (v >>> (nI 12 &&& 31)) % 3 = 1 ∧ mP M < 6) with ha | ha
    · refine lv_aload_n hx hb dL_law_177 rfl (lv_at hl 4 rfl) ?_
      refine lv_aload_n hx hb dL_law_178 rfl (lv_at hl 5 rfl) ?_
      refine lv_aload hx hb dL_law_179 (lv_at hl 8 rfl) ?_
      refine lv_iload hx hb dL_law_181 (lv_at hl 0 rfl) ?_
      have hPc : va_P G vwCl ([oSy z q h x r y] ++ (wHi cy h kh d E ++ (wDo cy q M ++ wLa cy L M))) H := bm_P hP
      have hDc : va_D A ([oSy z q h x r y] ++ (wHi cy h kh d E ++ (wDo cy q M ++ wLa cy L M))) := bm_D hD
      have hFc := bz_F (sz := H.size) hDc hA hS.1
      refine va_calli (va_runS (As := [.ref z, .ref (L 0), .ref (L 1), .ref (L 4), .int v]) (rest := []) ⟨hx, hb, hml, hown, hts⟩ (kL_isRanked_a l G cy hk4 hW hN hPc hDc (1 + lwN (v >>> (nI 3 &&& 31)) % 5) v ha.1 rfl ha.2) (va_cwS 5 hts gL_law_L_isRanked rfl rfl rfl (by decide +kernel) ⟨Nat.le_of_ble_eq_true rfl, Nat.le_of_ble_eq_true rfl⟩) ⟨pR_blind, pR_at hK⟩ rfl rfl hl.1 rfl (lv_room (Nat.le_of_ble_eq_true rfl)) dL_law_183 ⟨(show cq + 0 ≤ 600000 by omega), (show sq + 0 ≤ 7302250 by omega)⟩) hS (fun q _ h => hFc q h) hFc (fun r_ u_ t_ H locs ht hvm hw_ hB hz1 hk1 hS => ?_)
      obtain ⟨k1, d1, E1⟩ := u_
      obtain ⟨hr_, hk5⟩ := hw_
      have hk5 : k1 ≤ 4 := hk5
      have hr_ : r_ = nI 1 := hr_
      subst hr_
      have hB : va_P G vwCl ([oSy z q h x r y] ++ (wHi cy h k1 d1 E1 ++ (wDo cy q (added M (1 + lwN (v >>> (nI 3 &&& 31)) % 5)) ++ wLa cy L (added M (1 + lwN (v >>> (nI 3 &&& 31)) % 5))))) t_.heap ∧ va_D (va_A ([oSy z q h x r y] ++ (wHi cy h kh d E ++ (wDo cy q M ++ wLa cy L M))) _) ([oSy z q h x r y] ++ (wHi cy h k1 d1 E1 ++ (wDo cy q (added M (1 + lwN (v >>> (nI 3 &&& 31)) % 5)) ++ wLa cy L (added M (1 + lwN (v >>> (nI 3 &&& 31)) % 5))))) := hB
      rw [ht] at hB
      obtain ⟨hP1, hD1⟩ := hB
      obtain ⟨hP, hD⟩ := bm_J hP hD hk1 hFc hP1 hD1
      have hP : va_P G vwCl (LW cy z q h x r y L ov k1 d1 E1 ru kn va (added M (1 + lwN (v >>> (nI 3 &&& 31)) % 5))) H := hP
      have hD : va_D A (LW cy z q h x r y L ov k1 d1 E1 ru kn va (added M (1 + lwN (v >>> (nI 3 &&& 31)) % 5))) := hD
      refine lv_istore (lv' := [(9, .int (nI 1)), (8, .int v), (7, .int (nI i)), (0, .ref b), (1, .ref z), (2, .ref (L 0)), (3, .ref (L 1)), (4, .ref (L 2)), (5, .ref (L 3)), (6, .ref (L 4))]) hx hb dL_law_186 hl (by decide) rfl (fun ls hl => ?_)
      refine lv_goto (tgt := 215) hx hb dL_law_188 (by decide) ?_
      exact h215 ov k1 d1 E1 ru kn va (added M (1 + lwN (v >>> (nI 3 &&& 31)) % 5)) _ _ _ hk5 (SInv_added hI (by omega) ha.2) hP hD hS (by first | exact hl | exact lv_sub hl [0, 1, 2, 3, 4, 5, 6, 7, 8, 9] rfl)
    · refine lv_aload_n hx hb dL_law_177 rfl (lv_at hl 4 rfl) ?_
      rcases Classical.em (mR M (lwN v % mP M) = (1 + lwN (v >>> (nI 3 &&& 31)) % 5)) with hmr | hmr
      · refine lv_aload_n hx hb dL_law_178 rfl (lv_at hl 5 rfl) ?_
        refine lv_aload hx hb dL_law_179 (lv_at hl 8 rfl) ?_
        refine lv_iload hx hb dL_law_181 (lv_at hl 0 rfl) ?_
        have hPc : va_P G vwCl ([oSy z q h x r y] ++ (wHi cy h kh d E ++ (wDo cy q M ++ wLa cy L M))) H := bm_P hP
        have hDc : va_D A ([oSy z q h x r y] ++ (wHi cy h kh d E ++ (wDo cy q M ++ wLa cy L M))) := bm_D hD
        have hFc := bz_F (sz := H.size) hDc hA hS.1
        refine va_calli (va_runS (As := [.ref z, .ref (L 0), .ref (L 1), .ref (L 4), .int v]) (rest := []) ⟨hx, hb, hml, hown, hts⟩ (kL_isRanked_n l G cy hk4 hW hN hPc hDc (1 + lwN (v >>> (nI 3 &&& 31)) % 5) (lwN v % mP M) v h12 rfl ha hp0 rfl hmr) (va_cwS 5 hts gL_law_L_isRanked rfl rfl rfl (by decide +kernel) ⟨Nat.le_of_ble_eq_true rfl, Nat.le_of_ble_eq_true rfl⟩) ⟨pR_blind, pR_at hK⟩ rfl rfl hl.1 rfl (lv_room (Nat.le_of_ble_eq_true rfl)) dL_law_183 ⟨(show cq + 0 ≤ 600000 by omega), (show sq + 0 ≤ 7302250 by omega)⟩) hS (fun q _ h => hFc q h) hFc (fun r_ u_ t_ H locs ht hvm hw_ hB hz1 hk1 hS => ?_)
        obtain ⟨k1, d1, E1⟩ := u_
        obtain ⟨hr_, hk5⟩ := hw_
        have hk5 : k1 ≤ 4 := hk5
        have hr_ : r_ = nI 1 := hr_
        subst hr_
        have hB : va_P G vwCl ([oSy z q h x r y] ++ (wHi cy h k1 d1 E1 ++ (wDo cy q M ++ wLa cy L M))) t_.heap ∧ va_D (va_A ([oSy z q h x r y] ++ (wHi cy h kh d E ++ (wDo cy q M ++ wLa cy L M))) _) ([oSy z q h x r y] ++ (wHi cy h k1 d1 E1 ++ (wDo cy q M ++ wLa cy L M))) := hB
        rw [ht] at hB
        obtain ⟨hP1, hD1⟩ := hB
        obtain ⟨hP, hD⟩ := bm_J hP hD hk1 hFc hP1 hD1
        have hP : va_P G vwCl (LW cy z q h x r y L ov k1 d1 E1 ru kn va M) H := hP
        have hD : va_D A (LW cy z q h x r y L ov k1 d1 E1 ru kn va M) := hD
        refine lv_istore (lv' := [(9, .int (nI 1)), (8, .int v), (7, .int (nI i)), (0, .ref b), (1, .ref z), (2, .ref (L 0)), (3, .ref (L 1)), (4, .ref (L 2)), (5, .ref (L 3)), (6, .ref (L 4))]) hx hb dL_law_186 hl (by decide) rfl (fun ls hl => ?_)
        refine lv_goto (tgt := 215) hx hb dL_law_188 (by decide) ?_
        exact h215 ov k1 d1 E1 ru kn va M _ _ _ hk5 (SInv_up hI) hP hD hS (by first | exact hl | exact lv_sub hl [0, 1, 2, 3, 4, 5, 6, 7, 8, 9] rfl)
      · refine lv_aload_n hx hb dL_law_178 rfl (lv_at hl 5 rfl) ?_
        refine lv_aload hx hb dL_law_179 (lv_at hl 8 rfl) ?_
        refine lv_iload hx hb dL_law_181 (lv_at hl 0 rfl) ?_
        have hPc : va_P G vwCl ([oSy z q h x r y] ++ (wHi cy h kh d E ++ (wDo cy q M ++ wLa cy L M))) H := bm_P hP
        have hDc : va_D A ([oSy z q h x r y] ++ (wHi cy h kh d E ++ (wDo cy q M ++ wLa cy L M))) := bm_D hD
        have hFc := bz_F (sz := H.size) hDc hA hS.1
        refine va_calli (va_runS (As := [.ref z, .ref (L 0), .ref (L 1), .ref (L 4), .int v]) (rest := []) ⟨hx, hb, hml, hown, hts⟩ (kL_isRanked_r l G cy hk4 hW hN hPc hDc (1 + lwN (v >>> (nI 3 &&& 31)) % 5) (lwN v % mP M) v h12 rfl ha hp0 rfl hmr) (va_cwS 5 hts gL_law_L_isRanked rfl rfl rfl (by decide +kernel) ⟨Nat.le_of_ble_eq_true rfl, Nat.le_of_ble_eq_true rfl⟩) ⟨pR_blind, pR_at hK⟩ rfl rfl hl.1 rfl (lv_room (Nat.le_of_ble_eq_true rfl)) dL_law_183 ⟨(show cq + 0 ≤ 600000 by omega), (show sq + 0 ≤ 7302250 by omega)⟩) hS (fun q _ h => hFc q h) hFc (fun r_ u_ t_ H locs ht hvm hw_ hB hz1 hk1 hS => ?_)
        obtain ⟨k1, d1, E1⟩ := u_
        obtain ⟨hr_, hk5⟩ := hw_
        have hk5 : k1 ≤ 4 := hk5
        have hr_ : r_ = nI 1 := hr_
        subst hr_
        have hB : va_P G vwCl ([oSy z q h x r y] ++ (wHi cy h k1 d1 E1 ++ (wDo cy q (ranked M (lwN v % mP M) (1 + lwN (v >>> (nI 3 &&& 31)) % 5)) ++ wLa cy L (ranked M (lwN v % mP M) (1 + lwN (v >>> (nI 3 &&& 31)) % 5))))) t_.heap ∧ va_D (va_A ([oSy z q h x r y] ++ (wHi cy h kh d E ++ (wDo cy q M ++ wLa cy L M))) _) ([oSy z q h x r y] ++ (wHi cy h k1 d1 E1 ++ (wDo cy q (ranked M (lwN v % mP M) (1 + lwN (v >>> (nI 3 &&& 31)) % 5)) ++ wLa cy L (ranked M (lwN v % mP M) (1 + lwN (v >>> (nI 3 &&& 31)) % 5))))) := hB
        rw [ht] at hB
        obtain ⟨hP1, hD1⟩ := hB
        obtain ⟨hP, hD⟩ := bm_J hP hD hk1 hFc hP1 hD1
        have hP : va_P G vwCl (LW cy z q h x r y L ov k1 d1 E1 ru kn va (ranked M (lwN v % mP M) (1 + lwN (v >>> (nI 3 &&& 31)) % 5))) H := hP
        have hD : va_D A (LW cy z q h x r y L ov k1 d1 E1 ru kn va (ranked M (lwN v % mP M) (1 + lwN (v >>> (nI 3 &&& 31)) % 5))) := hD
        refine lv_istore (lv' := [(9, .int (nI 1)), (8, .int v), (7, .int (nI i)), (0, .ref b), (1, .ref z), (2, .ref (L 0)), (3, .ref (L 1)), (4, .ref (L 2)), (5, .ref (L 3)), (6, .ref (L 4))]) hx hb dL_law_186 hl (by decide) rfl (fun ls hl => ?_)
        refine lv_goto (tgt := 215) hx hb dL_law_188 (by decide) ?_
        exact h215 ov k1 d1 E1 ru kn va (ranked M (lwN v % mP M) (1 + lwN (v >>> (nI 3 &&& 31)) % 5)) _ _ _ hk5 (SInv_ranked hI _ (by omega)) hP hD hS (by first | exact hl | exact lv_sub hl [0, 1, 2, 3, 4, 5, 6, 7, 8, 9] rfl)
