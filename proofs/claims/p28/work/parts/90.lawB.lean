set_option maxHeartbeats 8000000 in
set_option maxRecDepth 100000 in
theorem law_191 {p : Program} {e : Env} {s : State} {m : MethodId} {below : List Frame} {meth : Method} {c : Code} (l : Launch) {G : va_G} {cy : Nat → ClassId} {b Ln : Nat} {xs : Nat → Int32} (hLn : Ln ≤ 260) (C0 : lw_At p s m meth c b Ln xs) (hK : oK G cy s) {z : Nat} {q h x r y L : Nat → Nat} {A : Nat → Prop} (hA : ∀ q, s.heap.size ≤ q → A q) (hbA : ¬ A b) {ov : Nat → Nat} {kh : Nat} {d : Nat → Nat → Nat} {E : Nat → MT} {ru : Nat → Option Nat} {kn : Nat → Bool} {va : Nat → UInt32} {M : MT} {K cq sq : Nat} (hcq : cq ≤ 5000) (hsq : sq ≤ 50000) (hk4 : kh ≤ 4) (hI : SInv K M) (hK1 : 133 ≤ K) (hK2 : K ≤ 250) {H : Heap} {locs : List Loc} (hP : va_P G vwCl (LW cy z q h x r y L ov kh d E ru kn va M) H) (hD : va_D A (LW cy z q h x r y L ov kh d E ru kn va M)) (hS : va_S A s.heap H locs) {ls : Array Slot} (v : Int32) (i : Nat) (hi : i < 46) (h215 : K215 215 [(9, .int (nI 1)), (8, .int v), (7, .int (nI i)), (0, .ref b), (1, .ref z), (2, .ref (L 0)), (3, .ref (L 1)), (4, .ref (L 2)), (5, .ref (L 3)), (6, .ref (L 4))] p l e s m below meth c G cy b z q h x r y L A cq sq (K + 2)) (hl : lv_has ls 10 [(8, .int v), (7, .int (nI i)), (0, .ref b), (1, .ref z), (2, .ref (L 0)), (3, .ref (L 1)), (4, .ref (L 2)), (5, .ref (L 3)), (6, .ref (L 4))]) : W p l e room_1 s m #[Value.ref b] below meth c H locs cq sq (lw_Z below #[Value.ref b] s) (F0 m 191 ls []) := by
  obtain ⟨hx, hb, hr, hml, hown, hts0, hX, hbl, hlocks, hgv⟩ := C0
  have hown : s.vm.findClass RL = some m.cls := hown
  have hts : ∀ w ∈ wsL_law, w.before #[Value.ref b] s = true := fun w h => hts0 w (wsL_law_in w h)
  obtain ⟨hW, hF, hU, ⟨e0, he0, hT0, hB0⟩, hp0, hN, hM⟩ := id hI
  refine lv_aload_n hx hb dL_law_191 rfl (lv_at hl 3 rfl) ?_
  refine lv_aload_n hx hb dL_law_192 rfl (lv_at hl 4 rfl) ?_
  refine lv_aload hx hb dL_law_193 (lv_at hl 6 rfl) ?_
  refine lv_aload hx hb dL_law_195 (lv_at hl 7 rfl) ?_
  refine lv_aload hx hb dL_law_197 (lv_at hl 8 rfl) ?_
  refine lv_iload hx hb dL_law_199 (lv_at hl 0 rfl) ?_
  refine lv_aload_n hx hb dL_law_201 rfl (lv_at hl 2 rfl) ?_
  refine lv_bipush (v := nI 46) hx hb dL_law_202 (by decide +kernel) ?_
  refine lv_iload hx hb dL_law_204 (lv_at hl 1 rfl) ?_
  refine lv_iadd hx hb dL_law_206 ?_
  rw [nI_add]
  refine o_runA (va_runS (As := [.ref b, .int (nI (46 + i))]) (rest := [.int v, .ref (L 4), .ref (L 3), .ref (L 2), .ref (L 0), .ref z]) ⟨hx, hb, hml, hown, hts⟩ (kL_cell (H0 := H) (b := b) (Ln := Ln) (xs := xs) l (46 + i) (by omega) (by omega) (Nat.lt_of_lt_of_le hbl hS.1)) (va_cwS 2 hts gL_law_L_cell rfl rfl rfl (by decide +kernel) ⟨Nat.le_of_ble_eq_true rfl, Nat.le_of_ble_eq_true rfl⟩) ⟨cell_blind, cell_at (hX.kept (hS.2.1 b hbl hbA))⟩ rfl rfl hl.1 rfl (lv_room (Nat.le_of_ble_eq_true rfl)) dL_law_207 ⟨(show cq + 0 ≤ 600000 by omega), (show sq + 0 ≤ 7302250 by omega)⟩) (fun y9 => ?_)
  obtain ⟨pp, hpp⟩ : ∃ n, lwN v % (mP M + (if lwN (v >>> (nI 5 &&& 31)) % 20 = 0 then 1 else 0)) = n := ⟨_, rfl⟩
  obtain ⟨w, hw9⟩ : ∃ n, lwN (v >>> (nI 3 &&& 31)) % (if lwN (v >>> (nI 20 &&& 31)) % 2 = 0 then 3 else 16) = n := ⟨_, rfl⟩
  obtain ⟨lk, hlk⟩ : ∃ n, lwN (v >>> (nI 7 &&& 31)) % (if lwN (v >>> (nI 20 &&& 31)) % 2 = 0 then 3 else 16) = n := ⟨_, rfl⟩
  obtain ⟨stt, hst⟩ : ∃ n, 1 + lwN (v >>> (nI 15 &&& 31)) % 80 = n := ⟨_, rfl⟩
  obtain ⟨sf, ef, hfz, hsf, hef⟩ := fac_z (lwN (y9 >>> (nI 8 &&& 31)) % 3) (lwN y9)
  obtain ⟨sn, en, hnz, hsn, hen⟩ := num_z (lwN (y9 >>> (nI 24 &&& 31)) % 2) (lwN (y9 >>> (nI 10 &&& 31)))
  have hst80 : stt ≤ 80 := by omega
  have hw16 : w < 16 := by rw [← hw9]; exact Nat.lt_of_lt_of_le (Nat.mod_lt _ (by split <;> decide)) (by split <;> decide)
  have hlk16 : lk < 16 := by rw [← hlk]; exact Nat.lt_of_lt_of_le (Nat.mod_lt _ (by split <;> decide)) (by split <;> decide)
  have hm8 := m8_le en
  have hm0 : sn = true → 0 < m8 en := fun z => by have := hsn z; unfold m8; split <;> omega
  have hpp2 : pp < mP M + 1 := by rw [← hpp]; exact Nat.lt_of_lt_of_le (Nat.mod_lt _ (by omega)) (Nat.add_le_add_left (by split <;> decide) _)
  rcases Classical.em (pp = mP M) with hpm | hpm
  · have hPr := br_P hP
    refine o_SI (As := [.ref z, .ref (L 0), .ref (L 2), .ref (L 3), .ref (L 4), .int v, .int y9]) (rest := []) ⟨hx, hb, hml, hown, hts⟩ (kL_isNailed_u l G cy hW hN hp0 hPr v y9 _ sn en pp w lk stt hpp hw9 hlk rfl hnz hst hsn (by omega) hpm) (va_cwS 7 hts gL_law_L_isNailed rfl rfl rfl (by decide +kernel) ⟨Nat.le_of_ble_eq_true rfl, Nat.le_of_ble_eq_true rfl⟩) hK rfl hl.1 rfl (Nat.le_of_ble_eq_true rfl) dL_law_210 ⟨(show cq + 0 ≤ 600000 by omega), (show sq + 0 ≤ 7302250 by omega)⟩ ?_
    refine lv_istore (lv' := [(9, .int (nI 1)), (8, .int v), (7, .int (nI i)), (0, .ref b), (1, .ref z), (2, .ref (L 0)), (3, .ref (L 1)), (4, .ref (L 2)), (5, .ref (L 3)), (6, .ref (L 4))]) hx hb dL_law_213 hl (by decide) rfl (fun ls hl => ?_)
    exact h215 ov kh d E ru kn va M _ _ _ hk4 (SInv_up hI) hP hD hS (by first | exact hl | exact lv_sub hl [0, 1, 2, 3, 4, 5, 6, 7, 8, 9] rfl)
  · rcases Classical.em (1 < lwN (v >>> (nI 12 &&& 31)) % 5 ∧ lk = w) with hsl | hsl
    · have hPr := br_P hP
      refine o_SI (As := [.ref z, .ref (L 0), .ref (L 2), .ref (L 3), .ref (L 4), .int v, .int y9]) (rest := []) ⟨hx, hb, hml, hown, hts⟩ (kL_isNailed_s l G cy hW hN hp0 hPr v y9 sf ef sn en pp w lk stt hpp hw9 hlk hfz hnz hst hsn (fun _ => hen) (by omega) hsf (by omega) (by omega) hsl.1 hsl.2) (va_cwS 7 hts gL_law_L_isNailed rfl rfl rfl (by decide +kernel) ⟨Nat.le_of_ble_eq_true rfl, Nat.le_of_ble_eq_true rfl⟩) hK rfl hl.1 rfl (Nat.le_of_ble_eq_true rfl) dL_law_210 ⟨(show cq + 0 ≤ 600000 by omega), (show sq + 0 ≤ 7302250 by omega)⟩ ?_
      refine lv_istore (lv' := [(9, .int (nI 1)), (8, .int v), (7, .int (nI i)), (0, .ref b), (1, .ref z), (2, .ref (L 0)), (3, .ref (L 1)), (4, .ref (L 2)), (5, .ref (L 3)), (6, .ref (L 4))]) hx hb dL_law_213 hl (by decide) rfl (fun ls hl => ?_)
      exact h215 ov kh d E ru kn va M _ _ _ hk4 (SInv_up hI) hP hD hS (by first | exact hl | exact lv_sub hl [0, 1, 2, 3, 4, 5, 6, 7, 8, 9] rfl)
    · rcases Classical.em (mN M = 15) with hfl | hfl
      · have hPr := br_P hP
        refine o_SI (As := [.ref z, .ref (L 0), .ref (L 2), .ref (L 3), .ref (L 4), .int v, .int y9]) (rest := []) ⟨hx, hb, hml, hown, hts⟩ (kL_isNailed_f l G cy hW hN hp0 hPr v y9 sf ef sn en pp w lk stt hpp hw9 hlk hfz hnz hst hsn (fun _ => hen) (by omega) hsf (by omega) (by omega) hsl hfl) (va_cwS 7 hts gL_law_L_isNailed rfl rfl rfl (by decide +kernel) ⟨Nat.le_of_ble_eq_true rfl, Nat.le_of_ble_eq_true rfl⟩) hK rfl hl.1 rfl (Nat.le_of_ble_eq_true rfl) dL_law_210 ⟨(show cq + 0 ≤ 600000 by omega), (show sq + 0 ≤ 7302250 by omega)⟩ ?_
        refine lv_istore (lv' := [(9, .int (nI 1)), (8, .int v), (7, .int (nI i)), (0, .ref b), (1, .ref z), (2, .ref (L 0)), (3, .ref (L 1)), (4, .ref (L 2)), (5, .ref (L 3)), (6, .ref (L 4))]) hx hb dL_law_213 hl (by decide) rfl (fun ls hl => ?_)
        exact h215 ov kh d E ru kn va M _ _ _ hk4 (SInv_up hI) hP hD hS (by first | exact hl | exact lv_sub hl [0, 1, 2, 3, 4, 5, 6, 7, 8, 9] rfl)
      · rcases Classical.em (1 < lwN (v >>> (nI 12 &&& 31)) % 5) with hil | hil
        · have hPc : va_P G vwCl ([oSy z q h x r y] ++ (wHi cy h kh d E ++ (wDo cy q M ++ wLa cy L M))) H := bm_P hP
          have hDc : va_D A ([oSy z q h x r y] ++ (wHi cy h kh d E ++ (wDo cy q M ++ wLa cy L M))) := bm_D hD
          have hFc := bz_F (sz := H.size) hDc hA hS.1
          refine va_calli (va_runS (As := [.ref z, .ref (L 0), .ref (L 2), .ref (L 3), .ref (L 4), .int v, .int y9]) (rest := []) ⟨hx, hb, hml, hown, hts⟩ (kL_isNailed_l l G cy hk4 hW hN hPc hDc v y9 sf ef sn en pp w lk stt hpp hw9 hlk hfz hnz hst hsn (fun _ => hen) (by omega) hsf hef (by omega) hfl hp0 hil (fun z => hsl ⟨hil, z⟩)) (va_cwS 7 hts gL_law_L_isNailed rfl rfl rfl (by decide +kernel) ⟨Nat.le_of_ble_eq_true rfl, Nat.le_of_ble_eq_true rfl⟩) ⟨pR_blind, pR_at hK⟩ rfl rfl hl.1 rfl (lv_room (Nat.le_of_ble_eq_true rfl)) dL_law_210 ⟨(show cq + 0 ≤ 600000 by omega), (show sq + 0 ≤ 7302250 by omega)⟩) hS (fun q _ h => hFc q h) hFc (fun r_ u_ t_ H locs ht hvm hw_ hB hz1 hk1 hS => ?_)
          obtain ⟨k1, d1, E1⟩ := u_
          obtain ⟨hr_, hk5⟩ := hw_
          have hk5 : k1 ≤ 4 := hk5
          have hr_ : r_ = nI 1 := hr_
          subst hr_
          have hB : va_P G vwCl ([oSy z q h x r y] ++ (wHi cy h k1 d1 E1 ++ (wDo cy q (hung M pp w (some lk) (zF sf ef) (zF sn (m8 en)) (tfl (nI (bN stt)))) ++ wLa cy L (hung M pp w (some lk) (zF sf ef) (zF sn (m8 en)) (tfl (nI (bN stt))))))) t_.heap ∧ va_D (va_A ([oSy z q h x r y] ++ (wHi cy h kh d E ++ (wDo cy q M ++ wLa cy L M))) _) ([oSy z q h x r y] ++ (wHi cy h k1 d1 E1 ++ (wDo cy q (hung M pp w (some lk) (zF sf ef) (zF sn (m8 en)) (tfl (nI (bN stt)))) ++ wLa cy L (hung M pp w (some lk) (zF sf ef) (zF sn (m8 en)) (tfl (nI (bN stt))))))) := hB
          rw [ht] at hB
          obtain ⟨hP1, hD1⟩ := hB
          obtain ⟨hP, hD⟩ := bm_J hP hD hk1 hFc hP1 hD1
          have hP : va_P G vwCl (LW cy z q h x r y L ov k1 d1 E1 ru kn va (hung M pp w (some lk) (zF sf ef) (zF sn (m8 en)) (tfl (nI (bN stt))))) H := hP
          have hD : va_D A (LW cy z q h x r y L ov k1 d1 E1 ru kn va (hung M pp w (some lk) (zF sf ef) (zF sn (m8 en)) (tfl (nI (bN stt))))) := hD
          refine lv_istore (lv' := [(9, .int (nI 1)), (8, .int v), (7, .int (nI i)), (0, .ref b), (1, .ref z), (2, .ref (L 0)), (3, .ref (L 1)), (4, .ref (L 2)), (5, .ref (L 3)), (6, .ref (L 4))]) hx hb dL_law_213 hl (by decide) rfl (fun ls hl => ?_)
          exact h215 ov k1 d1 E1 ru kn va (hung M pp w (some lk) (zF sf ef) (zF sn (m8 en)) (tfl (nI (bN stt)))) _ _ _ hk5 (SInv_hung hI (by omega) hw16 (fun o ho => by cases ho; exact hlk16) (rng_fin (z_all (s := sf) (e := ef) hef hsf).2.2) (z_all (s := sn) (e := m8 en) hm8 hm0).2.2 hst80 hfl (by omega)) hP hD hS (by first | exact hl | exact lv_sub hl [0, 1, 2, 3, 4, 5, 6, 7, 8, 9] rfl)
        · have hPc : va_P G vwCl ([oSy z q h x r y] ++ (wHi cy h kh d E ++ (wDo cy q M ++ wLa cy L M))) H := bm_P hP
          have hDc : va_D A ([oSy z q h x r y] ++ (wHi cy h kh d E ++ (wDo cy q M ++ wLa cy L M))) := bm_D hD
          have hFc := bz_F (sz := H.size) hDc hA hS.1
          refine va_calli (va_runS (As := [.ref z, .ref (L 0), .ref (L 2), .ref (L 3), .ref (L 4), .int v, .int y9]) (rest := []) ⟨hx, hb, hml, hown, hts⟩ (kL_isNailed_p l G cy hk4 hW hN hPc hDc v y9 sf ef sn en pp w lk stt hpp hw9 hlk hfz hnz hst hsn (fun _ => hen) (by omega) hsf hef (by omega) hfl hp0 hil) (va_cwS 7 hts gL_law_L_isNailed rfl rfl rfl (by decide +kernel) ⟨Nat.le_of_ble_eq_true rfl, Nat.le_of_ble_eq_true rfl⟩) ⟨pR_blind, pR_at hK⟩ rfl rfl hl.1 rfl (lv_room (Nat.le_of_ble_eq_true rfl)) dL_law_210 ⟨(show cq + 0 ≤ 600000 by omega), (show sq + 0 ≤ 7302250 by omega)⟩) hS (fun q _ h => hFc q h) hFc (fun r_ u_ t_ H locs ht hvm hw_ hB hz1 hk1 hS => ?_)
          obtain ⟨k1, d1, E1⟩ := u_
          obtain ⟨hr_, hk5⟩ := hw_
          have hk5 : k1 ≤ 4 := hk5
          have hr_ : r_ = nI 1 := hr_
          subst hr_
          have hB : va_P G vwCl ([oSy z q h x r y] ++ (wHi cy h k1 d1 E1 ++ (wDo cy q (hung M pp w none FP.fconst1 (zF sn (m8 en)) (tfl (nI (bN stt)))) ++ wLa cy L (hung M pp w none FP.fconst1 (zF sn (m8 en)) (tfl (nI (bN stt))))))) t_.heap ∧ va_D (va_A ([oSy z q h x r y] ++ (wHi cy h kh d E ++ (wDo cy q M ++ wLa cy L M))) _) ([oSy z q h x r y] ++ (wHi cy h k1 d1 E1 ++ (wDo cy q (hung M pp w none FP.fconst1 (zF sn (m8 en)) (tfl (nI (bN stt)))) ++ wLa cy L (hung M pp w none FP.fconst1 (zF sn (m8 en)) (tfl (nI (bN stt))))))) := hB
          rw [ht] at hB
          obtain ⟨hP1, hD1⟩ := hB
          obtain ⟨hP, hD⟩ := bm_J hP hD hk1 hFc hP1 hD1
          have hP : va_P G vwCl (LW cy z q h x r y L ov k1 d1 E1 ru kn va (hung M pp w none FP.fconst1 (zF sn (m8 en)) (tfl (nI (bN stt))))) H := hP
          have hD : va_D A (LW cy z q h x r y L ov k1 d1 E1 ru kn va (hung M pp w none FP.fconst1 (zF sn (m8 en)) (tfl (nI (bN stt))))) := hD
          refine lv_istore (lv' := [(9, .int (nI 1)), (8, .int v), (7, .int (nI i)), (0, .ref b), (1, .ref z), (2, .ref (L 0)), (3, .ref (L 1)), (4, .ref (L 2)), (5, .ref (L 3)), (6, .ref (L 4))]) hx hb dL_law_213 hl (by decide) rfl (fun ls hl => ?_)
          exact h215 ov k1 d1 E1 ru kn va (hung M pp w none FP.fconst1 (zF sn (m8 en)) (tfl (nI (bN stt)))) _ _ _ hk5 (SInv_hung hI (by omega) hw16 (fun o ho => by cases ho) fin_1 (z_all (s := sn) (e := m8 en) hm8 hm0).2.2 hst80 hfl (by omega)) hP hD hS (by first | exact hl | exact lv_sub hl [0, 1, 2, 3, 4, 5, 6, 7, 8, 9] rfl)
