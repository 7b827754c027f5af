set_option maxHeartbeats 4000000 in
set_option maxRecDepth 100000 in
theorem kL_isRanked_a (l : Launch) (G : va_G) (cy : Nat → ClassId) {H0 : Heap} {z : Nat} {q h x r y L : Nat → Nat} {kh : Nat} {d : Nat → Nat → Nat} {E : Nat → MT} {M : MT} {A0 : Nat → Prop} (hk4 : kh ≤ 4) (hW : WB M) (hN : mN M ≤ 15) (hP : va_P G vwCl ([oSy z q h x r y] ++ (wHi cy h kh d E ++ (wDo cy q M ++ wLa cy L M))) H0) (hD0 : va_D A0 ([oSy z q h x r y] ++ (wHi cy h kh d E ++ (wDo cy q M ++ wLa cy L M)))) (u : Nat) (v : Int32) (h12 : lwN (v >>> (nI 12 &&& 31)) % 3 = 1) (hu9 : 1 + lwN (v >>> (nI 3 &&& 31)) % 5 = u) (hp : mP M < 6) : MutS l yL_isRanked wsL_isRanked 5 180 [.ref z, .ref (L 0), .ref (L 1), .ref (L 4), .int v] H0 G cy 1 h ([oSy z q h x r y] ++ (wHi cy h kh d E ++ (wDo cy q M ++ wLa cy L M))) [oSy z q h x r y] (wDo cy q (added M u) ++ wLa cy L (added M u)) := by
  refine Met.ofW (cc := cL_isRanked) (maxL := 8) (ret := (some .boolean)) (by decide) rfl ?_
  intro p e s m args below meth c s₁ B hml hv
  obtain ⟨rfl, hH, hK⟩ := hv
  subst hH
  have hx := B.exec
  have hb := B.bytes
  have hr := B.returns
  have hts := atoms_spec (ws := wsL_isRanked) B.pre
  have hown : s.vm.findClass RL = some m.cls := findClass_of_methodNamed B.named
  have hlocks := B.notSynchronized
  have hl := lv_entry ([.ref z, .ref (L 0), .ref (L 1), .ref (L 4), .int v]) (n := 8) (Nat.le_of_ble_eq_true rfl)
  rw [lg_entry_eq]
  generalize (lg_sl ([.ref z, .ref (L 0), .ref (L 1), .ref (L 4), .int v]) ++ List.replicate (8 - (lg_sl ([.ref z, .ref (L 0), .ref (L 1), .ref (L 4), .int v])).length) Slot.unset).toArray = ls at hl ⊢
  have hl : lv_has ls 8 [(0, .ref z), (1, .ref (L 0)), (2, .ref (L 1)), (3, .ref (L 4)), (4, .int v)] := hl
  obtain ⟨bP, bN, bR, bO, bW, bL, bF⟩ := id hW
  have hPl := hP.sub (ws' := wLa cy L M) [48, 49, 50, 51, 52] rfl
  have hPs := hP.sub (ws' := [oSy z q h x r y] ++ wDo cy q M) [0, 39, 40, 41, 42, 43, 44, 45, 46, 47] rfl
  have hu : 1 ≤ u ∧ u ≤ 5 := by omega
  have hD := hD0.self (sz := s.heap.size)
  generalize hAe : va_A ([oSy z q h x r y] ++ (wHi cy h kh d E ++ (wDo cy q M ++ wLa cy L M))) s.heap.size = A at hD ⊢
  have hA : ∀ q : Nat, s.heap.size ≤ q → A q := fun q h => by rw [← hAe]; exact Or.inr h
  have hS : va_S A s.heap s.heap [] := va_S.rf
  refine lv_iload hx hb dL_isRanked_0 (lv_at hl 4 rfl) ?_
  refine lv_bipush (v := nI 12) hx hb dL_isRanked_2 (by decide +kernel) ?_
  refine lv_ishr hx hb dL_isRanked_4 ?_
  rw [show v >>> (nI 12 &&& 31) = v >>> (nI 12 &&& 31) from rfl]
  refine lv_iconst (v := nI 3) hx hb dL_isRanked_5 (by decide +kernel) ?_
  refine o_SI (As := [.int (v >>> (nI 12 &&& 31)), .int (nI 3)]) (rest := []) ⟨hx, hb, hml, hown, hts⟩ (kL_low l G cy (v >>> (nI 12 &&& 31)) 3 (by decide) (by omega)) (va_cwS 2 hts gL_isRanked_L_low rfl rfl rfl (by decide +kernel) ⟨Nat.le_of_ble_eq_true rfl, Nat.le_of_ble_eq_true rfl⟩) hK rfl hl.1 rfl (Nat.le_of_ble_eq_true rfl) dL_isRanked_6 ⟨Nat.le_of_ble_eq_true rfl, Nat.le_of_ble_eq_true rfl⟩ ?_
  refine o_if_ne (tgt := 141) hx hb dL_isRanked_9 (by decide) (by omega) (fun c9 => ?_) (fun c9 => ?_)
  · refine lv_iconst (v := nI 1) hx hb dL_isRanked_141 (by decide +kernel) ?_
    refine lv_iload hx hb dL_isRanked_142 (lv_at hl 4 rfl) ?_
    refine lv_iconst (v := nI 3) hx hb dL_isRanked_144 (by decide +kernel) ?_
    refine lv_ishr hx hb dL_isRanked_145 ?_
    rw [show v >>> (nI 3 &&& 31) = v >>> (nI 3 &&& 31) from rfl]
    refine lv_iconst (v := nI 5) hx hb dL_isRanked_146 (by decide +kernel) ?_
    refine o_SI (As := [.int (v >>> (nI 3 &&& 31)), .int (nI 5)]) (rest := [.int (nI 1)]) ⟨hx, hb, hml, hown, hts⟩ (kL_low l G cy (v >>> (nI 3 &&& 31)) 5 (by decide) (by omega)) (va_cwS 2 hts gL_isRanked_L_low rfl rfl rfl (by decide +kernel) ⟨Nat.le_of_ble_eq_true rfl, Nat.le_of_ble_eq_true rfl⟩) hK rfl hl.1 rfl (Nat.le_of_ble_eq_true rfl) dL_isRanked_147 ⟨Nat.le_of_ble_eq_true rfl, Nat.le_of_ble_eq_true rfl⟩ ?_
    refine lv_iadd hx hb dL_isRanked_150 ?_
    rw [nI_add, hu9]
    refine lv_istore (lv' := [(5, .int (nI u)), (0, .ref z), (1, .ref (L 0)), (2, .ref (L 1)), (3, .ref (L 4)), (4, .int v)]) hx hb dL_isRanked_151 hl (by decide) rfl (fun ls hl => ?_)
    refine lv_iload hx hb dL_isRanked_153 (lv_at hl 5 rfl) ?_
    refine lv_bipush (v := nI 12) hx hb dL_isRanked_155 (by decide +kernel) ?_
    refine lv_ishr hx hb dL_isRanked_157 ?_
    rw [show v >>> (nI 12 &&& 31) = v >>> (nI 12 &&& 31) from rfl]
    refine lv_iconst (v := nI 3) hx hb dL_isRanked_158 (by decide +kernel) ?_
    refine o_SI (As := [.int (v >>> (nI 12 &&& 31)), .int (nI 3)]) (rest := []) ⟨hx, hb, hml, hown, hts⟩ (kL_low l G cy (v >>> (nI 12 &&& 31)) 3 (by decide) (by omega)) (va_cwS 2 hts gL_isRanked_L_low rfl rfl rfl (by decide +kernel) ⟨Nat.le_of_ble_eq_true rfl, Nat.le_of_ble_eq_true rfl⟩) hK rfl hl.1 rfl (Nat.le_of_ble_eq_true rfl) dL_isRanked_159 ⟨Nat.le_of_ble_eq_true rfl, Nat.le_of_ble_eq_true rfl⟩ ?_
    refine lv_iconst (v := nI 1) hx hb dL_isRanked_162 (by decide +kernel) ?_
    refine o_icmp_ne (tgt := 218) hx hb dL_isRanked_163 (by decide) (by omega) (by omega) (fun c163 => ?_) (fun c163 => ?_)
    · exact absurd c163 (by omega)
    · refine lv_aload_n hx hb dL_isRanked_166 rfl (lv_at hl 2 rfl) ?_
      refine lv_iconst (v := nI 0) hx hb dL_isRanked_167 (by decide +kernel) ?_
      refine o_iald hx hb hK hP 48 0 rfl rfl 0 (by omega) (by decide) dL_isRanked_168 ?_
      rw [show gI M 0 = mP M from rfl]
      refine lv_bipush (v := nI 6) hx hb dL_isRanked_169 (by decide +kernel) ?_
      refine o_icmp_ge (tgt := 218) hx hb dL_isRanked_171 (by decide) (by omega) (by omega) (fun c171 => ?_) (fun c171 => ?_)
      · exact absurd c171 (by omega)
      · refine lv_aload_n hx hb dL_isRanked_174 rfl (lv_at hl 3 rfl) ?_
        refine lv_aload_n hx hb dL_isRanked_175 rfl (lv_at hl 2 rfl) ?_
        refine lv_iconst (v := nI 0) hx hb dL_isRanked_176 (by decide +kernel) ?_
        refine o_iald hx hb hK hP 48 0 rfl rfl 0 (by omega) (by decide) dL_isRanked_177 ?_
        rw [show gI M 0 = mP M from rfl]
        refine lv_iload hx hb dL_isRanked_178 (lv_at hl 0 rfl) ?_
        refine o_iast hx hb hK hP hD hS 49 0 rfl rfl (mP M) (by omega) (by decide) (upd_nI (mR M) (mP M) u) dL_isRanked_180 (fun H locs hP hD hS => ?_)
        have hP : va_P G vwCl ([oSy z q h x r y] ++ [(h 0, .inr (1, [.ref (h 1), .int (nI kh)])), (h 1, eR cy 4 (fun i => some (d i 0)))] ++ wDo cy (d 0) (E 0) ++ wDo cy (d 1) (E 1) ++ wDo cy (d 2) (E 2) ++ wDo cy (d 3) (E 3) ++ wDo cy q M ++ [(L 0, eI cy 5 (fun i => nI ((gI M) i))), (L 1, eI cy 6 (fun j9 => nI ((va_up (mR M) (mP M) u) j9))), (L 2, eI cy 60 (aI M)), (L 3, eD cy 30 (vD M)), (L 4, eD cy 25 (tD M))]) H := hP
        have hD : va_D A ([oSy z q h x r y] ++ [(h 0, .inr (1, [.ref (h 1), .int (nI kh)])), (h 1, eR cy 4 (fun i => some (d i 0)))] ++ wDo cy (d 0) (E 0) ++ wDo cy (d 1) (E 1) ++ wDo cy (d 2) (E 2) ++ wDo cy (d 3) (E 3) ++ wDo cy q M ++ [(L 0, eI cy 5 (fun i => nI ((gI M) i))), (L 1, eI cy 6 (fun j9 => nI ((va_up (mR M) (mP M) u) j9))), (L 2, eI cy 60 (aI M)), (L 3, eD cy 30 (vD M)), (L 4, eD cy 25 (tD M))]) := hD
        refine lv_aload_n hx hb dL_isRanked_181 rfl (lv_at hl 2 rfl) ?_
        refine lv_iconst (v := nI 0) hx hb dL_isRanked_182 (by decide +kernel) ?_
        refine lv_dup2_11 hx hb dL_isRanked_183 rfl rfl ?_
        refine o_iald hx hb hK hP 48 0 rfl rfl 0 (by omega) (by decide) dL_isRanked_184 ?_
        rw [show gI M 0 = mP M from rfl]
        refine lv_iconst (v := nI 1) hx hb dL_isRanked_185 (by decide +kernel) ?_
        refine lv_iadd hx hb dL_isRanked_186 ?_
        rw [nI_add]
        refine o_iast hx hb hK hP hD hS 48 0 rfl rfl 0 (by omega) (by decide) (upd_nI (gI M) 0 (mP M + 1)) dL_isRanked_187 (fun H locs hP hD hS => ?_)
        have hP : va_P G vwCl ([oSy z q h x r y] ++ [(h 0, .inr (1, [.ref (h 1), .int (nI kh)])), (h 1, eR cy 4 (fun i => some (d i 0)))] ++ wDo cy (d 0) (E 0) ++ wDo cy (d 1) (E 1) ++ wDo cy (d 2) (E 2) ++ wDo cy (d 3) (E 3) ++ wDo cy q M ++ [(L 0, eI cy 5 (fun i => nI ((va_up (gI M) 0 (mP M + 1)) i))), (L 1, eI cy 6 (fun j9 => nI ((va_up (mR M) (mP M) u) j9))), (L 2, eI cy 60 (aI M)), (L 3, eD cy 30 (vD M)), (L 4, eD cy 25 (tD M))]) H := hP
        have hD : va_D A ([oSy z q h x r y] ++ [(h 0, .inr (1, [.ref (h 1), .int (nI kh)])), (h 1, eR cy 4 (fun i => some (d i 0)))] ++ wDo cy (d 0) (E 0) ++ wDo cy (d 1) (E 1) ++ wDo cy (d 2) (E 2) ++ wDo cy (d 3) (E 3) ++ wDo cy q M ++ [(L 0, eI cy 5 (fun i => nI ((va_up (gI M) 0 (mP M + 1)) i))), (L 1, eI cy 6 (fun j9 => nI ((va_up (mR M) (mP M) u) j9))), (L 2, eI cy 60 (aI M)), (L 3, eD cy 30 (vD M)), (L 4, eD cy 25 (tD M))]) := hD
        rw [gI_a M u] at hP hD
        have hP : va_P G vwCl ([oSy z q h x r y] ++ (wHi cy h kh d E ++ (wDo cy q M ++ wLa cy L (added M u)))) H := hP
        have hD : va_D A ([oSy z q h x r y] ++ (wHi cy h kh d E ++ (wDo cy q M ++ wLa cy L (added M u)))) := hD
        refine lv_aload_n hx hb dL_isRanked_188 rfl (lv_at hl 1 rfl) ?_
        refine lv_iload hx hb dL_isRanked_189 (lv_at hl 0 rfl) ?_
        have hPc := hP.sub (ws' := [oSy z q h x r y] ++ (wHi cy h kh d E ++ wDo cy q M)) [0, 1, 2, 3, 4, 5, 6, 7, 8, 9, 10, 11, 12, 13, 14, 15, 16, 17, 18, 19, 20, 21, 22, 23, 24, 25, 26, 27, 28, 29, 30, 31, 32, 33, 34, 35, 36, 37, 38, 39, 40, 41, 42, 43, 44, 45, 46, 47] rfl
        have hDc := hD.sub (ws' := [oSy z q h x r y] ++ (wHi cy h kh d E ++ wDo cy q M)) [0, 1, 2, 3, 4, 5, 6, 7, 8, 9, 10, 11, 12, 13, 14, 15, 16, 17, 18, 19, 20, 21, 22, 23, 24, 25, 26, 27, 28, 29, 30, 31, 32, 33, 34, 35, 36, 37, 38, 39, 40, 41, 42, 43, 44, 45, 46, 47] (by decide) rfl
        have hFc := va_free (wc := [oSy z q h x r y] ++ (wHi cy h kh d E ++ wDo cy q M)) hD hS hA [0, 1, 2, 3, 4, 5, 6, 7, 8, 9, 10, 11, 12, 13, 14, 15, 16, 17, 18, 19, 20, 21, 22, 23, 24, 25, 26, 27, 28, 29, 30, 31, 32, 33, 34, 35, 36, 37, 38, 39, 40, 41, 42, 43, 44, 45, 46, 47] rfl
        refine va_calli (va_runV (As := [.int (nI u)]) (rest := []) ⟨hx, hb, hml, hown, hts⟩ (kX7_addPerson l G cy hk4 hW hPc hDc u hu hp) (cwV 1 hts gL_isRanked_X7_addPerson rfl rfl rfl (by decide +kernel) ⟨Nat.le_of_ble_eq_true rfl, Nat.le_of_ble_eq_true rfl⟩) ⟨pR_blind, va_recv hK hP (ci := 6) (q0 := 0) rfl rfl, pR_at hK⟩ rfl rfl hl.1 rfl (lv_room (Nat.le_of_ble_eq_true rfl)) dL_isRanked_191 ⟨Nat.zero_le _, Nat.zero_le _⟩) hS (fun q _ h => hFc q h) hFc (fun r_ u_ t_ H locs ht hvm hw_ hB hz1 hk1 hS => ?_)
        obtain ⟨k1, d1, E1⟩ := u_
        obtain ⟨hr_, hk5⟩ := hw_
        have hk5 : k1 ≤ 4 := hk5
        have hr_ : r_ = nI (mP M) := hr_
        subst hr_
        have hB : va_P G vwCl ([oSy z q h x r y] ++ (wHi cy h k1 d1 E1 ++ wDo cy q (added M u))) t_.heap ∧ va_D (va_A ([oSy z q h x r y] ++ (wHi cy h kh d E ++ wDo cy q M)) _) ([oSy z q h x r y] ++ (wHi cy h k1 d1 E1 ++ wDo cy q (added M u))) := hB
        rw [ht] at hB
        obtain ⟨hP1, hD1⟩ := hB
        obtain ⟨hP, hD⟩ := va_join (wr := wLa cy L (added M u)) hP hD [0, 1, 2, 3, 4, 5, 6, 7, 8, 9, 10, 11, 12, 13, 14, 15, 16, 17, 18, 19, 20, 21, 22, 23, 24, 25, 26, 27, 28, 29, 30, 31, 32, 33, 34, 35, 36, 37, 38, 39, 40, 41, 42, 43, 44, 45, 46, 47] [48, 49, 50, 51, 52] rfl rfl (by decide) (by decide) hk1 hFc hP1 hD1
        have hP : va_P G vwCl ([oSy z q h x r y] ++ (wHi cy h k1 d1 E1 ++ (wDo cy q (added M u) ++ wLa cy L (added M u)))) H := hP.sub [5, 6, 7, 8, 9, 10, 11, 12, 13, 14, 15, 16, 17, 18, 19, 20, 21, 22, 23, 24, 25, 26, 27, 28, 29, 30, 31, 32, 33, 34, 35, 36, 37, 38, 39, 40, 41, 42, 43, 44, 45, 46, 47, 48, 49, 50, 51, 52, 0, 1, 2, 3, 4] rfl
        have hD : va_D A ([oSy z q h x r y] ++ (wHi cy h k1 d1 E1 ++ (wDo cy q (added M u) ++ wLa cy L (added M u)))) := hD.sub [5, 6, 7, 8, 9, 10, 11, 12, 13, 14, 15, 16, 17, 18, 19, 20, 21, 22, 23, 24, 25, 26, 27, 28, 29, 30, 31, 32, 33, 34, 35, 36, 37, 38, 39, 40, 41, 42, 43, 44, 45, 46, 47, 48, 49, 50, 51, 52, 0, 1, 2, 3, 4] (by decide) rfl
        refine lv_aload_n hx hb dL_isRanked_194 rfl (lv_at hl 2 rfl) ?_
        refine lv_iconst (v := nI 0) hx hb dL_isRanked_195 (by decide +kernel) ?_
        refine o_iald hx hb hK hP 48 0 rfl rfl 0 (by omega) (by decide) dL_isRanked_196 ?_
        rw [show gI ((added M u)) 0 = mP ((added M u)) from rfl]
        refine lv_iconst (v := nI 1) hx hb dL_isRanked_197 (by decide +kernel) ?_
        refine lv_isub hx hb dL_isRanked_198 ?_
        rw [pk_sub (a := mP ((added M u))) (b := 1) (show 1 ≤ mP M + 1 by omega)]
        refine o_icmp_ne (tgt := 216) hx hb dL_isRanked_199 (by decide) (show mP M < 2 ^ 31 by omega) (show mP M + 1 - 1 < 2 ^ 31 by omega) (fun c199 => ?_) (fun c199 => ?_)
        · exact absurd (show mP M = mP (added M u) - 1 from rfl) c199
        · refine lv_aload_n hx hb dL_isRanked_202 rfl (lv_at hl 1 rfl) ?_
          refine lv_iconst (v := nI 0) hx hb dL_isRanked_203 (by decide +kernel) ?_
          have hPt := hP.sub (ws' := [oSy z q h x r y] ++ wDo cy q (added M u)) [0, 39, 40, 41, 42, 43, 44, 45, 46, 47] rfl
          refine o_VI (As := [.int (nI 0)]) (rest := []) ⟨hx, hb, hml, hown, hts⟩ (kX7_addPerson_b l G cy (WB_added hW hu.2 hp) hPt 0 (by decide) (by omega)) (cwV 1 hts gL_isRanked_X7_addPerson rfl rfl rfl (by decide +kernel) ⟨Nat.le_of_ble_eq_true rfl, Nat.le_of_ble_eq_true rfl⟩) hK (va_recv hK hP (ci := 6) (q0 := 0) rfl rfl) rfl hl.1 rfl (Nat.le_of_ble_eq_true rfl) dL_isRanked_204 ⟨Nat.le_of_ble_eq_true rfl, Nat.le_of_ble_eq_true rfl⟩ ?_
          refine lv_bipush (v := (-2)) hx hb dL_isRanked_207 (by decide +kernel) ?_
          refine lv_icmp_ne (tgt := 216) hx hb dL_isRanked_209 (by decide) (fun c209 => ?_) (fun c209 => ?_)
          · exact absurd rfl c209
          · refine lv_iconst (v := nI 1) hx hb dL_isRanked_212 (by decide +kernel) ?_
            refine lv_goto (tgt := 217) hx hb dL_isRanked_213 (by decide) ?_
            exact o_endSz (k := k1) (d := d1) (E := E1) hx hb hr hlocks dL_isRanked_217 (by decide) hk5 hP hD hS rfl
  · exact absurd c9 (by omega)
