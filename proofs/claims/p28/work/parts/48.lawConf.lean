set_option maxHeartbeats 4000000 in
set_option maxRecDepth 100000 in
theorem kL_differ_ne (l : Launch) (G : va_G) (cy : Nat → ClassId) {H0 : Heap} (P R_ : Prop) [Decidable P] [Decidable R_] (X Y T : UInt64) (hne : ¬ (P ↔ R_)) : MetI l yL_differ wsL_differ 0 0 [.int (bI (P)), .double X, .int (bI (R_)), .double Y, .double T] H0 G cy 1 := by
  refine Met.ofW (cc := cL_differ) (maxL := 9) (ret := (some .boolean)) (by decide) rfl ?_
  intro p e s m args below meth c s₁ B hml hv
  obtain ⟨rfl, hH, hK⟩ := hv
  subst hH
  have hx := B.exec
  have hb := B.bytes
  have hr := B.returns
  have hts := atoms_spec (ws := wsL_differ) B.pre
  have hown : s.vm.findClass RL = some m.cls := findClass_of_methodNamed B.named
  have hlocks := B.notSynchronized
  have hl := lv_entry ([.int (bI (P)), .double X, .int (bI (R_)), .double Y, .double T]) (n := 9) (Nat.le_of_ble_eq_true rfl)
  rw [lg_entry_eq]
  generalize (lg_sl ([.int (bI (P)), .double X, .int (bI (R_)), .double Y, .double T]) ++ List.replicate (9 - (lg_sl ([.int (bI (P)), .double X, .int (bI (R_)), .double Y, .double T])).length) Slot.unset).toArray = ls at hl ⊢
  have hl : lv_has ls 9 [(0, .int (bI (P))), (1, .double X), (3, .int (bI (R_))), (4, .double Y), (6, .double T)] := hl
  refine lv_iload_n hx hb dL_differ_0 rfl (lv_at hl 0 rfl) ?_
  refine lv_iload_n hx hb dL_differ_1 rfl (lv_at hl 2 rfl) ?_
  refine o_icmpb_eq (tgt := 7) hx hb dL_differ_2 (by decide) (fun c2 => ?_) (fun c2 => ?_)
  · exact absurd c2 hne
  · refine lv_iconst (v := nI 1) hx hb dL_differ_5 (by decide +kernel) ?_
    exact o_endZ hx hb hr hlocks dL_differ_6 (by decide) ((by decide))

set_option maxHeartbeats 4000000 in
set_option maxRecDepth 100000 in
theorem kL_differ_f (l : Launch) (G : va_G) (cy : Nat → ClassId) {H0 : Heap} (P R_ : Prop) [Decidable P] [Decidable R_] (X Y T : UInt64) (h1 : ¬ P) (h2 : ¬ R_) : MetI l yL_differ wsL_differ 0 0 [.int (bI (P)), .double X, .int (bI (R_)), .double Y, .double T] H0 G cy 0 := by
  refine Met.ofW (cc := cL_differ) (maxL := 9) (ret := (some .boolean)) (by decide) rfl ?_
  intro p e s m args below meth c s₁ B hml hv
  obtain ⟨rfl, hH, hK⟩ := hv
  subst hH
  have hx := B.exec
  have hb := B.bytes
  have hr := B.returns
  have hts := atoms_spec (ws := wsL_differ) B.pre
  have hown : s.vm.findClass RL = some m.cls := findClass_of_methodNamed B.named
  have hlocks := B.notSynchronized
  have hl := lv_entry ([.int (bI (P)), .double X, .int (bI (R_)), .double Y, .double T]) (n := 9) (Nat.le_of_ble_eq_true rfl)
  rw [lg_entry_eq]
  generalize (lg_sl ([.int (bI (P)), .double X, .int (bI (R_)), .double Y, .double T]) ++ List.replicate (9 - (lg_sl ([.int (bI (P)), .double X, .int (bI (R_)), .double Y, .double T])).length) Slot.unset).toArray = ls at hl ⊢
  have hl : lv_has ls 9 [(0, .int (bI (P))), (1, .double X), (3, .int (bI (R_))), (4, .double Y), (6, .double T)] := hl
  refine lv_iload_n hx hb dL_differ_0 rfl (lv_at hl 0 rfl) ?_
  refine lv_iload_n hx hb dL_differ_1 rfl (lv_at hl 2 rfl) ?_
  refine o_icmpb_eq (tgt := 7) hx hb dL_differ_2 (by decide) (fun c2 => ?_) (fun c2 => ?_)
  · refine lv_iload_n hx hb dL_differ_7 rfl (lv_at hl 0 rfl) ?_
    refine o_ifb_eq (tgt := 20) hx hb dL_differ_8 (by decide) (fun c8 => ?_) (fun c8 => ?_)
    · refine lv_fconst0 hx hb dL_differ_20 ?_
      refine lv_fstore (lv' := [(8, .float FP.fconst0), (0, .int (bI (P))), (1, .double X), (3, .int (bI (R_))), (4, .double Y), (6, .double T)]) hx hb dL_differ_21 hl (by decide) rfl (fun ls hl => ?_)
      refine lv_iload_n hx hb dL_differ_23 rfl (lv_at hl 1 rfl) ?_
      refine o_ifb_eq (tgt := 53) hx hb dL_differ_24 (by decide) (fun c24 => ?_) (fun c24 => ?_)
      · refine lv_iconst (v := nI 0) hx hb dL_differ_53 (by decide +kernel) ?_
        exact o_endZ hx hb hr hlocks dL_differ_54 (by decide) ((by decide))
      · exact absurd c24 h1
    · exact absurd c8 h1
  · exact absurd ⟨fun z => absurd z h1, fun z => absurd z h2⟩ c2

set_option maxHeartbeats 4000000 in
set_option maxRecDepth 100000 in
theorem kL_differ_t (l : Launch) (G : va_G) (cy : Nat → ClassId) {H0 : Heap} (P R_ : Prop) [Decidable P] [Decidable R_] (x y t : UInt32) (h1 : P) (h2 : R_) (hx1 : rngB x = true) (hy1 : rngB y = true) (ht : Fin32 t) : MetI l yL_differ wsL_differ 0 0 [.int (bI (P)), .double (FP.f2d x), .int (bI (R_)), .double (FP.f2d y), .double (FP.f2d t)] H0 G cy (bI (farB t y x = true)) := by
  refine Met.ofW (cc := cL_differ) (maxL := 9) (ret := (some .boolean)) (by decide) rfl ?_
  intro p e s m args below meth c s₁ B hml hv
  obtain ⟨rfl, hH, hK⟩ := hv
  subst hH
  have hx := B.exec
  have hb := B.bytes
  have hr := B.returns
  have hts := atoms_spec (ws := wsL_differ) B.pre
  have hown : s.vm.findClass RL = some m.cls := findClass_of_methodNamed B.named
  have hlocks := B.notSynchronized
  have hl := lv_entry ([.int (bI (P)), .double (FP.f2d x), .int (bI (R_)), .double (FP.f2d y), .double (FP.f2d t)]) (n := 9) (Nat.le_of_ble_eq_true rfl)
  rw [lg_entry_eq]
  generalize (lg_sl ([.int (bI (P)), .double (FP.f2d x), .int (bI (R_)), .double (FP.f2d y), .double (FP.f2d t)]) ++ List.replicate (9 - (lg_sl ([.int (bI (P)), .double (FP.f2d x), .int (bI (R_)), .double (FP.f2d y), .double (FP.f2d t)])).length) Slot.unset).toArray = ls at hl ⊢
  have hl : lv_has ls 9 [(0, .int (bI (P))), (1, .double (FP.f2d x)), (3, .int (bI (R_))), (4, .double (FP.f2d y)), (6, .double (FP.f2d t))] := hl
  refine lv_iload_n hx hb dL_differ_0 rfl (lv_at hl 0 rfl) ?_
  refine lv_iload_n hx hb dL_differ_1 rfl (lv_at hl 2 rfl) ?_
  refine o_icmpb_eq (tgt := 7) hx hb dL_differ_2 (by decide) (fun c2 => ?_) (fun c2 => ?_)
  · refine lv_iload_n hx hb dL_differ_7 rfl (lv_at hl 0 rfl) ?_
    refine o_ifb_eq (tgt := 20) hx hb dL_differ_8 (by decide) (fun c8 => ?_) (fun c8 => ?_)
    · exact absurd h1 c8
    · refine lv_dload_n hx hb dL_differ_11 rfl (lv_at hl 1 rfl) ?_
      refine lv_d2f hx hb dL_differ_12 (d2f_n (FP.Core.FFin.notNaN (rng_fin hx1))) ?_
      rw [d2f_f2d (FP.Core.FFin.notNaN (rng_fin hx1))]
      refine lv_dload hx hb dL_differ_13 (lv_at hl 3 rfl) ?_
      refine lv_d2f hx hb dL_differ_15 (d2f_n (FP.Core.FFin.notNaN (rng_fin hy1))) ?_
      rw [d2f_f2d (FP.Core.FFin.notNaN (rng_fin hy1))]
      refine lv_fsub hx hb dL_differ_16 (n32_of (sub_n (rng_fin hx1) (rng_fin hy1))) ?_
      refine lv_goto (tgt := 21) hx hb dL_differ_17 (by decide) ?_
      refine lv_fstore (lv' := [(8, .float (FP.fsub x y)), (0, .int (bI (P))), (1, .double (FP.f2d x)), (3, .int (bI (R_))), (4, .double (FP.f2d y)), (6, .double (FP.f2d t))]) hx hb dL_differ_21 hl (by decide) rfl (fun ls hl => ?_)
      refine lv_iload_n hx hb dL_differ_23 rfl (lv_at hl 1 rfl) ?_
      refine o_ifb_eq (tgt := 53) hx hb dL_differ_24 (by decide) (fun c24 => ?_) (fun c24 => ?_)
      · exact absurd h1 c24
      · refine lv_fload hx hb dL_differ_27 (lv_at hl 0 rfl) ?_
        refine lv_fconst0 hx hb dL_differ_29 ?_
        refine lv_fcmp hx hb dL_differ_30 ?_
        refine lv_if_ge (tgt := 40) hx hb dL_differ_31 (by decide) (fun c31 => ?_) (fun c31 => ?_)
        · refine lv_fload hx hb dL_differ_40 (lv_at hl 0 rfl) ?_
          rw [← absF_t c31]
          refine lv_f2d hx hb dL_differ_42 (f2d_n (absF_n (sub_n (rng_fin hx1) (rng_fin hy1)))) ?_
          refine lv_dload hx hb dL_differ_43 (lv_at hl 5 rfl) ?_
          refine lv_dcmp hx hb dL_differ_45 ?_
          rw [dcmp_f2d (abs_fin (sub_rng hx1 hy1)) ht, far_swap (rng_fin hx1) (rng_fin hy1) ht]
          refine lv_if_le (tgt := 53) hx hb dL_differ_46 (by decide) (fun c46 => ?_) (fun c46 => ?_)
          · refine lv_iconst (v := nI 0) hx hb dL_differ_53 (by decide +kernel) ?_
            exact o_endZ hx hb hr hlocks dL_differ_54 (by decide) ((by rw [bI_f (fun z => farB_iff.mp z c46)]; decide))
          · refine lv_iconst (v := nI 1) hx hb dL_differ_49 (by decide +kernel) ?_
            refine lv_goto (tgt := 54) hx hb dL_differ_50 (by decide) ?_
            exact o_endZ hx hb hr hlocks dL_differ_54 (by decide) ((by rw [bI_t (farB_iff.mpr c46)]; decide))
        · refine lv_fload hx hb dL_differ_34 (lv_at hl 0 rfl) ?_
          refine lv_fneg hx hb dL_differ_36 ?_
          refine lv_goto (tgt := 42) hx hb dL_differ_37 (by decide) ?_
          rw [← absF_f c31]
          refine lv_f2d hx hb dL_differ_42 (f2d_n (absF_n (sub_n (rng_fin hx1) (rng_fin hy1)))) ?_
          refine lv_dload hx hb dL_differ_43 (lv_at hl 5 rfl) ?_
          refine lv_dcmp hx hb dL_differ_45 ?_
          rw [dcmp_f2d (abs_fin (sub_rng hx1 hy1)) ht, far_swap (rng_fin hx1) (rng_fin hy1) ht]
          refine lv_if_le (tgt := 53) hx hb dL_differ_46 (by decide) (fun c46 => ?_) (fun c46 => ?_)
          · refine lv_iconst (v := nI 0) hx hb dL_differ_53 (by decide +kernel) ?_
            exact o_endZ hx hb hr hlocks dL_differ_54 (by decide) ((by rw [bI_f (fun z => farB_iff.mp z c46)]; decide))
          · refine lv_iconst (v := nI 1) hx hb dL_differ_49 (by decide +kernel) ?_
            refine lv_goto (tgt := 54) hx hb dL_differ_50 (by decide) ?_
            exact o_endZ hx hb hr hlocks dL_differ_54 (by decide) ((by rw [bI_t (farB_iff.mpr c46)]; decide))
  · exact absurd ⟨fun _ => h2, fun _ => h1⟩ c2

set_option maxHeartbeats 4000000 in
set_option maxRecDepth 100000 in
theorem kL_conflict (l : Launch) (G : va_G) (cy : Nat → ClassId) {H0 : Heap} {L : Nat → Nat} {ua : Nat} {uu : Nat → UInt64} {M : MT} {A0 : Nat → Prop} (hW : WB M) (hF : WF M) (hU : ∀ k, rngB (mU M k) = true) (hN : mN M ≤ 15) (hP : va_P G vwCl (wLa cy L M ++ [(ua, eD cy 1 uu)]) H0) (hD0 : va_D A0 (wLa cy L M ++ [(ua, eD cy 1 uu)])) (hT : Fin32 (mT M)) (w : Nat) (hw : w < 16) : MutW l yL_conflict wsL_conflict 3 84 [.ref (L 0), .ref (L 1), .ref (L 2), .ref (L 3), .ref (L 4), .int (nI w), .ref ua] H0 G cy (lkI (rivOf M (rl M) (kF M) (vF M) w)) (wLa cy L M ++ [(ua, eD cy 1 uu)]) (wLa cy L M) ua := by
  refine Met.ofW (cc := cL_conflict) (maxL := 13) (ret := (some .int)) (by decide) rfl ?_
  intro p e s m args below meth c s₁ B hml hv
  obtain ⟨rfl, hH, hK⟩ := hv
  subst hH
  have hx := B.exec
  have hb := B.bytes
  have hr := B.returns
  have hts := atoms_spec (ws := wsL_conflict) B.pre
  have hown : s.vm.findClass RL = some m.cls := findClass_of_methodNamed B.named
  have hlocks := B.notSynchronized
  have hl := lv_entry ([.ref (L 0), .ref (L 1), .ref (L 2), .ref (L 3), .ref (L 4), .int (nI w), .ref ua]) (n := 13) (Nat.le_of_ble_eq_true rfl)
  rw [lg_entry_eq]
  generalize (lg_sl ([.ref (L 0), .ref (L 1), .ref (L 2), .ref (L 3), .ref (L 4), .int (nI w), .ref ua]) ++ List.replicate (13 - (lg_sl ([.ref (L 0), .ref (L 1), .ref (L 2), .ref (L 3), .ref (L 4), .int (nI w), .ref ua])).length) Slot.unset).toArray = ls at hl ⊢
  have hl : lv_has ls 13 [(0, .ref (L 0)), (1, .ref (L 1)), (2, .ref (L 2)), (3, .ref (L 3)), (4, .ref (L 4)), (5, .int (nI w)), (6, .ref ua)] := hl
  obtain ⟨bP, bN, bR, bO, bW, bL, bF⟩ := id hW
  have hPl := hP.sub (ws' := wLa cy L M) [0, 1, 2, 3, 4] rfl
  have hD := hD0.self (sz := s.heap.size)
  generalize hAe : va_A (wLa cy L M ++ [(ua, eD cy 1 uu)]) s.heap.size = A at hD ⊢
  have hA : ∀ q : Nat, s.heap.size ≤ q → A q := fun q h => by rw [← hAe]; exact Or.inr h
  have hS : va_S A s.heap s.heap [] := va_S.rf
  refine lv_aload_n hx hb dL_conflict_0 rfl (lv_at hl 0 rfl) ?_
  refine lv_aload_n hx hb dL_conflict_1 rfl (lv_at hl 1 rfl) ?_
  refine lv_aload_n hx hb dL_conflict_2 rfl (lv_at hl 2 rfl) ?_
  refine lv_iload hx hb dL_conflict_3 (lv_at hl 5 rfl) ?_
  refine o_SI (As := [.ref (L 0), .ref (L 1), .ref (L 2), .int (nI w)]) (rest := []) ⟨hx, hb, hml, hown, hts⟩ (kL_ruling l G cy hW hN hPl w hw) (va_cwS 4 hts gL_conflict_L_ruling rfl rfl rfl (by decide +kernel) ⟨Nat.le_of_ble_eq_true rfl, Nat.le_of_ble_eq_true rfl⟩) hK rfl hl.1 rfl (Nat.le_of_ble_eq_true rfl) dL_conflict_5 ⟨Nat.zero_le _, Nat.zero_le _⟩ ?_
  refine lv_istore (lv' := [(7, .int (lkI (rl M w))), (0, .ref (L 0)), (1, .ref (L 1)), (2, .ref (L 2)), (3, .ref (L 3)), (4, .ref (L 4)), (5, .int (nI w)), (6, .ref ua)]) hx hb dL_conflict_8 hl (by decide) rfl (fun ls hl => ?_)
  refine lv_iload hx hb dL_conflict_10 (lv_at hl 0 rfl) ?_
  refine o_lk_ge (tgt := 18) hx hb dL_conflict_12 (by decide) (fun j hj => by have := rl_lt _ j hj; omega) (fun c12 => ?_) (fun c12 => ?_)
  · obtain ⟨o, ho⟩ := c12
    rw [ho] at hl
    have hl : lv_has ls 13 [(7, .int (nI o)), (0, .ref (L 0)), (1, .ref (L 1)), (2, .ref (L 2)), (3, .ref (L 3)), (4, .ref (L 4)), (5, .int (nI w)), (6, .ref ua)] := hl
    have b3 := rl_lt _ _ ho
    have b4 := bO o
    have b5 := bR (mO M o)
    refine lv_aload_n hx hb dL_conflict_18 rfl (lv_at hl 1 rfl) ?_
    refine lv_aload_n hx hb dL_conflict_19 rfl (lv_at hl 2 rfl) ?_
    refine lv_aload_n hx hb dL_conflict_20 rfl (lv_at hl 3 rfl) ?_
    refine lv_aload_n hx hb dL_conflict_21 rfl (lv_at hl 4 rfl) ?_
    refine lv_iload hx hb dL_conflict_22 (lv_at hl 0 rfl) ?_
    refine lv_aload hx hb dL_conflict_24 (lv_at hl 7 rfl) ?_
    have hPc := hP.sub (ws' := wLa cy L M ++ [(ua, eD cy 1 uu)]) [0, 1, 2, 3, 4, 5] rfl
    have hDc := hD.sub (ws' := wLa cy L M ++ [(ua, eD cy 1 uu)]) [0, 1, 2, 3, 4, 5] (by decide) rfl
    have hFc := va_free (wc := wLa cy L M ++ [(ua, eD cy 1 uu)]) hD hS hA [0, 1, 2, 3, 4, 5] rfl
    refine va_calli (va_runS (As := [.ref (L 0), .ref (L 1), .ref (L 2), .ref (L 3), .int (nI o), .ref ua]) (rest := []) ⟨hx, hb, hml, hown, hts⟩ (kL_hasOf l G cy hW hF hU hN hPc hDc o b3) (va_cwS 6 hts gL_conflict_L_hasOf rfl rfl rfl (by decide +kernel) ⟨Nat.le_of_ble_eq_true rfl, Nat.le_of_ble_eq_true rfl⟩) ⟨pR_blind, pR_at hK⟩ rfl rfl hl.1 rfl (lv_room (Nat.le_of_ble_eq_true rfl)) dL_conflict_26 ⟨Nat.zero_le _, Nat.zero_le _⟩) hS (fun q _ h => hFc q h) hFc (fun r_ u2 t_ H locs ht hvm hw_ hB hz1 hk1 hS => ?_)
    obtain ⟨hr_, huu2⟩ := hw_
    subst hr_
    have hP : va_P G vwCl (wLa cy L M ++ [(ua, eD cy 1 u2)]) t_.heap := hB
    rw [ht] at hP
    have hD : va_D A (wLa cy L M ++ [(ua, eD cy 1 u2)]) := vd_same hD rfl
    have hPl := hP.sub (ws' := wLa cy L M) [0, 1, 2, 3, 4] rfl
    refine lv_istore (lv' := [(8, .int (bI (oHas M (kF M) (vF M) o = true))), (7, .int (nI o)), (0, .ref (L 0)), (1, .ref (L 1)), (2, .ref (L 2)), (3, .ref (L 3)), (4, .ref (L 4)), (5, .int (nI w)), (6, .ref ua)]) hx hb dL_conflict_29 hl (by decide) rfl (fun ls hl => ?_)
    refine lv_iload hx hb dL_conflict_31 (lv_at hl 0 rfl) ?_
    refine o_ifb_eq (tgt := 43) hx hb dL_conflict_33 (by decide) (fun c33 => ?_) (fun c33 => ?_)
    · refine lv_dconst0 hx hb dL_conflict_43 ?_
      refine lv_dstore (lv' := [(9, .double FP.dconst0), (8, .int (bI (oHas M (kF M) (vF M) o = true))), (7, .int (nI o)), (0, .ref (L 0)), (1, .ref (L 1)), (2, .ref (L 2)), (3, .ref (L 3)), (4, .ref (L 4)), (5, .int (nI w)), (6, .ref ua)]) hx hb dL_conflict_44 hl (by decide) rfl (fun ls hl => ?_)
      refine lv_aload_n hx hb dL_conflict_46 rfl (lv_at hl 3 rfl) ?_
      refine lv_iconst (v := nI 1) hx hb dL_conflict_47 (by decide +kernel) ?_
      refine o_iald hx hb hK hP 0 0 rfl rfl 1 (by omega) (by decide) dL_conflict_48 ?_
      rw [show gI M 1 = mN M from rfl]
      refine lv_iconst (v := nI 1) hx hb dL_conflict_49 (by decide +kernel) ?_
      refine lv_isub hx hb dL_conflict_50 ?_
      rw [show nI (mN M) - nI 1 = dI (mN M) from rfl]
      refine lv_istore (lv' := [(11, .int (dI (mN M))), (9, .double FP.dconst0), (8, .int (bI (oHas M (kF M) (vF M) o = true))), (7, .int (nI o)), (0, .ref (L 0)), (1, .ref (L 1)), (2, .ref (L 2)), (3, .ref (L 3)), (4, .ref (L 4)), (5, .int (nI w)), (6, .ref ua)]) hx hb dL_conflict_51 hl (by decide) rfl (fun ls hl => ?_)
      refine o_loopM (σ := Nat × (Nat → UInt64)) (fun (x_ : Nat × (Nat → UInt64)) (H : Heap) (locs : List Loc) => match x_ with | (i, u3) => i ≤ mN M ∧ topR M (kF M) (vF M) w o i = topR M (kF M) (vF M) w o (mN M) ∧ va_P G vwCl (wLa cy L M ++ [(ua, eD cy 1 u3)]) H ∧ va_D A (wLa cy L M ++ [(ua, eD cy 1 u3)]) ∧ va_S A s.heap H locs) (fun (x_ : Nat × (Nat → UInt64)) => match x_ with | (i, u3) => [(11, .int (dI i)), (8, .int (bI (oHas M (kF M) (vF M) o = true))), (9, .double FP.dconst0), (7, .int (nI o)), (5, .int (nI w)), (0, .ref (L 0)), (1, .ref (L 1)), (2, .ref (L 2)), (3, .ref (L 3)), (4, .ref (L 4)), (6, .ref ua)]) (fun (x_ : Nat × (Nat → UInt64)) => match x_ with | (i, u3) => i) (mN M, u2) ⟨Nat.le_refl _, rfl, hP, hD, hS⟩ (lv_sub hl [0, 2, 1, 3, 9, 4, 5, 6, 7, 8, 10] rfl) ?_
      rintro ⟨i, u3⟩ ls H locs ⟨h1, h2, hP, hD, hS⟩ hl ih53
      have hl : lv_has ls 13 [(11, .int (dI i)), (8, .int (bI (oHas M (kF M) (vF M) o = true))), (9, .double FP.dconst0), (7, .int (nI o)), (5, .int (nI w)), (0, .ref (L 0)), (1, .ref (L 1)), (2, .ref (L 2)), (3, .ref (L 3)), (4, .ref (L 4)), (6, .ref ua)] := hl
      have hPl := hP.sub (ws' := wLa cy L M) [0, 1, 2, 3, 4] rfl
      refine lv_iload hx hb dL_conflict_53 (lv_at hl 0 rfl) ?_
      refine o_ifd_lt (tgt := 169) hx hb dL_conflict_55 (by decide) (by omega) (fun c55 => ?_) (fun c55 => ?_)
      · subst c55
        refine lv_bipush (v := (-5)) hx hb dL_conflict_169 (by decide +kernel) ?_
        exact o_endW (uu := u3) hx hb hr hlocks dL_conflict_171 hP hS (by rw [rivOf_s ho, ← h2]; rfl)
      · obtain ⟨i, rfl⟩ := c55
        rw [dI_succ] at hl
        have b6 := bO i
        have b7 := bW i
        have b8 := bR (mO M i)
        refine lv_aload_n hx hb dL_conflict_58 rfl (lv_at hl 7 rfl) ?_
        refine lv_iconst (v := nI 4) hx hb dL_conflict_59 (by decide +kernel) ?_
        refine lv_iload hx hb dL_conflict_60 (lv_at hl 0 rfl) ?_
        refine lv_imul hx hb dL_conflict_62 ?_
        rw [pk_mul]
        refine lv_iconst (v := nI 3) hx hb dL_conflict_63 (by decide +kernel) ?_
        refine lv_iadd hx hb dL_conflict_64 ?_
        rw [nI_add]
        refine o_iald hx hb hK hP 2 0 rfl rfl ((4 * i) + 3) (by omega) (by decide) dL_conflict_65 ?_
        rw [aI_3]
        refine lv_iconst (v := nI 1) hx hb dL_conflict_66 (by decide +kernel) ?_
        refine o_icmp1_ne (tgt := 163) hx hb dL_conflict_67 (by decide) (fun c67 => ?_) (fun c67 => ?_)
        · refine lv_iinc (v := dI i) (lv' := [(11, .int (dI i)), (8, .int (bI (oHas M (kF M) (vF M) o = true))), (9, .double FP.dconst0), (7, .int (nI o)), (5, .int (nI w)), (0, .ref (L 0)), (1, .ref (L 1)), (2, .ref (L 2)), (3, .ref (L 3)), (4, .ref (L 4)), (6, .ref ua)]) hx hb dL_conflict_163 hl (k := 0) rfl (dI_dec i) (by decide) rfl (fun ls hl => ?_)
          refine lv_goto (tgt := 53) hx hb dL_conflict_166 (by decide) ?_
          refine ih53 (i, u3) ls H locs ?_ ?_ ?_
          · exact ⟨by omega, by rw [← h2, topR_f (fun z => c67 (hfB_iff.mp z.1).1)], hP, hD, hS⟩
          · show lv_has ls 13 [(11, .int (dI i)), (8, .int (bI (oHas M (kF M) (vF M) o = true))), (9, .double FP.dconst0), (7, .int (nI o)), (5, .int (nI w)), (0, .ref (L 0)), (1, .ref (L 1)), (2, .ref (L 2)), (3, .ref (L 3)), (4, .ref (L 4)), (6, .ref ua)]
            exact lv_sub hl [0, 1, 2, 3, 4, 5, 6, 7, 8, 9, 10] rfl
          · show i < i + 1; omega
        · refine lv_aload_n hx hb dL_conflict_70 rfl (lv_at hl 7 rfl) ?_
          refine lv_iconst (v := nI 4) hx hb dL_conflict_71 (by decide +kernel) ?_
          refine lv_iload hx hb dL_conflict_72 (lv_at hl 0 rfl) ?_
          refine lv_imul hx hb dL_conflict_74 ?_
          rw [pk_mul]
          refine lv_iconst (v := nI 1) hx hb dL_conflict_75 (by decide +kernel) ?_
          refine lv_iadd hx hb dL_conflict_76 ?_
          rw [nI_add]
          refine o_iald hx hb hK hP 2 0 rfl rfl ((4 * i) + 1) (by omega) (by decide) dL_conflict_77 ?_
          rw [aI_1]
          refine lv_iload hx hb dL_conflict_78 (lv_at hl 4 rfl) ?_
          refine o_icmp_ne (tgt := 163) hx hb dL_conflict_80 (by decide) (by omega) (by omega) (fun c80 => ?_) (fun c80 => ?_)
          · refine lv_iinc (v := dI i) (lv' := [(11, .int (dI i)), (8, .int (bI (oHas M (kF M) (vF M) o = true))), (9, .double FP.dconst0), (7, .int (nI o)), (5, .int (nI w)), (0, .ref (L 0)), (1, .ref (L 1)), (2, .ref (L 2)), (3, .ref (L 3)), (4, .ref (L 4)), (6, .ref ua)]) hx hb dL_conflict_163 hl (k := 0) rfl (dI_dec i) (by decide) rfl (fun ls hl => ?_)
            refine lv_goto (tgt := 53) hx hb dL_conflict_166 (by decide) ?_
            refine ih53 (i, u3) ls H locs ?_ ?_ ?_
            · exact ⟨by omega, by rw [← h2, topR_f (fun z => c80 (hfB_iff.mp z.1).2)], hP, hD, hS⟩
            · show lv_has ls 13 [(11, .int (dI i)), (8, .int (bI (oHas M (kF M) (vF M) o = true))), (9, .double FP.dconst0), (7, .int (nI o)), (5, .int (nI w)), (0, .ref (L 0)), (1, .ref (L 1)), (2, .ref (L 2)), (3, .ref (L 3)), (4, .ref (L 4)), (6, .ref ua)]
              exact lv_sub hl [0, 1, 2, 3, 4, 5, 6, 7, 8, 9, 10] rfl
            · show i < i + 1; omega
          · refine lv_aload_n hx hb dL_conflict_83 rfl (lv_at hl 7 rfl) ?_
            refine lv_iconst (v := nI 4) hx hb dL_conflict_84 (by decide +kernel) ?_
            refine lv_iload hx hb dL_conflict_85 (lv_at hl 0 rfl) ?_
            refine lv_imul hx hb dL_conflict_87 ?_
            rw [pk_mul]
            refine o_iald hx hb hK hP 2 0 rfl rfl (4 * i) (by omega) (by decide) dL_conflict_88 ?_
            rw [aI_0]
            refine lv_aload_n hx hb dL_conflict_89 rfl (lv_at hl 7 rfl) ?_
            refine lv_iconst (v := nI 4) hx hb dL_conflict_90 (by decide +kernel) ?_
            refine lv_iload hx hb dL_conflict_91 (lv_at hl 3 rfl) ?_
            refine lv_imul hx hb dL_conflict_93 ?_
            rw [pk_mul]
            refine o_iald hx hb hK hP 2 0 rfl rfl (4 * o) (by omega) (by decide) dL_conflict_94 ?_
            rw [aI_0]
            refine o_icmp_eq (tgt := 163) hx hb dL_conflict_95 (by decide) (by omega) (by omega) (fun c95 => ?_) (fun c95 => ?_)
            · refine lv_iinc (v := dI i) (lv' := [(11, .int (dI i)), (8, .int (bI (oHas M (kF M) (vF M) o = true))), (9, .double FP.dconst0), (7, .int (nI o)), (5, .int (nI w)), (0, .ref (L 0)), (1, .ref (L 1)), (2, .ref (L 2)), (3, .ref (L 3)), (4, .ref (L 4)), (6, .ref ua)]) hx hb dL_conflict_163 hl (k := 0) rfl (dI_dec i) (by decide) rfl (fun ls hl => ?_)
              refine lv_goto (tgt := 53) hx hb dL_conflict_166 (by decide) ?_
              refine ih53 (i, u3) ls H locs ?_ ?_ ?_
              · exact ⟨by omega, by rw [← h2, topR_f (fun z => rivB_o c95 z.2)], hP, hD, hS⟩
              · show lv_has ls 13 [(11, .int (dI i)), (8, .int (bI (oHas M (kF M) (vF M) o = true))), (9, .double FP.dconst0), (7, .int (nI o)), (5, .int (nI w)), (0, .ref (L 0)), (1, .ref (L 1)), (2, .ref (L 2)), (3, .ref (L 3)), (4, .ref (L 4)), (6, .ref ua)]
                exact lv_sub hl [0, 1, 2, 3, 4, 5, 6, 7, 8, 9, 10] rfl
              · show i < i + 1; omega
            · refine lv_aload_n hx hb dL_conflict_98 rfl (lv_at hl 6 rfl) ?_
              refine lv_aload_n hx hb dL_conflict_99 rfl (lv_at hl 7 rfl) ?_
              refine lv_iconst (v := nI 4) hx hb dL_conflict_100 (by decide +kernel) ?_
              refine lv_iload hx hb dL_conflict_101 (lv_at hl 0 rfl) ?_
              refine lv_imul hx hb dL_conflict_103 ?_
              rw [pk_mul]
              refine o_iald hx hb hK hP 2 0 rfl rfl (4 * i) (by omega) (by decide) dL_conflict_104 ?_
              rw [aI_0]
              refine o_iald hx hb hK hP 1 0 rfl rfl (mO M i) (by omega) (by decide) dL_conflict_105 ?_
              refine lv_aload_n hx hb dL_conflict_106 rfl (lv_at hl 6 rfl) ?_
              refine lv_aload_n hx hb dL_conflict_107 rfl (lv_at hl 7 rfl) ?_
              refine lv_iconst (v := nI 4) hx hb dL_conflict_108 (by decide +kernel) ?_
              refine lv_iload hx hb dL_conflict_109 (lv_at hl 3 rfl) ?_
              refine lv_imul hx hb dL_conflict_111 ?_
              rw [pk_mul]
              refine o_iald hx hb hK hP 2 0 rfl rfl (4 * o) (by omega) (by decide) dL_conflict_112 ?_
              rw [aI_0]
              refine o_iald hx hb hK hP 1 0 rfl rfl (mO M o) (by omega) (by decide) dL_conflict_113 ?_
              refine o_icmp_ne (tgt := 163) hx hb dL_conflict_114 (by decide) (by omega) (by omega) (fun c114 => ?_) (fun c114 => ?_)
              · refine lv_iinc (v := dI i) (lv' := [(11, .int (dI i)), (8, .int (bI (oHas M (kF M) (vF M) o = true))), (9, .double FP.dconst0), (7, .int (nI o)), (5, .int (nI w)), (0, .ref (L 0)), (1, .ref (L 1)), (2, .ref (L 2)), (3, .ref (L 3)), (4, .ref (L 4)), (6, .ref ua)]) hx hb dL_conflict_163 hl (k := 0) rfl (dI_dec i) (by decide) rfl (fun ls hl => ?_)
                refine lv_goto (tgt := 53) hx hb dL_conflict_166 (by decide) ?_
                refine ih53 (i, u3) ls H locs ?_ ?_ ?_
                · exact ⟨by omega, by rw [← h2, topR_f (fun z => rivB_r c114 z.2)], hP, hD, hS⟩
                · show lv_has ls 13 [(11, .int (dI i)), (8, .int (bI (oHas M (kF M) (vF M) o = true))), (9, .double FP.dconst0), (7, .int (nI o)), (5, .int (nI w)), (0, .ref (L 0)), (1, .ref (L 1)), (2, .ref (L 2)), (3, .ref (L 3)), (4, .ref (L 4)), (6, .ref ua)]
                  exact lv_sub hl [0, 1, 2, 3, 4, 5, 6, 7, 8, 9, 10] rfl
                · show i < i + 1; omega
              · refine lv_aload_n hx hb dL_conflict_117 rfl (lv_at hl 5 rfl) ?_
                refine lv_aload_n hx hb dL_conflict_118 rfl (lv_at hl 6 rfl) ?_
                refine lv_aload_n hx hb dL_conflict_119 rfl (lv_at hl 7 rfl) ?_
                refine lv_aload_n hx hb dL_conflict_120 rfl (lv_at hl 8 rfl) ?_
                refine lv_iload hx hb dL_conflict_121 (lv_at hl 0 rfl) ?_
                refine lv_aload hx hb dL_conflict_123 (lv_at hl 10 rfl) ?_
                have hPc := hP.sub (ws' := wLa cy L M ++ [(ua, eD cy 1 u3)]) [0, 1, 2, 3, 4, 5] rfl
                have hDc := hD.sub (ws' := wLa cy L M ++ [(ua, eD cy 1 u3)]) [0, 1, 2, 3, 4, 5] (by decide) rfl
                have hFc := va_free (wc := wLa cy L M ++ [(ua, eD cy 1 u3)]) hD hS hA [0, 1, 2, 3, 4, 5] rfl
                refine va_calli (va_runS (As := [.ref (L 0), .ref (L 1), .ref (L 2), .ref (L 3), .int (nI i), .ref ua]) (rest := []) ⟨hx, hb, hml, hown, hts⟩ (kL_hasOf l G cy hW hF hU hN hPc hDc i (by omega)) (va_cwS 6 hts gL_conflict_L_hasOf rfl rfl rfl (by decide +kernel) ⟨Nat.le_of_ble_eq_true rfl, Nat.le_of_ble_eq_true rfl⟩) ⟨pR_blind, pR_at hK⟩ rfl rfl hl.1 rfl (lv_room (Nat.le_of_ble_eq_true rfl)) dL_conflict_125 ⟨Nat.zero_le _, Nat.zero_le _⟩) hS (fun q _ h => hFc q h) hFc (fun r_ u4 t_ H locs ht hvm hw_ hB hz1 hk1 hS => ?_)
                obtain ⟨hr_, huu4⟩ := hw_
                subst hr_
                have hP : va_P G vwCl (wLa cy L M ++ [(ua, eD cy 1 u4)]) t_.heap := hB
                rw [ht] at hP
                have hD : va_D A (wLa cy L M ++ [(ua, eD cy 1 u4)]) := vd_same hD rfl
                have hPl := hP.sub (ws' := wLa cy L M) [0, 1, 2, 3, 4] rfl
                refine lv_istore (lv' := [(12, .int (bI (oHas M (kF M) (vF M) i = true))), (11, .int (nI i)), (8, .int (bI (oHas M (kF M) (vF M) o = true))), (9, .double FP.dconst0), (7, .int (nI o)), (5, .int (nI w)), (0, .ref (L 0)), (1, .ref (L 1)), (2, .ref (L 2)), (3, .ref (L 3)), (4, .ref (L 4)), (6, .ref ua)]) hx hb dL_conflict_128 hl (by decide) rfl (fun ls hl => ?_)
                refine lv_iload hx hb dL_conflict_130 (lv_at hl 2 rfl) ?_
                refine lv_dload hx hb dL_conflict_132 (lv_at hl 3 rfl) ?_
                refine lv_iload hx hb dL_conflict_134 (lv_at hl 0 rfl) ?_
                refine lv_iload hx hb dL_conflict_136 (lv_at hl 0 rfl) ?_
                refine o_ifb_eq (tgt := 148) hx hb dL_conflict_138 (by decide) (fun c138 => ?_) (fun c138 => ?_)
                · refine lv_dconst0 hx hb dL_conflict_148 ?_
                  refine lv_aload hx hb dL_conflict_149 (lv_at hl 10 rfl) ?_
                  refine lv_bipush (v := nI 24) hx hb dL_conflict_151 (by decide +kernel) ?_
                  refine o_dald hx hb hK hP 4 3 rfl rfl 24 (by omega) (by decide) dL_conflict_153 ?_
                  rw [tD_24]
                  refine o_SI (As := [.int (bI (oHas M (kF M) (vF M) o = true)), .double FP.dconst0, .int (bI (oHas M (kF M) (vF M) i = true)), .double FP.dconst0, .double (FP.f2d (mT M))]) (rest := []) ⟨hx, hb, hml, hown, hts⟩ (kL_differ_f l G cy (oHas M (kF M) (vF M) o = true) (oHas M (kF M) (vF M) i = true) (FP.dconst0) (FP.dconst0) (FP.f2d (mT M)) c33 c138) (va_cwS 5 hts gL_conflict_L_differ rfl rfl rfl (by decide +kernel) ⟨Nat.le_of_ble_eq_true rfl, Nat.le_of_ble_eq_true rfl⟩) hK rfl hl.1 rfl (Nat.le_of_ble_eq_true rfl) dL_conflict_154 ⟨Nat.zero_le _, Nat.zero_le _⟩ ?_
                  refine lv_if_eq (tgt := 163) hx hb dL_conflict_157 (by decide) (fun c157 => ?_) (fun c157 => ?_)
                  · refine lv_iinc (v := dI i) (lv' := [(11, .int (dI i)), (12, .int (bI (oHas M (kF M) (vF M) i = true))), (8, .int (bI (oHas M (kF M) (vF M) o = true))), (9, .double FP.dconst0), (7, .int (nI o)), (5, .int (nI w)), (0, .ref (L 0)), (1, .ref (L 1)), (2, .ref (L 2)), (3, .ref (L 3)), (4, .ref (L 4)), (6, .ref ua)]) hx hb dL_conflict_163 hl (k := 1) rfl (dI_dec i) (by decide) rfl (fun ls hl => ?_)
                    refine lv_goto (tgt := 53) hx hb dL_conflict_166 (by decide) ?_
                    refine ih53 (i, u4) ls H locs ?_ ?_ ?_
                    · exact ⟨by omega, by rw [← h2, topR_f (fun z => c138 ((rivB_e c95 c114 ⟨fun q => absurd q c138, fun q => absurd q c33⟩).mp z.2).1)], hP, hD, hS⟩
                    · show lv_has ls 13 [(11, .int (dI i)), (8, .int (bI (oHas M (kF M) (vF M) o = true))), (9, .double FP.dconst0), (7, .int (nI o)), (5, .int (nI w)), (0, .ref (L 0)), (1, .ref (L 1)), (2, .ref (L 2)), (3, .ref (L 3)), (4, .ref (L 4)), (6, .ref ua)]
                      exact lv_sub hl [0, 2, 3, 4, 5, 6, 7, 8, 9, 10, 11] rfl
                    · show i < i + 1; omega
                  · exact absurd rfl c157
                · refine lv_aload hx hb dL_conflict_141 (lv_at hl 11 rfl) ?_
                  refine lv_iconst (v := nI 0) hx hb dL_conflict_143 (by decide +kernel) ?_
                  refine o_dald hx hb hK hP 5 3 rfl rfl 0 (by omega) (by decide) dL_conflict_144 ?_
                  rw [huu4 c138]
                  refine lv_goto (tgt := 149) hx hb dL_conflict_145 (by decide) ?_
                  refine lv_aload hx hb dL_conflict_149 (lv_at hl 10 rfl) ?_
                  refine lv_bipush (v := nI 24) hx hb dL_conflict_151 (by decide +kernel) ?_
                  refine o_dald hx hb hK hP 4 3 rfl rfl 24 (by omega) (by decide) dL_conflict_153 ?_
                  rw [tD_24]
                  refine o_SI (As := [.int (bI (oHas M (kF M) (vF M) o = true)), .double FP.dconst0, .int (bI (oHas M (kF M) (vF M) i = true)), .double (FP.f2d (oVal M (vF M) i)), .double (FP.f2d (mT M))]) (rest := []) ⟨hx, hb, hml, hown, hts⟩ (kL_differ_ne l G cy (oHas M (kF M) (vF M) o = true) (oHas M (kF M) (vF M) i = true) (FP.dconst0) (FP.f2d (oVal M (vF M) i)) (FP.f2d (mT M)) (fun z => c33 (z.mpr c138))) (va_cwS 5 hts gL_conflict_L_differ rfl rfl rfl (by decide +kernel) ⟨Nat.le_of_ble_eq_true rfl, Nat.le_of_ble_eq_true rfl⟩) hK rfl hl.1 rfl (Nat.le_of_ble_eq_true rfl) dL_conflict_154 ⟨Nat.zero_le _, Nat.zero_le _⟩ ?_
                  refine lv_if_eq (tgt := 163) hx hb dL_conflict_157 (by decide) (fun c157 => ?_) (fun c157 => ?_)
                  · exact absurd c157 (by decide)
                  · refine lv_iload hx hb dL_conflict_160 (lv_at hl 1 rfl) ?_
                    exact o_endW (uu := u4) hx hb hr hlocks dL_conflict_162 hP hS (by rw [rivOf_s ho, ← h2, topR_t (hfB_iff.mpr ⟨c67, c80⟩) (rivB_d c95 c114 (fun z => c33 (z.mp c138)))]; rfl)
    · refine lv_aload hx hb dL_conflict_36 (lv_at hl 8 rfl) ?_
      refine lv_iconst (v := nI 0) hx hb dL_conflict_38 (by decide +kernel) ?_
      refine o_dald hx hb hK hP 5 3 rfl rfl 0 (by omega) (by decide) dL_conflict_39 ?_
      rw [huu2 c33]
      refine lv_goto (tgt := 44) hx hb dL_conflict_40 (by decide) ?_
      refine lv_dstore (lv' := [(9, .double (FP.f2d (oVal M (vF M) o))), (8, .int (bI (oHas M (kF M) (vF M) o = true))), (7, .int (nI o)), (0, .ref (L 0)), (1, .ref (L 1)), (2, .ref (L 2)), (3, .ref (L 3)), (4, .ref (L 4)), (5, .int (nI w)), (6, .ref ua)]) hx hb dL_conflict_44 hl (by decide) rfl (fun ls hl => ?_)
      refine lv_aload_n hx hb dL_conflict_46 rfl (lv_at hl 3 rfl) ?_
      refine lv_iconst (v := nI 1) hx hb dL_conflict_47 (by decide +kernel) ?_
      refine o_iald hx hb hK hP 0 0 rfl rfl 1 (by omega) (by decide) dL_conflict_48 ?_
      rw [show gI M 1 = mN M from rfl]
      refine lv_iconst (v := nI 1) hx hb dL_conflict_49 (by decide +kernel) ?_
      refine lv_isub hx hb dL_conflict_50 ?_
      rw [show nI (mN M) - nI 1 = dI (mN M) from rfl]
      refine lv_istore (lv' := [(11, .int (dI (mN M))), (9, .double (FP.f2d (oVal M (vF M) o))), (8, .int (bI (oHas M (kF M) (vF M) o = true))), (7, .int (nI o)), (0, .ref (L 0)), (1, .ref (L 1)), (2, .ref (L 2)), (3, .ref (L 3)), (4, .ref (L 4)), (5, .int (nI w)), (6, .ref ua)]) hx hb dL_conflict_51 hl (by decide) rfl (fun ls hl => ?_)
      refine o_loopM (σ := Nat × (Nat → UInt64)) (fun (x_ : Nat × (Nat → UInt64)) (H : Heap) (locs : List Loc) => match x_ with | (i, u3) => i ≤ mN M ∧ topR M (kF M) (vF M) w o i = topR M (kF M) (vF M) w o (mN M) ∧ va_P G vwCl (wLa cy L M ++ [(ua, eD cy 1 u3)]) H ∧ va_D A (wLa cy L M ++ [(ua, eD cy 1 u3)]) ∧ va_S A s.heap H locs) (fun (x_ : Nat × (Nat → UInt64)) => match x_ with | (i, u3) => [(11, .int (dI i)), (8, .int (bI (oHas M (kF M) (vF M) o = true))), (9, .double (FP.f2d (oVal M (vF M) o))), (7, .int (nI o)), (5, .int (nI w)), (0, .ref (L 0)), (1, .ref (L 1)), (2, .ref (L 2)), (3, .ref (L 3)), (4, .ref (L 4)), (6, .ref ua)]) (fun (x_ : Nat × (Nat → UInt64)) => match x_ with | (i, u3) => i) (mN M, u2) ⟨Nat.le_refl _, rfl, hP, hD, hS⟩ (lv_sub hl [0, 2, 1, 3, 9, 4, 5, 6, 7, 8, 10] rfl) ?_
      rintro ⟨i, u3⟩ ls H locs ⟨h1, h2, hP, hD, hS⟩ hl ih53
      have hl : lv_has ls 13 [(11, .int (dI i)), (8, .int (bI (oHas M (kF M) (vF M) o = true))), (9, .double (FP.f2d (oVal M (vF M) o))), (7, .int (nI o)), (5, .int (nI w)), (0, .ref (L 0)), (1, .ref (L 1)), (2, .ref (L 2)), (3, .ref (L 3)), (4, .ref (L 4)), (6, .ref ua)] := hl
      have hPl := hP.sub (ws' := wLa cy L M) [0, 1, 2, 3, 4] rfl
      refine lv_iload hx hb dL_conflict_53 (lv_at hl 0 rfl) ?_
      refine o_ifd_lt (tgt := 169) hx hb dL_conflict_55 (by decide) (by omega) (fun c55 => ?_) (fun c55 => ?_)
      · subst c55
        refine lv_bipush (v := (-5)) hx hb dL_conflict_169 (by decide +kernel) ?_
        exact o_endW (uu := u3) hx hb hr hlocks dL_conflict_171 hP hS (by rw [rivOf_s ho, ← h2]; rfl)
      · obtain ⟨i, rfl⟩ := c55
        rw [dI_succ] at hl
        have b6 := bO i
        have b7 := bW i
        have b8 := bR (mO M i)
        refine lv_aload_n hx hb dL_conflict_58 rfl (lv_at hl 7 rfl) ?_
        refine lv_iconst (v := nI 4) hx hb dL_conflict_59 (by decide +kernel) ?_
        refine lv_iload hx hb dL_conflict_60 (lv_at hl 0 rfl) ?_
        refine lv_imul hx hb dL_conflict_62 ?_
        rw [pk_mul]
        refine lv_iconst (v := nI 3) hx hb dL_conflict_63 (by decide +kernel) ?_
        refine lv_iadd hx hb dL_conflict_64 ?_
        rw [nI_add]
        refine o_iald hx hb hK hP 2 0 rfl rfl ((4 * i) + 3) (by omega) (by decide) dL_conflict_65 ?_
        rw [aI_3]
        refine lv_iconst (v := nI 1) hx hb dL_conflict_66 (by decide +kernel) ?_
        refine o_icmp1_ne (tgt := 163) hx hb dL_conflict_67 (by decide) (fun c67 => ?_) (fun c67 => ?_)
        · refine lv_iinc (v := dI i) (lv' := [(11, .int (dI i)), (8, .int (bI (oHas M (kF M) (vF M) o = true))), (9, .double (FP.f2d (oVal M (vF M) o))), (7, .int (nI o)), (5, .int (nI w)), (0, .ref (L 0)), (1, .ref (L 1)), (2, .ref (L 2)), (3, .ref (L 3)), (4, .ref (L 4)), (6, .ref ua)]) hx hb dL_conflict_163 hl (k := 0) rfl (dI_dec i) (by decide) rfl (fun ls hl => ?_)
          refine lv_goto (tgt := 53) hx hb dL_conflict_166 (by decide) ?_
          refine ih53 (i, u3) ls H locs ?_ ?_ ?_
          · exact ⟨by omega, by rw [← h2, topR_f (fun z => c67 (hfB_iff.mp z.1).1)], hP, hD, hS⟩
          · show lv_has ls 13 [(11, .int (dI i)), (8, .int (bI (oHas M (kF M) (vF M) o = true))), (9, .double (FP.f2d (oVal M (vF M) o))), (7, .int (nI o)), (5, .int (nI w)), (0, .ref (L 0)), (1, .ref (L 1)), (2, .ref (L 2)), (3, .ref (L 3)), (4, .ref (L 4)), (6, .ref ua)]
            exact lv_sub hl [0, 1, 2, 3, 4, 5, 6, 7, 8, 9, 10] rfl
          · show i < i + 1; omega
        · refine lv_aload_n hx hb dL_conflict_70 rfl (lv_at hl 7 rfl) ?_
          refine lv_iconst (v := nI 4) hx hb dL_conflict_71 (by decide +kernel) ?_
          refine lv_iload hx hb dL_conflict_72 (lv_at hl 0 rfl) ?_
          refine lv_imul hx hb dL_conflict_74 ?_
          rw [pk_mul]
          refine lv_iconst (v := nI 1) hx hb dL_conflict_75 (by decide +kernel) ?_
          refine lv_iadd hx hb dL_conflict_76 ?_
          rw [nI_add]
          refine o_iald hx hb hK hP 2 0 rfl rfl ((4 * i) + 1) (by omega) (by decide) dL_conflict_77 ?_
          rw [aI_1]
          refine lv_iload hx hb dL_conflict_78 (lv_at hl 4 rfl) ?_
          refine o_icmp_ne (tgt := 163) hx hb dL_conflict_80 (by decide) (by omega) (by omega) (fun c80 => ?_) (fun c80 => ?_)
          · refine lv_iinc (v := dI i) (lv' := [(11, .int (dI i)), (8, .int (bI (oHas M (kF M) (vF M) o = true))), (9, .double (FP.f2d (oVal M (vF M) o))), (7, .int (nI o)), (5, .int (nI w)), (0, .ref (L 0)), (1, .ref (L 1)), (2, .ref (L 2)), (3, .ref (L 3)), (4, .ref (L 4)), (6, .ref ua)]) hx hb dL_conflict_163 hl (k := 0) rfl (dI_dec i) (by decide) rfl (fun ls hl => ?_)
            refine lv_goto (tgt := 53) hx hb dL_conflict_166 (by decide) ?_
            refine ih53 (i, u3) ls H locs ?_ ?_ ?_
            · exact ⟨by omega, by rw [← h2, topR_f (fun z => c80 (hfB_iff.mp z.1).2)], hP, hD, hS⟩
            · show lv_has ls 13 [(11, .int (dI i)), (8, .int (bI (oHas M (kF M) (vF M) o = true))), (9, .double (FP.f2d (oVal M (vF M) o))), (7, .int (nI o)), (5, .int (nI w)), (0, .ref (L 0)), (1, .ref (L 1)), (2, .ref (L 2)), (3, .ref (L 3)), (4, .ref (L 4)), (6, .ref ua)]
              exact lv_sub hl [0, 1, 2, 3, 4, 5, 6, 7, 8, 9, 10] rfl
            · show i < i + 1; omega
          · refine lv_aload_n hx hb dL_conflict_83 rfl (lv_at hl 7 rfl) ?_
            refine lv_iconst (v := nI 4) hx hb dL_conflict_84 (by decide +kernel) ?_
            refine lv_iload hx hb dL_conflict_85 (lv_at hl 0 rfl) ?_
            refine lv_imul hx hb dL_conflict_87 ?_
            rw [pk_mul]
            refine o_iald hx hb hK hP 2 0 rfl rfl (4 * i) (by omega) (by decide) dL_conflict_88 ?_
            rw [aI_0]
            refine lv_aload_n hx hb dL_conflict_89 rfl (lv_at hl 7 rfl) ?_
            refine lv_iconst (v := nI 4) hx hb dL_conflict_90 (by decide +kernel) ?_
            refine lv_iload hx hb dL_conflict_91 (lv_at hl 3 rfl) ?_
            refine lv_imul hx hb dL_conflict_93 ?_
            rw [pk_mul]
            refine o_iald hx hb hK hP 2 0 rfl rfl (4 * o) (by omega) (by decide) dL_conflict_94 ?_
            rw [aI_0]
            refine o_icmp_eq (tgt := 163) hx hb dL_conflict_95 (by decide) (by omega) (by omega) (fun c95 => ?_) (fun c95 => ?_)
            · refine lv_iinc (v := dI i) (lv' := [(11, .int (dI i)), (8, .int (bI (oHas M (kF M) (vF M) o = true))), (9, .double (FP.f2d (oVal M (vF M) o))), (7, .int (nI o)), (5, .int (nI w)), (0, .ref (L 0)), (1, .ref (L 1)), (2, .ref (L 2)), (3, .ref (L 3)), (4, .ref (L 4)), (6, .ref ua)]) hx hb dL_conflict_163 hl (k := 0) rfl (dI_dec i) (by decide) rfl (fun ls hl => ?_)
              refine lv_goto (tgt := 53) hx hb dL_conflict_166 (by decide) ?_
              refine ih53 (i, u3) ls H locs ?_ ?_ ?_
              · exact ⟨by omega, by rw [← h2, topR_f (fun z => rivB_o c95 z.2)], hP, hD, hS⟩
              · show lv_has ls 13 [(11, .int (dI i)), (8, .int (bI (oHas M (kF M) (vF M) o = true))), (9, .double (FP.f2d (oVal M (vF M) o))), (7, .int (nI o)), (5, .int (nI w)), (0, .ref (L 0)), (1, .ref (L 1)), (2, .ref (L 2)), (3, .ref (L 3)), (4, .ref (L 4)), (6, .ref ua)]
                exact lv_sub hl [0, 1, 2, 3, 4, 5, 6, 7, 8, 9, 10] rfl
              · show i < i + 1; omega
            · refine lv_aload_n hx hb dL_conflict_98 rfl (lv_at hl 6 rfl) ?_
              refine lv_aload_n hx hb dL_conflict_99 rfl (lv_at hl 7 rfl) ?_
              refine lv_iconst (v := nI 4) hx hb dL_conflict_100 (by decide +kernel) ?_
              refine lv_iload hx hb dL_conflict_101 (lv_at hl 0 rfl) ?_
              refine lv_imul hx hb dL_conflict_103 ?_
              rw [pk_mul]
              refine o_iald hx hb hK hP 2 0 rfl rfl (4 * i) (by omega) (by decide) dL_conflict_104 ?_
              rw [aI_0]
              refine o_iald hx hb hK hP 1 0 rfl rfl (mO M i) (by omega) (by decide) dL_conflict_105 ?_
              refine lv_aload_n hx hb dL_conflict_106 rfl (lv_at hl 6 rfl) ?_
              refine lv_aload_n hx hb dL_conflict_107 rfl (lv_at hl 7 rfl) ?_
              refine lv_iconst (v := nI 4) hx hb dL_conflict_108 (by decide +kernel) ?_
              refine lv_iload hx hb dL_conflict_109 (lv_at hl 3 rfl) ?_
              refine lv_imul hx hb dL_conflict_111 ?_
              rw [pk_mul]
              refine o_iald hx hb hK hP 2 0 rfl rfl (4 * o) (by omega) (by decide) dL_conflict_112 ?_
              rw [aI_0]
              refine o_iald hx hb hK hP 1 0 rfl rfl (mO M o) (by omega) (by decide) dL_conflict_113 ?_
              refine o_icmp_ne (tgt := 163) hx hb dL_conflict_114 (by decide) (by omega) (by omega) (fun c114 => ?_) (fun c114 => ?_)
              · refine lv_iinc (v := dI i) (lv' := [(11, .int (dI i)), (8, .int (bI (oHas M (kF M) (vF M) o = true))), (9, .double (FP.f2d (oVal M (vF M) o))), (7, .int (nI o)), (5, .int (nI w)), (0, .ref (L 0)), (1, .ref (L 1)), (2, .ref (L 2)), (3, .ref (L 3)), (4, .ref (L 4)), (6, .ref ua)]) hx hb dL_conflict_163 hl (k := 0) rfl (dI_dec i) (by decide) rfl (fun ls hl => ?_)
                refine lv_goto (tgt := 53) hx hb dL_conflict_166 (by decide) ?_
                refine ih53 (i, u3) ls H locs ?_ ?_ ?_
                · exact ⟨by omega, by rw [← h2, topR_f (fun z => rivB_r c114 z.2)], hP, hD, hS⟩
                · show lv_has ls 13 [(11, .int (dI i)), (8, .int (bI (oHas M (kF M) (vF M) o = true))), (9, .double (FP.f2d (oVal M (vF M) o))), (7, .int (nI o)), (5, .int (nI w)), (0, .ref (L 0)), (1, .ref (L 1)), (2, .ref (L 2)), (3, .ref (L 3)), (4, .ref (L 4)), (6, .ref ua)]
                  exact lv_sub hl [0, 1, 2, 3, 4, 5, 6, 7, 8, 9, 10] rfl
                · show i < i + 1; omega
              · refine lv_aload_n hx hb dL_conflict_117 rfl (lv_at hl 5 rfl) ?_
                refine lv_aload_n hx hb dL_conflict_118 rfl (lv_at hl 6 rfl) ?_
                refine lv_aload_n hx hb dL_conflict_119 rfl (lv_at hl 7 rfl) ?_
                refine lv_aload_n hx hb dL_conflict_120 rfl (lv_at hl 8 rfl) ?_
                refine lv_iload hx hb dL_conflict_121 (lv_at hl 0 rfl) ?_
                refine lv_aload hx hb dL_conflict_123 (lv_at hl 10 rfl) ?_
                have hPc := hP.sub (ws' := wLa cy L M ++ [(ua, eD cy 1 u3)]) [0, 1, 2, 3, 4, 5] rfl
                have hDc := hD.sub (ws' := wLa cy L M ++ [(ua, eD cy 1 u3)]) [0, 1, 2, 3, 4, 5] (by decide) rfl
                have hFc := va_free (wc := wLa cy L M ++ [(ua, eD cy 1 u3)]) hD hS hA [0, 1, 2, 3, 4, 5] rfl
                refine va_calli (va_runS (As := [.ref (L 0), .ref (L 1), .ref (L 2), .ref (L 3), .int (nI i), .ref ua]) (rest := []) ⟨hx, hb, hml, hown, hts⟩ (kL_hasOf l G cy hW hF hU hN hPc hDc i (by omega)) (va_cwS 6 hts gL_conflict_L_hasOf rfl rfl rfl (by decide +kernel) ⟨Nat.le_of_ble_eq_true rfl, Nat.le_of_ble_eq_true rfl⟩) ⟨pR_blind, pR_at hK⟩ rfl rfl hl.1 rfl (lv_room (Nat.le_of_ble_eq_true rfl)) dL_conflict_125 ⟨Nat.zero_le _, Nat.zero_le _⟩) hS (fun q _ h => hFc q h) hFc (fun r_ u4 t_ H locs ht hvm hw_ hB hz1 hk1 hS => ?_)
                obtain ⟨hr_, huu4⟩ := hw_
                subst hr_
                have hP : va_P G vwCl (wLa cy L M ++ [(ua, eD cy 1 u4)]) t_.heap := hB
                rw [ht] at hP
                have hD : va_D A (wLa cy L M ++ [(ua, eD cy 1 u4)]) := vd_same hD rfl
                have hPl := hP.sub (ws' := wLa cy L M) [0, 1, 2, 3, 4] rfl
                refine lv_istore (lv' := [(12, .int (bI (oHas M (kF M) (vF M) i = true))), (11, .int (nI i)), (8, .int (bI (oHas M (kF M) (vF M) o = true))), (9, .double (FP.f2d (oVal M (vF M) o))), (7, .int (nI o)), (5, .int (nI w)), (0, .ref (L 0)), (1, .ref (L 1)), (2, .ref (L 2)), (3, .ref (L 3)), (4, .ref (L 4)), (6, .ref ua)]) hx hb dL_conflict_128 hl (by decide) rfl (fun ls hl => ?_)
                refine lv_iload hx hb dL_conflict_130 (lv_at hl 2 rfl) ?_
                refine lv_dload hx hb dL_conflict_132 (lv_at hl 3 rfl) ?_
                refine lv_iload hx hb dL_conflict_134 (lv_at hl 0 rfl) ?_
                refine lv_iload hx hb dL_conflict_136 (lv_at hl 0 rfl) ?_
                refine o_ifb_eq (tgt := 148) hx hb dL_conflict_138 (by decide) (fun c138 => ?_) (fun c138 => ?_)
                · refine lv_dconst0 hx hb dL_conflict_148 ?_
                  refine lv_aload hx hb dL_conflict_149 (lv_at hl 10 rfl) ?_
                  refine lv_bipush (v := nI 24) hx hb dL_conflict_151 (by decide +kernel) ?_
                  refine o_dald hx hb hK hP 4 3 rfl rfl 24 (by omega) (by decide) dL_conflict_153 ?_
                  rw [tD_24]
                  refine o_SI (As := [.int (bI (oHas M (kF M) (vF M) o = true)), .double (FP.f2d (oVal M (vF M) o)), .int (bI (oHas M (kF M) (vF M) i = true)), .double FP.dconst0, .double (FP.f2d (mT M))]) (rest := []) ⟨hx, hb, hml, hown, hts⟩ (kL_differ_ne l G cy (oHas M (kF M) (vF M) o = true) (oHas M (kF M) (vF M) i = true) (FP.f2d (oVal M (vF M) o)) (FP.dconst0) (FP.f2d (mT M)) (fun z => c138 (z.mp c33))) (va_cwS 5 hts gL_conflict_L_differ rfl rfl rfl (by decide +kernel) ⟨Nat.le_of_ble_eq_true rfl, Nat.le_of_ble_eq_true rfl⟩) hK rfl hl.1 rfl (Nat.le_of_ble_eq_true rfl) dL_conflict_154 ⟨Nat.zero_le _, Nat.zero_le _⟩ ?_
                  refine lv_if_eq (tgt := 163) hx hb dL_conflict_157 (by decide) (fun c157 => ?_) (fun c157 => ?_)
                  · exact absurd c157 (by decide)
                  · refine lv_iload hx hb dL_conflict_160 (lv_at hl 1 rfl) ?_
                    exact o_endW (uu := u4) hx hb hr hlocks dL_conflict_162 hP hS (by rw [rivOf_s ho, ← h2, topR_t (hfB_iff.mpr ⟨c67, c80⟩) (rivB_d c95 c114 (fun z => c138 (z.mpr c33)))]; rfl)
                · refine lv_aload hx hb dL_conflict_141 (lv_at hl 11 rfl) ?_
                  refine lv_iconst (v := nI 0) hx hb dL_conflict_143 (by decide +kernel) ?_
                  refine o_dald hx hb hK hP 5 3 rfl rfl 0 (by omega) (by decide) dL_conflict_144 ?_
                  rw [huu4 c138]
                  refine lv_goto (tgt := 149) hx hb dL_conflict_145 (by decide) ?_
                  refine lv_aload hx hb dL_conflict_149 (lv_at hl 10 rfl) ?_
                  refine lv_bipush (v := nI 24) hx hb dL_conflict_151 (by decide +kernel) ?_
                  refine o_dald hx hb hK hP 4 3 rfl rfl 24 (by omega) (by decide) dL_conflict_153 ?_
                  rw [tD_24]
                  refine o_SI (As := [.int (bI (oHas M (kF M) (vF M) o = true)), .double (FP.f2d (oVal M (vF M) o)), .int (bI (oHas M (kF M) (vF M) i = true)), .double (FP.f2d (oVal M (vF M) i)), .double (FP.f2d (mT M))]) (rest := []) ⟨hx, hb, hml, hown, hts⟩ (kL_differ_t l G cy (oHas M (kF M) (vF M) o = true) (oHas M (kF M) (vF M) i = true) (oVal M (vF M) o) (oVal M (vF M) i) (mT M) c33 c138 (oHas_rng c33) (oHas_rng c138) hT) (va_cwS 5 hts gL_conflict_L_differ rfl rfl rfl (by decide +kernel) ⟨Nat.le_of_ble_eq_true rfl, Nat.le_of_ble_eq_true rfl⟩) hK rfl hl.1 rfl (Nat.le_of_ble_eq_true rfl) dL_conflict_154 ⟨Nat.zero_le _, Nat.zero_le _⟩ ?_
                  refine o_ifb_eq (tgt := 163) hx hb dL_conflict_157 (by decide) (fun c157 => ?_) (fun c157 => ?_)
                  · refine lv_iinc (v := dI i) (lv' := [(11, .int (dI i)), (12, .int (bI (oHas M (kF M) (vF M) i = true))), (8, .int (bI (oHas M (kF M) (vF M) o = true))), (9, .double (FP.f2d (oVal M (vF M) o))), (7, .int (nI o)), (5, .int (nI w)), (0, .ref (L 0)), (1, .ref (L 1)), (2, .ref (L 2)), (3, .ref (L 3)), (4, .ref (L 4)), (6, .ref ua)]) hx hb dL_conflict_163 hl (k := 1) rfl (dI_dec i) (by decide) rfl (fun ls hl => ?_)
                    refine lv_goto (tgt := 53) hx hb dL_conflict_166 (by decide) ?_
                    refine ih53 (i, u4) ls H locs ?_ ?_ ?_
                    · exact ⟨by omega, by rw [← h2, topR_f (fun z => c157 ((rivB_e c95 c114 ⟨fun _ => c33, fun _ => c138⟩).mp z.2).2)], hP, hD, hS⟩
                    · show lv_has ls 13 [(11, .int (dI i)), (8, .int (bI (oHas M (kF M) (vF M) o = true))), (9, .double (FP.f2d (oVal M (vF M) o))), (7, .int (nI o)), (5, .int (nI w)), (0, .ref (L 0)), (1, .ref (L 1)), (2, .ref (L 2)), (3, .ref (L 3)), (4, .ref (L 4)), (6, .ref ua)]
                      exact lv_sub hl [0, 2, 3, 4, 5, 6, 7, 8, 9, 10, 11] rfl
                    · show i < i + 1; omega
                  · refine lv_iload hx hb dL_conflict_160 (lv_at hl 1 rfl) ?_
                    exact o_endW (uu := u4) hx hb hr hlocks dL_conflict_162 hP hS (by rw [rivOf_s ho, ← h2, topR_t (hfB_iff.mpr ⟨c67, c80⟩) ((rivB_e c95 c114 ⟨fun _ => c33, fun _ => c138⟩).mpr ⟨c138, c157⟩)]; rfl)
  · refine lv_bipush (v := (-5)) hx hb dL_conflict_15 (by decide +kernel) ?_
    exact o_endW (uu := uu) hx hb hr hlocks dL_conflict_17 hP hS (by rw [rivOf_n c12]; rfl)
