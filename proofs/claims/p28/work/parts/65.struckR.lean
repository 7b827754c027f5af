set_option maxHeartbeats 4000000 in
set_option maxRecDepth 100000 in
theorem kL_isStruck_0 (l : Launch) (G : va_G) (cy : Nat → ClassId) {H0 : Heap} {z : Nat} {q h x r y L : Nat → Nat} {M : MT} (hW : WB M) (hN : mN M ≤ 15) (hP : va_P G vwCl ([oSy z q h x r y] ++ wDo cy q M ++ wLa cy L M) H0) (v : Int32) (hn : mN M = 0) : MetI l yL_isStruck wsL_isStruck 2 60 [.ref z, .ref (L 0), .ref (L 2), .ref (L 4), .int v] H0 G cy 1 := by
  refine Met.ofW (cc := cL_isStruck) (maxL := 8) (ret := (some .boolean)) (by decide) rfl ?_
  intro p e s m args below meth c s₁ B hml hv
  obtain ⟨rfl, hH, hK⟩ := hv
  subst hH
  have hx := B.exec
  have hb := B.bytes
  have hr := B.returns
  have hts := atoms_spec (ws := wsL_isStruck) B.pre
  have hown : s.vm.findClass RL = some m.cls := findClass_of_methodNamed B.named
  have hlocks := B.notSynchronized
  have hl := lv_entry ([.ref z, .ref (L 0), .ref (L 2), .ref (L 4), .int v]) (n := 8) (Nat.le_of_ble_eq_true rfl)
  rw [lg_entry_eq]
  generalize (lg_sl ([.ref z, .ref (L 0), .ref (L 2), .ref (L 4), .int v]) ++ List.replicate (8 - (lg_sl ([.ref z, .ref (L 0), .ref (L 2), .ref (L 4), .int v])).length) Slot.unset).toArray = ls at hl ⊢
  have hl : lv_has ls 8 [(0, .ref z), (1, .ref (L 0)), (2, .ref (L 2)), (3, .ref (L 4)), (4, .int v)] := hl
  obtain ⟨bP, bN, bR, bO, bW, bL, bF⟩ := id hW
  have hPs := hP.sub (ws' := [oSy z q h x r y] ++ wDo cy q M) [0, 1, 2, 3, 4, 5, 6, 7, 8, 9] rfl
  have hPl := hP.sub (ws' := wLa cy L M) [10, 11, 12, 13, 14] rfl
  refine lv_aload_n hx hb dL_isStruck_0 rfl (lv_at hl 1 rfl) ?_
  refine lv_iconst (v := nI 1) hx hb dL_isStruck_1 (by decide +kernel) ?_
  refine o_iald hx hb hK hP 10 0 rfl rfl 1 (by omega) (by decide) dL_isStruck_2 ?_
  rw [show gI M 1 = mN M from rfl]
  refine o_if_ne (tgt := 30) hx hb dL_isStruck_3 (by decide) (by omega) (fun c3 => ?_) (fun c3 => ?_)
  · exact absurd c3 (by omega)
  · refine lv_aload_n hx hb dL_isStruck_6 rfl (lv_at hl 0 rfl) ?_
    refine lv_iconst (v := nI 0) hx hb dL_isStruck_7 (by decide +kernel) ?_
    refine o_VI (As := [.int (nI 0)]) (rest := []) ⟨hx, hb, hml, hown, hts⟩ (kX7_tear_u l G cy hW hPs 0 (by omega) (by decide)) (cwV 1 hts gL_isStruck_X7_tear rfl rfl rfl (by decide +kernel) ⟨Nat.le_of_ble_eq_true rfl, Nat.le_of_ble_eq_true rfl⟩) hK (va_recv hK hP (ci := 6) (q0 := 0) rfl rfl) rfl hl.1 rfl (Nat.le_of_ble_eq_true rfl) dL_isStruck_8 ⟨Nat.le_of_ble_eq_true rfl, Nat.le_of_ble_eq_true rfl⟩ ?_
    refine lv_iconst (v := (-1)) hx hb dL_isStruck_11 (by decide +kernel) ?_
    refine lv_icmp_ne (tgt := 28) hx hb dL_isStruck_12 (by decide) (fun c12 => ?_) (fun c12 => ?_)
    · exact absurd rfl c12
    · refine lv_aload_n hx hb dL_isStruck_15 rfl (lv_at hl 0 rfl) ?_
      refine lv_iconst (v := nI 0) hx hb dL_isStruck_16 (by decide +kernel) ?_
      refine o_VI (As := [.int (nI 0)]) (rest := []) ⟨hx, hb, hml, hown, hts⟩ (kX7_hammer_u l G cy hW hPs 0 (by omega) (by decide)) (cwV 1 hts gL_isStruck_X7_hammer rfl rfl rfl (by decide +kernel) ⟨Nat.le_of_ble_eq_true rfl, Nat.le_of_ble_eq_true rfl⟩) hK (va_recv hK hP (ci := 6) (q0 := 0) rfl rfl) rfl hl.1 rfl (Nat.le_of_ble_eq_true rfl) dL_isStruck_17 ⟨Nat.le_of_ble_eq_true rfl, Nat.le_of_ble_eq_true rfl⟩ ?_
      refine lv_iconst (v := (-1)) hx hb dL_isStruck_20 (by decide +kernel) ?_
      refine lv_icmp_ne (tgt := 28) hx hb dL_isStruck_21 (by decide) (fun c21 => ?_) (fun c21 => ?_)
      · exact absurd rfl c21
      · refine lv_iconst (v := nI 1) hx hb dL_isStruck_24 (by decide +kernel) ?_
        refine lv_goto (tgt := 29) hx hb dL_isStruck_25 (by decide) ?_
        exact o_endZ hx hb hr hlocks dL_isStruck_29 (by decide) (by decide)

set_option maxHeartbeats 4000000 in
set_option maxRecDepth 100000 in
theorem kL_isStruck_n (l : Launch) (G : va_G) (cy : Nat → ClassId) {H0 : Heap} {z : Nat} {q h x r y L : Nat → Nat} {M : MT} (hW : WB M) (hN : mN M ≤ 15) (hP : va_P G vwCl ([oSy z q h x r y] ++ wDo cy q M ++ wLa cy L M) H0) (v : Int32) (hn : 0 < mN M) (hh : ¬ mF M (lwN v % mN M) = 1) : MetI l yL_isStruck wsL_isStruck 2 60 [.ref z, .ref (L 0), .ref (L 2), .ref (L 4), .int v] H0 G cy 1 := by
  refine Met.ofW (cc := cL_isStruck) (maxL := 8) (ret := (some .boolean)) (by decide) rfl ?_
  intro p e s m args below meth c s₁ B hml hv
  obtain ⟨rfl, hH, hK⟩ := hv
  subst hH
  have hx := B.exec
  have hb := B.bytes
  have hr := B.returns
  have hts := atoms_spec (ws := wsL_isStruck) B.pre
  have hown : s.vm.findClass RL = some m.cls := findClass_of_methodNamed B.named
  have hlocks := B.notSynchronized
  have hl := lv_entry ([.ref z, .ref (L 0), .ref (L 2), .ref (L 4), .int v]) (n := 8) (Nat.le_of_ble_eq_true rfl)
  rw [lg_entry_eq]
  generalize (lg_sl ([.ref z, .ref (L 0), .ref (L 2), .ref (L 4), .int v]) ++ List.replicate (8 - (lg_sl ([.ref z, .ref (L 0), .ref (L 2), .ref (L 4), .int v])).length) Slot.unset).toArray = ls at hl ⊢
  have hl : lv_has ls 8 [(0, .ref z), (1, .ref (L 0)), (2, .ref (L 2)), (3, .ref (L 4)), (4, .int v)] := hl
  obtain ⟨bP, bN, bR, bO, bW, bL, bF⟩ := id hW
  have hPs := hP.sub (ws' := [oSy z q h x r y] ++ wDo cy q M) [0, 1, 2, 3, 4, 5, 6, 7, 8, 9] rfl
  have hPl := hP.sub (ws' := wLa cy L M) [10, 11, 12, 13, 14] rfl
  refine lv_aload_n hx hb dL_isStruck_0 rfl (lv_at hl 1 rfl) ?_
  refine lv_iconst (v := nI 1) hx hb dL_isStruck_1 (by decide +kernel) ?_
  refine o_iald hx hb hK hP 10 0 rfl rfl 1 (by omega) (by decide) dL_isStruck_2 ?_
  rw [show gI M 1 = mN M from rfl]
  refine o_if_ne (tgt := 30) hx hb dL_isStruck_3 (by decide) (by omega) (fun c3 => ?_) (fun c3 => ?_)
  · refine lv_iload hx hb dL_isStruck_30 (lv_at hl 4 rfl) ?_
    refine lv_aload_n hx hb dL_isStruck_32 rfl (lv_at hl 1 rfl) ?_
    refine lv_iconst (v := nI 1) hx hb dL_isStruck_33 (by decide +kernel) ?_
    refine o_iald hx hb hK hP 10 0 rfl rfl 1 (by omega) (by decide) dL_isStruck_34 ?_
    rw [show gI M 1 = mN M from rfl]
    refine o_SI (As := [.int v, .int (nI (mN M))]) (rest := []) ⟨hx, hb, hml, hown, hts⟩ (kL_low l G cy v (mN M) hn (by omega)) (va_cwS 2 hts gL_isStruck_L_low rfl rfl rfl (by decide +kernel) ⟨Nat.le_of_ble_eq_true rfl, Nat.le_of_ble_eq_true rfl⟩) hK rfl hl.1 rfl (Nat.le_of_ble_eq_true rfl) dL_isStruck_35 ⟨Nat.le_of_ble_eq_true rfl, Nat.le_of_ble_eq_true rfl⟩ ?_
    have hk : lwN v % mN M < mN M := Nat.mod_lt _ hn
    refine lv_istore (lv' := [(5, .int (nI (lwN v % (mN M)))), (0, .ref z), (1, .ref (L 0)), (2, .ref (L 2)), (3, .ref (L 4)), (4, .int v)]) hx hb dL_isStruck_38 hl (by decide) rfl (fun ls hl => ?_)
    refine lv_aload_n hx hb dL_isStruck_40 rfl (lv_at hl 3 rfl) ?_
    refine lv_iconst (v := nI 4) hx hb dL_isStruck_41 (by decide +kernel) ?_
    refine lv_iload hx hb dL_isStruck_42 (lv_at hl 0 rfl) ?_
    refine lv_imul hx hb dL_isStruck_44 ?_
    rw [pk_mul]
    refine lv_iconst (v := nI 3) hx hb dL_isStruck_45 (by decide +kernel) ?_
    refine lv_iadd hx hb dL_isStruck_46 ?_
    rw [nI_add]
    refine o_iald hx hb hK hP 12 0 rfl rfl ((4 * (lwN v % (mN M))) + 3) (by omega) (by decide) dL_isStruck_47 ?_
    rw [aI_3]
    refine o_ifb_ne (tgt := 79) hx hb dL_isStruck_48 (by decide) (fun c48 => ?_) (fun c48 => ?_)
    · exact absurd c48 hh
    · refine lv_aload_n hx hb dL_isStruck_51 rfl (lv_at hl 1 rfl) ?_
      refine lv_iload hx hb dL_isStruck_52 (lv_at hl 0 rfl) ?_
      refine o_VI (As := [.int (nI (lwN v % (mN M)))]) (rest := []) ⟨hx, hb, hml, hown, hts⟩ (kX7_tear_n l G cy hW hPs _ hk hh) (cwV 1 hts gL_isStruck_X7_tear rfl rfl rfl (by decide +kernel) ⟨Nat.le_of_ble_eq_true rfl, Nat.le_of_ble_eq_true rfl⟩) hK (va_recv hK hP (ci := 6) (q0 := 0) rfl rfl) rfl hl.1 rfl (Nat.le_of_ble_eq_true rfl) dL_isStruck_54 ⟨Nat.le_of_ble_eq_true rfl, Nat.le_of_ble_eq_true rfl⟩ ?_
      refine lv_bipush (v := (-5)) hx hb dL_isStruck_57 (by decide +kernel) ?_
      refine lv_icmp_ne (tgt := 77) hx hb dL_isStruck_59 (by decide) (fun c59 => ?_) (fun c59 => ?_)
      · exact absurd rfl c59
      · refine lv_aload_n hx hb dL_isStruck_62 rfl (lv_at hl 1 rfl) ?_
        refine lv_iload hx hb dL_isStruck_63 (lv_at hl 0 rfl) ?_
        refine o_VI (As := [.int (nI (lwN v % (mN M)))]) (rest := []) ⟨hx, hb, hml, hown, hts⟩ (kX7_hammer_n l G cy hW hPs _ hk hh) (cwV 1 hts gL_isStruck_X7_hammer rfl rfl rfl (by decide +kernel) ⟨Nat.le_of_ble_eq_true rfl, Nat.le_of_ble_eq_true rfl⟩) hK (va_recv hK hP (ci := 6) (q0 := 0) rfl rfl) rfl hl.1 rfl (Nat.le_of_ble_eq_true rfl) dL_isStruck_65 ⟨Nat.le_of_ble_eq_true rfl, Nat.le_of_ble_eq_true rfl⟩ ?_
        refine lv_bipush (v := (-4)) hx hb dL_isStruck_68 (by decide +kernel) ?_
        refine lv_icmp_ne (tgt := 77) hx hb dL_isStruck_70 (by decide) (fun c70 => ?_) (fun c70 => ?_)
        · exact absurd rfl c70
        · refine lv_iconst (v := nI 1) hx hb dL_isStruck_73 (by decide +kernel) ?_
          refine lv_goto (tgt := 78) hx hb dL_isStruck_74 (by decide) ?_
          exact o_endZ hx hb hr hlocks dL_isStruck_78 (by decide) (by decide)
  · exact absurd c3 (by omega)
