set_option maxRecDepth 100000 in
theorem iX1_admit_X1 : ∀ w ∈ u_ws RX1 TX1 13, w ∈ wsX1_admit := by decide +kernel
set_option maxHeartbeats 4000000 in
set_option maxRecDepth 100000 in
theorem kX1_admit (l : Launch) (G : va_G) (cy : Nat → ClassId) {H0 : Heap} {q : Nat → Nat} {M : MT} {A0 : Nat → Prop} (hW : WB M) (hP : va_P G vwCl (wDo cy q M) H0) (hD0 : va_D A0 (wDo cy q M)) (r : Nat) (hp : mP M < 6) : MutI l yX1_admit wsX1_admit 0 0 [.ref (q 0), .int (nI r)] H0 G cy (nI (mP M)) (wDo cy q M) (wDo cy q (mP M + 1, mN M, mS M, mB M, mT M, va_up (mR M) (mP M) r, mO M, mW M, mL M, mF M, mA M, mU M, mH M)) := by
  refine Met.ofW (cc := cX1_admit) (maxL := 3) (ret := (some .int)) (by decide) rfl ?_
  intro p e s m args below meth c s₁ B hml hv
  obtain ⟨rfl, hH, hK⟩ := hv
  subst hH
  have hx := B.exec
  have hb := B.bytes
  have hr := B.returns
  have hts := atoms_spec (ws := wsX1_admit) B.pre
  have hown : s.vm.findClass RX1 = some m.cls := findClass_of_methodNamed B.named
  have hlocks := B.notSynchronized
  have hl := lv_entry ([.ref (q 0), .int (nI r)]) (n := 3) (Nat.le_of_ble_eq_true rfl)
  rw [lg_entry_eq]
  generalize (lg_sl ([.ref (q 0), .int (nI r)]) ++ List.replicate (3 - (lg_sl ([.ref (q 0), .int (nI r)])).length) Slot.unset).toArray = ls at hl ⊢
  have hl : lv_has ls 3 [(0, .ref (q 0)), (1, .int (nI r))] := hl
  obtain ⟨bP, bN, bR, bO, bW, bL, bF⟩ := id hW
  have hD := hD0.self (sz := s.heap.size)
  generalize hAe : va_A (wDo cy q M) s.heap.size = A at hD ⊢
  have hA : ∀ q : Nat, s.heap.size ≤ q → A q := fun q h => by rw [← hAe]; exact Or.inr h
  have hS : va_S A s.heap s.heap [] := va_S.rf
  refine lv_aload_n hx hb dX1_admit_0 rfl (lv_at hl 0 rfl) ?_
  refine va_get (D := G) (ci := 0) (v := .int (nI (mP M))) (C := RX1) (T := TX1) (N := 13) hx hb hts iX1_admit_X1 hown hK hP 0 rfl rfl 0 (by decide) (hts (.fieldLink RX1 37 "NailedOrders$Door" "persons" "I") (by decide +kernel)) (fun _ h9 => h9) rfl dX1_admit_1 ?_
  refine lv_istore_n (lv' := [(2, .int (nI (mP M))), (0, .ref (q 0)), (1, .int (nI r))]) hx hb dX1_admit_4 rfl hl (by decide) rfl (fun ls hl => ?_)
  refine lv_aload_n hx hb dX1_admit_5 rfl (lv_at hl 1 rfl) ?_
  refine va_get (D := G) (ci := 0) (v := .ref (q 1)) (C := RX1) (T := TX1) (N := 13) hx hb hts iX1_admit_X1 hown hK hP 0 rfl rfl 1 (by decide) (hts (.fieldLink RX1 9 "NailedOrders$Door" "ranks" "[I") (by decide +kernel)) (fun _ h9 => h9) rfl dX1_admit_6 ?_
  refine lv_iload_n hx hb dX1_admit_9 rfl (lv_at hl 0 rfl) ?_
  refine lv_iload_n hx hb dX1_admit_10 rfl (lv_at hl 2 rfl) ?_
  refine o_iast hx hb hK hP hD hS 1 0 rfl rfl (mP M) (by omega) (by decide) (upd_nI (mR M) (mP M) r) dX1_admit_11 (fun H locs hP hD hS => ?_)
  have hP : va_P G vwCl (wDo cy q (mP M, mN M, mS M, mB M, mT M, va_up (mR M) (mP M) r, mO M, mW M, mL M, mF M, mA M, mU M, mH M)) H := hP
  have hD : va_D A (wDo cy q (mP M, mN M, mS M, mB M, mT M, va_up (mR M) (mP M) r, mO M, mW M, mL M, mF M, mA M, mU M, mH M)) := hD
  refine lv_aload_n hx hb dX1_admit_12 rfl (lv_at hl 1 rfl) ?_
  refine lv_dup hx hb dX1_admit_13 rfl ?_
  refine va_get (D := G) (ci := 0) (v := .int (nI (mP M))) (C := RX1) (T := TX1) (N := 13) hx hb hts iX1_admit_X1 hown hK hP 0 rfl rfl 0 (by decide) (hts (.fieldLink RX1 37 "NailedOrders$Door" "persons" "I") (by decide +kernel)) (fun _ h9 => h9) rfl dX1_admit_14 ?_
  refine lv_iconst (v := nI 1) hx hb dX1_admit_17 (by decide +kernel) ?_
  refine lv_iadd hx hb dX1_admit_18 ?_
  rw [nI_add]
  refine va_put (D := G) (ci := 0) (v := .int (nI ((mP M) + 1))) (ty := .int) (C := RX1) (T := TX1) (N := 13) hx hb hts iX1_admit_X1 tyX1 tyX1_ok nmX1 hown hK hP hD hS 0 rfl rfl 0 (by decide) (hts (.fieldLink RX1 37 "NailedOrders$Door" "persons" "I") (by decide +kernel)) (fun _ h9 => h9) rfl (by decide +kernel) rfl rfl (Nat.le_of_ble_eq_true rfl) dX1_admit_19 (fun H locs hP hD hS => ?_)
  have hP : va_P G vwCl (wDo cy q ((mP M) + 1, mN M, mS M, mB M, mT M, va_up (mR M) (mP M) r, mO M, mW M, mL M, mF M, mA M, mU M, mH M)) H := hP
  have hD : va_D A (wDo cy q ((mP M) + 1, mN M, mS M, mB M, mT M, va_up (mR M) (mP M) r, mO M, mW M, mL M, mF M, mA M, mU M, mH M)) := hD
  refine lv_iload_n hx hb dX1_admit_22 rfl (lv_at hl 0 rfl) ?_
  exact o_endIm hx hb hr hlocks dX1_admit_23 hP hS rfl

set_option maxRecDepth 100000 in
theorem iX1_hang_X1 : ∀ w ∈ u_ws RX1 TX1 13, w ∈ wsX1_hang := by decide +kernel
set_option maxHeartbeats 4000000 in
set_option maxRecDepth 100000 in
theorem kX1_hang (l : Launch) (G : va_G) (cy : Nat → ClassId) {H0 : Heap} {q : Nat → Nat} {M : MT} {A0 : Nat → Prop} (hW : WB M) (hP : va_P G vwCl (wDo cy q M) H0) (hD0 : va_D A0 (wDo cy q M)) (x w : Nat) (k : Option Nat) (fa nu st : UInt32) (hn : mN M < 40) : MutI l yX1_hang wsX1_hang 0 0 [.ref (q 0), .int (nI x), .int (nI w), .int (lkI k), .float fa, .float nu, .float st] H0 G cy (nI (mN M)) (wDo cy q M) (wDo cy q (mP M, mN M + 1, mS M, mB M, mT M, mR M, va_up (mO M) (mN M) x, va_up (mW M) (mN M) w, va_up (mL M) (mN M) k, va_up (mF M) (mN M) 1, va_up (mA M) (mN M) fa, va_up (mU M) (mN M) nu, va_up (mH M) (mN M) st)) := by
  refine Met.ofW (cc := cX1_hang) (maxL := 8) (ret := (some .int)) (by decide) rfl ?_
  intro p e s m args below meth c s₁ B hml hv
  obtain ⟨rfl, hH, hK⟩ := hv
  subst hH
  have hx := B.exec
  have hb := B.bytes
  have hr := B.returns
  have hts := atoms_spec (ws := wsX1_hang) B.pre
  have hown : s.vm.findClass RX1 = some m.cls := findClass_of_methodNamed B.named
  have hlocks := B.notSynchronized
  have hl := lv_entry ([.ref (q 0), .int (nI x), .int (nI w), .int (lkI k), .float fa, .float nu, .float st]) (n := 8) (Nat.le_of_ble_eq_true rfl)
  rw [lg_entry_eq]
  generalize (lg_sl ([.ref (q 0), .int (nI x), .int (nI w), .int (lkI k), .float fa, .float nu, .float st]) ++ List.replicate (8 - (lg_sl ([.ref (q 0), .int (nI x), .int (nI w), .int (lkI k), .float fa, .float nu, .float st])).length) Slot.unset).toArray = ls at hl ⊢
  have hl : lv_has ls 8 [(0, .ref (q 0)), (1, .int (nI x)), (2, .int (nI w)), (3, .int (lkI k)), (4, .float fa), (5, .float nu), (6, .float st)] := hl
  obtain ⟨bP, bN, bR, bO, bW, bL, bF⟩ := id hW
  have hD := hD0.self (sz := s.heap.size)
  generalize hAe : va_A (wDo cy q M) s.heap.size = A at hD ⊢
  have hA : ∀ q : Nat, s.heap.size ≤ q → A q := fun q h => by rw [← hAe]; exact Or.inr h
  have hS : va_S A s.heap s.heap [] := va_S.rf
  refine lv_aload_n hx hb dX1_hang_0 rfl (lv_at hl 0 rfl) ?_
  refine va_get (D := G) (ci := 0) (v := .int (nI (mN M))) (C := RX1) (T := TX1) (N := 13) hx hb hts iX1_hang_X1 hown hK hP 0 rfl rfl 5 (by decide) (hts (.fieldLink RX1 51 "NailedOrders$Door" "orders" "I") (by decide +kernel)) (fun _ h9 => h9) rfl dX1_hang_1 ?_
  refine lv_istore (lv' := [(7, .int (nI (mN M))), (0, .ref (q 0)), (1, .int (nI x)), (2, .int (nI w)), (3, .int (lkI k)), (4, .float fa), (5, .float nu), (6, .float st)]) hx hb dX1_hang_4 hl (by decide) rfl (fun ls hl => ?_)
  refine lv_aload_n hx hb dX1_hang_6 rfl (lv_at hl 1 rfl) ?_
  refine va_get (D := G) (ci := 0) (v := .ref (q 6)) (C := RX1) (T := TX1) (N := 13) hx hb hts iX1_hang_X1 hown hK hP 0 rfl rfl 6 (by decide) (hts (.fieldLink RX1 15 "NailedOrders$Door" "owners" "[I") (by decide +kernel)) (fun _ h9 => h9) rfl dX1_hang_7 ?_
  refine lv_iload hx hb dX1_hang_10 (lv_at hl 0 rfl) ?_
  refine lv_iload_n hx hb dX1_hang_12 rfl (lv_at hl 2 rfl) ?_
  refine o_iast hx hb hK hP hD hS 2 0 rfl rfl (mN M) (by omega) (by decide) (upd_nI (mO M) (mN M) x) dX1_hang_13 (fun H locs hP hD hS => ?_)
  have hP : va_P G vwCl (wDo cy q (mP M, mN M, mS M, mB M, mT M, mR M, va_up (mO M) (mN M) x, mW M, mL M, mF M, mA M, mU M, mH M)) H := hP
  have hD : va_D A (wDo cy q (mP M, mN M, mS M, mB M, mT M, mR M, va_up (mO M) (mN M) x, mW M, mL M, mF M, mA M, mU M, mH M)) := hD
  refine lv_aload_n hx hb dX1_hang_14 rfl (lv_at hl 1 rfl) ?_
  refine va_get (D := G) (ci := 0) (v := .ref (q 7)) (C := RX1) (T := TX1) (N := 13) hx hb hts iX1_hang_X1 hown hK hP 0 rfl rfl 7 (by decide) (hts (.fieldLink RX1 18 "NailedOrders$Door" "words" "[I") (by decide +kernel)) (fun _ h9 => h9) rfl dX1_hang_15 ?_
  refine lv_iload hx hb dX1_hang_18 (lv_at hl 0 rfl) ?_
  refine lv_iload_n hx hb dX1_hang_20 rfl (lv_at hl 3 rfl) ?_
  refine o_iast hx hb hK hP hD hS 3 0 rfl rfl (mN M) (by omega) (by decide) (upd_nI (mW M) (mN M) w) dX1_hang_21 (fun H locs hP hD hS => ?_)
  have hP : va_P G vwCl (wDo cy q (mP M, mN M, mS M, mB M, mT M, mR M, va_up (mO M) (mN M) x, va_up (mW M) (mN M) w, mL M, mF M, mA M, mU M, mH M)) H := hP
  have hD : va_D A (wDo cy q (mP M, mN M, mS M, mB M, mT M, mR M, va_up (mO M) (mN M) x, va_up (mW M) (mN M) w, mL M, mF M, mA M, mU M, mH M)) := hD
  refine lv_aload_n hx hb dX1_hang_22 rfl (lv_at hl 1 rfl) ?_
  refine va_get (D := G) (ci := 0) (v := .ref (q 8)) (C := RX1) (T := TX1) (N := 13) hx hb hts iX1_hang_X1 hown hK hP 0 rfl rfl 8 (by decide) (hts (.fieldLink RX1 21 "NailedOrders$Door" "links" "[I") (by decide +kernel)) (fun _ h9 => h9) rfl dX1_hang_23 ?_
  refine lv_iload hx hb dX1_hang_26 (lv_at hl 0 rfl) ?_
  refine lv_iload_n hx hb dX1_hang_28 rfl (lv_at hl 4 rfl) ?_
  refine o_iast hx hb hK hP hD hS 4 0 rfl rfl (mN M) (by omega) (by decide) (upd_lk (mL M) (mN M) k) dX1_hang_29 (fun H locs hP hD hS => ?_)
  have hP : va_P G vwCl (wDo cy q (mP M, mN M, mS M, mB M, mT M, mR M, va_up (mO M) (mN M) x, va_up (mW M) (mN M) w, va_up (mL M) (mN M) k, mF M, mA M, mU M, mH M)) H := hP
  have hD : va_D A (wDo cy q (mP M, mN M, mS M, mB M, mT M, mR M, va_up (mO M) (mN M) x, va_up (mW M) (mN M) w, va_up (mL M) (mN M) k, mF M, mA M, mU M, mH M)) := hD
  refine lv_aload_n hx hb dX1_hang_30 rfl (lv_at hl 1 rfl) ?_
  refine va_get (D := G) (ci := 0) (v := .ref (q 9)) (C := RX1) (T := TX1) (N := 13) hx hb hts iX1_hang_X1 hown hK hP 0 rfl rfl 9 (by decide) (hts (.fieldLink RX1 24 "NailedOrders$Door" "factors" "[F") (by decide +kernel)) (fun _ h9 => h9) rfl dX1_hang_31 ?_
  refine lv_iload hx hb dX1_hang_34 (lv_at hl 0 rfl) ?_
  refine lv_fload hx hb dX1_hang_36 (lv_at hl 5 rfl) ?_
  refine o_fast hx hb hK hP hD hS 5 1 rfl rfl (mN M) (by omega) (by decide) rfl dX1_hang_38 (fun H locs hP hD hS => ?_)
  have hP : va_P G vwCl (wDo cy q (mP M, mN M, mS M, mB M, mT M, mR M, va_up (mO M) (mN M) x, va_up (mW M) (mN M) w, va_up (mL M) (mN M) k, mF M, va_up (mA M) (mN M) fa, mU M, mH M)) H := hP
  have hD : va_D A (wDo cy q (mP M, mN M, mS M, mB M, mT M, mR M, va_up (mO M) (mN M) x, va_up (mW M) (mN M) w, va_up (mL M) (mN M) k, mF M, va_up (mA M) (mN M) fa, mU M, mH M)) := hD
  refine lv_aload_n hx hb dX1_hang_39 rfl (lv_at hl 1 rfl) ?_
  refine va_get (D := G) (ci := 0) (v := .ref (q 10)) (C := RX1) (T := TX1) (N := 13) hx hb hts iX1_hang_X1 hown hK hP 0 rfl rfl 10 (by decide) (hts (.fieldLink RX1 28 "NailedOrders$Door" "numbers" "[F") (by decide +kernel)) (fun _ h9 => h9) rfl dX1_hang_40 ?_
  refine lv_iload hx hb dX1_hang_43 (lv_at hl 0 rfl) ?_
  refine lv_fload hx hb dX1_hang_45 (lv_at hl 6 rfl) ?_
  refine o_fast hx hb hK hP hD hS 6 1 rfl rfl (mN M) (by omega) (by decide) rfl dX1_hang_47 (fun H locs hP hD hS => ?_)
  have hP : va_P G vwCl (wDo cy q (mP M, mN M, mS M, mB M, mT M, mR M, va_up (mO M) (mN M) x, va_up (mW M) (mN M) w, va_up (mL M) (mN M) k, mF M, va_up (mA M) (mN M) fa, va_up (mU M) (mN M) nu, mH M)) H := hP
  have hD : va_D A (wDo cy q (mP M, mN M, mS M, mB M, mT M, mR M, va_up (mO M) (mN M) x, va_up (mW M) (mN M) w, va_up (mL M) (mN M) k, mF M, va_up (mA M) (mN M) fa, va_up (mU M) (mN M) nu, mH M)) := hD
  refine lv_aload_n hx hb dX1_hang_48 rfl (lv_at hl 1 rfl) ?_
  refine va_get (D := G) (ci := 0) (v := .ref (q 11)) (C := RX1) (T := TX1) (N := 13) hx hb hts iX1_hang_X1 hown hK hP 0 rfl rfl 11 (by decide) (hts (.fieldLink RX1 31 "NailedOrders$Door" "strengths" "[F") (by decide +kernel)) (fun _ h9 => h9) rfl dX1_hang_49 ?_
  refine lv_iload hx hb dX1_hang_52 (lv_at hl 0 rfl) ?_
  refine lv_fload hx hb dX1_hang_54 (lv_at hl 7 rfl) ?_
  refine o_fast hx hb hK hP hD hS 7 1 rfl rfl (mN M) (by omega) (by decide) rfl dX1_hang_56 (fun H locs hP hD hS => ?_)
  have hP : va_P G vwCl (wDo cy q (mP M, mN M, mS M, mB M, mT M, mR M, va_up (mO M) (mN M) x, va_up (mW M) (mN M) w, va_up (mL M) (mN M) k, mF M, va_up (mA M) (mN M) fa, va_up (mU M) (mN M) nu, va_up (mH M) (mN M) st)) H := hP
  have hD : va_D A (wDo cy q (mP M, mN M, mS M, mB M, mT M, mR M, va_up (mO M) (mN M) x, va_up (mW M) (mN M) w, va_up (mL M) (mN M) k, mF M, va_up (mA M) (mN M) fa, va_up (mU M) (mN M) nu, va_up (mH M) (mN M) st)) := hD
  refine lv_aload_n hx hb dX1_hang_57 rfl (lv_at hl 1 rfl) ?_
  refine va_get (D := G) (ci := 0) (v := .ref (q 12)) (C := RX1) (T := TX1) (N := 13) hx hb hts iX1_hang_X1 hown hK hP 0 rfl rfl 12 (by decide) (hts (.fieldLink RX1 34 "NailedOrders$Door" "fates" "[I") (by decide +kernel)) (fun _ h9 => h9) rfl dX1_hang_58 ?_
  refine lv_iload hx hb dX1_hang_61 (lv_at hl 0 rfl) ?_
  refine lv_iconst (v := nI 1) hx hb dX1_hang_63 (by decide +kernel) ?_
  refine o_iast hx hb hK hP hD hS 8 0 rfl rfl (mN M) (by omega) (by decide) (upd_nI (mF M) (mN M) 1) dX1_hang_64 (fun H locs hP hD hS => ?_)
  have hP : va_P G vwCl (wDo cy q (mP M, mN M, mS M, mB M, mT M, mR M, va_up (mO M) (mN M) x, va_up (mW M) (mN M) w, va_up (mL M) (mN M) k, va_up (mF M) (mN M) 1, va_up (mA M) (mN M) fa, va_up (mU M) (mN M) nu, va_up (mH M) (mN M) st)) H := hP
  have hD : va_D A (wDo cy q (mP M, mN M, mS M, mB M, mT M, mR M, va_up (mO M) (mN M) x, va_up (mW M) (mN M) w, va_up (mL M) (mN M) k, va_up (mF M) (mN M) 1, va_up (mA M) (mN M) fa, va_up (mU M) (mN M) nu, va_up (mH M) (mN M) st)) := hD
  refine lv_aload_n hx hb dX1_hang_65 rfl (lv_at hl 1 rfl) ?_
  refine lv_dup hx hb dX1_hang_66 rfl ?_
  refine va_get (D := G) (ci := 0) (v := .int (nI (mN M))) (C := RX1) (T := TX1) (N := 13) hx hb hts iX1_hang_X1 hown hK hP 0 rfl rfl 5 (by decide) (hts (.fieldLink RX1 51 "NailedOrders$Door" "orders" "I") (by decide +kernel)) (fun _ h9 => h9) rfl dX1_hang_67 ?_
  refine lv_iconst (v := nI 1) hx hb dX1_hang_70 (by decide +kernel) ?_
  refine lv_iadd hx hb dX1_hang_71 ?_
  rw [nI_add]
  refine va_put (D := G) (ci := 0) (v := .int (nI ((mN M) + 1))) (ty := .int) (C := RX1) (T := TX1) (N := 13) hx hb hts iX1_hang_X1 tyX1 tyX1_ok nmX1 hown hK hP hD hS 0 rfl rfl 5 (by decide) (hts (.fieldLink RX1 51 "NailedOrders$Door" "orders" "I") (by decide +kernel)) (fun _ h9 => h9) rfl (by decide +kernel) rfl rfl (Nat.le_of_ble_eq_true rfl) dX1_hang_72 (fun H locs hP hD hS => ?_)
  have hP : va_P G vwCl (wDo cy q (mP M, (mN M) + 1, mS M, mB M, mT M, mR M, va_up (mO M) (mN M) x, va_up (mW M) (mN M) w, va_up (mL M) (mN M) k, va_up (mF M) (mN M) 1, va_up (mA M) (mN M) fa, va_up (mU M) (mN M) nu, va_up (mH M) (mN M) st)) H := hP
  have hD : va_D A (wDo cy q (mP M, (mN M) + 1, mS M, mB M, mT M, mR M, va_up (mO M) (mN M) x, va_up (mW M) (mN M) w, va_up (mL M) (mN M) k, va_up (mF M) (mN M) 1, va_up (mA M) (mN M) fa, va_up (mU M) (mN M) nu, va_up (mH M) (mN M) st)) := hD
  refine lv_iload hx hb dX1_hang_75 (lv_at hl 0 rfl) ?_
  exact o_endIm hx hb hr hlocks dX1_hang_77 hP hS rfl

set_option maxRecDepth 100000 in
theorem iX1_become_X1 : ∀ w ∈ u_ws RX1 TX1 13, w ∈ wsX1_become := by decide +kernel
set_option maxHeartbeats 4000000 in
set_option maxRecDepth 100000 in
theorem kX1_become (l : Launch) (G : va_G) (cy : Nat → ClassId) {H0 : Heap} {q q' : Nat → Nat} {M M' : MT} {A0 : Nat → Prop} (hP : va_P G vwCl (wDo cy q M ++ wDo cy q' M') H0) (hD0 : va_D A0 (wDo cy q M ++ wDo cy q' M')) : MutV l yX1_become wsX1_become 1 40 [.ref (q 0), .ref (q' 0)] H0 G cy (wDo cy q M ++ wDo cy q' M') (wDo cy q M' ++ wDo cy q' M') := by
  refine Met.ofW (cc := cX1_become) (maxL := 2) (ret := none) (by decide) rfl ?_
  intro p e s m args below meth c s₁ B hml hv
  obtain ⟨rfl, hH, hK⟩ := hv
  subst hH
  have hx := B.exec
  have hb := B.bytes
  have hr := B.returns
  have hts := atoms_spec (ws := wsX1_become) B.pre
  have hown : s.vm.findClass RX1 = some m.cls := findClass_of_methodNamed B.named
  have hlocks := B.notSynchronized
  have hl := lv_entry ([.ref (q 0), .ref (q' 0)]) (n := 2) (Nat.le_of_ble_eq_true rfl)
  rw [lg_entry_eq]
  generalize (lg_sl ([.ref (q 0), .ref (q' 0)]) ++ List.replicate (2 - (lg_sl ([.ref (q 0), .ref (q' 0)])).length) Slot.unset).toArray = ls at hl ⊢
  have hl : lv_has ls 2 [(0, .ref (q 0)), (1, .ref (q' 0))] := hl
  have hD := hD0.self (sz := s.heap.size)
  generalize hAe : va_A (wDo cy q M ++ wDo cy q' M') s.heap.size = A at hD ⊢
  have hA : ∀ q : Nat, s.heap.size ≤ q → A q := fun q h => by rw [← hAe]; exact Or.inr h
  have hS : va_S A s.heap s.heap [] := va_S.rf
  refine lv_aload_n hx hb dX1_become_0 rfl (lv_at hl 0 rfl) ?_
  refine lv_aload_n hx hb dX1_become_1 rfl (lv_at hl 1 rfl) ?_
  refine va_get (D := G) (ci := 0) (v := .int (nI (mP M'))) (C := RX1) (T := TX1) (N := 13) hx hb hts iX1_become_X1 hown hK hP 9 rfl rfl 0 (by decide) (hts (.fieldLink RX1 37 "NailedOrders$Door" "persons" "I") (by decide +kernel)) (fun _ h9 => h9) rfl dX1_become_2 ?_
  refine va_put (D := G) (ci := 0) (v := .int (nI (mP M'))) (ty := .int) (C := RX1) (T := TX1) (N := 13) hx hb hts iX1_become_X1 tyX1 tyX1_ok nmX1 hown hK hP hD hS 0 rfl rfl 0 (by decide) (hts (.fieldLink RX1 37 "NailedOrders$Door" "persons" "I") (by decide +kernel)) (fun _ h9 => h9) rfl (by decide +kernel) rfl rfl (Nat.le_of_ble_eq_true rfl) dX1_become_5 (fun H locs hP hD hS => ?_)
  have hP : va_P G vwCl (wDo cy q (mP M', mN M, mS M, mB M, mT M, mR M, mO M, mW M, mL M, mF M, mA M, mU M, mH M) ++ wDo cy q' M') H := hP
  have hD : va_D A (wDo cy q (mP M', mN M, mS M, mB M, mT M, mR M, mO M, mW M, mL M, mF M, mA M, mU M, mH M) ++ wDo cy q' M') := hD
  refine lv_aload_n hx hb dX1_become_8 rfl (lv_at hl 0 rfl) ?_
  refine lv_aload_n hx hb dX1_become_9 rfl (lv_at hl 1 rfl) ?_
  refine va_get (D := G) (ci := 0) (v := .int (mB M')) (C := RX1) (T := TX1) (N := 13) hx hb hts iX1_become_X1 hown hK hP 9 rfl rfl 2 (by decide) (hts (.fieldLink RX1 41 "NailedOrders$Door" "toleranceBits" "I") (by decide +kernel)) (fun _ h9 => h9) rfl dX1_become_10 ?_
  refine va_put (D := G) (ci := 0) (v := .int (mB M')) (ty := .int) (C := RX1) (T := TX1) (N := 13) hx hb hts iX1_become_X1 tyX1 tyX1_ok nmX1 hown hK hP hD hS 0 rfl rfl 2 (by decide) (hts (.fieldLink RX1 41 "NailedOrders$Door" "toleranceBits" "I") (by decide +kernel)) (fun _ h9 => h9) rfl (by decide +kernel) rfl rfl (Nat.le_of_ble_eq_true rfl) dX1_become_13 (fun H locs hP hD hS => ?_)
  have hP : va_P G vwCl (wDo cy q (mP M', mN M, mS M, mB M', mT M, mR M, mO M, mW M, mL M, mF M, mA M, mU M, mH M) ++ wDo cy q' M') H := hP
  have hD : va_D A (wDo cy q (mP M', mN M, mS M, mB M', mT M, mR M, mO M, mW M, mL M, mF M, mA M, mU M, mH M) ++ wDo cy q' M') := hD
  refine lv_aload_n hx hb dX1_become_16 rfl (lv_at hl 0 rfl) ?_
  refine lv_aload_n hx hb dX1_become_17 rfl (lv_at hl 1 rfl) ?_
  refine va_get (D := G) (ci := 0) (v := .float (mT M')) (C := RX1) (T := TX1) (N := 13) hx hb hts iX1_become_X1 hown hK hP 9 rfl rfl 3 (by decide) (hts (.fieldLink RX1 44 "NailedOrders$Door" "tolerance" "F") (by decide +kernel)) (fun _ h9 => h9) rfl dX1_become_18 ?_
  refine va_put (D := G) (ci := 0) (v := .float (mT M')) (ty := .float) (C := RX1) (T := TX1) (N := 13) hx hb hts iX1_become_X1 tyX1 tyX1_ok nmX1 hown hK hP hD hS 0 rfl rfl 3 (by decide) (hts (.fieldLink RX1 44 "NailedOrders$Door" "tolerance" "F") (by decide +kernel)) (fun _ h9 => h9) rfl (by decide +kernel) rfl rfl (Nat.le_of_ble_eq_true rfl) dX1_become_21 (fun H locs hP hD hS => ?_)
  have hP : va_P G vwCl (wDo cy q (mP M', mN M, mS M, mB M', mT M', mR M, mO M, mW M, mL M, mF M, mA M, mU M, mH M) ++ wDo cy q' M') H := hP
  have hD : va_D A (wDo cy q (mP M', mN M, mS M, mB M', mT M', mR M, mO M, mW M, mL M, mF M, mA M, mU M, mH M) ++ wDo cy q' M') := hD
  refine lv_aload_n hx hb dX1_become_24 rfl (lv_at hl 0 rfl) ?_
  refine lv_aload_n hx hb dX1_become_25 rfl (lv_at hl 1 rfl) ?_
  refine va_get (D := G) (ci := 0) (v := .int (nI (mS M'))) (C := RX1) (T := TX1) (N := 13) hx hb hts iX1_become_X1 hown hK hP 9 rfl rfl 4 (by decide) (hts (.fieldLink RX1 48 "NailedOrders$Door" "storms" "I") (by decide +kernel)) (fun _ h9 => h9) rfl dX1_become_26 ?_
  refine va_put (D := G) (ci := 0) (v := .int (nI (mS M'))) (ty := .int) (C := RX1) (T := TX1) (N := 13) hx hb hts iX1_become_X1 tyX1 tyX1_ok nmX1 hown hK hP hD hS 0 rfl rfl 4 (by decide) (hts (.fieldLink RX1 48 "NailedOrders$Door" "storms" "I") (by decide +kernel)) (fun _ h9 => h9) rfl (by decide +kernel) rfl rfl (Nat.le_of_ble_eq_true rfl) dX1_become_29 (fun H locs hP hD hS => ?_)
  have hP : va_P G vwCl (wDo cy q (mP M', mN M, mS M', mB M', mT M', mR M, mO M, mW M, mL M, mF M, mA M, mU M, mH M) ++ wDo cy q' M') H := hP
  have hD : va_D A (wDo cy q (mP M', mN M, mS M', mB M', mT M', mR M, mO M, mW M, mL M, mF M, mA M, mU M, mH M) ++ wDo cy q' M') := hD
  refine lv_aload_n hx hb dX1_become_32 rfl (lv_at hl 0 rfl) ?_
  refine lv_aload_n hx hb dX1_become_33 rfl (lv_at hl 1 rfl) ?_
  refine va_get (D := G) (ci := 0) (v := .int (nI (mN M'))) (C := RX1) (T := TX1) (N := 13) hx hb hts iX1_become_X1 hown hK hP 9 rfl rfl 5 (by decide) (hts (.fieldLink RX1 51 "NailedOrders$Door" "orders" "I") (by decide +kernel)) (fun _ h9 => h9) rfl dX1_become_34 ?_
  refine va_put (D := G) (ci := 0) (v := .int (nI (mN M'))) (ty := .int) (C := RX1) (T := TX1) (N := 13) hx hb hts iX1_become_X1 tyX1 tyX1_ok nmX1 hown hK hP hD hS 0 rfl rfl 5 (by decide) (hts (.fieldLink RX1 51 "NailedOrders$Door" "orders" "I") (by decide +kernel)) (fun _ h9 => h9) rfl (by decide +kernel) rfl rfl (Nat.le_of_ble_eq_true rfl) dX1_become_37 (fun H locs hP hD hS => ?_)
  have hP : va_P G vwCl (wDo cy q (mP M', mN M', mS M', mB M', mT M', mR M, mO M, mW M, mL M, mF M, mA M, mU M, mH M) ++ wDo cy q' M') H := hP
  have hD : va_D A (wDo cy q (mP M', mN M', mS M', mB M', mT M', mR M, mO M, mW M, mL M, mF M, mA M, mU M, mH M) ++ wDo cy q' M') := hD
  refine lv_aload_n hx hb dX1_become_40 rfl (lv_at hl 1 rfl) ?_
  refine va_get (D := G) (ci := 0) (v := .ref (q' 1)) (C := RX1) (T := TX1) (N := 13) hx hb hts iX1_become_X1 hown hK hP 9 rfl rfl 1 (by decide) (hts (.fieldLink RX1 9 "NailedOrders$Door" "ranks" "[I") (by decide +kernel)) (fun _ h9 => h9) rfl dX1_become_41 ?_
  refine lv_iconst (v := nI 0) hx hb dX1_become_44 (by decide +kernel) ?_
  refine lv_aload_n hx hb dX1_become_45 rfl (lv_at hl 0 rfl) ?_
  refine va_get (D := G) (ci := 0) (v := .ref (q 1)) (C := RX1) (T := TX1) (N := 13) hx hb hts iX1_become_X1 hown hK hP 0 rfl rfl 1 (by decide) (hts (.fieldLink RX1 9 "NailedOrders$Door" "ranks" "[I") (by decide +kernel)) (fun _ h9 => h9) rfl dX1_become_46 ?_
  refine lv_iconst (v := nI 0) hx hb dX1_become_49 (by decide +kernel) ?_
  refine lv_bipush (v := nI 6) hx hb dX1_become_50 (by decide +kernel) ?_
  refine o_copyi hx hb (hml.trans hl.1.symm) hown (hts (.methodLink RX1 54 arraycopyName) (by decide +kernel)) (hts (.native arraycopyName) (by decide +kernel)) (hts (.static arraycopyName) (by decide +kernel)) (hts (.initialized "java/lang/System") (by decide +kernel)) hK hP hD hS 10 1 0 rfl rfl rfl (by decide) (Nat.le_of_ble_eq_true rfl) (by decide +kernel) dX1_become_52 (fun H locs hP hD hS => ?_)
  have hP : va_P G vwCl (wDo cy q (mP M', mN M', mS M', mB M', mT M', mR M', mO M, mW M, mL M, mF M, mA M, mU M, mH M) ++ wDo cy q' M') H := hP
  have hD : va_D A (wDo cy q (mP M', mN M', mS M', mB M', mT M', mR M', mO M, mW M, mL M, mF M, mA M, mU M, mH M) ++ wDo cy q' M') := hD
  refine lv_aload_n hx hb dX1_become_55 rfl (lv_at hl 1 rfl) ?_
  refine va_get (D := G) (ci := 0) (v := .ref (q' 6)) (C := RX1) (T := TX1) (N := 13) hx hb hts iX1_become_X1 hown hK hP 9 rfl rfl 6 (by decide) (hts (.fieldLink RX1 15 "NailedOrders$Door" "owners" "[I") (by decide +kernel)) (fun _ h9 => h9) rfl dX1_become_56 ?_
  refine lv_iconst (v := nI 0) hx hb dX1_become_59 (by decide +kernel) ?_
  refine lv_aload_n hx hb dX1_become_60 rfl (lv_at hl 0 rfl) ?_
  refine va_get (D := G) (ci := 0) (v := .ref (q 6)) (C := RX1) (T := TX1) (N := 13) hx hb hts iX1_become_X1 hown hK hP 0 rfl rfl 6 (by decide) (hts (.fieldLink RX1 15 "NailedOrders$Door" "owners" "[I") (by decide +kernel)) (fun _ h9 => h9) rfl dX1_become_61 ?_
  refine lv_iconst (v := nI 0) hx hb dX1_become_64 (by decide +kernel) ?_
  refine lv_bipush (v := nI 40) hx hb dX1_become_65 (by decide +kernel) ?_
  refine o_copyi hx hb (hml.trans hl.1.symm) hown (hts (.methodLink RX1 54 arraycopyName) (by decide +kernel)) (hts (.native arraycopyName) (by decide +kernel)) (hts (.static arraycopyName) (by decide +kernel)) (hts (.initialized "java/lang/System") (by decide +kernel)) hK hP hD hS 11 2 0 rfl rfl rfl (by decide) (Nat.le_of_ble_eq_true rfl) (by decide +kernel) dX1_become_67 (fun H locs hP hD hS => ?_)
  have hP : va_P G vwCl (wDo cy q (mP M', mN M', mS M', mB M', mT M', mR M', mO M', mW M, mL M, mF M, mA M, mU M, mH M) ++ wDo cy q' M') H := hP
  have hD : va_D A (wDo cy q (mP M', mN M', mS M', mB M', mT M', mR M', mO M', mW M, mL M, mF M, mA M, mU M, mH M) ++ wDo cy q' M') := hD
  refine lv_aload_n hx hb dX1_become_70 rfl (lv_at hl 1 rfl) ?_
  refine va_get (D := G) (ci := 0) (v := .ref (q' 7)) (C := RX1) (T := TX1) (N := 13) hx hb hts iX1_become_X1 hown hK hP 9 rfl rfl 7 (by decide) (hts (.fieldLink RX1 18 "NailedOrders$Door" "words" "[I") (by decide +kernel)) (fun _ h9 => h9) rfl dX1_become_71 ?_
  refine lv_iconst (v := nI 0) hx hb dX1_become_74 (by decide +kernel) ?_
  refine lv_aload_n hx hb dX1_become_75 rfl (lv_at hl 0 rfl) ?_
  refine va_get (D := G) (ci := 0) (v := .ref (q 7)) (C := RX1) (T := TX1) (N := 13) hx hb hts iX1_become_X1 hown hK hP 0 rfl rfl 7 (by decide) (hts (.fieldLink RX1 18 "NailedOrders$Door" "words" "[I") (by decide +kernel)) (fun _ h9 => h9) rfl dX1_become_76 ?_
  refine lv_iconst (v := nI 0) hx hb dX1_become_79 (by decide +kernel) ?_
  refine lv_bipush (v := nI 40) hx hb dX1_become_80 (by decide +kernel) ?_
  refine o_copyi hx hb (hml.trans hl.1.symm) hown (hts (.methodLink RX1 54 arraycopyName) (by decide +kernel)) (hts (.native arraycopyName) (by decide +kernel)) (hts (.static arraycopyName) (by decide +kernel)) (hts (.initialized "java/lang/System") (by decide +kernel)) hK hP hD hS 12 3 0 rfl rfl rfl (by decide) (Nat.le_of_ble_eq_true rfl) (by decide +kernel) dX1_become_82 (fun H locs hP hD hS => ?_)
  have hP : va_P G vwCl (wDo cy q (mP M', mN M', mS M', mB M', mT M', mR M', mO M', mW M', mL M, mF M, mA M, mU M, mH M) ++ wDo cy q' M') H := hP
  have hD : va_D A (wDo cy q (mP M', mN M', mS M', mB M', mT M', mR M', mO M', mW M', mL M, mF M, mA M, mU M, mH M) ++ wDo cy q' M') := hD
  refine lv_aload_n hx hb dX1_become_85 rfl (lv_at hl 1 rfl) ?_
  refine va_get (D := G) (ci := 0) (v := .ref (q' 8)) (C := RX1) (T := TX1) (N := 13) hx hb hts iX1_become_X1 hown hK hP 9 rfl rfl 8 (by decide) (hts (.fieldLink RX1 21 "NailedOrders$Door" "links" "[I") (by decide +kernel)) (fun _ h9 => h9) rfl dX1_become_86 ?_
  refine lv_iconst (v := nI 0) hx hb dX1_become_89 (by decide +kernel) ?_
  refine lv_aload_n hx hb dX1_become_90 rfl (lv_at hl 0 rfl) ?_
  refine va_get (D := G) (ci := 0) (v := .ref (q 8)) (C := RX1) (T := TX1) (N := 13) hx hb hts iX1_become_X1 hown hK hP 0 rfl rfl 8 (by decide) (hts (.fieldLink RX1 21 "NailedOrders$Door" "links" "[I") (by decide +kernel)) (fun _ h9 => h9) rfl dX1_become_91 ?_
  refine lv_iconst (v := nI 0) hx hb dX1_become_94 (by decide +kernel) ?_
  refine lv_bipush (v := nI 40) hx hb dX1_become_95 (by decide +kernel) ?_
  refine o_copyi hx hb (hml.trans hl.1.symm) hown (hts (.methodLink RX1 54 arraycopyName) (by decide +kernel)) (hts (.native arraycopyName) (by decide +kernel)) (hts (.static arraycopyName) (by decide +kernel)) (hts (.initialized "java/lang/System") (by decide +kernel)) hK hP hD hS 13 4 0 rfl rfl rfl (by decide) (Nat.le_of_ble_eq_true rfl) (by decide +kernel) dX1_become_97 (fun H locs hP hD hS => ?_)
  have hP : va_P G vwCl (wDo cy q (mP M', mN M', mS M', mB M', mT M', mR M', mO M', mW M', mL M', mF M, mA M, mU M, mH M) ++ wDo cy q' M') H := hP
  have hD : va_D A (wDo cy q (mP M', mN M', mS M', mB M', mT M', mR M', mO M', mW M', mL M', mF M, mA M, mU M, mH M) ++ wDo cy q' M') := hD
  refine lv_aload_n hx hb dX1_become_100 rfl (lv_at hl 1 rfl) ?_
  refine va_get (D := G) (ci := 0) (v := .ref (q' 9)) (C := RX1) (T := TX1) (N := 13) hx hb hts iX1_become_X1 hown hK hP 9 rfl rfl 9 (by decide) (hts (.fieldLink RX1 24 "NailedOrders$Door" "factors" "[F") (by decide +kernel)) (fun _ h9 => h9) rfl dX1_become_101 ?_
  refine lv_iconst (v := nI 0) hx hb dX1_become_104 (by decide +kernel) ?_
  refine lv_aload_n hx hb dX1_become_105 rfl (lv_at hl 0 rfl) ?_
  refine va_get (D := G) (ci := 0) (v := .ref (q 9)) (C := RX1) (T := TX1) (N := 13) hx hb hts iX1_become_X1 hown hK hP 0 rfl rfl 9 (by decide) (hts (.fieldLink RX1 24 "NailedOrders$Door" "factors" "[F") (by decide +kernel)) (fun _ h9 => h9) rfl dX1_become_106 ?_
  refine lv_iconst (v := nI 0) hx hb dX1_become_109 (by decide +kernel) ?_
  refine lv_bipush (v := nI 40) hx hb dX1_become_110 (by decide +kernel) ?_
  refine o_copyf hx hb (hml.trans hl.1.symm) hown (hts (.methodLink RX1 54 arraycopyName) (by decide +kernel)) (hts (.native arraycopyName) (by decide +kernel)) (hts (.static arraycopyName) (by decide +kernel)) (hts (.initialized "java/lang/System") (by decide +kernel)) hK hP hD hS 14 5 1 rfl rfl rfl (by decide) (Nat.le_of_ble_eq_true rfl) (by decide +kernel) dX1_become_112 (fun H locs hP hD hS => ?_)
  have hP : va_P G vwCl (wDo cy q (mP M', mN M', mS M', mB M', mT M', mR M', mO M', mW M', mL M', mF M, mA M', mU M, mH M) ++ wDo cy q' M') H := hP
  have hD : va_D A (wDo cy q (mP M', mN M', mS M', mB M', mT M', mR M', mO M', mW M', mL M', mF M, mA M', mU M, mH M) ++ wDo cy q' M') := hD
  refine lv_aload_n hx hb dX1_become_115 rfl (lv_at hl 1 rfl) ?_
  refine va_get (D := G) (ci := 0) (v := .ref (q' 10)) (C := RX1) (T := TX1) (N := 13) hx hb hts iX1_become_X1 hown hK hP 9 rfl rfl 10 (by decide) (hts (.fieldLink RX1 28 "NailedOrders$Door" "numbers" "[F") (by decide +kernel)) (fun _ h9 => h9) rfl dX1_become_116 ?_
  refine lv_iconst (v := nI 0) hx hb dX1_become_119 (by decide +kernel) ?_
  refine lv_aload_n hx hb dX1_become_120 rfl (lv_at hl 0 rfl) ?_
  refine va_get (D := G) (ci := 0) (v := .ref (q 10)) (C := RX1) (T := TX1) (N := 13) hx hb hts iX1_become_X1 hown hK hP 0 rfl rfl 10 (by decide) (hts (.fieldLink RX1 28 "NailedOrders$Door" "numbers" "[F") (by decide +kernel)) (fun _ h9 => h9) rfl dX1_become_121 ?_
  refine lv_iconst (v := nI 0) hx hb dX1_become_124 (by decide +kernel) ?_
  refine lv_bipush (v := nI 40) hx hb dX1_become_125 (by decide +kernel) ?_
  refine o_copyf hx hb (hml.trans hl.1.symm) hown (hts (.methodLink RX1 54 arraycopyName) (by decide +kernel)) (hts (.native arraycopyName) (by decide +kernel)) (hts (.static arraycopyName) (by decide +kernel)) (hts (.initialized "java/lang/System") (by decide +kernel)) hK hP hD hS 15 6 1 rfl rfl rfl (by decide) (Nat.le_of_ble_eq_true rfl) (by decide +kernel) dX1_become_127 (fun H locs hP hD hS => ?_)
  have hP : va_P G vwCl (wDo cy q (mP M', mN M', mS M', mB M', mT M', mR M', mO M', mW M', mL M', mF M, mA M', mU M', mH M) ++ wDo cy q' M') H := hP
  have hD : va_D A (wDo cy q (mP M', mN M', mS M', mB M', mT M', mR M', mO M', mW M', mL M', mF M, mA M', mU M', mH M) ++ wDo cy q' M') := hD
  refine lv_aload_n hx hb dX1_become_130 rfl (lv_at hl 1 rfl) ?_
  refine va_get (D := G) (ci := 0) (v := .ref (q' 11)) (C := RX1) (T := TX1) (N := 13) hx hb hts iX1_become_X1 hown hK hP 9 rfl rfl 11 (by decide) (hts (.fieldLink RX1 31 "NailedOrders$Door" "strengths" "[F") (by decide +kernel)) (fun _ h9 => h9) rfl dX1_become_131 ?_
  refine lv_iconst (v := nI 0) hx hb dX1_become_134 (by decide +kernel) ?_
  refine lv_aload_n hx hb dX1_become_135 rfl (lv_at hl 0 rfl) ?_
  refine va_get (D := G) (ci := 0) (v := .ref (q 11)) (C := RX1) (T := TX1) (N := 13) hx hb hts iX1_become_X1 hown hK hP 0 rfl rfl 11 (by decide) (hts (.fieldLink RX1 31 "NailedOrders$Door" "strengths" "[F") (by decide +kernel)) (fun _ h9 => h9) rfl dX1_become_136 ?_
  refine lv_iconst (v := nI 0) hx hb dX1_become_139 (by decide +kernel) ?_
  refine lv_bipush (v := nI 40) hx hb dX1_become_140 (by decide +kernel) ?_
  refine o_copyf hx hb (hml.trans hl.1.symm) hown (hts (.methodLink RX1 54 arraycopyName) (by decide +kernel)) (hts (.native arraycopyName) (by decide +kernel)) (hts (.static arraycopyName) (by decide +kernel)) (hts (.initialized "java/lang/System") (by decide +kernel)) hK hP hD hS 16 7 1 rfl rfl rfl (by decide) (Nat.le_of_ble_eq_true rfl) (by decide +kernel) dX1_become_142 (fun H locs hP hD hS => ?_)
  have hP : va_P G vwCl (wDo cy q (mP M', mN M', mS M', mB M', mT M', mR M', mO M', mW M', mL M', mF M, mA M', mU M', mH M') ++ wDo cy q' M') H := hP
  have hD : va_D A (wDo cy q (mP M', mN M', mS M', mB M', mT M', mR M', mO M', mW M', mL M', mF M, mA M', mU M', mH M') ++ wDo cy q' M') := hD
  refine lv_aload_n hx hb dX1_become_145 rfl (lv_at hl 1 rfl) ?_
  refine va_get (D := G) (ci := 0) (v := .ref (q' 12)) (C := RX1) (T := TX1) (N := 13) hx hb hts iX1_become_X1 hown hK hP 9 rfl rfl 12 (by decide) (hts (.fieldLink RX1 34 "NailedOrders$Door" "fates" "[I") (by decide +kernel)) (fun _ h9 => h9) rfl dX1_become_146 ?_
  refine lv_iconst (v := nI 0) hx hb dX1_become_149 (by decide +kernel) ?_
  refine lv_aload_n hx hb dX1_become_150 rfl (lv_at hl 0 rfl) ?_
  refine va_get (D := G) (ci := 0) (v := .ref (q 12)) (C := RX1) (T := TX1) (N := 13) hx hb hts iX1_become_X1 hown hK hP 0 rfl rfl 12 (by decide) (hts (.fieldLink RX1 34 "NailedOrders$Door" "fates" "[I") (by decide +kernel)) (fun _ h9 => h9) rfl dX1_become_151 ?_
  refine lv_iconst (v := nI 0) hx hb dX1_become_154 (by decide +kernel) ?_
  refine lv_bipush (v := nI 40) hx hb dX1_become_155 (by decide +kernel) ?_
  refine o_copyi hx hb (hml.trans hl.1.symm) hown (hts (.methodLink RX1 54 arraycopyName) (by decide +kernel)) (hts (.native arraycopyName) (by decide +kernel)) (hts (.static arraycopyName) (by decide +kernel)) (hts (.initialized "java/lang/System") (by decide +kernel)) hK hP hD hS 17 8 0 rfl rfl rfl (by decide) (Nat.le_of_ble_eq_true rfl) (by decide +kernel) dX1_become_157 (fun H locs hP hD hS => ?_)
  have hP : va_P G vwCl (wDo cy q M' ++ wDo cy q' M') H := hP
  have hD : va_D A (wDo cy q M' ++ wDo cy q' M') := hD
  exact o_endVm hx hb hr hlocks dX1_become_160 hP hS
