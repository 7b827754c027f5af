set_option maxRecDepth 100000 in
theorem iX1_init_X1 : ∀ w ∈ u_ws RX1 TX1 13, w ∈ wsX1_init := by decide +kernel
set_option maxHeartbeats 4000000 in
set_option maxRecDepth 100000 in
theorem kX1_init (l : Launch) (G : va_G) (cy : Nat → ClassId) {H0 : Heap} {z0 : Nat} {A0 : Nat → Prop} (hP : va_P G vwCl (n0D z0) H0) (hD0 : va_D A0 (n0D z0)) : MetC l yX1_init wsX1_init 1 12 8 286 [.ref z0] H0 G cy (σ := Nat → Nat) (fun u => u 0 = z0) (fun u => wDo cy u MZ) (n0D z0) := by
  refine Met.ofW (cc := cX1_init) (maxL := 1) (ret := none) (by decide) rfl ?_
  intro p e s m args below meth c s₁ B hml hv
  obtain ⟨rfl, hH, hK⟩ := hv
  subst hH
  have hx := B.exec
  have hb := B.bytes
  have hr := B.returns
  have hts := atoms_spec (ws := wsX1_init) B.pre
  have hown : s.vm.findClass RX1 = some m.cls := findClass_of_methodNamed B.named
  have hlocks := B.notSynchronized
  have hl := lv_entry ([.ref z0]) (n := 1) (Nat.le_of_ble_eq_true rfl)
  rw [lg_entry_eq]
  generalize (lg_sl ([.ref z0]) ++ List.replicate (1 - (lg_sl ([.ref z0])).length) Slot.unset).toArray = ls at hl ⊢
  have hl : lv_has ls 1 [(0, .ref z0)] := hl
  have hin : meth.name = "<init>" := (name_of_methodNamed B.named B.method).1
  have hD := hD0.self (sz := s.heap.size)
  generalize hAe : va_A (n0D z0) s.heap.size = A at hD ⊢
  have hA : ∀ q : Nat, s.heap.size ≤ q → A q := fun q h => by rw [← hAe]; exact Or.inr h
  have hS : va_S A s.heap s.heap [] := va_S.rf
  refine lv_aload_n hx hb dX1_init_0 rfl (lv_at hl 0 rfl) ?_
  refine W.objInit hx hb hown (hts (.methodLink RX1 3 objectInit) (by decide +kernel)) (hts (.instanceMethod objectInit) (by decide +kernel)) (hts (.code objectInit ⟨#[0xb1]⟩ 1 none) (by decide +kernel)) rfl (by rw [hml]; exact hl.1) rfl dX1_init_1 (Nat.le_of_ble_eq_true rfl) (Nat.le_of_ble_eq_true rfl) ?_
  refine W.eq (g2 := F0 m 4 ls []) rfl ?_
  refine lv_aload_n hx hb dX1_init_4 rfl (lv_at hl 0 rfl) ?_
  refine lv_bipush (v := nI 6) hx hb dX1_init_5 (by decide +kernel) ?_
  refine o_newI hx hb (hts (.arrayClass .int) (by decide +kernel)) hK hP hD hS hA (n := 6) (by decide) (Nat.le_of_ble_eq_true rfl) (Nat.le_of_ble_eq_true rfl) dX1_init_7 (fun b1 H hP hD hS => ?_)
  have hP : va_P G vwCl ([(z0, .inr (0, [.int 0, .null, .int 0, .float 0, .int 0, .int 0, .null, .null, .null, .null, .null, .null, .null]))] ++ [(b1, eI cy 6 (fun _ => 0))]) H := hP
  have hD : va_D A ([(z0, .inr (0, [.int 0, .null, .int 0, .float 0, .int 0, .int 0, .null, .null, .null, .null, .null, .null, .null]))] ++ [(b1, eI cy 6 (fun _ => 0))]) := hD
  refine va_putF (D := G) (ci := 0) (v := .ref b1) (ty := (.array .int)) (C := RX1) (T := TX1) (N := 13) hx hb hts iX1_init_X1 tyX1 tyX1_ok nmX1 hown hK hP hD hS 0 rfl rfl 1 (by decide) (hts (.fieldLink RX1 9 "NailedOrders$Door" "ranks" "[I") (by decide +kernel)) (fun _ h9 => h9) rfl hin rfl (by decide +kernel) rfl rfl (Nat.le_of_ble_eq_true rfl) dX1_init_9 (fun H locs hP hD hS => ?_)
  have hP : va_P G vwCl ([(z0, .inr (0, [.int 0, .ref b1, .int 0, .float 0, .int 0, .int 0, .null, .null, .null, .null, .null, .null, .null]))] ++ [(b1, eI cy 6 (fun _ => 0))]) H := hP
  have hD : va_D A ([(z0, .inr (0, [.int 0, .ref b1, .int 0, .float 0, .int 0, .int 0, .null, .null, .null, .null, .null, .null, .null]))] ++ [(b1, eI cy 6 (fun _ => 0))]) := hD
  refine lv_aload_n hx hb dX1_init_12 rfl (lv_at hl 0 rfl) ?_
  refine lv_bipush (v := nI 40) hx hb dX1_init_13 (by decide +kernel) ?_
  refine o_newI hx hb (hts (.arrayClass .int) (by decide +kernel)) hK hP hD hS hA (n := 40) (by decide) (Nat.le_of_ble_eq_true rfl) (Nat.le_of_ble_eq_true rfl) dX1_init_15 (fun b6 H hP hD hS => ?_)
  have hP : va_P G vwCl ([(z0, .inr (0, [.int 0, .ref b1, .int 0, .float 0, .int 0, .int 0, .null, .null, .null, .null, .null, .null, .null]))] ++ [(b1, eI cy 6 (fun _ => 0))] ++ [(b6, eI cy 40 (fun _ => 0))]) H := hP
  have hD : va_D A ([(z0, .inr (0, [.int 0, .ref b1, .int 0, .float 0, .int 0, .int 0, .null, .null, .null, .null, .null, .null, .null]))] ++ [(b1, eI cy 6 (fun _ => 0))] ++ [(b6, eI cy 40 (fun _ => 0))]) := hD
  refine va_putF (D := G) (ci := 0) (v := .ref b6) (ty := (.array .int)) (C := RX1) (T := TX1) (N := 13) hx hb hts iX1_init_X1 tyX1 tyX1_ok nmX1 hown hK hP hD hS 0 rfl rfl 6 (by decide) (hts (.fieldLink RX1 15 "NailedOrders$Door" "owners" "[I") (by decide +kernel)) (fun _ h9 => h9) rfl hin rfl (by decide +kernel) rfl rfl (Nat.le_of_ble_eq_true rfl) dX1_init_17 (fun H locs hP hD hS => ?_)
  have hP : va_P G vwCl ([(z0, .inr (0, [.int 0, .ref b1, .int 0, .float 0, .int 0, .int 0, .ref b6, .null, .null, .null, .null, .null, .null]))] ++ [(b1, eI cy 6 (fun _ => 0))] ++ [(b6, eI cy 40 (fun _ => 0))]) H := hP
  have hD : va_D A ([(z0, .inr (0, [.int 0, .ref b1, .int 0, .float 0, .int 0, .int 0, .ref b6, .null, .null, .null, .null, .null, .null]))] ++ [(b1, eI cy 6 (fun _ => 0))] ++ [(b6, eI cy 40 (fun _ => 0))]) := hD
  refine lv_aload_n hx hb dX1_init_20 rfl (lv_at hl 0 rfl) ?_
  refine lv_bipush (v := nI 40) hx hb dX1_init_21 (by decide +kernel) ?_
  refine o_newI hx hb (hts (.arrayClass .int) (by decide +kernel)) hK hP hD hS hA (n := 40) (by decide) (Nat.le_of_ble_eq_true rfl) (Nat.le_of_ble_eq_true rfl) dX1_init_23 (fun b7 H hP hD hS => ?_)
  have hP : va_P G vwCl ([(z0, .inr (0, [.int 0, .ref b1, .int 0, .float 0, .int 0, .int 0, .ref b6, .null, .null, .null, .null, .null, .null]))] ++ [(b1, eI cy 6 (fun _ => 0))] ++ [(b6, eI cy 40 (fun _ => 0))] ++ [(b7, eI cy 40 (fun _ => 0))]) H := hP
  have hD : va_D A ([(z0, .inr (0, [.int 0, .ref b1, .int 0, .float 0, .int 0, .int 0, .ref b6, .null, .null, .null, .null, .null, .null]))] ++ [(b1, eI cy 6 (fun _ => 0))] ++ [(b6, eI cy 40 (fun _ => 0))] ++ [(b7, eI cy 40 (fun _ => 0))]) := hD
  refine va_putF (D := G) (ci := 0) (v := .ref b7) (ty := (.array .int)) (C := RX1) (T := TX1) (N := 13) hx hb hts iX1_init_X1 tyX1 tyX1_ok nmX1 hown hK hP hD hS 0 rfl rfl 7 (by decide) (hts (.fieldLink RX1 18 "NailedOrders$Door" "words" "[I") (by decide +kernel)) (fun _ h9 => h9) rfl hin rfl (by decide +kernel) rfl rfl (Nat.le_of_ble_eq_true rfl) dX1_init_25 (fun H locs hP hD hS => ?_)
  have hP : va_P G vwCl ([(z0, .inr (0, [.int 0, .ref b1, .int 0, .float 0, .int 0, .int 0, .ref b6, .ref b7, .null, .null, .null, .null, .null]))] ++ [(b1, eI cy 6 (fun _ => 0))] ++ [(b6, eI cy 40 (fun _ => 0))] ++ [(b7, eI cy 40 (fun _ => 0))]) H := hP
  have hD : va_D A ([(z0, .inr (0, [.int 0, .ref b1, .int 0, .float 0, .int 0, .int 0, .ref b6, .ref b7, .null, .null, .null, .null, .null]))] ++ [(b1, eI cy 6 (fun _ => 0))] ++ [(b6, eI cy 40 (fun _ => 0))] ++ [(b7, eI cy 40 (fun _ => 0))]) := hD
  refine lv_aload_n hx hb dX1_init_28 rfl (lv_at hl 0 rfl) ?_
  refine lv_bipush (v := nI 40) hx hb dX1_init_29 (by decide +kernel) ?_
  refine o_newI hx hb (hts (.arrayClass .int) (by decide +kernel)) hK hP hD hS hA (n := 40) (by decide) (Nat.le_of_ble_eq_true rfl) (Nat.le_of_ble_eq_true rfl) dX1_init_31 (fun b8 H hP hD hS => ?_)
  have hP : va_P G vwCl ([(z0, .inr (0, [.int 0, .ref b1, .int 0, .float 0, .int 0, .int 0, .ref b6, .ref b7, .null, .null, .null, .null, .null]))] ++ [(b1, eI cy 6 (fun _ => 0))] ++ [(b6, eI cy 40 (fun _ => 0))] ++ [(b7, eI cy 40 (fun _ => 0))] ++ [(b8, eI cy 40 (fun _ => 0))]) H := hP
  have hD : va_D A ([(z0, .inr (0, [.int 0, .ref b1, .int 0, .float 0, .int 0, .int 0, .ref b6, .ref b7, .null, .null, .null, .null, .null]))] ++ [(b1, eI cy 6 (fun _ => 0))] ++ [(b6, eI cy 40 (fun _ => 0))] ++ [(b7, eI cy 40 (fun _ => 0))] ++ [(b8, eI cy 40 (fun _ => 0))]) := hD
  refine va_putF (D := G) (ci := 0) (v := .ref b8) (ty := (.array .int)) (C := RX1) (T := TX1) (N := 13) hx hb hts iX1_init_X1 tyX1 tyX1_ok nmX1 hown hK hP hD hS 0 rfl rfl 8 (by decide) (hts (.fieldLink RX1 21 "NailedOrders$Door" "links" "[I") (by decide +kernel)) (fun _ h9 => h9) rfl hin rfl (by decide +kernel) rfl rfl (Nat.le_of_ble_eq_true rfl) dX1_init_33 (fun H locs hP hD hS => ?_)
  have hP : va_P G vwCl ([(z0, .inr (0, [.int 0, .ref b1, .int 0, .float 0, .int 0, .int 0, .ref b6, .ref b7, .ref b8, .null, .null, .null, .null]))] ++ [(b1, eI cy 6 (fun _ => 0))] ++ [(b6, eI cy 40 (fun _ => 0))] ++ [(b7, eI cy 40 (fun _ => 0))] ++ [(b8, eI cy 40 (fun _ => 0))]) H := hP
  have hD : va_D A ([(z0, .inr (0, [.int 0, .ref b1, .int 0, .float 0, .int 0, .int 0, .ref b6, .ref b7, .ref b8, .null, .null, .null, .null]))] ++ [(b1, eI cy 6 (fun _ => 0))] ++ [(b6, eI cy 40 (fun _ => 0))] ++ [(b7, eI cy 40 (fun _ => 0))] ++ [(b8, eI cy 40 (fun _ => 0))]) := hD
  refine lv_aload_n hx hb dX1_init_36 rfl (lv_at hl 0 rfl) ?_
  refine lv_bipush (v := nI 40) hx hb dX1_init_37 (by decide +kernel) ?_
  refine o_newF hx hb (hts (.arrayClass .float) (by decide +kernel)) hK hP hD hS hA (n := 40) (by decide) (Nat.le_of_ble_eq_true rfl) (Nat.le_of_ble_eq_true rfl) dX1_init_39 (fun b9 H hP hD hS => ?_)
  have hP : va_P G vwCl ([(z0, .inr (0, [.int 0, .ref b1, .int 0, .float 0, .int 0, .int 0, .ref b6, .ref b7, .ref b8, .null, .null, .null, .null]))] ++ [(b1, eI cy 6 (fun _ => 0))] ++ [(b6, eI cy 40 (fun _ => 0))] ++ [(b7, eI cy 40 (fun _ => 0))] ++ [(b8, eI cy 40 (fun _ => 0))] ++ [(b9, eF cy 40 (fun _ => 0))]) H := hP
  have hD : va_D A ([(z0, .inr (0, [.int 0, .ref b1, .int 0, .float 0, .int 0, .int 0, .ref b6, .ref b7, .ref b8, .null, .null, .null, .null]))] ++ [(b1, eI cy 6 (fun _ => 0))] ++ [(b6, eI cy 40 (fun _ => 0))] ++ [(b7, eI cy 40 (fun _ => 0))] ++ [(b8, eI cy 40 (fun _ => 0))] ++ [(b9, eF cy 40 (fun _ => 0))]) := hD
  refine va_putF (D := G) (ci := 0) (v := .ref b9) (ty := (.array .float)) (C := RX1) (T := TX1) (N := 13) hx hb hts iX1_init_X1 tyX1 tyX1_ok nmX1 hown hK hP hD hS 0 rfl rfl 9 (by decide) (hts (.fieldLink RX1 24 "NailedOrders$Door" "factors" "[F") (by decide +kernel)) (fun _ h9 => h9) rfl hin rfl (by decide +kernel) rfl rfl (Nat.le_of_ble_eq_true rfl) dX1_init_41 (fun H locs hP hD hS => ?_)
  have hP : va_P G vwCl ([(z0, .inr (0, [.int 0, .ref b1, .int 0, .float 0, .int 0, .int 0, .ref b6, .ref b7, .ref b8, .ref b9, .null, .null, .null]))] ++ [(b1, eI cy 6 (fun _ => 0))] ++ [(b6, eI cy 40 (fun _ => 0))] ++ [(b7, eI cy 40 (fun _ => 0))] ++ [(b8, eI cy 40 (fun _ => 0))] ++ [(b9, eF cy 40 (fun _ => 0))]) H := hP
  have hD : va_D A ([(z0, .inr (0, [.int 0, .ref b1, .int 0, .float 0, .int 0, .int 0, .ref b6, .ref b7, .ref b8, .ref b9, .null, .null, .null]))] ++ [(b1, eI cy 6 (fun _ => 0))] ++ [(b6, eI cy 40 (fun _ => 0))] ++ [(b7, eI cy 40 (fun _ => 0))] ++ [(b8, eI cy 40 (fun _ => 0))] ++ [(b9, eF cy 40 (fun _ => 0))]) := hD
  refine lv_aload_n hx hb dX1_init_44 rfl (lv_at hl 0 rfl) ?_
  refine lv_bipush (v := nI 40) hx hb dX1_init_45 (by decide +kernel) ?_
  refine o_newF hx hb (hts (.arrayClass .float) (by decide +kernel)) hK hP hD hS hA (n := 40) (by decide) (Nat.le_of_ble_eq_true rfl) (Nat.le_of_ble_eq_true rfl) dX1_init_47 (fun ba H hP hD hS => ?_)
  have hP : va_P G vwCl ([(z0, .inr (0, [.int 0, .ref b1, .int 0, .float 0, .int 0, .int 0, .ref b6, .ref b7, .ref b8, .ref b9, .null, .null, .null]))] ++ [(b1, eI cy 6 (fun _ => 0))] ++ [(b6, eI cy 40 (fun _ => 0))] ++ [(b7, eI cy 40 (fun _ => 0))] ++ [(b8, eI cy 40 (fun _ => 0))] ++ [(b9, eF cy 40 (fun _ => 0))] ++ [(ba, eF cy 40 (fun _ => 0))]) H := hP
  have hD : va_D A ([(z0, .inr (0, [.int 0, .ref b1, .int 0, .float 0, .int 0, .int 0, .ref b6, .ref b7, .ref b8, .ref b9, .null, .null, .null]))] ++ [(b1, eI cy 6 (fun _ => 0))] ++ [(b6, eI cy 40 (fun _ => 0))] ++ [(b7, eI cy 40 (fun _ => 0))] ++ [(b8, eI cy 40 (fun _ => 0))] ++ [(b9, eF cy 40 (fun _ => 0))] ++ [(ba, eF cy 40 (fun _ => 0))]) := hD
  refine va_putF (D := G) (ci := 0) (v := .ref ba) (ty := (.array .float)) (C := RX1) (T := TX1) (N := 13) hx hb hts iX1_init_X1 tyX1 tyX1_ok nmX1 hown hK hP hD hS 0 rfl rfl 10 (by decide) (hts (.fieldLink RX1 28 "NailedOrders$Door" "numbers" "[F") (by decide +kernel)) (fun _ h9 => h9) rfl hin rfl (by decide +kernel) rfl rfl (Nat.le_of_ble_eq_true rfl) dX1_init_49 (fun H locs hP hD hS => ?_)
  have hP : va_P G vwCl ([(z0, .inr (0, [.int 0, .ref b1, .int 0, .float 0, .int 0, .int 0, .ref b6, .ref b7, .ref b8, .ref b9, .ref ba, .null, .null]))] ++ [(b1, eI cy 6 (fun _ => 0))] ++ [(b6, eI cy 40 (fun _ => 0))] ++ [(b7, eI cy 40 (fun _ => 0))] ++ [(b8, eI cy 40 (fun _ => 0))] ++ [(b9, eF cy 40 (fun _ => 0))] ++ [(ba, eF cy 40 (fun _ => 0))]) H := hP
  have hD : va_D A ([(z0, .inr (0, [.int 0, .ref b1, .int 0, .float 0, .int 0, .int 0, .ref b6, .ref b7, .ref b8, .ref b9, .ref ba, .null, .null]))] ++ [(b1, eI cy 6 (fun _ => 0))] ++ [(b6, eI cy 40 (fun _ => 0))] ++ [(b7, eI cy 40 (fun _ => 0))] ++ [(b8, eI cy 40 (fun _ => 0))] ++ [(b9, eF cy 40 (fun _ => 0))] ++ [(ba, eF cy 40 (fun _ => 0))]) := hD
  refine lv_aload_n hx hb dX1_init_52 rfl (lv_at hl 0 rfl) ?_
  refine lv_bipush (v := nI 40) hx hb dX1_init_53 (by decide +kernel) ?_
  refine o_newF hx hb (hts (.arrayClass .float) (by decide +kernel)) hK hP hD hS hA (n := 40) (by decide) (Nat.le_of_ble_eq_true rfl) (Nat.le_of_ble_eq_true rfl) dX1_init_55 (fun bb H hP hD hS => ?_)
  have hP : va_P G vwCl ([(z0, .inr (0, [.int 0, .ref b1, .int 0, .float 0, .int 0, .int 0, .ref b6, .ref b7, .ref b8, .ref b9, .ref ba, .null, .null]))] ++ [(b1, eI cy 6 (fun _ => 0))] ++ [(b6, eI cy 40 (fun _ => 0))] ++ [(b7, eI cy 40 (fun _ => 0))] ++ [(b8, eI cy 40 (fun _ => 0))] ++ [(b9, eF cy 40 (fun _ => 0))] ++ [(ba, eF cy 40 (fun _ => 0))] ++ [(bb, eF cy 40 (fun _ => 0))]) H := hP
  have hD : va_D A ([(z0, .inr (0, [.int 0, .ref b1, .int 0, .float 0, .int 0, .int 0, .ref b6, .ref b7, .ref b8, .ref b9, .ref ba, .null, .null]))] ++ [(b1, eI cy 6 (fun _ => 0))] ++ [(b6, eI cy 40 (fun _ => 0))] ++ [(b7, eI cy 40 (fun _ => 0))] ++ [(b8, eI cy 40 (fun _ => 0))] ++ [(b9, eF cy 40 (fun _ => 0))] ++ [(ba, eF cy 40 (fun _ => 0))] ++ [(bb, eF cy 40 (fun _ => 0))]) := hD
  refine va_putF (D := G) (ci := 0) (v := .ref bb) (ty := (.array .float)) (C := RX1) (T := TX1) (N := 13) hx hb hts iX1_init_X1 tyX1 tyX1_ok nmX1 hown hK hP hD hS 0 rfl rfl 11 (by decide) (hts (.fieldLink RX1 31 "NailedOrders$Door" "strengths" "[F") (by decide +kernel)) (fun _ h9 => h9) rfl hin rfl (by decide +kernel) rfl rfl (Nat.le_of_ble_eq_true rfl) dX1_init_57 (fun H locs hP hD hS => ?_)
  have hP : va_P G vwCl ([(z0, .inr (0, [.int 0, .ref b1, .int 0, .float 0, .int 0, .int 0, .ref b6, .ref b7, .ref b8, .ref b9, .ref ba, .ref bb, .null]))] ++ [(b1, eI cy 6 (fun _ => 0))] ++ [(b6, eI cy 40 (fun _ => 0))] ++ [(b7, eI cy 40 (fun _ => 0))] ++ [(b8, eI cy 40 (fun _ => 0))] ++ [(b9, eF cy 40 (fun _ => 0))] ++ [(ba, eF cy 40 (fun _ => 0))] ++ [(bb, eF cy 40 (fun _ => 0))]) H := hP
  have hD : va_D A ([(z0, .inr (0, [.int 0, .ref b1, .int 0, .float 0, .int 0, .int 0, .ref b6, .ref b7, .ref b8, .ref b9, .ref ba, .ref bb, .null]))] ++ [(b1, eI cy 6 (fun _ => 0))] ++ [(b6, eI cy 40 (fun _ => 0))] ++ [(b7, eI cy 40 (fun _ => 0))] ++ [(b8, eI cy 40 (fun _ => 0))] ++ [(b9, eF cy 40 (fun _ => 0))] ++ [(ba, eF cy 40 (fun _ => 0))] ++ [(bb, eF cy 40 (fun _ => 0))]) := hD
  refine lv_aload_n hx hb dX1_init_60 rfl (lv_at hl 0 rfl) ?_
  refine lv_bipush (v := nI 40) hx hb dX1_init_61 (by decide +kernel) ?_
  refine o_newI hx hb (hts (.arrayClass .int) (by decide +kernel)) hK hP hD hS hA (n := 40) (by decide) (Nat.le_of_ble_eq_true rfl) (Nat.le_of_ble_eq_true rfl) dX1_init_63 (fun bc H hP hD hS => ?_)
  have hP : va_P G vwCl ([(z0, .inr (0, [.int 0, .ref b1, .int 0, .float 0, .int 0, .int 0, .ref b6, .ref b7, .ref b8, .ref b9, .ref ba, .ref bb, .null]))] ++ [(b1, eI cy 6 (fun _ => 0))] ++ [(b6, eI cy 40 (fun _ => 0))] ++ [(b7, eI cy 40 (fun _ => 0))] ++ [(b8, eI cy 40 (fun _ => 0))] ++ [(b9, eF cy 40 (fun _ => 0))] ++ [(ba, eF cy 40 (fun _ => 0))] ++ [(bb, eF cy 40 (fun _ => 0))] ++ [(bc, eI cy 40 (fun _ => 0))]) H := hP
  have hD : va_D A ([(z0, .inr (0, [.int 0, .ref b1, .int 0, .float 0, .int 0, .int 0, .ref b6, .ref b7, .ref b8, .ref b9, .ref ba, .ref bb, .null]))] ++ [(b1, eI cy 6 (fun _ => 0))] ++ [(b6, eI cy 40 (fun _ => 0))] ++ [(b7, eI cy 40 (fun _ => 0))] ++ [(b8, eI cy 40 (fun _ => 0))] ++ [(b9, eF cy 40 (fun _ => 0))] ++ [(ba, eF cy 40 (fun _ => 0))] ++ [(bb, eF cy 40 (fun _ => 0))] ++ [(bc, eI cy 40 (fun _ => 0))]) := hD
  refine va_putF (D := G) (ci := 0) (v := .ref bc) (ty := (.array .int)) (C := RX1) (T := TX1) (N := 13) hx hb hts iX1_init_X1 tyX1 tyX1_ok nmX1 hown hK hP hD hS 0 rfl rfl 12 (by decide) (hts (.fieldLink RX1 34 "NailedOrders$Door" "fates" "[I") (by decide +kernel)) (fun _ h9 => h9) rfl hin rfl (by decide +kernel) rfl rfl (Nat.le_of_ble_eq_true rfl) dX1_init_65 (fun H locs hP hD hS => ?_)
  have hP : va_P G vwCl ([(z0, .inr (0, [.int 0, .ref b1, .int 0, .float 0, .int 0, .int 0, .ref b6, .ref b7, .ref b8, .ref b9, .ref ba, .ref bb, .ref bc]))] ++ [(b1, eI cy 6 (fun _ => 0))] ++ [(b6, eI cy 40 (fun _ => 0))] ++ [(b7, eI cy 40 (fun _ => 0))] ++ [(b8, eI cy 40 (fun _ => 0))] ++ [(b9, eF cy 40 (fun _ => 0))] ++ [(ba, eF cy 40 (fun _ => 0))] ++ [(bb, eF cy 40 (fun _ => 0))] ++ [(bc, eI cy 40 (fun _ => 0))]) H := hP
  have hD : va_D A ([(z0, .inr (0, [.int 0, .ref b1, .int 0, .float 0, .int 0, .int 0, .ref b6, .ref b7, .ref b8, .ref b9, .ref ba, .ref bb, .ref bc]))] ++ [(b1, eI cy 6 (fun _ => 0))] ++ [(b6, eI cy 40 (fun _ => 0))] ++ [(b7, eI cy 40 (fun _ => 0))] ++ [(b8, eI cy 40 (fun _ => 0))] ++ [(b9, eF cy 40 (fun _ => 0))] ++ [(ba, eF cy 40 (fun _ => 0))] ++ [(bb, eF cy 40 (fun _ => 0))] ++ [(bc, eI cy 40 (fun _ => 0))]) := hD
  exact o_endC (σ := Nat → Nat) (P := fun (u : Nat → Nat) => u 0 = z0) (w := fun (u : Nat → Nat) => wDo cy u MZ) (k := 8) (n := 286) (qDo z0 b1 b6 b7 b8 b9 ba bb bc) hx hb hr hlocks dX1_init_68 rfl (hP.sub (ws' := wDo cy (qDo z0 b1 b6 b7 b8 b9 ba bb bc) MZ) [0, 1, 2, 3, 4, 5, 6, 7, 8] rfl) (hD.sub (ws' := wDo cy (qDo z0 b1 b6 b7 b8 b9 ba bb bc) MZ) [0, 1, 2, 3, 4, 5, 6, 7, 8] (by decide) rfl) hS (Nat.le_of_ble_eq_true rfl) (Nat.le_of_ble_eq_true rfl)

set_option maxRecDepth 100000 in
theorem iX5_init_X5 : ∀ w ∈ u_ws RX5 TX5 2, w ∈ wsX5_init := by decide +kernel
set_option maxHeartbeats 4000000 in
set_option maxRecDepth 100000 in
theorem kX5_init (l : Launch) (G : va_G) (cy : Nat → ClassId) {H0 : Heap} {z0 : Nat} {A0 : Nat → Prop} (hP : va_P G vwCl (n0T z0) H0) (hD0 : va_D A0 (n0T z0)) : MetC l yX5_init wsX5_init 1 12 1 60 [.ref z0] H0 G cy (σ := Unit) (fun u => True) (fun u => []) (n0T z0) := by
  refine Met.ofW (cc := cX5_init) (maxL := 1) (ret := none) (by decide) rfl ?_
  intro p e s m args below meth c s₁ B hml hv
  obtain ⟨rfl, hH, hK⟩ := hv
  subst hH
  have hx := B.exec
  have hb := B.bytes
  have hr := B.returns
  have hts := atoms_spec (ws := wsX5_init) B.pre
  have hown : s.vm.findClass RX5 = some m.cls := findClass_of_methodNamed B.named
  have hlocks := B.notSynchronized
  have hl := lv_entry ([.ref z0]) (n := 1) (Nat.le_of_ble_eq_true rfl)
  rw [lg_entry_eq]
  generalize (lg_sl ([.ref z0]) ++ List.replicate (1 - (lg_sl ([.ref z0])).length) Slot.unset).toArray = ls at hl ⊢
  have hl : lv_has ls 1 [(0, .ref z0)] := hl
  have hin : meth.name = "<init>" := (name_of_methodNamed B.named B.method).1
  have hD := hD0.self (sz := s.heap.size)
  generalize hAe : va_A (n0T z0) s.heap.size = A at hD ⊢
  have hA : ∀ q : Nat, s.heap.size ≤ q → A q := fun q h => by rw [← hAe]; exact Or.inr h
  have hS : va_S A s.heap s.heap [] := va_S.rf
  refine lv_aload_n hx hb dX5_init_0 rfl (lv_at hl 0 rfl) ?_
  refine W.objInit hx hb hown (hts (.methodLink RX5 3 objectInit) (by decide +kernel)) (hts (.instanceMethod objectInit) (by decide +kernel)) (hts (.code objectInit ⟨#[0xb1]⟩ 1 none) (by decide +kernel)) rfl (by rw [hml]; exact hl.1) rfl dX5_init_1 (Nat.le_of_ble_eq_true rfl) (Nat.le_of_ble_eq_true rfl) ?_
  refine W.eq (g2 := F0 m 4 ls []) rfl ?_
  refine lv_aload_n hx hb dX5_init_4 rfl (lv_at hl 0 rfl) ?_
  refine lv_bipush (v := nI 60) hx hb dX5_init_5 (by decide +kernel) ?_
  refine o_newC hx hb (hts (.arrayClass .char) (by decide +kernel)) hK hP hD hS hA (n := 60) (by decide) (Nat.le_of_ble_eq_true rfl) (Nat.le_of_ble_eq_true rfl) dX5_init_7 (fun b1 H hP hD hS => ?_)
  have hP : va_P G vwCl ([(z0, .inr (4, [.null, .int 0]))] ++ [(b1, .inl (cy 5, 60, .inl (fun _ => 0)))]) H := hP
  have hD : va_D A ([(z0, .inr (4, [.null, .int 0]))] ++ [(b1, .inl (cy 5, 60, .inl (fun _ => 0)))]) := hD
  refine va_putF (D := G) (ci := 4) (v := .ref b1) (ty := (.array .char)) (C := RX5) (T := TX5) (N := 2) hx hb hts iX5_init_X5 tyX5 tyX5_ok nmX5 hown hK hP hD hS 0 rfl rfl 0 (by decide) (hts (.fieldLink RX5 9 "NailedOrders$Text" "signs" "[C") (by decide +kernel)) (fun _ h9 => h9) rfl hin rfl (by decide +kernel) rfl rfl (Nat.le_of_ble_eq_true rfl) dX5_init_9 (fun H locs hP hD hS => ?_)
  have hP : va_P G vwCl ([(z0, .inr (4, [.ref b1, .int 0]))] ++ [(b1, .inl (cy 5, 60, .inl (fun _ => 0)))]) H := hP
  have hD : va_D A ([(z0, .inr (4, [.ref b1, .int 0]))] ++ [(b1, .inl (cy 5, 60, .inl (fun _ => 0)))]) := hD
  exact o_endC (σ := Unit) (P := fun (u : Unit) => True) (w := fun (u : Unit) => []) (k := 1) (n := 60) (()) hx hb hr hlocks dX5_init_12 trivial (hP.sub (ws' := []) [] rfl) (hD.sub (ws' := []) [] (by decide) rfl) hS (Nat.le_of_ble_eq_true rfl) (Nat.le_of_ble_eq_true rfl)

set_option maxRecDepth 100000 in
theorem iX3_init_X3 : ∀ w ∈ u_ws RX3 TX3 8, w ∈ wsX3_init := by decide +kernel
set_option maxHeartbeats 4000000 in
set_option maxRecDepth 100000 in
theorem kX3_init (l : Launch) (G : va_G) (cy : Nat → ClassId) {H0 : Heap} {z0 t0 : Nat} {A0 : Nat → Prop} (hP : va_P G vwCl (n0C z0) H0) (hD0 : va_D A0 (n0C z0)) : MetC l yX3_init wsX3_init 1 13 4 36 [.ref z0, .ref t0] H0 G cy (σ := Unit) (fun u => True) (fun u => []) (n0C z0) := by
  refine Met.ofW (cc := cX3_init) (maxL := 2) (ret := none) (by decide) rfl ?_
  intro p e s m args below meth c s₁ B hml hv
  obtain ⟨rfl, hH, hK⟩ := hv
  subst hH
  have hx := B.exec
  have hb := B.bytes
  have hr := B.returns
  have hts := atoms_spec (ws := wsX3_init) B.pre
  have hown : s.vm.findClass RX3 = some m.cls := findClass_of_methodNamed B.named
  have hlocks := B.notSynchronized
  have hl := lv_entry ([.ref z0, .ref t0]) (n := 2) (Nat.le_of_ble_eq_true rfl)
  rw [lg_entry_eq]
  generalize (lg_sl ([.ref z0, .ref t0]) ++ List.replicate (2 - (lg_sl ([.ref z0, .ref t0])).length) Slot.unset).toArray = ls at hl ⊢
  have hl : lv_has ls 2 [(0, .ref z0), (1, .ref t0)] := hl
  have hin : meth.name = "<init>" := (name_of_methodNamed B.named B.method).1
  have hD := hD0.self (sz := s.heap.size)
  generalize hAe : va_A (n0C z0) s.heap.size = A at hD ⊢
  have hA : ∀ q : Nat, s.heap.size ≤ q → A q := fun q h => by rw [← hAe]; exact Or.inr h
  have hS : va_S A s.heap s.heap [] := va_S.rf
  refine lv_aload_n hx hb dX3_init_0 rfl (lv_at hl 0 rfl) ?_
  refine W.objInit hx hb hown (hts (.methodLink RX3 3 objectInit) (by decide +kernel)) (hts (.instanceMethod objectInit) (by decide +kernel)) (hts (.code objectInit ⟨#[0xb1]⟩ 1 none) (by decide +kernel)) rfl (by rw [hml]; exact hl.1) rfl dX3_init_1 (Nat.le_of_ble_eq_true rfl) (Nat.le_of_ble_eq_true rfl) ?_
  refine W.eq (g2 := F0 m 4 ls []) rfl ?_
  refine lv_aload_n hx hb dX3_init_4 rfl (lv_at hl 0 rfl) ?_
  refine lv_bipush (v := nI 9) hx hb dX3_init_5 (by decide +kernel) ?_
  refine o_newI hx hb (hts (.arrayClass .int) (by decide +kernel)) hK hP hD hS hA (n := 9) (by decide) (Nat.le_of_ble_eq_true rfl) (Nat.le_of_ble_eq_true rfl) dX3_init_7 (fun b1 H hP hD hS => ?_)
  have hP : va_P G vwCl ([(z0, .inr (2, [.null, .int 0, .int 0, .null, .null, .null, .null, .int 0]))] ++ [(b1, eI cy 9 (fun _ => 0))]) H := hP
  have hD : va_D A ([(z0, .inr (2, [.null, .int 0, .int 0, .null, .null, .null, .null, .int 0]))] ++ [(b1, eI cy 9 (fun _ => 0))]) := hD
  refine va_putF (D := G) (ci := 2) (v := .ref b1) (ty := (.array .int)) (C := RX3) (T := TX3) (N := 8) hx hb hts iX3_init_X3 tyX3 tyX3_ok nmX3 hown hK hP hD hS 0 rfl rfl 3 (by decide) (hts (.fieldLink RX3 11 "NailedOrders$Reader" "words" "[I") (by decide +kernel)) (fun _ h9 => h9) rfl hin rfl (by decide +kernel) rfl rfl (Nat.le_of_ble_eq_true rfl) dX3_init_9 (fun H locs hP hD hS => ?_)
  have hP : va_P G vwCl ([(z0, .inr (2, [.null, .int 0, .int 0, .ref b1, .null, .null, .null, .int 0]))] ++ [(b1, eI cy 9 (fun _ => 0))]) H := hP
  have hD : va_D A ([(z0, .inr (2, [.null, .int 0, .int 0, .ref b1, .null, .null, .null, .int 0]))] ++ [(b1, eI cy 9 (fun _ => 0))]) := hD
  refine lv_aload_n hx hb dX3_init_12 rfl (lv_at hl 0 rfl) ?_
  refine lv_bipush (v := nI 9) hx hb dX3_init_13 (by decide +kernel) ?_
  refine o_newI hx hb (hts (.arrayClass .int) (by decide +kernel)) hK hP hD hS hA (n := 9) (by decide) (Nat.le_of_ble_eq_true rfl) (Nat.le_of_ble_eq_true rfl) dX3_init_15 (fun b2 H hP hD hS => ?_)
  have hP : va_P G vwCl ([(z0, .inr (2, [.null, .int 0, .int 0, .ref b1, .null, .null, .null, .int 0]))] ++ [(b1, eI cy 9 (fun _ => 0))] ++ [(b2, eI cy 9 (fun _ => 0))]) H := hP
  have hD : va_D A ([(z0, .inr (2, [.null, .int 0, .int 0, .ref b1, .null, .null, .null, .int 0]))] ++ [(b1, eI cy 9 (fun _ => 0))] ++ [(b2, eI cy 9 (fun _ => 0))]) := hD
  refine va_putF (D := G) (ci := 2) (v := .ref b2) (ty := (.array .int)) (C := RX3) (T := TX3) (N := 8) hx hb hts iX3_init_X3 tyX3 tyX3_ok nmX3 hown hK hP hD hS 0 rfl rfl 4 (by decide) (hts (.fieldLink RX3 15 "NailedOrders$Reader" "others" "[I") (by decide +kernel)) (fun _ h9 => h9) rfl hin rfl (by decide +kernel) rfl rfl (Nat.le_of_ble_eq_true rfl) dX3_init_17 (fun H locs hP hD hS => ?_)
  have hP : va_P G vwCl ([(z0, .inr (2, [.null, .int 0, .int 0, .ref b1, .ref b2, .null, .null, .int 0]))] ++ [(b1, eI cy 9 (fun _ => 0))] ++ [(b2, eI cy 9 (fun _ => 0))]) H := hP
  have hD : va_D A ([(z0, .inr (2, [.null, .int 0, .int 0, .ref b1, .ref b2, .null, .null, .int 0]))] ++ [(b1, eI cy 9 (fun _ => 0))] ++ [(b2, eI cy 9 (fun _ => 0))]) := hD
  refine lv_aload_n hx hb dX3_init_20 rfl (lv_at hl 0 rfl) ?_
  refine lv_bipush (v := nI 9) hx hb dX3_init_21 (by decide +kernel) ?_
  refine o_newF hx hb (hts (.arrayClass .float) (by decide +kernel)) hK hP hD hS hA (n := 9) (by decide) (Nat.le_of_ble_eq_true rfl) (Nat.le_of_ble_eq_true rfl) dX3_init_23 (fun b3 H hP hD hS => ?_)
  have hP : va_P G vwCl ([(z0, .inr (2, [.null, .int 0, .int 0, .ref b1, .ref b2, .null, .null, .int 0]))] ++ [(b1, eI cy 9 (fun _ => 0))] ++ [(b2, eI cy 9 (fun _ => 0))] ++ [(b3, eF cy 9 (fun _ => 0))]) H := hP
  have hD : va_D A ([(z0, .inr (2, [.null, .int 0, .int 0, .ref b1, .ref b2, .null, .null, .int 0]))] ++ [(b1, eI cy 9 (fun _ => 0))] ++ [(b2, eI cy 9 (fun _ => 0))] ++ [(b3, eF cy 9 (fun _ => 0))]) := hD
  refine va_putF (D := G) (ci := 2) (v := .ref b3) (ty := (.array .float)) (C := RX3) (T := TX3) (N := 8) hx hb hts iX3_init_X3 tyX3 tyX3_ok nmX3 hown hK hP hD hS 0 rfl rfl 5 (by decide) (hts (.fieldLink RX3 18 "NailedOrders$Reader" "factors" "[F") (by decide +kernel)) (fun _ h9 => h9) rfl hin rfl (by decide +kernel) rfl rfl (Nat.le_of_ble_eq_true rfl) dX3_init_25 (fun H locs hP hD hS => ?_)
  have hP : va_P G vwCl ([(z0, .inr (2, [.null, .int 0, .int 0, .ref b1, .ref b2, .ref b3, .null, .int 0]))] ++ [(b1, eI cy 9 (fun _ => 0))] ++ [(b2, eI cy 9 (fun _ => 0))] ++ [(b3, eF cy 9 (fun _ => 0))]) H := hP
  have hD : va_D A ([(z0, .inr (2, [.null, .int 0, .int 0, .ref b1, .ref b2, .ref b3, .null, .int 0]))] ++ [(b1, eI cy 9 (fun _ => 0))] ++ [(b2, eI cy 9 (fun _ => 0))] ++ [(b3, eF cy 9 (fun _ => 0))]) := hD
  refine lv_aload_n hx hb dX3_init_28 rfl (lv_at hl 0 rfl) ?_
  refine lv_bipush (v := nI 9) hx hb dX3_init_29 (by decide +kernel) ?_
  refine o_newF hx hb (hts (.arrayClass .float) (by decide +kernel)) hK hP hD hS hA (n := 9) (by decide) (Nat.le_of_ble_eq_true rfl) (Nat.le_of_ble_eq_true rfl) dX3_init_31 (fun b4 H hP hD hS => ?_)
  have hP : va_P G vwCl ([(z0, .inr (2, [.null, .int 0, .int 0, .ref b1, .ref b2, .ref b3, .null, .int 0]))] ++ [(b1, eI cy 9 (fun _ => 0))] ++ [(b2, eI cy 9 (fun _ => 0))] ++ [(b3, eF cy 9 (fun _ => 0))] ++ [(b4, eF cy 9 (fun _ => 0))]) H := hP
  have hD : va_D A ([(z0, .inr (2, [.null, .int 0, .int 0, .ref b1, .ref b2, .ref b3, .null, .int 0]))] ++ [(b1, eI cy 9 (fun _ => 0))] ++ [(b2, eI cy 9 (fun _ => 0))] ++ [(b3, eF cy 9 (fun _ => 0))] ++ [(b4, eF cy 9 (fun _ => 0))]) := hD
  refine va_putF (D := G) (ci := 2) (v := .ref b4) (ty := (.array .float)) (C := RX3) (T := TX3) (N := 8) hx hb hts iX3_init_X3 tyX3 tyX3_ok nmX3 hown hK hP hD hS 0 rfl rfl 6 (by decide) (hts (.fieldLink RX3 22 "NailedOrders$Reader" "numbers" "[F") (by decide +kernel)) (fun _ h9 => h9) rfl hin rfl (by decide +kernel) rfl rfl (Nat.le_of_ble_eq_true rfl) dX3_init_33 (fun H locs hP hD hS => ?_)
  have hP : va_P G vwCl ([(z0, .inr (2, [.null, .int 0, .int 0, .ref b1, .ref b2, .ref b3, .ref b4, .int 0]))] ++ [(b1, eI cy 9 (fun _ => 0))] ++ [(b2, eI cy 9 (fun _ => 0))] ++ [(b3, eF cy 9 (fun _ => 0))] ++ [(b4, eF cy 9 (fun _ => 0))]) H := hP
  have hD : va_D A ([(z0, .inr (2, [.null, .int 0, .int 0, .ref b1, .ref b2, .ref b3, .ref b4, .int 0]))] ++ [(b1, eI cy 9 (fun _ => 0))] ++ [(b2, eI cy 9 (fun _ => 0))] ++ [(b3, eF cy 9 (fun _ => 0))] ++ [(b4, eF cy 9 (fun _ => 0))]) := hD
  refine lv_aload_n hx hb dX3_init_36 rfl (lv_at hl 0 rfl) ?_
  refine lv_aload_n hx hb dX3_init_37 rfl (lv_at hl 1 rfl) ?_
  refine va_putF (D := G) (ci := 2) (v := .ref t0) (ty := (.object "NailedOrders$Text")) (C := RX3) (T := TX3) (N := 8) hx hb hts iX3_init_X3 tyX3 tyX3_ok nmX3 hown hK hP hD hS 0 rfl rfl 0 (by decide) (hts (.fieldLink RX3 25 "NailedOrders$Reader" "text" "LNailedOrders$Text;") (by decide +kernel)) (fun _ h9 => h9) rfl hin rfl (by decide +kernel) rfl rfl (Nat.le_of_ble_eq_true rfl) dX3_init_38 (fun H locs hP hD hS => ?_)
  have hP : va_P G vwCl ([(z0, .inr (2, [.ref t0, .int 0, .int 0, .ref b1, .ref b2, .ref b3, .ref b4, .int 0]))] ++ [(b1, eI cy 9 (fun _ => 0))] ++ [(b2, eI cy 9 (fun _ => 0))] ++ [(b3, eF cy 9 (fun _ => 0))] ++ [(b4, eF cy 9 (fun _ => 0))]) H := hP
  have hD : va_D A ([(z0, .inr (2, [.ref t0, .int 0, .int 0, .ref b1, .ref b2, .ref b3, .ref b4, .int 0]))] ++ [(b1, eI cy 9 (fun _ => 0))] ++ [(b2, eI cy 9 (fun _ => 0))] ++ [(b3, eF cy 9 (fun _ => 0))] ++ [(b4, eF cy 9 (fun _ => 0))]) := hD
  exact o_endC (σ := Unit) (P := fun (u : Unit) => True) (w := fun (u : Unit) => []) (k := 4) (n := 36) (()) hx hb hr hlocks dX3_init_41 trivial (hP.sub (ws' := []) [] rfl) (hD.sub (ws' := []) [] (by decide) rfl) hS (Nat.le_of_ble_eq_true rfl) (Nat.le_of_ble_eq_true rfl)

set_option maxRecDepth 100000 in
theorem iX4_init_X4 : ∀ w ∈ u_ws RX4 TX4 4, w ∈ wsX4_init := by decide +kernel
set_option maxHeartbeats 4000000 in
set_option maxRecDepth 100000 in
theorem kX4_init (l : Launch) (G : va_G) (cy : Nat → ClassId) {H0 : Heap} {z0 dd : Nat} {A0 : Nat → Prop} (hP : va_P G vwCl (n0R z0) H0) (hD0 : va_D A0 (n0R z0)) : MetC l yX4_init wsX4_init 1 13 3 48 [.ref z0, .ref dd] H0 G cy (σ := Nat → Nat) (fun u => u 0 = z0) (fun u => wRe cy (u) dd (fun _ => some 0) (fun _ => false) (fun _ => 0)) (n0R z0) := by
  refine Met.ofW (cc := cX4_init) (maxL := 2) (ret := none) (by decide) rfl ?_
  intro p e s m args below meth c s₁ B hml hv
  obtain ⟨rfl, hH, hK⟩ := hv
  subst hH
  have hx := B.exec
  have hb := B.bytes
  have hr := B.returns
  have hts := atoms_spec (ws := wsX4_init) B.pre
  have hown : s.vm.findClass RX4 = some m.cls := findClass_of_methodNamed B.named
  have hlocks := B.notSynchronized
  have hl := lv_entry ([.ref z0, .ref dd]) (n := 2) (Nat.le_of_ble_eq_true rfl)
  rw [lg_entry_eq]
  generalize (lg_sl ([.ref z0, .ref dd]) ++ List.replicate (2 - (lg_sl ([.ref z0, .ref dd])).length) Slot.unset).toArray = ls at hl ⊢
  have hl : lv_has ls 2 [(0, .ref z0), (1, .ref dd)] := hl
  have hin : meth.name = "<init>" := (name_of_methodNamed B.named B.method).1
  have hD := hD0.self (sz := s.heap.size)
  generalize hAe : va_A (n0R z0) s.heap.size = A at hD ⊢
  have hA : ∀ q : Nat, s.heap.size ≤ q → A q := fun q h => by rw [← hAe]; exact Or.inr h
  have hS : va_S A s.heap s.heap [] := va_S.rf
  refine lv_aload_n hx hb dX4_init_0 rfl (lv_at hl 0 rfl) ?_
  refine W.objInit hx hb hown (hts (.methodLink RX4 3 objectInit) (by decide +kernel)) (hts (.instanceMethod objectInit) (by decide +kernel)) (hts (.code objectInit ⟨#[0xb1]⟩ 1 none) (by decide +kernel)) rfl (by rw [hml]; exact hl.1) rfl dX4_init_1 (Nat.le_of_ble_eq_true rfl) (Nat.le_of_ble_eq_true rfl) ?_
  refine W.eq (g2 := F0 m 4 ls []) rfl ?_
  refine lv_aload_n hx hb dX4_init_4 rfl (lv_at hl 0 rfl) ?_
  refine lv_bipush (v := nI 16) hx hb dX4_init_5 (by decide +kernel) ?_
  refine o_newI hx hb (hts (.arrayClass .int) (by decide +kernel)) hK hP hD hS hA (n := 16) (by decide) (Nat.le_of_ble_eq_true rfl) (Nat.le_of_ble_eq_true rfl) dX4_init_7 (fun b1 H hP hD hS => ?_)
  have hP : va_P G vwCl ([(z0, .inr (3, [.null, .null, .null, .null]))] ++ [(b1, eI cy 16 (fun _ => 0))]) H := hP
  have hD : va_D A ([(z0, .inr (3, [.null, .null, .null, .null]))] ++ [(b1, eI cy 16 (fun _ => 0))]) := hD
  refine va_putF (D := G) (ci := 3) (v := .ref b1) (ty := (.array .int)) (C := RX4) (T := TX4) (N := 4) hx hb hts iX4_init_X4 tyX4 tyX4_ok nmX4 hown hK hP hD hS 0 rfl rfl 1 (by decide) (hts (.fieldLink RX4 9 "NailedOrders$Reckoning" "rulers" "[I") (by decide +kernel)) (fun _ h9 => h9) rfl hin rfl (by decide +kernel) rfl rfl (Nat.le_of_ble_eq_true rfl) dX4_init_9 (fun H locs hP hD hS => ?_)
  have hP : va_P G vwCl ([(z0, .inr (3, [.null, .ref b1, .null, .null]))] ++ [(b1, eI cy 16 (fun _ => 0))]) H := hP
  have hD : va_D A ([(z0, .inr (3, [.null, .ref b1, .null, .null]))] ++ [(b1, eI cy 16 (fun _ => 0))]) := hD
  refine lv_aload_n hx hb dX4_init_12 rfl (lv_at hl 0 rfl) ?_
  refine lv_bipush (v := nI 16) hx hb dX4_init_13 (by decide +kernel) ?_
  refine o_newZ hx hb (hts (.arrayClass .boolean) (by decide +kernel)) hK hP hD hS hA (n := 16) (by decide) (Nat.le_of_ble_eq_true rfl) (Nat.le_of_ble_eq_true rfl) dX4_init_15 (fun b2 H hP hD hS => ?_)
  have hP : va_P G vwCl ([(z0, .inr (3, [.null, .ref b1, .null, .null]))] ++ [(b1, eI cy 16 (fun _ => 0))] ++ [(b2, eZ cy 16 (fun _ => 0))]) H := hP
  have hD : va_D A ([(z0, .inr (3, [.null, .ref b1, .null, .null]))] ++ [(b1, eI cy 16 (fun _ => 0))] ++ [(b2, eZ cy 16 (fun _ => 0))]) := hD
  refine va_putF (D := G) (ci := 3) (v := .ref b2) (ty := (.array .boolean)) (C := RX4) (T := TX4) (N := 4) hx hb hts iX4_init_X4 tyX4 tyX4_ok nmX4 hown hK hP hD hS 0 rfl rfl 2 (by decide) (hts (.fieldLink RX4 15 "NailedOrders$Reckoning" "known" "[Z") (by decide +kernel)) (fun _ h9 => h9) rfl hin rfl (by decide +kernel) rfl rfl (Nat.le_of_ble_eq_true rfl) dX4_init_17 (fun H locs hP hD hS => ?_)
  have hP : va_P G vwCl ([(z0, .inr (3, [.null, .ref b1, .ref b2, .null]))] ++ [(b1, eI cy 16 (fun _ => 0))] ++ [(b2, eZ cy 16 (fun _ => 0))]) H := hP
  have hD : va_D A ([(z0, .inr (3, [.null, .ref b1, .ref b2, .null]))] ++ [(b1, eI cy 16 (fun _ => 0))] ++ [(b2, eZ cy 16 (fun _ => 0))]) := hD
  refine lv_aload_n hx hb dX4_init_20 rfl (lv_at hl 0 rfl) ?_
  refine lv_bipush (v := nI 16) hx hb dX4_init_21 (by decide +kernel) ?_
  refine o_newF hx hb (hts (.arrayClass .float) (by decide +kernel)) hK hP hD hS hA (n := 16) (by decide) (Nat.le_of_ble_eq_true rfl) (Nat.le_of_ble_eq_true rfl) dX4_init_23 (fun b3 H hP hD hS => ?_)
  have hP : va_P G vwCl ([(z0, .inr (3, [.null, .ref b1, .ref b2, .null]))] ++ [(b1, eI cy 16 (fun _ => 0))] ++ [(b2, eZ cy 16 (fun _ => 0))] ++ [(b3, eF cy 16 (fun _ => 0))]) H := hP
  have hD : va_D A ([(z0, .inr (3, [.null, .ref b1, .ref b2, .null]))] ++ [(b1, eI cy 16 (fun _ => 0))] ++ [(b2, eZ cy 16 (fun _ => 0))] ++ [(b3, eF cy 16 (fun _ => 0))]) := hD
  refine va_putF (D := G) (ci := 3) (v := .ref b3) (ty := (.array .float)) (C := RX4) (T := TX4) (N := 4) hx hb hts iX4_init_X4 tyX4 tyX4_ok nmX4 hown hK hP hD hS 0 rfl rfl 3 (by decide) (hts (.fieldLink RX4 19 "NailedOrders$Reckoning" "values" "[F") (by decide +kernel)) (fun _ h9 => h9) rfl hin rfl (by decide +kernel) rfl rfl (Nat.le_of_ble_eq_true rfl) dX4_init_25 (fun H locs hP hD hS => ?_)
  have hP : va_P G vwCl ([(z0, .inr (3, [.null, .ref b1, .ref b2, .ref b3]))] ++ [(b1, eI cy 16 (fun _ => 0))] ++ [(b2, eZ cy 16 (fun _ => 0))] ++ [(b3, eF cy 16 (fun _ => 0))]) H := hP
  have hD : va_D A ([(z0, .inr (3, [.null, .ref b1, .ref b2, .ref b3]))] ++ [(b1, eI cy 16 (fun _ => 0))] ++ [(b2, eZ cy 16 (fun _ => 0))] ++ [(b3, eF cy 16 (fun _ => 0))]) := hD
  refine lv_aload_n hx hb dX4_init_28 rfl (lv_at hl 0 rfl) ?_
  refine lv_aload_n hx hb dX4_init_29 rfl (lv_at hl 1 rfl) ?_
  refine va_putF (D := G) (ci := 3) (v := .ref dd) (ty := (.object "NailedOrders$Door")) (C := RX4) (T := TX4) (N := 4) hx hb hts iX4_init_X4 tyX4 tyX4_ok nmX4 hown hK hP hD hS 0 rfl rfl 0 (by decide) (hts (.fieldLink RX4 23 "NailedOrders$Reckoning" "door" "LNailedOrders$Door;") (by decide +kernel)) (fun _ h9 => h9) rfl hin rfl (by decide +kernel) rfl rfl (Nat.le_of_ble_eq_true rfl) dX4_init_30 (fun H locs hP hD hS => ?_)
  have hP : va_P G vwCl ([(z0, .inr (3, [.ref dd, .ref b1, .ref b2, .ref b3]))] ++ [(b1, eI cy 16 (fun _ => 0))] ++ [(b2, eZ cy 16 (fun _ => 0))] ++ [(b3, eF cy 16 (fun _ => 0))]) H := hP
  have hD : va_D A ([(z0, .inr (3, [.ref dd, .ref b1, .ref b2, .ref b3]))] ++ [(b1, eI cy 16 (fun _ => 0))] ++ [(b2, eZ cy 16 (fun _ => 0))] ++ [(b3, eF cy 16 (fun _ => 0))]) := hD
  exact o_endC (σ := Nat → Nat) (P := fun (u : Nat → Nat) => u 0 = z0) (w := fun (u : Nat → Nat) => wRe cy (u) dd (fun _ => some 0) (fun _ => false) (fun _ => 0)) (k := 3) (n := 48) (q4 z0 b1 b2 b3) hx hb hr hlocks dX4_init_33 rfl (hP.sub (ws' := wRe cy (q4 z0 b1 b2 b3) dd (fun _ => some 0) (fun _ => false) (fun _ => 0)) [0, 1, 2, 3] rfl) (hD.sub (ws' := wRe cy (q4 z0 b1 b2 b3) dd (fun _ => some 0) (fun _ => false) (fun _ => 0)) [0, 1, 2, 3] (by decide) rfl) hS (Nat.le_of_ble_eq_true rfl) (Nat.le_of_ble_eq_true rfl)

set_option maxRecDepth 100000 in
theorem iX2_init_X2 : ∀ w ∈ u_ws RX2 TX2 2, w ∈ wsX2_init := by decide +kernel
set_option maxRecDepth 100000 in
theorem iX2_init_X1 : ∀ w ∈ u_ws RX1 TX1 13, w ∈ wsX2_init := by decide +kernel
set_option maxHeartbeats 4000000 in
set_option maxRecDepth 100000 in
theorem kX2_init (l : Launch) (G : va_G) (cy : Nat → ClassId) {H0 : Heap} {z0 : Nat} {A0 : Nat → Prop} (hP : va_P G vwCl (n0H z0) H0) (hD0 : va_D A0 (n0H z0)) : MetN l yX2_init wsX2_init 2 32 37 1200 [.ref z0] H0 G cy (σ := (Nat → Nat) × (Nat → Nat → Nat)) (fun u => u.1 0 = z0) (fun u => wHi cy u.1 0 u.2 (fun _ => MZ)) (n0H z0) := by
  refine Met.ofW (cc := cX2_init) (maxL := 2) (ret := none) (by decide) rfl ?_
  intro p e s m args below meth c s₁ B hml hv
  obtain ⟨rfl, hH, hK⟩ := hv
  subst hH
  have hx := B.exec
  have hb := B.bytes
  have hr := B.returns
  have hts := atoms_spec (ws := wsX2_init) B.pre
  have hown : s.vm.findClass RX2 = some m.cls := findClass_of_methodNamed B.named
  have hlocks := B.notSynchronized
  have hl := lv_entry ([.ref z0]) (n := 2) (Nat.le_of_ble_eq_true rfl)
  rw [lg_entry_eq]
  generalize (lg_sl ([.ref z0]) ++ List.replicate (2 - (lg_sl ([.ref z0])).length) Slot.unset).toArray = ls at hl ⊢
  have hl : lv_has ls 2 [(0, .ref z0)] := hl
  have hin : meth.name = "<init>" := (name_of_methodNamed B.named B.method).1
  obtain ⟨hK, hAO, hN1, hN2, hN3, hN4, hN5⟩ := hK
  have hD := hD0.self (sz := s.heap.size)
  generalize hAe : va_A (n0H z0) s.heap.size = A at hD ⊢
  have hA : ∀ q : Nat, s.heap.size ≤ q → A q := fun q h => by rw [← hAe]; exact Or.inr h
  have hS : va_S A s.heap s.heap [] := va_S.rf
  refine lv_aload_n hx hb dX2_init_0 rfl (lv_at hl 0 rfl) ?_
  refine W.objInit hx hb hown (hts (.methodLink RX2 3 objectInit) (by decide +kernel)) (hts (.instanceMethod objectInit) (by decide +kernel)) (hts (.code objectInit ⟨#[0xb1]⟩ 1 none) (by decide +kernel)) rfl (by rw [hml]; exact hl.1) rfl dX2_init_1 (Nat.le_of_ble_eq_true rfl) (Nat.le_of_ble_eq_true rfl) ?_
  refine W.eq (g2 := F0 m 4 ls []) rfl ?_
  refine lv_aload_n hx hb dX2_init_4 rfl (lv_at hl 0 rfl) ?_
  refine lv_iconst (v := nI 4) hx hb dX2_init_5 (by decide +kernel) ?_
  refine o_newR hx hb hown (hts (.classLink RX2 9 RX1) (by decide +kernel)) hAO hK hP hD hS hA (n := 4) (by decide) (Nat.le_of_ble_eq_true rfl) (Nat.le_of_ble_eq_true rfl) dX2_init_6 (fun b1 H hP hD hS => ?_)
  have hP : va_P G vwCl ([(z0, .inr (1, [.null, .int 0]))] ++ [(b1, eR cy 4 ((fun _ => none)))]) H := hP
  have hD : va_D A ([(z0, .inr (1, [.null, .int 0]))] ++ [(b1, eR cy 4 ((fun _ => none)))]) := hD
  refine va_putF (D := G) (ci := 1) (v := .ref b1) (ty := (.array (.object "NailedOrders$Door"))) (C := RX2) (T := TX2) (N := 2) hx hb hts iX2_init_X2 tyX2 tyX2_ok nmX2 hown hK hP hD hS 0 rfl rfl 0 (by decide) (hts (.fieldLink RX2 11 "NailedOrders$History" "doors" "[LNailedOrders$Door;") (by decide +kernel)) (fun _ h9 => h9) rfl hin rfl (by decide +kernel) rfl rfl (Nat.le_of_ble_eq_true rfl) dX2_init_9 (fun H locs hP hD hS => ?_)
  have hP : va_P G vwCl ([(z0, .inr (1, [.ref b1, .int 0]))] ++ [(b1, eR cy 4 ((fun _ => none)))]) H := hP
  have hD : va_D A ([(z0, .inr (1, [.ref b1, .int 0]))] ++ [(b1, eR cy 4 ((fun _ => none)))]) := hD
  refine lv_iconst (v := nI 0) hx hb dX2_init_12 (by decide +kernel) ?_
  refine lv_istore_n (lv' := [(1, .int (nI 0)), (0, .ref z0)]) hx hb dX2_init_13 rfl hl (by decide) rfl (fun ls hl => ?_)
  refine lv_iload_n hx hb dX2_init_14 rfl (lv_at hl 0 rfl) ?_
  refine lv_iconst (v := nI 4) hx hb dX2_init_15 (by decide +kernel) ?_
  refine o_icmp_ge (tgt := 38) hx hb dX2_init_16 (by decide) (by omega) (by omega) (fun c16 => ?_) (fun c16 => ?_)
  · exact absurd c16 (by decide)
  · refine lv_aload_n hx hb dX2_init_19 rfl (lv_at hl 1 rfl) ?_
    refine va_get (D := G) (ci := 1) (v := .ref b1) (C := RX2) (T := TX2) (N := 2) hx hb hts iX2_init_X2 hown hK hP 0 rfl rfl 0 (by decide) (hts (.fieldLink RX2 11 "NailedOrders$History" "doors" "[LNailedOrders$Door;") (by decide +kernel)) (fun _ h9 => h9) rfl dX2_init_20 ?_
    refine lv_iload_n hx hb dX2_init_23 rfl (lv_at hl 0 rfl) ?_
    refine va_new (D := G) (ci := 0) (fs := [.int 0, .null, .int 0, .float 0, .int 0, .int 0, .null, .null, .null, .null, .null, .null, .null]) (C := RX1) (T := TX1) (N := 13) hx hb hts iX2_init_X1 tyX1 tyX1_ok hown (hts (.classLink RX2 9 RX1) (by decide +kernel)) (hts (.instantiable RX1 13) (by decide +kernel)) (hts (.initialized RX1) (by decide +kernel)) hK hP hD hS hA rfl (fun j hj => by rcases (show j = 0 ∨ j = 1 ∨ j = 2 ∨ j = 3 ∨ j = 4 ∨ j = 5 ∨ j = 6 ∨ j = 7 ∨ j = 8 ∨ j = 9 ∨ j = 10 ∨ j = 11 ∨ j = 12 by omega) with rfl | rfl | rfl | rfl | rfl | rfl | rfl | rfl | rfl | rfl | rfl | rfl | rfl <;> rfl) (Nat.le_of_ble_eq_true rfl) (Nat.le_of_ble_eq_true rfl) dX2_init_24 (fun x0 H hP hD hS => ?_)
    have hP : va_P G vwCl ([(z0, .inr (1, [.ref b1, .int 0]))] ++ [(b1, eR cy 4 ((fun _ => none)))] ++ [(x0, .inr (0, [.int 0, .null, .int 0, .float 0, .int 0, .int 0, .null, .null, .null, .null, .null, .null, .null]))]) H := hP
    have hD : va_D A ([(z0, .inr (1, [.ref b1, .int 0]))] ++ [(b1, eR cy 4 ((fun _ => none)))] ++ [(x0, .inr (0, [.int 0, .null, .int 0, .float 0, .int 0, .int 0, .null, .null, .null, .null, .null, .null, .null]))]) := hD
    refine lv_dup hx hb dX2_init_27 rfl ?_
    have hPc := hP.sub (ws' := n0D x0) [2] rfl
    have hDc := hD.sub (ws' := n0D x0) [2] (by decide) rfl
    have hFc := va_free (wc := n0D x0) hD hS hA [2] rfl
    refine va_callv (va_runIN (As := []) (rest := [.ref x0, .int (nI 0), .ref b1]) ⟨hx, hb, hml, hown, hts⟩ (kX1_init l G cy hPc hDc) ⟨va_cnB 0 hts gX2_init_X1_init_n17 rfl rfl rfl hN2 (hts (.initialized RX1) (by decide +kernel)) (by decide +kernel) ⟨Nat.le_of_ble_eq_true rfl, Nat.le_of_ble_eq_true rfl⟩, rfl, (hts (.instanceMethod yX1_init) (by decide +kernel))⟩ ⟨pR_blind, pR_at hK⟩ rfl rfl hl.1 rfl (lv_room (Nat.le_of_ble_eq_true rfl)) dX2_init_28 ⟨Nat.le_of_ble_eq_true rfl, Nat.le_of_ble_eq_true rfl⟩) hS (fun q _ h => hFc q h) hFc (fun u_ t_ H locs ht hvm hw hB hz1 hk1 hS => ?_)
    obtain ⟨e0, eu_⟩ : ∃ z, z = u_ := ⟨_, rfl⟩
    subst eu_
    have hw : e0 0 = x0 := hw
    subst hw
    have hB : va_P G vwCl (wDo cy e0 MZ) t_.heap ∧ va_D (va_A (n0D (e0 0)) _) (wDo cy e0 MZ) := hB
    rw [ht] at hB
    obtain ⟨hP1, hD1⟩ := hB
    obtain ⟨hP, hD⟩ := va_join (wr := [(z0, .inr (1, [.ref b1, .int 0]))] ++ [(b1, eR cy 4 ((fun _ => none)))]) hP hD [2] [0, 1] rfl rfl (by decide) (by decide) hk1 hFc hP1 hD1
    have hP : va_P G vwCl ([(z0, .inr (1, [.ref b1, .int 0]))] ++ [(b1, eR cy 4 ((fun _ => none)))] ++ wDo cy e0 MZ) H := hP
    have hD : va_D A ([(z0, .inr (1, [.ref b1, .int 0]))] ++ [(b1, eR cy 4 ((fun _ => none)))] ++ wDo cy e0 MZ) := hD
    refine o_astq hx hb hK hP hD hS 1 4 2 0 rfl rfl rfl rfl 0 (by decide) (by decide) dX2_init_31 (fun H locs hP hD hS => ?_)
    have hP : va_P G vwCl ([(z0, .inr (1, [.ref b1, .int 0]))] ++ [(b1, eR cy 4 (va_up ((fun _ => none)) 0 (some (e0 0))))] ++ wDo cy e0 MZ) H := hP
    have hD : va_D A ([(z0, .inr (1, [.ref b1, .int 0]))] ++ [(b1, eR cy 4 (va_up ((fun _ => none)) 0 (some (e0 0))))] ++ wDo cy e0 MZ) := hD
    refine lv_iinc (v := nI (0 + 1)) (lv' := [(1, .int (nI (0 + 1))), (0, .ref z0)]) hx hb dX2_init_32 hl (k := 0) rfl (nI_1 0) (by decide) rfl (fun ls hl => ?_)
    refine lv_goto (tgt := 14) hx hb dX2_init_35 (by decide) ?_
    refine lv_iload_n hx hb dX2_init_14 rfl (lv_at hl 0 rfl) ?_
    refine lv_iconst (v := nI 4) hx hb dX2_init_15 (by decide +kernel) ?_
    refine o_icmp_ge (tgt := 38) hx hb dX2_init_16 (by decide) (by omega) (by omega) (fun c16 => ?_) (fun c16 => ?_)
    · exact absurd c16 (by decide)
    · refine lv_aload_n hx hb dX2_init_19 rfl (lv_at hl 1 rfl) ?_
      refine va_get (D := G) (ci := 1) (v := .ref b1) (C := RX2) (T := TX2) (N := 2) hx hb hts iX2_init_X2 hown hK hP 0 rfl rfl 0 (by decide) (hts (.fieldLink RX2 11 "NailedOrders$History" "doors" "[LNailedOrders$Door;") (by decide +kernel)) (fun _ h9 => h9) rfl dX2_init_20 ?_
      refine lv_iload_n hx hb dX2_init_23 rfl (lv_at hl 0 rfl) ?_
      refine va_new (D := G) (ci := 0) (fs := [.int 0, .null, .int 0, .float 0, .int 0, .int 0, .null, .null, .null, .null, .null, .null, .null]) (C := RX1) (T := TX1) (N := 13) hx hb hts iX2_init_X1 tyX1 tyX1_ok hown (hts (.classLink RX2 9 RX1) (by decide +kernel)) (hts (.instantiable RX1 13) (by decide +kernel)) (hts (.initialized RX1) (by decide +kernel)) hK hP hD hS hA rfl (fun j hj => by rcases (show j = 0 ∨ j = 1 ∨ j = 2 ∨ j = 3 ∨ j = 4 ∨ j = 5 ∨ j = 6 ∨ j = 7 ∨ j = 8 ∨ j = 9 ∨ j = 10 ∨ j = 11 ∨ j = 12 by omega) with rfl | rfl | rfl | rfl | rfl | rfl | rfl | rfl | rfl | rfl | rfl | rfl | rfl <;> rfl) (Nat.le_of_ble_eq_true rfl) (Nat.le_of_ble_eq_true rfl) dX2_init_24 (fun x1 H hP hD hS => ?_)
      have hP : va_P G vwCl ([(z0, .inr (1, [.ref b1, .int 0]))] ++ [(b1, eR cy 4 (va_up ((fun _ => none)) 0 (some (e0 0))))] ++ wDo cy e0 MZ ++ [(x1, .inr (0, [.int 0, .null, .int 0, .float 0, .int 0, .int 0, .null, .null, .null, .null, .null, .null, .null]))]) H := hP
      have hD : va_D A ([(z0, .inr (1, [.ref b1, .int 0]))] ++ [(b1, eR cy 4 (va_up ((fun _ => none)) 0 (some (e0 0))))] ++ wDo cy e0 MZ ++ [(x1, .inr (0, [.int 0, .null, .int 0, .float 0, .int 0, .int 0, .null, .null, .null, .null, .null, .null, .null]))]) := hD
      refine lv_dup hx hb dX2_init_27 rfl ?_
      have hPc := hP.sub (ws' := n0D x1) [11] rfl
      have hDc := hD.sub (ws' := n0D x1) [11] (by decide) rfl
      have hFc := va_free (wc := n0D x1) hD hS hA [11] rfl
      refine va_callv (va_runIN (As := []) (rest := [.ref x1, .int (nI (0 + 1)), .ref b1]) ⟨hx, hb, hml, hown, hts⟩ (kX1_init l G cy hPc hDc) ⟨va_cnB 0 hts gX2_init_X1_init_n17 rfl rfl rfl hN2 (hts (.initialized RX1) (by decide +kernel)) (by decide +kernel) ⟨Nat.le_of_ble_eq_true rfl, Nat.le_of_ble_eq_true rfl⟩, rfl, (hts (.instanceMethod yX1_init) (by decide +kernel))⟩ ⟨pR_blind, pR_at hK⟩ rfl rfl hl.1 rfl (lv_room (Nat.le_of_ble_eq_true rfl)) dX2_init_28 ⟨Nat.le_of_ble_eq_true rfl, Nat.le_of_ble_eq_true rfl⟩) hS (fun q _ h => hFc q h) hFc (fun u_ t_ H locs ht hvm hw hB hz1 hk1 hS => ?_)
      obtain ⟨e1, eu_⟩ : ∃ z, z = u_ := ⟨_, rfl⟩
      subst eu_
      have hw : e1 0 = x1 := hw
      subst hw
      have hB : va_P G vwCl (wDo cy e1 MZ) t_.heap ∧ va_D (va_A (n0D (e1 0)) _) (wDo cy e1 MZ) := hB
      rw [ht] at hB
      obtain ⟨hP1, hD1⟩ := hB
      obtain ⟨hP, hD⟩ := va_join (wr := [(z0, .inr (1, [.ref b1, .int 0]))] ++ [(b1, eR cy 4 (va_up ((fun _ => none)) 0 (some (e0 0))))] ++ wDo cy e0 MZ) hP hD [11] [0, 1, 2, 3, 4, 5, 6, 7, 8, 9, 10] rfl rfl (by decide) (by decide) hk1 hFc hP1 hD1
      have hP : va_P G vwCl ([(z0, .inr (1, [.ref b1, .int 0]))] ++ [(b1, eR cy 4 (va_up ((fun _ => none)) 0 (some (e0 0))))] ++ wDo cy e0 MZ ++ wDo cy e1 MZ) H := hP
      have hD : va_D A ([(z0, .inr (1, [.ref b1, .int 0]))] ++ [(b1, eR cy 4 (va_up ((fun _ => none)) 0 (some (e0 0))))] ++ wDo cy e0 MZ ++ wDo cy e1 MZ) := hD
      refine o_astq hx hb hK hP hD hS 1 4 11 0 rfl rfl rfl rfl (0 + 1) (by decide) (by decide) dX2_init_31 (fun H locs hP hD hS => ?_)
      have hP : va_P G vwCl ([(z0, .inr (1, [.ref b1, .int 0]))] ++ [(b1, eR cy 4 (va_up (va_up ((fun _ => none)) 0 (some (e0 0))) (0 + 1) (some (e1 0))))] ++ wDo cy e0 MZ ++ wDo cy e1 MZ) H := hP
      have hD : va_D A ([(z0, .inr (1, [.ref b1, .int 0]))] ++ [(b1, eR cy 4 (va_up (va_up ((fun _ => none)) 0 (some (e0 0))) (0 + 1) (some (e1 0))))] ++ wDo cy e0 MZ ++ wDo cy e1 MZ) := hD
      refine lv_iinc (v := nI (0 + 1 + 1)) (lv' := [(1, .int (nI (0 + 1 + 1))), (0, .ref z0)]) hx hb dX2_init_32 hl (k := 0) rfl (nI_1 (0 + 1)) (by decide) rfl (fun ls hl => ?_)
      refine lv_goto (tgt := 14) hx hb dX2_init_35 (by decide) ?_
      refine lv_iload_n hx hb dX2_init_14 rfl (lv_at hl 0 rfl) ?_
      refine lv_iconst (v := nI 4) hx hb dX2_init_15 (by decide +kernel) ?_
      refine o_icmp_ge (tgt := 38) hx hb dX2_init_16 (by decide) (by omega) (by omega) (fun c16 => ?_) (fun c16 => ?_)
      · exact absurd c16 (by decide)
      · refine lv_aload_n hx hb dX2_init_19 rfl (lv_at hl 1 rfl) ?_
        refine va_get (D := G) (ci := 1) (v := .ref b1) (C := RX2) (T := TX2) (N := 2) hx hb hts iX2_init_X2 hown hK hP 0 rfl rfl 0 (by decide) (hts (.fieldLink RX2 11 "NailedOrders$History" "doors" "[LNailedOrders$Door;") (by decide +kernel)) (fun _ h9 => h9) rfl dX2_init_20 ?_
        refine lv_iload_n hx hb dX2_init_23 rfl (lv_at hl 0 rfl) ?_
        refine va_new (D := G) (ci := 0) (fs := [.int 0, .null, .int 0, .float 0, .int 0, .int 0, .null, .null, .null, .null, .null, .null, .null]) (C := RX1) (T := TX1) (N := 13) hx hb hts iX2_init_X1 tyX1 tyX1_ok hown (hts (.classLink RX2 9 RX1) (by decide +kernel)) (hts (.instantiable RX1 13) (by decide +kernel)) (hts (.initialized RX1) (by decide +kernel)) hK hP hD hS hA rfl (fun j hj => by rcases (show j = 0 ∨ j = 1 ∨ j = 2 ∨ j = 3 ∨ j = 4 ∨ j = 5 ∨ j = 6 ∨ j = 7 ∨ j = 8 ∨ j = 9 ∨ j = 10 ∨ j = 11 ∨ j = 12 by omega) with rfl | rfl | rfl | rfl | rfl | rfl | rfl | rfl | rfl | rfl | rfl | rfl | rfl <;> rfl) (Nat.le_of_ble_eq_true rfl) (Nat.le_of_ble_eq_true rfl) dX2_init_24 (fun x2 H hP hD hS => ?_)
        have hP : va_P G vwCl ([(z0, .inr (1, [.ref b1, .int 0]))] ++ [(b1, eR cy 4 (va_up (va_up ((fun _ => none)) 0 (some (e0 0))) (0 + 1) (some (e1 0))))] ++ wDo cy e0 MZ ++ wDo cy e1 MZ ++ [(x2, .inr (0, [.int 0, .null, .int 0, .float 0, .int 0, .int 0, .null, .null, .null, .null, .null, .null, .null]))]) H := hP
        have hD : va_D A ([(z0, .inr (1, [.ref b1, .int 0]))] ++ [(b1, eR cy 4 (va_up (va_up ((fun _ => none)) 0 (some (e0 0))) (0 + 1) (some (e1 0))))] ++ wDo cy e0 MZ ++ wDo cy e1 MZ ++ [(x2, .inr (0, [.int 0, .null, .int 0, .float 0, .int 0, .int 0, .null, .null, .null, .null, .null, .null, .null]))]) := hD
        refine lv_dup hx hb dX2_init_27 rfl ?_
        have hPc := hP.sub (ws' := n0D x2) [20] rfl
        have hDc := hD.sub (ws' := n0D x2) [20] (by decide) rfl
        have hFc := va_free (wc := n0D x2) hD hS hA [20] rfl
        refine va_callv (va_runIN (As := []) (rest := [.ref x2, .int (nI (0 + 1 + 1)), .ref b1]) ⟨hx, hb, hml, hown, hts⟩ (kX1_init l G cy hPc hDc) ⟨va_cnB 0 hts gX2_init_X1_init_n17 rfl rfl rfl hN2 (hts (.initialized RX1) (by decide +kernel)) (by decide +kernel) ⟨Nat.le_of_ble_eq_true rfl, Nat.le_of_ble_eq_true rfl⟩, rfl, (hts (.instanceMethod yX1_init) (by decide +kernel))⟩ ⟨pR_blind, pR_at hK⟩ rfl rfl hl.1 rfl (lv_room (Nat.le_of_ble_eq_true rfl)) dX2_init_28 ⟨Nat.le_of_ble_eq_true rfl, Nat.le_of_ble_eq_true rfl⟩) hS (fun q _ h => hFc q h) hFc (fun u_ t_ H locs ht hvm hw hB hz1 hk1 hS => ?_)
        obtain ⟨e2, eu_⟩ : ∃ z, z = u_ := ⟨_, rfl⟩
        subst eu_
        have hw : e2 0 = x2 := hw
        subst hw
        have hB : va_P G vwCl (wDo cy e2 MZ) t_.heap ∧ va_D (va_A (n0D (e2 0)) _) (wDo cy e2 MZ) := hB
        rw [ht] at hB
        obtain ⟨hP1, hD1⟩ := hB
        obtain ⟨hP, hD⟩ := va_join (wr := [(z0, .inr (1, [.ref b1, .int 0]))] ++ [(b1, eR cy 4 (va_up (va_up ((fun _ => none)) 0 (some (e0 0))) (0 + 1) (some (e1 0))))] ++ wDo cy e0 MZ ++ wDo cy e1 MZ) hP hD [20] [0, 1, 2, 3, 4, 5, 6, 7, 8, 9, 10, 11, 12, 13, 14, 15, 16, 17, 18, 19] rfl rfl (by decide) (by decide) hk1 hFc hP1 hD1
        have hP : va_P G vwCl ([(z0, .inr (1, [.ref b1, .int 0]))] ++ [(b1, eR cy 4 (va_up (va_up ((fun _ => none)) 0 (some (e0 0))) (0 + 1) (some (e1 0))))] ++ wDo cy e0 MZ ++ wDo cy e1 MZ ++ wDo cy e2 MZ) H := hP
        have hD : va_D A ([(z0, .inr (1, [.ref b1, .int 0]))] ++ [(b1, eR cy 4 (va_up (va_up ((fun _ => none)) 0 (some (e0 0))) (0 + 1) (some (e1 0))))] ++ wDo cy e0 MZ ++ wDo cy e1 MZ ++ wDo cy e2 MZ) := hD
        refine o_astq hx hb hK hP hD hS 1 4 20 0 rfl rfl rfl rfl (0 + 1 + 1) (by decide) (by decide) dX2_init_31 (fun H locs hP hD hS => ?_)
        have hP : va_P G vwCl ([(z0, .inr (1, [.ref b1, .int 0]))] ++ [(b1, eR cy 4 (va_up (va_up (va_up ((fun _ => none)) 0 (some (e0 0))) (0 + 1) (some (e1 0))) (0 + 1 + 1) (some (e2 0))))] ++ wDo cy e0 MZ ++ wDo cy e1 MZ ++ wDo cy e2 MZ) H := hP
        have hD : va_D A ([(z0, .inr (1, [.ref b1, .int 0]))] ++ [(b1, eR cy 4 (va_up (va_up (va_up ((fun _ => none)) 0 (some (e0 0))) (0 + 1) (some (e1 0))) (0 + 1 + 1) (some (e2 0))))] ++ wDo cy e0 MZ ++ wDo cy e1 MZ ++ wDo cy e2 MZ) := hD
        refine lv_iinc (v := nI (0 + 1 + 1 + 1)) (lv' := [(1, .int (nI (0 + 1 + 1 + 1))), (0, .ref z0)]) hx hb dX2_init_32 hl (k := 0) rfl (nI_1 (0 + 1 + 1)) (by decide) rfl (fun ls hl => ?_)
        refine lv_goto (tgt := 14) hx hb dX2_init_35 (by decide) ?_
        refine lv_iload_n hx hb dX2_init_14 rfl (lv_at hl 0 rfl) ?_
        refine lv_iconst (v := nI 4) hx hb dX2_init_15 (by decide +kernel) ?_
        refine o_icmp_ge (tgt := 38) hx hb dX2_init_16 (by decide) (by omega) (by omega) (fun c16 => ?_) (fun c16 => ?_)
        · exact absurd c16 (by decide)
        · refine lv_aload_n hx hb dX2_init_19 rfl (lv_at hl 1 rfl) ?_
          refine va_get (D := G) (ci := 1) (v := .ref b1) (C := RX2) (T := TX2) (N := 2) hx hb hts iX2_init_X2 hown hK hP 0 rfl rfl 0 (by decide) (hts (.fieldLink RX2 11 "NailedOrders$History" "doors" "[LNailedOrders$Door;") (by decide +kernel)) (fun _ h9 => h9) rfl dX2_init_20 ?_
          refine lv_iload_n hx hb dX2_init_23 rfl (lv_at hl 0 rfl) ?_
          refine va_new (D := G) (ci := 0) (fs := [.int 0, .null, .int 0, .float 0, .int 0, .int 0, .null, .null, .null, .null, .null, .null, .null]) (C := RX1) (T := TX1) (N := 13) hx hb hts iX2_init_X1 tyX1 tyX1_ok hown (hts (.classLink RX2 9 RX1) (by decide +kernel)) (hts (.instantiable RX1 13) (by decide +kernel)) (hts (.initialized RX1) (by decide +kernel)) hK hP hD hS hA rfl (fun j hj => by rcases (show j = 0 ∨ j = 1 ∨ j = 2 ∨ j = 3 ∨ j = 4 ∨ j = 5 ∨ j = 6 ∨ j = 7 ∨ j = 8 ∨ j = 9 ∨ j = 10 ∨ j = 11 ∨ j = 12 by omega) with rfl | rfl | rfl | rfl | rfl | rfl | rfl | rfl | rfl | rfl | rfl | rfl | rfl <;> rfl) (Nat.le_of_ble_eq_true rfl) (Nat.le_of_ble_eq_true rfl) dX2_init_24 (fun x3 H hP hD hS => ?_)
          have hP : va_P G vwCl ([(z0, .inr (1, [.ref b1, .int 0]))] ++ [(b1, eR cy 4 (va_up (va_up (va_up ((fun _ => none)) 0 (some (e0 0))) (0 + 1) (some (e1 0))) (0 + 1 + 1) (some (e2 0))))] ++ wDo cy e0 MZ ++ wDo cy e1 MZ ++ wDo cy e2 MZ ++ [(x3, .inr (0, [.int 0, .null, .int 0, .float 0, .int 0, .int 0, .null, .null, .null, .null, .null, .null, .null]))]) H := hP
          have hD : va_D A ([(z0, .inr (1, [.ref b1, .int 0]))] ++ [(b1, eR cy 4 (va_up (va_up (va_up ((fun _ => none)) 0 (some (e0 0))) (0 + 1) (some (e1 0))) (0 + 1 + 1) (some (e2 0))))] ++ wDo cy e0 MZ ++ wDo cy e1 MZ ++ wDo cy e2 MZ ++ [(x3, .inr (0, [.int 0, .null, .int 0, .float 0, .int 0, .int 0, .null, .null, .null, .null, .null, .null, .null]))]) := hD
          refine lv_dup hx hb dX2_init_27 rfl ?_
          have hPc := hP.sub (ws' := n0D x3) [29] rfl
          have hDc := hD.sub (ws' := n0D x3) [29] (by decide) rfl
          have hFc := va_free (wc := n0D x3) hD hS hA [29] rfl
          refine va_callv (va_runIN (As := []) (rest := [.ref x3, .int (nI (0 + 1 + 1 + 1)), .ref b1]) ⟨hx, hb, hml, hown, hts⟩ (kX1_init l G cy hPc hDc) ⟨va_cnB 0 hts gX2_init_X1_init_n17 rfl rfl rfl hN2 (hts (.initialized RX1) (by decide +kernel)) (by decide +kernel) ⟨Nat.le_of_ble_eq_true rfl, Nat.le_of_ble_eq_true rfl⟩, rfl, (hts (.instanceMethod yX1_init) (by decide +kernel))⟩ ⟨pR_blind, pR_at hK⟩ rfl rfl hl.1 rfl (lv_room (Nat.le_of_ble_eq_true rfl)) dX2_init_28 ⟨Nat.le_of_ble_eq_true rfl, Nat.le_of_ble_eq_true rfl⟩) hS (fun q _ h => hFc q h) hFc (fun u_ t_ H locs ht hvm hw hB hz1 hk1 hS => ?_)
          obtain ⟨e3, eu_⟩ : ∃ z, z = u_ := ⟨_, rfl⟩
          subst eu_
          have hw : e3 0 = x3 := hw
          subst hw
          have hB : va_P G vwCl (wDo cy e3 MZ) t_.heap ∧ va_D (va_A (n0D (e3 0)) _) (wDo cy e3 MZ) := hB
          rw [ht] at hB
          obtain ⟨hP1, hD1⟩ := hB
          obtain ⟨hP, hD⟩ := va_join (wr := [(z0, .inr (1, [.ref b1, .int 0]))] ++ [(b1, eR cy 4 (va_up (va_up (va_up ((fun _ => none)) 0 (some (e0 0))) (0 + 1) (some (e1 0))) (0 + 1 + 1) (some (e2 0))))] ++ wDo cy e0 MZ ++ wDo cy e1 MZ ++ wDo cy e2 MZ) hP hD [29] [0, 1, 2, 3, 4, 5, 6, 7, 8, 9, 10, 11, 12, 13, 14, 15, 16, 17, 18, 19, 20, 21, 22, 23, 24, 25, 26, 27, 28] rfl rfl (by decide) (by decide) hk1 hFc hP1 hD1
          have hP : va_P G vwCl ([(z0, .inr (1, [.ref b1, .int 0]))] ++ [(b1, eR cy 4 (va_up (va_up (va_up ((fun _ => none)) 0 (some (e0 0))) (0 + 1) (some (e1 0))) (0 + 1 + 1) (some (e2 0))))] ++ wDo cy e0 MZ ++ wDo cy e1 MZ ++ wDo cy e2 MZ ++ wDo cy e3 MZ) H := hP
          have hD : va_D A ([(z0, .inr (1, [.ref b1, .int 0]))] ++ [(b1, eR cy 4 (va_up (va_up (va_up ((fun _ => none)) 0 (some (e0 0))) (0 + 1) (some (e1 0))) (0 + 1 + 1) (some (e2 0))))] ++ wDo cy e0 MZ ++ wDo cy e1 MZ ++ wDo cy e2 MZ ++ wDo cy e3 MZ) := hD
          refine o_astq hx hb hK hP hD hS 1 4 29 0 rfl rfl rfl rfl (0 + 1 + 1 + 1) (by decide) (by decide) dX2_init_31 (fun H locs hP hD hS => ?_)
          have hP : va_P G vwCl ([(z0, .inr (1, [.ref b1, .int 0]))] ++ [(b1, eR cy 4 (va_up (va_up (va_up (va_up ((fun _ => none)) 0 (some (e0 0))) (0 + 1) (some (e1 0))) (0 + 1 + 1) (some (e2 0))) (0 + 1 + 1 + 1) (some (e3 0))))] ++ wDo cy e0 MZ ++ wDo cy e1 MZ ++ wDo cy e2 MZ ++ wDo cy e3 MZ) H := hP
          have hD : va_D A ([(z0, .inr (1, [.ref b1, .int 0]))] ++ [(b1, eR cy 4 (va_up (va_up (va_up (va_up ((fun _ => none)) 0 (some (e0 0))) (0 + 1) (some (e1 0))) (0 + 1 + 1) (some (e2 0))) (0 + 1 + 1 + 1) (some (e3 0))))] ++ wDo cy e0 MZ ++ wDo cy e1 MZ ++ wDo cy e2 MZ ++ wDo cy e3 MZ) := hD
          refine lv_iinc (v := nI (0 + 1 + 1 + 1 + 1)) (lv' := [(1, .int (nI (0 + 1 + 1 + 1 + 1))), (0, .ref z0)]) hx hb dX2_init_32 hl (k := 0) rfl (nI_1 (0 + 1 + 1 + 1)) (by decide) rfl (fun ls hl => ?_)
          refine lv_goto (tgt := 14) hx hb dX2_init_35 (by decide) ?_
          refine lv_iload_n hx hb dX2_init_14 rfl (lv_at hl 0 rfl) ?_
          refine lv_iconst (v := nI 4) hx hb dX2_init_15 (by decide +kernel) ?_
          refine o_icmp_ge (tgt := 38) hx hb dX2_init_16 (by decide) (by omega) (by omega) (fun c16 => ?_) (fun c16 => ?_)
          · have hP := o_set (ws := [(z0, .inr (1, [.ref b1, .int 0]))] ++ [(b1, eR cy 4 (va_up (va_up (va_up (va_up ((fun _ => none)) 0 (some (e0 0))) (0 + 1) (some (e1 0))) (0 + 1 + 1) (some (e2 0))) (0 + 1 + 1 + 1) (some (e3 0))))] ++ wDo cy e0 MZ ++ wDo cy e1 MZ ++ wDo cy e2 MZ ++ wDo cy e3 MZ) (p := 1) (x := (b1, eR cy 4 (va_up (va_up (va_up (va_up ((fun _ => none)) 0 (some (e0 0))) (0 + 1) (some (e1 0))) (0 + 1 + 1) (some (e2 0))) (0 + 1 + 1 + 1) (some (e3 0))))) (y := (b1, eR cy 4 (fun i => some (d4 e0 e1 e2 e3 i 0)))) hP (o_cellR (fun j hj => by match j, hj with | 0, _ => rfl | 1, _ => rfl | 2, _ => rfl | 3, _ => rfl))
            have hP : va_P G vwCl (wHi cy (q4 z0 b1 0 0) 0 (d4 e0 e1 e2 e3) (fun _ => MZ)) H := hP
            have hD : va_D A (wHi cy (q4 z0 b1 0 0) 0 (d4 e0 e1 e2 e3) (fun _ => MZ)) := vd_same hD rfl
            exact o_endC (σ := (Nat → Nat) × (Nat → Nat → Nat)) (P := fun (u : (Nat → Nat) × (Nat → Nat → Nat)) => u.1 0 = z0) (w := fun (u : (Nat → Nat) × (Nat → Nat → Nat)) => wHi cy u.1 0 u.2 (fun _ => MZ)) (k := 37) (n := 1200) (q4 z0 b1 0 0, d4 e0 e1 e2 e3) hx hb hr hlocks dX2_init_38 rfl hP hD hS (Nat.le_of_ble_eq_true rfl) (Nat.le_of_ble_eq_true rfl)
          · exact absurd c16 (by decide)

set_option maxRecDepth 100000 in
theorem iX6_init_X6 : ∀ w ∈ u_ws RX6 TX6 2, w ∈ wsX6_init := by decide +kernel
set_option maxRecDepth 100000 in
theorem iX6_init_X1 : ∀ w ∈ u_ws RX1 TX1 13, w ∈ wsX6_init := by decide +kernel
set_option maxHeartbeats 4000000 in
set_option maxRecDepth 100000 in
theorem kX6_init (l : Launch) (G : va_G) (cy : Nat → ClassId) {H0 : Heap} {z0 : Nat} {A0 : Nat → Prop} (hP : va_P G vwCl (n0W z0) H0) (hD0 : va_D A0 (n0W z0)) : MetN l yX6_init wsX6_init 2 32 10 315 [.ref z0] H0 G cy (σ := Nat → Nat) (fun u => u 0 = z0) (fun u => wWe cy u (fun _ => 0)) (n0W z0) := by
  refine Met.ofW (cc := cX6_init) (maxL := 1) (ret := none) (by decide) rfl ?_
  intro p e s m args below meth c s₁ B hml hv
  obtain ⟨rfl, hH, hK⟩ := hv
  subst hH
  have hx := B.exec
  have hb := B.bytes
  have hr := B.returns
  have hts := atoms_spec (ws := wsX6_init) B.pre
  have hown : s.vm.findClass RX6 = some m.cls := findClass_of_methodNamed B.named
  have hlocks := B.notSynchronized
  have hl := lv_entry ([.ref z0]) (n := 1) (Nat.le_of_ble_eq_true rfl)
  rw [lg_entry_eq]
  generalize (lg_sl ([.ref z0]) ++ List.replicate (1 - (lg_sl ([.ref z0])).length) Slot.unset).toArray = ls at hl ⊢
  have hl : lv_has ls 1 [(0, .ref z0)] := hl
  have hin : meth.name = "<init>" := (name_of_methodNamed B.named B.method).1
  obtain ⟨hK, hAO, hN1, hN2, hN3, hN4, hN5⟩ := hK
  have hD := hD0.self (sz := s.heap.size)
  generalize hAe : va_A (n0W z0) s.heap.size = A at hD ⊢
  have hA : ∀ q : Nat, s.heap.size ≤ q → A q := fun q h => by rw [← hAe]; exact Or.inr h
  have hS : va_S A s.heap s.heap [] := va_S.rf
  refine lv_aload_n hx hb dX6_init_0 rfl (lv_at hl 0 rfl) ?_
  refine W.objInit hx hb hown (hts (.methodLink RX6 3 objectInit) (by decide +kernel)) (hts (.instanceMethod objectInit) (by decide +kernel)) (hts (.code objectInit ⟨#[0xb1]⟩ 1 none) (by decide +kernel)) rfl (by rw [hml]; exact hl.1) rfl dX6_init_1 (Nat.le_of_ble_eq_true rfl) (Nat.le_of_ble_eq_true rfl) ?_
  refine W.eq (g2 := F0 m 4 ls []) rfl ?_
  refine lv_aload_n hx hb dX6_init_4 rfl (lv_at hl 0 rfl) ?_
  refine va_new (D := G) (ci := 0) (fs := [.int 0, .null, .int 0, .float 0, .int 0, .int 0, .null, .null, .null, .null, .null, .null, .null]) (C := RX1) (T := TX1) (N := 13) hx hb hts iX6_init_X1 tyX1 tyX1_ok hown (hts (.classLink RX6 9 RX1) (by decide +kernel)) (hts (.instantiable RX1 13) (by decide +kernel)) (hts (.initialized RX1) (by decide +kernel)) hK hP hD hS hA rfl (fun j hj => by rcases (show j = 0 ∨ j = 1 ∨ j = 2 ∨ j = 3 ∨ j = 4 ∨ j = 5 ∨ j = 6 ∨ j = 7 ∨ j = 8 ∨ j = 9 ∨ j = 10 ∨ j = 11 ∨ j = 12 by omega) with rfl | rfl | rfl | rfl | rfl | rfl | rfl | rfl | rfl | rfl | rfl | rfl | rfl <;> rfl) (Nat.le_of_ble_eq_true rfl) (Nat.le_of_ble_eq_true rfl) dX6_init_5 (fun x0 H hP hD hS => ?_)
  have hP : va_P G vwCl ([(z0, .inr (5, [.null, .null]))] ++ [(x0, .inr (0, [.int 0, .null, .int 0, .float 0, .int 0, .int 0, .null, .null, .null, .null, .null, .null, .null]))]) H := hP
  have hD : va_D A ([(z0, .inr (5, [.null, .null]))] ++ [(x0, .inr (0, [.int 0, .null, .int 0, .float 0, .int 0, .int 0, .null, .null, .null, .null, .null, .null, .null]))]) := hD
  refine lv_dup hx hb dX6_init_8 rfl ?_
  have hPc := hP.sub (ws' := n0D x0) [1] rfl
  have hDc := hD.sub (ws' := n0D x0) [1] (by decide) rfl
  have hFc := va_free (wc := n0D x0) hD hS hA [1] rfl
  refine va_callv (va_runIN (As := []) (rest := [.ref x0, .ref z0]) ⟨hx, hb, hml, hown, hts⟩ (kX1_init l G cy hPc hDc) ⟨va_cnB 0 hts gX6_init_X1_init_n11 rfl rfl rfl hN5 (hts (.initialized RX1) (by decide +kernel)) (by decide +kernel) ⟨Nat.le_of_ble_eq_true rfl, Nat.le_of_ble_eq_true rfl⟩, rfl, (hts (.instanceMethod yX1_init) (by decide +kernel))⟩ ⟨pR_blind, pR_at hK⟩ rfl rfl hl.1 rfl (lv_room (Nat.le_of_ble_eq_true rfl)) dX6_init_9 ⟨Nat.le_of_ble_eq_true rfl, Nat.le_of_ble_eq_true rfl⟩) hS (fun q _ h => hFc q h) hFc (fun u_ t_ H locs ht hvm hw hB hz1 hk1 hS => ?_)
  obtain ⟨e0, eu_⟩ : ∃ z, z = u_ := ⟨_, rfl⟩
  subst eu_
  have hw : e0 0 = x0 := hw
  subst hw
  have hB : va_P G vwCl (wDo cy e0 MZ) t_.heap ∧ va_D (va_A (n0D (e0 0)) _) (wDo cy e0 MZ) := hB
  rw [ht] at hB
  obtain ⟨hP1, hD1⟩ := hB
  obtain ⟨hP, hD⟩ := va_join (wr := [(z0, .inr (5, [.null, .null]))]) hP hD [1] [0] rfl rfl (by decide) (by decide) hk1 hFc hP1 hD1
  have hP : va_P G vwCl ([(z0, .inr (5, [.null, .null]))] ++ wDo cy e0 MZ) H := hP
  have hD : va_D A ([(z0, .inr (5, [.null, .null]))] ++ wDo cy e0 MZ) := hD
  refine va_putF (D := G) (ci := 5) (v := .ref (e0 0)) (ty := (.object "NailedOrders$Door")) (C := RX6) (T := TX6) (N := 2) hx hb hts iX6_init_X6 tyX6 tyX6_ok nmX6 hown hK hP hD hS 0 rfl rfl 0 (by decide) (hts (.fieldLink RX6 12 "NailedOrders$Weather" "trial" "LNailedOrders$Door;") (by decide +kernel)) (fun _ h9 => h9) rfl hin rfl (by decide +kernel) rfl rfl (Nat.le_of_ble_eq_true rfl) dX6_init_12 (fun H locs hP hD hS => ?_)
  have hP : va_P G vwCl ([(z0, .inr (5, [.ref (e0 0), .null]))] ++ wDo cy e0 MZ) H := hP
  have hD : va_D A ([(z0, .inr (5, [.ref (e0 0), .null]))] ++ wDo cy e0 MZ) := hD
  refine lv_aload_n hx hb dX6_init_15 rfl (lv_at hl 0 rfl) ?_
  refine lv_bipush (v := nI 16) hx hb dX6_init_16 (by decide +kernel) ?_
  refine o_newI hx hb (hts (.arrayClass .int) (by decide +kernel)) hK hP hD hS hA (n := 16) (by decide) (Nat.le_of_ble_eq_true rfl) (Nat.le_of_ble_eq_true rfl) dX6_init_18 (fun b2 H hP hD hS => ?_)
  have hP : va_P G vwCl ([(z0, .inr (5, [.ref (e0 0), .null]))] ++ wDo cy e0 MZ ++ [(b2, eI cy 16 (fun _ => 0))]) H := hP
  have hD : va_D A ([(z0, .inr (5, [.ref (e0 0), .null]))] ++ wDo cy e0 MZ ++ [(b2, eI cy 16 (fun _ => 0))]) := hD
  refine va_putF (D := G) (ci := 5) (v := .ref b2) (ty := (.array .int)) (C := RX6) (T := TX6) (N := 2) hx hb hts iX6_init_X6 tyX6 tyX6_ok nmX6 hown hK hP hD hS 0 rfl rfl 1 (by decide) (hts (.fieldLink RX6 18 "NailedOrders$Weather" "over" "[I") (by decide +kernel)) (fun _ h9 => h9) rfl hin rfl (by decide +kernel) rfl rfl (Nat.le_of_ble_eq_true rfl) dX6_init_20 (fun H locs hP hD hS => ?_)
  have hP : va_P G vwCl ([(z0, .inr (5, [.ref (e0 0), .ref b2]))] ++ wDo cy e0 MZ ++ [(b2, eI cy 16 (fun _ => 0))]) H := hP
  have hD : va_D A ([(z0, .inr (5, [.ref (e0 0), .ref b2]))] ++ wDo cy e0 MZ ++ [(b2, eI cy 16 (fun _ => 0))]) := hD
  exact o_endC (σ := Nat → Nat) (P := fun (u : Nat → Nat) => u 0 = z0) (w := fun (u : Nat → Nat) => wWe cy u (fun _ => 0)) (k := 10) (n := 315) (q4 z0 (e0 0) b2 0) hx hb hr hlocks dX6_init_23 rfl (hP.sub (ws' := wWe cy (q4 z0 (e0 0) b2 0) (fun _ => 0)) [0, 10] rfl) (hD.sub (ws' := wWe cy (q4 z0 (e0 0) b2 0) (fun _ => 0)) [0, 10] (by decide) rfl) hS (Nat.le_of_ble_eq_true rfl) (Nat.le_of_ble_eq_true rfl)
