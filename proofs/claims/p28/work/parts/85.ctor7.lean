/-- the object's addresses that no call of the law's opens -/
def yS (k t c w : Nat) : Nat → Nat := fun i => match i with
  | 1 => k
  | 4 => t
  | 5 => c
  | _ => w
/-- the whole object -/
abbrev w7 (cy : Nat → ClassId) (z : Nat) (q h x r y : Nat → Nat) (d : Nat → Nat → Nat) (ov : Nat → Nat) (k : Nat) (E : Nat → MT) (ru : Nat → Option Nat) (kn : Nat → Bool) (va : Nat → UInt32) (M : MT) : va_W := ([oSy z q h x r y] ++ wWe cy x ov) ++ (wHi cy h k d E ++ (wDo cy q M ++ wRe cy r (q 0) ru kn va))
set_option maxRecDepth 100000 in
theorem iX7_init_X7 : ∀ w ∈ u_ws RX7 TX7 9, w ∈ wsX7_init := by decide +kernel
set_option maxRecDepth 100000 in
theorem iX7_init_X1 : ∀ w ∈ u_ws RX1 TX1 13, w ∈ wsX7_init := by decide +kernel
set_option maxRecDepth 100000 in
theorem iX7_init_X2 : ∀ w ∈ u_ws RX2 TX2 2, w ∈ wsX7_init := by decide +kernel
set_option maxRecDepth 100000 in
theorem iX7_init_X3 : ∀ w ∈ u_ws RX3 TX3 8, w ∈ wsX7_init := by decide +kernel
set_option maxRecDepth 100000 in
theorem iX7_init_X4 : ∀ w ∈ u_ws RX4 TX4 4, w ∈ wsX7_init := by decide +kernel
set_option maxRecDepth 100000 in
theorem iX7_init_X5 : ∀ w ∈ u_ws RX5 TX5 2, w ∈ wsX7_init := by decide +kernel
set_option maxRecDepth 100000 in
theorem iX7_init_X6 : ∀ w ∈ u_ws RX6 TX6 2, w ∈ wsX7_init := by decide +kernel
set_option maxHeartbeats 4000000 in
set_option maxRecDepth 100000 in
theorem kX7_init (l : Launch) (G : va_G) (cy : Nat → ClassId) {H0 : Heap} {z0 : Nat} {A0 : Nat → Prop} (hP : va_P G vwCl (n0S z0) H0) (hD0 : va_D A0 (n0S z0)) : MetN l yX7_init wsX7_init 3 60 100 3000 [.ref z0] H0 G cy (σ := (Nat → Nat) × (Nat → Nat) × (Nat → Nat) × (Nat → Nat) × (Nat → Nat) × (Nat → Nat → Nat)) (fun u => True) (fun u => w7 cy z0 u.1 u.2.1 u.2.2.1 u.2.2.2.1 u.2.2.2.2.1 u.2.2.2.2.2 (fun _ => 0) 0 (fun _ => MZ) (fun _ => some 0) (fun _ => false) (fun _ => 0) MZ) (n0S z0) := by
  refine Met.ofW (cc := cX7_init) (maxL := 1) (ret := none) (by decide) rfl ?_
  intro p e s m args below meth c s₁ B hml hv
  obtain ⟨rfl, hH, hK⟩ := hv
  subst hH
  have hx := B.exec
  have hb := B.bytes
  have hr := B.returns
  have hts := atoms_spec (ws := wsX7_init) B.pre
  have hown : s.vm.findClass RX7 = some m.cls := findClass_of_methodNamed B.named
  have hlocks := B.notSynchronized
  have hl := lv_entry ([.ref z0]) (n := 1) (Nat.le_of_ble_eq_true rfl)
  rw [lg_entry_eq]
  generalize (lg_sl ([.ref z0]) ++ List.replicate (1 - (lg_sl ([.ref z0])).length) Slot.unset).toArray = ls at hl ⊢
  have hl : lv_has ls 1 [(0, .ref z0)] := hl
  have hin : meth.name = "<init>" := (name_of_methodNamed B.named B.method).1
  obtain ⟨hK, hAO, hN1, hN2, hN3, hN4, hN5⟩ := hK
  have hD := hD0.self (sz := s.heap.size)
  generalize hAe : va_A (n0S z0) s.heap.size = A at hD ⊢
  have hA : ∀ q : Nat, s.heap.size ≤ q → A q := fun q h => by rw [← hAe]; exact Or.inr h
  have hS : va_S A s.heap s.heap [] := va_S.rf
  refine lv_aload_n hx hb dX7_init_0 rfl (lv_at hl 0 rfl) ?_
  refine W.objInit hx hb hown (hts (.methodLink RX7 1 objectInit) (by decide +kernel)) (hts (.instanceMethod objectInit) (by decide +kernel)) (hts (.code objectInit ⟨#[0xb1]⟩ 1 none) (by decide +kernel)) rfl (by rw [hml]; exact hl.1) rfl dX7_init_1 (Nat.le_of_ble_eq_true rfl) (Nat.le_of_ble_eq_true rfl) ?_
  refine W.eq (g2 := F0 m 4 ls []) rfl ?_
  refine lv_aload_n hx hb dX7_init_4 rfl (lv_at hl 0 rfl) ?_
  refine va_new (D := G) (ci := 0) (fs := [.int 0, .null, .int 0, .float 0, .int 0, .int 0, .null, .null, .null, .null, .null, .null, .null]) (C := RX1) (T := TX1) (N := 13) hx hb hts iX7_init_X1 tyX1 tyX1_ok hown (hts (.classLink RX7 7 RX1) (by decide +kernel)) (hts (.instantiable RX1 13) (by decide +kernel)) (hts (.initialized RX1) (by decide +kernel)) hK hP hD hS hA rfl (fun j hj => by rcases (show j = 0 ∨ j = 1 ∨ j = 2 ∨ j = 3 ∨ j = 4 ∨ j = 5 ∨ j = 6 ∨ j = 7 ∨ j = 8 ∨ j = 9 ∨ j = 10 ∨ j = 11 ∨ j = 12 by omega) with rfl | rfl | rfl | rfl | rfl | rfl | rfl | rfl | rfl | rfl | rfl | rfl | rfl <;> rfl) (Nat.le_of_ble_eq_true rfl) (Nat.le_of_ble_eq_true rfl) dX7_init_5 (fun x0 H hP hD hS => ?_)
  have hP : va_P G vwCl ([(z0, .inr (6, [.null, .null, .int 0, .null, .null, .null, .null, .null, .null]))] ++ [(x0, .inr (0, [.int 0, .null, .int 0, .float 0, .int 0, .int 0, .null, .null, .null, .null, .null, .null, .null]))]) H := hP
  have hD : va_D A ([(z0, .inr (6, [.null, .null, .int 0, .null, .null, .null, .null, .null, .null]))] ++ [(x0, .inr (0, [.int 0, .null, .int 0, .float 0, .int 0, .int 0, .null, .null, .null, .null, .null, .null, .null]))]) := hD
  refine lv_dup hx hb dX7_init_8 rfl ?_
  have hPc := hP.sub (ws' := n0D x0) [1] rfl
  have hDc := hD.sub (ws' := n0D x0) [1] (by decide) rfl
  have hFc := va_free (wc := n0D x0) hD hS hA [1] rfl
  refine va_callv (va_runIN (As := []) (rest := [.ref x0, .ref z0]) ⟨hx, hb, hml, hown, hts⟩ (kX1_init l G cy hPc hDc) ⟨va_cnB 0 hts gX7_init_X1_init_n9 rfl rfl rfl hN1 (hts (.initialized RX1) (by decide +kernel)) (by decide +kernel) ⟨Nat.le_of_ble_eq_true rfl, Nat.le_of_ble_eq_true rfl⟩, rfl, (hts (.instanceMethod yX1_init) (by decide +kernel))⟩ ⟨pR_blind, pR_at hK⟩ rfl rfl hl.1 rfl (lv_room (Nat.le_of_ble_eq_true rfl)) dX7_init_9 ⟨Nat.le_of_ble_eq_true rfl, Nat.le_of_ble_eq_true rfl⟩) hS (fun q _ h => hFc q h) hFc (fun u_ t_ H locs ht hvm hw hB hz1 hk1 hS => ?_)
  obtain ⟨q, eu_⟩ : ∃ z, z = u_ := ⟨_, rfl⟩
  subst eu_
  have hw : q 0 = x0 := hw
  subst hw
  have hB : va_P G vwCl (wDo cy q MZ) t_.heap ∧ va_D (va_A (n0D (q 0)) _) (wDo cy q MZ) := hB
  rw [ht] at hB
  obtain ⟨hP1, hD1⟩ := hB
  obtain ⟨hP, hD⟩ := va_join (wr := [(z0, .inr (6, [.null, .null, .int 0, .null, .null, .null, .null, .null, .null]))]) hP hD [1] [0] rfl rfl (by decide) (by decide) hk1 hFc hP1 hD1
  have hP : va_P G vwCl ([(z0, .inr (6, [.null, .null, .int 0, .null, .null, .null, .null, .null, .null]))] ++ wDo cy q MZ) H := hP
  have hD : va_D A ([(z0, .inr (6, [.null, .null, .int 0, .null, .null, .null, .null, .null, .null]))] ++ wDo cy q MZ) := hD
  refine va_putF (D := G) (ci := 6) (v := .ref (q 0)) (ty := (.object "NailedOrders$Door")) (C := RX7) (T := TX7) (N := 9) hx hb hts iX7_init_X7 tyX7 tyX7_ok nmX7 hown hK hP hD hS 0 rfl rfl 0 (by decide) (hts (.fieldLink RX7 10 "NailedOrders" "door" "LNailedOrders$Door;") (by decide +kernel)) (fun _ h9 => h9) rfl hin rfl (by decide +kernel) rfl rfl (Nat.le_of_ble_eq_true rfl) dX7_init_12 (fun H locs hP hD hS => ?_)
  have hP : va_P G vwCl ([(z0, .inr (6, [.ref (q 0), .null, .int 0, .null, .null, .null, .null, .null, .null]))] ++ wDo cy q MZ) H := hP
  have hD : va_D A ([(z0, .inr (6, [.ref (q 0), .null, .int 0, .null, .null, .null, .null, .null, .null]))] ++ wDo cy q MZ) := hD
  refine lv_aload_n hx hb dX7_init_15 rfl (lv_at hl 0 rfl) ?_
  refine va_new (D := G) (ci := 0) (fs := [.int 0, .null, .int 0, .float 0, .int 0, .int 0, .null, .null, .null, .null, .null, .null, .null]) (C := RX1) (T := TX1) (N := 13) hx hb hts iX7_init_X1 tyX1 tyX1_ok hown (hts (.classLink RX7 7 RX1) (by decide +kernel)) (hts (.instantiable RX1 13) (by decide +kernel)) (hts (.initialized RX1) (by decide +kernel)) hK hP hD hS hA rfl (fun j hj => by rcases (show j = 0 ∨ j = 1 ∨ j = 2 ∨ j = 3 ∨ j = 4 ∨ j = 5 ∨ j = 6 ∨ j = 7 ∨ j = 8 ∨ j = 9 ∨ j = 10 ∨ j = 11 ∨ j = 12 by omega) with rfl | rfl | rfl | rfl | rfl | rfl | rfl | rfl | rfl | rfl | rfl | rfl | rfl <;> rfl) (Nat.le_of_ble_eq_true rfl) (Nat.le_of_ble_eq_true rfl) dX7_init_16 (fun x1 H hP hD hS => ?_)
  have hP : va_P G vwCl ([(z0, .inr (6, [.ref (q 0), .null, .int 0, .null, .null, .null, .null, .null, .null]))] ++ wDo cy q MZ ++ [(x1, .inr (0, [.int 0, .null, .int 0, .float 0, .int 0, .int 0, .null, .null, .null, .null, .null, .null, .null]))]) H := hP
  have hD : va_D A ([(z0, .inr (6, [.ref (q 0), .null, .int 0, .null, .null, .null, .null, .null, .null]))] ++ wDo cy q MZ ++ [(x1, .inr (0, [.int 0, .null, .int 0, .float 0, .int 0, .int 0, .null, .null, .null, .null, .null, .null, .null]))]) := hD
  refine lv_dup hx hb dX7_init_19 rfl ?_
  have hPc := hP.sub (ws' := n0D x1) [10] rfl
  have hDc := hD.sub (ws' := n0D x1) [10] (by decide) rfl
  have hFc := va_free (wc := n0D x1) hD hS hA [10] rfl
  refine va_callv (va_runIN (As := []) (rest := [.ref x1, .ref z0]) ⟨hx, hb, hml, hown, hts⟩ (kX1_init l G cy hPc hDc) ⟨va_cnB 0 hts gX7_init_X1_init_n9 rfl rfl rfl hN1 (hts (.initialized RX1) (by decide +kernel)) (by decide +kernel) ⟨Nat.le_of_ble_eq_true rfl, Nat.le_of_ble_eq_true rfl⟩, rfl, (hts (.instanceMethod yX1_init) (by decide +kernel))⟩ ⟨pR_blind, pR_at hK⟩ rfl rfl hl.1 rfl (lv_room (Nat.le_of_ble_eq_true rfl)) dX7_init_20 ⟨Nat.le_of_ble_eq_true rfl, Nat.le_of_ble_eq_true rfl⟩) hS (fun q _ h => hFc q h) hFc (fun u_ t_ H locs ht hvm hw hB hz1 hk1 hS => ?_)
  obtain ⟨k1, eu_⟩ : ∃ z, z = u_ := ⟨_, rfl⟩
  subst eu_
  have hw : k1 0 = x1 := hw
  subst hw
  have hB : va_P G vwCl (wDo cy k1 MZ) t_.heap ∧ va_D (va_A (n0D (k1 0)) _) (wDo cy k1 MZ) := hB
  rw [ht] at hB
  obtain ⟨hP1, hD1⟩ := hB
  obtain ⟨hP, hD⟩ := va_join (wr := [(z0, .inr (6, [.ref (q 0), .null, .int 0, .null, .null, .null, .null, .null, .null]))] ++ wDo cy q MZ) hP hD [10] [0, 1, 2, 3, 4, 5, 6, 7, 8, 9] rfl rfl (by decide) (by decide) hk1 hFc hP1 hD1
  have hP : va_P G vwCl ([(z0, .inr (6, [.ref (q 0), .null, .int 0, .null, .null, .null, .null, .null, .null]))] ++ wDo cy q MZ ++ wDo cy k1 MZ) H := hP
  have hD : va_D A ([(z0, .inr (6, [.ref (q 0), .null, .int 0, .null, .null, .null, .null, .null, .null]))] ++ wDo cy q MZ ++ wDo cy k1 MZ) := hD
  have hP : va_P G vwCl ([(z0, .inr (6, [.ref (q 0), .null, .int 0, .null, .null, .null, .null, .null, .null]))] ++ wDo cy q MZ) H := hP.sub [0, 1, 2, 3, 4, 5, 6, 7, 8, 9] rfl
  have hD : va_D A ([(z0, .inr (6, [.ref (q 0), .null, .int 0, .null, .null, .null, .null, .null, .null]))] ++ wDo cy q MZ) := hD.sub [0, 1, 2, 3, 4, 5, 6, 7, 8, 9] (by decide) rfl
  refine va_putF (D := G) (ci := 6) (v := .ref (k1 0)) (ty := (.object "NailedOrders$Door")) (C := RX7) (T := TX7) (N := 9) hx hb hts iX7_init_X7 tyX7 tyX7_ok nmX7 hown hK hP hD hS 0 rfl rfl 1 (by decide) (hts (.fieldLink RX7 16 "NailedOrders" "kept" "LNailedOrders$Door;") (by decide +kernel)) (fun _ h9 => h9) rfl hin rfl (by decide +kernel) rfl rfl (Nat.le_of_ble_eq_true rfl) dX7_init_23 (fun H locs hP hD hS => ?_)
  have hP : va_P G vwCl ([(z0, .inr (6, [.ref (q 0), .ref (k1 0), .int 0, .null, .null, .null, .null, .null, .null]))] ++ wDo cy q MZ) H := hP
  have hD : va_D A ([(z0, .inr (6, [.ref (q 0), .ref (k1 0), .int 0, .null, .null, .null, .null, .null, .null]))] ++ wDo cy q MZ) := hD
  refine lv_aload_n hx hb dX7_init_26 rfl (lv_at hl 0 rfl) ?_
  refine lv_iconst (v := nI 0) hx hb dX7_init_27 (by decide +kernel) ?_
  refine va_put (D := G) (ci := 6) (v := .int (nI 0)) (ty := .boolean) (C := RX7) (T := TX7) (N := 9) hx hb hts iX7_init_X7 tyX7 tyX7_ok nmX7 hown hK hP hD hS 0 rfl rfl 2 (by decide) (hts (.fieldLink RX7 19 "NailedOrders" "hasKept" "Z") (by decide +kernel)) (fun _ h9 => h9) rfl (by decide +kernel) rfl rfl (Nat.le_of_ble_eq_true rfl) dX7_init_28 (fun H locs hP hD hS => ?_)
  have hP : va_P G vwCl ([(z0, .inr (6, [.ref (q 0), .ref (k1 0), .int (nI 0), .null, .null, .null, .null, .null, .null]))] ++ wDo cy q MZ) H := hP
  have hD : va_D A ([(z0, .inr (6, [.ref (q 0), .ref (k1 0), .int (nI 0), .null, .null, .null, .null, .null, .null]))] ++ wDo cy q MZ) := hD
  refine lv_aload_n hx hb dX7_init_31 rfl (lv_at hl 0 rfl) ?_
  refine va_new (D := G) (ci := 1) (fs := [.null, .int 0]) (C := RX2) (T := TX2) (N := 2) hx hb hts iX7_init_X2 tyX2 tyX2_ok hown (hts (.classLink RX7 23 RX2) (by decide +kernel)) (hts (.instantiable RX2 2) (by decide +kernel)) (hts (.initialized RX2) (by decide +kernel)) hK hP hD hS hA rfl (fun j hj => by rcases (show j = 0 ∨ j = 1 by omega) with rfl | rfl <;> rfl) (Nat.le_of_ble_eq_true rfl) (Nat.le_of_ble_eq_true rfl) dX7_init_32 (fun x2 H hP hD hS => ?_)
  have hP : va_P G vwCl ([(z0, .inr (6, [.ref (q 0), .ref (k1 0), .int (nI 0), .null, .null, .null, .null, .null, .null]))] ++ wDo cy q MZ ++ [(x2, .inr (1, [.null, .int 0]))]) H := hP
  have hD : va_D A ([(z0, .inr (6, [.ref (q 0), .ref (k1 0), .int (nI 0), .null, .null, .null, .null, .null, .null]))] ++ wDo cy q MZ ++ [(x2, .inr (1, [.null, .int 0]))]) := hD
  refine lv_dup hx hb dX7_init_35 rfl ?_
  have hPc := hP.sub (ws' := n0H x2) [10] rfl
  have hDc := hD.sub (ws' := n0H x2) [10] (by decide) rfl
  have hFc := va_free (wc := n0H x2) hD hS hA [10] rfl
  refine va_callv (va_runI (As := []) (rest := [.ref x2, .ref z0]) ⟨hx, hb, hml, hown, hts⟩ (kX2_init l G cy hPc hDc) (cwI 0 hts gX7_init_X2_init rfl rfl rfl (hts (.initialized RX2) (by decide +kernel)) (hts (.methodLink RX7 25 yX2_init) (by decide +kernel)) (hts (.instanceMethod yX2_init) (by decide +kernel)) rfl (by decide +kernel) ⟨Nat.le_of_ble_eq_true rfl, Nat.le_of_ble_eq_true rfl⟩) ⟨pN_blind, pN_at ⟨hK, hAO, hN1, hN2, hN3, hN4, hN5⟩⟩ rfl rfl hl.1 rfl (lv_room (Nat.le_of_ble_eq_true rfl)) dX7_init_36 ⟨Nat.le_of_ble_eq_true rfl, Nat.le_of_ble_eq_true rfl⟩) hS (fun q _ h => hFc q h) hFc (fun u_ t_ H locs ht hvm hw hB hz1 hk1 hS => ?_)
  obtain ⟨h, d⟩ := u_
  have hw : h 0 = x2 := hw
  subst hw
  have hB : va_P G vwCl (wHi cy h 0 d (fun _ => MZ)) t_.heap ∧ va_D (va_A (n0H (h 0)) _) (wHi cy h 0 d (fun _ => MZ)) := hB
  rw [ht] at hB
  obtain ⟨hP1, hD1⟩ := hB
  obtain ⟨hP, hD⟩ := va_join (wr := [(z0, .inr (6, [.ref (q 0), .ref (k1 0), .int (nI 0), .null, .null, .null, .null, .null, .null]))] ++ wDo cy q MZ) hP hD [10] [0, 1, 2, 3, 4, 5, 6, 7, 8, 9] rfl rfl (by decide) (by decide) hk1 hFc hP1 hD1
  have hP : va_P G vwCl ([(z0, .inr (6, [.ref (q 0), .ref (k1 0), .int (nI 0), .null, .null, .null, .null, .null, .null]))] ++ wDo cy q MZ ++ wHi cy h 0 d (fun _ => MZ)) H := hP
  have hD : va_D A ([(z0, .inr (6, [.ref (q 0), .ref (k1 0), .int (nI 0), .null, .null, .null, .null, .null, .null]))] ++ wDo cy q MZ ++ wHi cy h 0 d (fun _ => MZ)) := hD
  refine va_putF (D := G) (ci := 6) (v := .ref (h 0)) (ty := (.object "NailedOrders$History")) (C := RX7) (T := TX7) (N := 9) hx hb hts iX7_init_X7 tyX7 tyX7_ok nmX7 hown hK hP hD hS 0 rfl rfl 3 (by decide) (hts (.fieldLink RX7 26 "NailedOrders" "history" "LNailedOrders$History;") (by decide +kernel)) (fun _ h9 => h9) rfl hin rfl (by decide +kernel) rfl rfl (Nat.le_of_ble_eq_true rfl) dX7_init_39 (fun H locs hP hD hS => ?_)
  have hP : va_P G vwCl ([(z0, .inr (6, [.ref (q 0), .ref (k1 0), .int (nI 0), .ref (h 0), .null, .null, .null, .null, .null]))] ++ wDo cy q MZ ++ wHi cy h 0 d (fun _ => MZ)) H := hP
  have hD : va_D A ([(z0, .inr (6, [.ref (q 0), .ref (k1 0), .int (nI 0), .ref (h 0), .null, .null, .null, .null, .null]))] ++ wDo cy q MZ ++ wHi cy h 0 d (fun _ => MZ)) := hD
  refine lv_aload_n hx hb dX7_init_42 rfl (lv_at hl 0 rfl) ?_
  refine va_new (D := G) (ci := 4) (fs := [.null, .int 0]) (C := RX5) (T := TX5) (N := 2) hx hb hts iX7_init_X5 tyX5 tyX5_ok hown (hts (.classLink RX7 30 RX5) (by decide +kernel)) (hts (.instantiable RX5 2) (by decide +kernel)) (hts (.initialized RX5) (by decide +kernel)) hK hP hD hS hA rfl (fun j hj => by rcases (show j = 0 ∨ j = 1 by omega) with rfl | rfl <;> rfl) (Nat.le_of_ble_eq_true rfl) (Nat.le_of_ble_eq_true rfl) dX7_init_43 (fun x4 H hP hD hS => ?_)
  have hP : va_P G vwCl ([(z0, .inr (6, [.ref (q 0), .ref (k1 0), .int (nI 0), .ref (h 0), .null, .null, .null, .null, .null]))] ++ wDo cy q MZ ++ wHi cy h 0 d (fun _ => MZ) ++ [(x4, .inr (4, [.null, .int 0]))]) H := hP
  have hD : va_D A ([(z0, .inr (6, [.ref (q 0), .ref (k1 0), .int (nI 0), .ref (h 0), .null, .null, .null, .null, .null]))] ++ wDo cy q MZ ++ wHi cy h 0 d (fun _ => MZ) ++ [(x4, .inr (4, [.null, .int 0]))]) := hD
  refine lv_dup hx hb dX7_init_46 rfl ?_
  have hPc := hP.sub (ws' := n0T x4) [48] rfl
  have hDc := hD.sub (ws' := n0T x4) [48] (by decide) rfl
  have hFc := va_free (wc := n0T x4) hD hS hA [48] rfl
  refine va_callv (va_runIN (As := []) (rest := [.ref x4, .ref z0]) ⟨hx, hb, hml, hown, hts⟩ (kX5_init l G cy hPc hDc) ⟨va_cnB 0 hts gX7_init_X5_init_n32 rfl rfl rfl hN3 (hts (.initialized RX5) (by decide +kernel)) (by decide +kernel) ⟨Nat.le_of_ble_eq_true rfl, Nat.le_of_ble_eq_true rfl⟩, rfl, (hts (.instanceMethod yX5_init) (by decide +kernel))⟩ ⟨pR_blind, pR_at hK⟩ rfl rfl hl.1 rfl (lv_room (Nat.le_of_ble_eq_true rfl)) dX7_init_47 ⟨Nat.le_of_ble_eq_true rfl, Nat.le_of_ble_eq_true rfl⟩) hS (fun q _ h => hFc q h) hFc (fun u_ t_ H locs ht hvm hw hB hz1 hk1 hS => ?_)
  obtain ⟨u4, eu_⟩ : ∃ z, z = u_ := ⟨_, rfl⟩
  subst eu_
  have hB : va_P G vwCl ([]) t_.heap ∧ va_D (va_A (n0T x4) _) ([]) := hB
  rw [ht] at hB
  obtain ⟨hP1, hD1⟩ := hB
  obtain ⟨hP, hD⟩ := va_join (wr := [(z0, .inr (6, [.ref (q 0), .ref (k1 0), .int (nI 0), .ref (h 0), .null, .null, .null, .null, .null]))] ++ wDo cy q MZ ++ wHi cy h 0 d (fun _ => MZ)) hP hD [48] [0, 1, 2, 3, 4, 5, 6, 7, 8, 9, 10, 11, 12, 13, 14, 15, 16, 17, 18, 19, 20, 21, 22, 23, 24, 25, 26, 27, 28, 29, 30, 31, 32, 33, 34, 35, 36, 37, 38, 39, 40, 41, 42, 43, 44, 45, 46, 47] rfl rfl (by decide) (by decide) hk1 hFc hP1 hD1
  have hP : va_P G vwCl ([(z0, .inr (6, [.ref (q 0), .ref (k1 0), .int (nI 0), .ref (h 0), .null, .null, .null, .null, .null]))] ++ wDo cy q MZ ++ wHi cy h 0 d (fun _ => MZ) ++ []) H := hP
  have hD : va_D A ([(z0, .inr (6, [.ref (q 0), .ref (k1 0), .int (nI 0), .ref (h 0), .null, .null, .null, .null, .null]))] ++ wDo cy q MZ ++ wHi cy h 0 d (fun _ => MZ) ++ []) := hD
  have hP : va_P G vwCl ([(z0, .inr (6, [.ref (q 0), .ref (k1 0), .int (nI 0), .ref (h 0), .null, .null, .null, .null, .null]))] ++ wDo cy q MZ ++ wHi cy h 0 d (fun _ => MZ)) H := hP.sub [0, 1, 2, 3, 4, 5, 6, 7, 8, 9, 10, 11, 12, 13, 14, 15, 16, 17, 18, 19, 20, 21, 22, 23, 24, 25, 26, 27, 28, 29, 30, 31, 32, 33, 34, 35, 36, 37, 38, 39, 40, 41, 42, 43, 44, 45, 46, 47] rfl
  have hD : va_D A ([(z0, .inr (6, [.ref (q 0), .ref (k1 0), .int (nI 0), .ref (h 0), .null, .null, .null, .null, .null]))] ++ wDo cy q MZ ++ wHi cy h 0 d (fun _ => MZ)) := hD.sub [0, 1, 2, 3, 4, 5, 6, 7, 8, 9, 10, 11, 12, 13, 14, 15, 16, 17, 18, 19, 20, 21, 22, 23, 24, 25, 26, 27, 28, 29, 30, 31, 32, 33, 34, 35, 36, 37, 38, 39, 40, 41, 42, 43, 44, 45, 46, 47] (by decide) rfl
  refine va_putF (D := G) (ci := 6) (v := .ref x4) (ty := (.object "NailedOrders$Text")) (C := RX7) (T := TX7) (N := 9) hx hb hts iX7_init_X7 tyX7 tyX7_ok nmX7 hown hK hP hD hS 0 rfl rfl 4 (by decide) (hts (.fieldLink RX7 33 "NailedOrders" "text" "LNailedOrders$Text;") (by decide +kernel)) (fun _ h9 => h9) rfl hin rfl (by decide +kernel) rfl rfl (Nat.le_of_ble_eq_true rfl) dX7_init_50 (fun H locs hP hD hS => ?_)
  have hP : va_P G vwCl ([(z0, .inr (6, [.ref (q 0), .ref (k1 0), .int (nI 0), .ref (h 0), .ref x4, .null, .null, .null, .null]))] ++ wDo cy q MZ ++ wHi cy h 0 d (fun _ => MZ)) H := hP
  have hD : va_D A ([(z0, .inr (6, [.ref (q 0), .ref (k1 0), .int (nI 0), .ref (h 0), .ref x4, .null, .null, .null, .null]))] ++ wDo cy q MZ ++ wHi cy h 0 d (fun _ => MZ)) := hD
  refine lv_aload_n hx hb dX7_init_53 rfl (lv_at hl 0 rfl) ?_
  refine va_new (D := G) (ci := 2) (fs := [.null, .int 0, .int 0, .null, .null, .null, .null, .int 0]) (C := RX3) (T := TX3) (N := 8) hx hb hts iX7_init_X3 tyX3 tyX3_ok hown (hts (.classLink RX7 37 RX3) (by decide +kernel)) (hts (.instantiable RX3 8) (by decide +kernel)) (hts (.initialized RX3) (by decide +kernel)) hK hP hD hS hA rfl (fun j hj => by rcases (show j = 0 ∨ j = 1 ∨ j = 2 ∨ j = 3 ∨ j = 4 ∨ j = 5 ∨ j = 6 ∨ j = 7 by omega) with rfl | rfl | rfl | rfl | rfl | rfl | rfl | rfl <;> rfl) (Nat.le_of_ble_eq_true rfl) (Nat.le_of_ble_eq_true rfl) dX7_init_54 (fun x5 H hP hD hS => ?_)
  have hP : va_P G vwCl ([(z0, .inr (6, [.ref (q 0), .ref (k1 0), .int (nI 0), .ref (h 0), .ref x4, .null, .null, .null, .null]))] ++ wDo cy q MZ ++ wHi cy h 0 d (fun _ => MZ) ++ [(x5, .inr (2, [.null, .int 0, .int 0, .null, .null, .null, .null, .int 0]))]) H := hP
  have hD : va_D A ([(z0, .inr (6, [.ref (q 0), .ref (k1 0), .int (nI 0), .ref (h 0), .ref x4, .null, .null, .null, .null]))] ++ wDo cy q MZ ++ wHi cy h 0 d (fun _ => MZ) ++ [(x5, .inr (2, [.null, .int 0, .int 0, .null, .null, .null, .null, .int 0]))]) := hD
  refine lv_dup hx hb dX7_init_57 rfl ?_
  refine lv_aload_n hx hb dX7_init_58 rfl (lv_at hl 0 rfl) ?_
  refine va_get (D := G) (ci := 6) (v := .ref x4) (C := RX7) (T := TX7) (N := 9) hx hb hts iX7_init_X7 hown hK hP 0 rfl rfl 4 (by decide) (hts (.fieldLink RX7 33 "NailedOrders" "text" "LNailedOrders$Text;") (by decide +kernel)) (fun _ h9 => h9) rfl dX7_init_59 ?_
  have hPc := hP.sub (ws' := n0C x5) [48] rfl
  have hDc := hD.sub (ws' := n0C x5) [48] (by decide) rfl
  have hFc := va_free (wc := n0C x5) hD hS hA [48] rfl
  refine va_callv (va_runI (As := [.ref x4]) (rest := [.ref x5, .ref z0]) ⟨hx, hb, hml, hown, hts⟩ (kX3_init l G cy hPc hDc) (cwI 1 hts gX7_init_X3_init rfl rfl rfl (hts (.initialized RX3) (by decide +kernel)) (hts (.methodLink RX7 39 yX3_init) (by decide +kernel)) (hts (.instanceMethod yX3_init) (by decide +kernel)) rfl (by decide +kernel) ⟨Nat.le_of_ble_eq_true rfl, Nat.le_of_ble_eq_true rfl⟩) ⟨pR_blind, pR_at hK⟩ rfl rfl hl.1 rfl (lv_room (Nat.le_of_ble_eq_true rfl)) dX7_init_62 ⟨Nat.le_of_ble_eq_true rfl, Nat.le_of_ble_eq_true rfl⟩) hS (fun q _ h => hFc q h) hFc (fun u_ t_ H locs ht hvm hw hB hz1 hk1 hS => ?_)
  obtain ⟨u5, eu_⟩ : ∃ z, z = u_ := ⟨_, rfl⟩
  subst eu_
  have hB : va_P G vwCl ([]) t_.heap ∧ va_D (va_A (n0C x5) _) ([]) := hB
  rw [ht] at hB
  obtain ⟨hP1, hD1⟩ := hB
  obtain ⟨hP, hD⟩ := va_join (wr := [(z0, .inr (6, [.ref (q 0), .ref (k1 0), .int (nI 0), .ref (h 0), .ref x4, .null, .null, .null, .null]))] ++ wDo cy q MZ ++ wHi cy h 0 d (fun _ => MZ)) hP hD [48] [0, 1, 2, 3, 4, 5, 6, 7, 8, 9, 10, 11, 12, 13, 14, 15, 16, 17, 18, 19, 20, 21, 22, 23, 24, 25, 26, 27, 28, 29, 30, 31, 32, 33, 34, 35, 36, 37, 38, 39, 40, 41, 42, 43, 44, 45, 46, 47] rfl rfl (by decide) (by decide) hk1 hFc hP1 hD1
  have hP : va_P G vwCl ([(z0, .inr (6, [.ref (q 0), .ref (k1 0), .int (nI 0), .ref (h 0), .ref x4, .null, .null, .null, .null]))] ++ wDo cy q MZ ++ wHi cy h 0 d (fun _ => MZ) ++ []) H := hP
  have hD : va_D A ([(z0, .inr (6, [.ref (q 0), .ref (k1 0), .int (nI 0), .ref (h 0), .ref x4, .null, .null, .null, .null]))] ++ wDo cy q MZ ++ wHi cy h 0 d (fun _ => MZ) ++ []) := hD
  have hP : va_P G vwCl ([(z0, .inr (6, [.ref (q 0), .ref (k1 0), .int (nI 0), .ref (h 0), .ref x4, .null, .null, .null, .null]))] ++ wDo cy q MZ ++ wHi cy h 0 d (fun _ => MZ)) H := hP.sub [0, 1, 2, 3, 4, 5, 6, 7, 8, 9, 10, 11, 12, 13, 14, 15, 16, 17, 18, 19, 20, 21, 22, 23, 24, 25, 26, 27, 28, 29, 30, 31, 32, 33, 34, 35, 36, 37, 38, 39, 40, 41, 42, 43, 44, 45, 46, 47] rfl
  have hD : va_D A ([(z0, .inr (6, [.ref (q 0), .ref (k1 0), .int (nI 0), .ref (h 0), .ref x4, .null, .null, .null, .null]))] ++ wDo cy q MZ ++ wHi cy h 0 d (fun _ => MZ)) := hD.sub [0, 1, 2, 3, 4, 5, 6, 7, 8, 9, 10, 11, 12, 13, 14, 15, 16, 17, 18, 19, 20, 21, 22, 23, 24, 25, 26, 27, 28, 29, 30, 31, 32, 33, 34, 35, 36, 37, 38, 39, 40, 41, 42, 43, 44, 45, 46, 47] (by decide) rfl
  refine va_putF (D := G) (ci := 6) (v := .ref x5) (ty := (.object "NailedOrders$Reader")) (C := RX7) (T := TX7) (N := 9) hx hb hts iX7_init_X7 tyX7 tyX7_ok nmX7 hown hK hP hD hS 0 rfl rfl 5 (by decide) (hts (.fieldLink RX7 42 "NailedOrders" "reader" "LNailedOrders$Reader;") (by decide +kernel)) (fun _ h9 => h9) rfl hin rfl (by decide +kernel) rfl rfl (Nat.le_of_ble_eq_true rfl) dX7_init_65 (fun H locs hP hD hS => ?_)
  have hP : va_P G vwCl ([(z0, .inr (6, [.ref (q 0), .ref (k1 0), .int (nI 0), .ref (h 0), .ref x4, .ref x5, .null, .null, .null]))] ++ wDo cy q MZ ++ wHi cy h 0 d (fun _ => MZ)) H := hP
  have hD : va_D A ([(z0, .inr (6, [.ref (q 0), .ref (k1 0), .int (nI 0), .ref (h 0), .ref x4, .ref x5, .null, .null, .null]))] ++ wDo cy q MZ ++ wHi cy h 0 d (fun _ => MZ)) := hD
  refine lv_aload_n hx hb dX7_init_68 rfl (lv_at hl 0 rfl) ?_
  refine va_new (D := G) (ci := 5) (fs := [.null, .null]) (C := RX6) (T := TX6) (N := 2) hx hb hts iX7_init_X6 tyX6 tyX6_ok hown (hts (.classLink RX7 46 RX6) (by decide +kernel)) (hts (.instantiable RX6 2) (by decide +kernel)) (hts (.initialized RX6) (by decide +kernel)) hK hP hD hS hA rfl (fun j hj => by rcases (show j = 0 ∨ j = 1 by omega) with rfl | rfl <;> rfl) (Nat.le_of_ble_eq_true rfl) (Nat.le_of_ble_eq_true rfl) dX7_init_69 (fun x6 H hP hD hS => ?_)
  have hP : va_P G vwCl ([(z0, .inr (6, [.ref (q 0), .ref (k1 0), .int (nI 0), .ref (h 0), .ref x4, .ref x5, .null, .null, .null]))] ++ wDo cy q MZ ++ wHi cy h 0 d (fun _ => MZ) ++ [(x6, .inr (5, [.null, .null]))]) H := hP
  have hD : va_D A ([(z0, .inr (6, [.ref (q 0), .ref (k1 0), .int (nI 0), .ref (h 0), .ref x4, .ref x5, .null, .null, .null]))] ++ wDo cy q MZ ++ wHi cy h 0 d (fun _ => MZ) ++ [(x6, .inr (5, [.null, .null]))]) := hD
  refine lv_dup hx hb dX7_init_72 rfl ?_
  have hPc := hP.sub (ws' := n0W x6) [48] rfl
  have hDc := hD.sub (ws' := n0W x6) [48] (by decide) rfl
  have hFc := va_free (wc := n0W x6) hD hS hA [48] rfl
  refine va_callv (va_runIN (As := []) (rest := [.ref x6, .ref z0]) ⟨hx, hb, hml, hown, hts⟩ (kX6_init l G cy hPc hDc) ⟨va_cnB 0 hts gX7_init_X6_init_n48 rfl rfl rfl hN4 (hts (.initialized RX6) (by decide +kernel)) (by decide +kernel) ⟨Nat.le_of_ble_eq_true rfl, Nat.le_of_ble_eq_true rfl⟩, rfl, (hts (.instanceMethod yX6_init) (by decide +kernel))⟩ ⟨pN_blind, pN_at ⟨hK, hAO, hN1, hN2, hN3, hN4, hN5⟩⟩ rfl rfl hl.1 rfl (lv_room (Nat.le_of_ble_eq_true rfl)) dX7_init_73 ⟨Nat.le_of_ble_eq_true rfl, Nat.le_of_ble_eq_true rfl⟩) hS (fun q _ h => hFc q h) hFc (fun u_ t_ H locs ht hvm hw hB hz1 hk1 hS => ?_)
  obtain ⟨x, eu_⟩ : ∃ z, z = u_ := ⟨_, rfl⟩
  subst eu_
  have hw : x 0 = x6 := hw
  subst hw
  have hB : va_P G vwCl (wWe cy x (fun _ => 0)) t_.heap ∧ va_D (va_A (n0W (x 0)) _) (wWe cy x (fun _ => 0)) := hB
  rw [ht] at hB
  obtain ⟨hP1, hD1⟩ := hB
  obtain ⟨hP, hD⟩ := va_join (wr := [(z0, .inr (6, [.ref (q 0), .ref (k1 0), .int (nI 0), .ref (h 0), .ref x4, .ref x5, .null, .null, .null]))] ++ wDo cy q MZ ++ wHi cy h 0 d (fun _ => MZ)) hP hD [48] [0, 1, 2, 3, 4, 5, 6, 7, 8, 9, 10, 11, 12, 13, 14, 15, 16, 17, 18, 19, 20, 21, 22, 23, 24, 25, 26, 27, 28, 29, 30, 31, 32, 33, 34, 35, 36, 37, 38, 39, 40, 41, 42, 43, 44, 45, 46, 47] rfl rfl (by decide) (by decide) hk1 hFc hP1 hD1
  have hP : va_P G vwCl ([(z0, .inr (6, [.ref (q 0), .ref (k1 0), .int (nI 0), .ref (h 0), .ref x4, .ref x5, .null, .null, .null]))] ++ wDo cy q MZ ++ wHi cy h 0 d (fun _ => MZ) ++ wWe cy x (fun _ => 0)) H := hP
  have hD : va_D A ([(z0, .inr (6, [.ref (q 0), .ref (k1 0), .int (nI 0), .ref (h 0), .ref x4, .ref x5, .null, .null, .null]))] ++ wDo cy q MZ ++ wHi cy h 0 d (fun _ => MZ) ++ wWe cy x (fun _ => 0)) := hD
  refine va_putF (D := G) (ci := 6) (v := .ref (x 0)) (ty := (.object "NailedOrders$Weather")) (C := RX7) (T := TX7) (N := 9) hx hb hts iX7_init_X7 tyX7 tyX7_ok nmX7 hown hK hP hD hS 0 rfl rfl 6 (by decide) (hts (.fieldLink RX7 49 "NailedOrders" "weather" "LNailedOrders$Weather;") (by decide +kernel)) (fun _ h9 => h9) rfl hin rfl (by decide +kernel) rfl rfl (Nat.le_of_ble_eq_true rfl) dX7_init_76 (fun H locs hP hD hS => ?_)
  have hP : va_P G vwCl ([(z0, .inr (6, [.ref (q 0), .ref (k1 0), .int (nI 0), .ref (h 0), .ref x4, .ref x5, .ref (x 0), .null, .null]))] ++ wDo cy q MZ ++ wHi cy h 0 d (fun _ => MZ) ++ wWe cy x (fun _ => 0)) H := hP
  have hD : va_D A ([(z0, .inr (6, [.ref (q 0), .ref (k1 0), .int (nI 0), .ref (h 0), .ref x4, .ref x5, .ref (x 0), .null, .null]))] ++ wDo cy q MZ ++ wHi cy h 0 d (fun _ => MZ) ++ wWe cy x (fun _ => 0)) := hD
  refine lv_aload_n hx hb dX7_init_79 rfl (lv_at hl 0 rfl) ?_
  refine va_new (D := G) (ci := 3) (fs := [.null, .null, .null, .null]) (C := RX4) (T := TX4) (N := 4) hx hb hts iX7_init_X4 tyX4 tyX4_ok hown (hts (.classLink RX7 53 RX4) (by decide +kernel)) (hts (.instantiable RX4 4) (by decide +kernel)) (hts (.initialized RX4) (by decide +kernel)) hK hP hD hS hA rfl (fun j hj => by rcases (show j = 0 ∨ j = 1 ∨ j = 2 ∨ j = 3 by omega) with rfl | rfl | rfl | rfl <;> rfl) (Nat.le_of_ble_eq_true rfl) (Nat.le_of_ble_eq_true rfl) dX7_init_80 (fun x7 H hP hD hS => ?_)
  have hP : va_P G vwCl ([(z0, .inr (6, [.ref (q 0), .ref (k1 0), .int (nI 0), .ref (h 0), .ref x4, .ref x5, .ref (x 0), .null, .null]))] ++ wDo cy q MZ ++ wHi cy h 0 d (fun _ => MZ) ++ wWe cy x (fun _ => 0) ++ [(x7, .inr (3, [.null, .null, .null, .null]))]) H := hP
  have hD : va_D A ([(z0, .inr (6, [.ref (q 0), .ref (k1 0), .int (nI 0), .ref (h 0), .ref x4, .ref x5, .ref (x 0), .null, .null]))] ++ wDo cy q MZ ++ wHi cy h 0 d (fun _ => MZ) ++ wWe cy x (fun _ => 0) ++ [(x7, .inr (3, [.null, .null, .null, .null]))]) := hD
  refine lv_dup hx hb dX7_init_83 rfl ?_
  refine lv_aload_n hx hb dX7_init_84 rfl (lv_at hl 0 rfl) ?_
  refine va_get (D := G) (ci := 6) (v := .ref (q 0)) (C := RX7) (T := TX7) (N := 9) hx hb hts iX7_init_X7 hown hK hP 0 rfl rfl 0 (by decide) (hts (.fieldLink RX7 10 "NailedOrders" "door" "LNailedOrders$Door;") (by decide +kernel)) (fun _ h9 => h9) rfl dX7_init_85 ?_
  have hPc := hP.sub (ws' := n0R x7) [50] rfl
  have hDc := hD.sub (ws' := n0R x7) [50] (by decide) rfl
  have hFc := va_free (wc := n0R x7) hD hS hA [50] rfl
  refine va_callv (va_runI (As := [.ref (q 0)]) (rest := [.ref x7, .ref z0]) ⟨hx, hb, hml, hown, hts⟩ (kX4_init l G cy hPc hDc) (cwI 1 hts gX7_init_X4_init rfl rfl rfl (hts (.initialized RX4) (by decide +kernel)) (hts (.methodLink RX7 55 yX4_init) (by decide +kernel)) (hts (.instanceMethod yX4_init) (by decide +kernel)) rfl (by decide +kernel) ⟨Nat.le_of_ble_eq_true rfl, Nat.le_of_ble_eq_true rfl⟩) ⟨pR_blind, pR_at hK⟩ rfl rfl hl.1 rfl (lv_room (Nat.le_of_ble_eq_true rfl)) dX7_init_88 ⟨Nat.le_of_ble_eq_true rfl, Nat.le_of_ble_eq_true rfl⟩) hS (fun q _ h => hFc q h) hFc (fun u_ t_ H locs ht hvm hw hB hz1 hk1 hS => ?_)
  obtain ⟨r, eu_⟩ : ∃ z, z = u_ := ⟨_, rfl⟩
  subst eu_
  have hw : r 0 = x7 := hw
  subst hw
  have hB : va_P G vwCl (wRe cy r (q 0) (fun _ => some 0) (fun _ => false) (fun _ => 0)) t_.heap ∧ va_D (va_A (n0R (r 0)) _) (wRe cy r (q 0) (fun _ => some 0) (fun _ => false) (fun _ => 0)) := hB
  rw [ht] at hB
  obtain ⟨hP1, hD1⟩ := hB
  obtain ⟨hP, hD⟩ := va_join (wr := [(z0, .inr (6, [.ref (q 0), .ref (k1 0), .int (nI 0), .ref (h 0), .ref x4, .ref x5, .ref (x 0), .null, .null]))] ++ wDo cy q MZ ++ wHi cy h 0 d (fun _ => MZ) ++ wWe cy x (fun _ => 0)) hP hD [50] [0, 1, 2, 3, 4, 5, 6, 7, 8, 9, 10, 11, 12, 13, 14, 15, 16, 17, 18, 19, 20, 21, 22, 23, 24, 25, 26, 27, 28, 29, 30, 31, 32, 33, 34, 35, 36, 37, 38, 39, 40, 41, 42, 43, 44, 45, 46, 47, 48, 49] rfl rfl (by decide) (by decide) hk1 hFc hP1 hD1
  have hP : va_P G vwCl ([(z0, .inr (6, [.ref (q 0), .ref (k1 0), .int (nI 0), .ref (h 0), .ref x4, .ref x5, .ref (x 0), .null, .null]))] ++ wDo cy q MZ ++ wHi cy h 0 d (fun _ => MZ) ++ wWe cy x (fun _ => 0) ++ wRe cy r (q 0) (fun _ => some 0) (fun _ => false) (fun _ => 0)) H := hP
  have hD : va_D A ([(z0, .inr (6, [.ref (q 0), .ref (k1 0), .int (nI 0), .ref (h 0), .ref x4, .ref x5, .ref (x 0), .null, .null]))] ++ wDo cy q MZ ++ wHi cy h 0 d (fun _ => MZ) ++ wWe cy x (fun _ => 0) ++ wRe cy r (q 0) (fun _ => some 0) (fun _ => false) (fun _ => 0)) := hD
  refine va_putF (D := G) (ci := 6) (v := .ref (r 0)) (ty := (.object "NailedOrders$Reckoning")) (C := RX7) (T := TX7) (N := 9) hx hb hts iX7_init_X7 tyX7 tyX7_ok nmX7 hown hK hP hD hS 0 rfl rfl 7 (by decide) (hts (.fieldLink RX7 58 "NailedOrders" "now" "LNailedOrders$Reckoning;") (by decide +kernel)) (fun _ h9 => h9) rfl hin rfl (by decide +kernel) rfl rfl (Nat.le_of_ble_eq_true rfl) dX7_init_91 (fun H locs hP hD hS => ?_)
  have hP : va_P G vwCl ([(z0, .inr (6, [.ref (q 0), .ref (k1 0), .int (nI 0), .ref (h 0), .ref x4, .ref x5, .ref (x 0), .ref (r 0), .null]))] ++ wDo cy q MZ ++ wHi cy h 0 d (fun _ => MZ) ++ wWe cy x (fun _ => 0) ++ wRe cy r (q 0) (fun _ => some 0) (fun _ => false) (fun _ => 0)) H := hP
  have hD : va_D A ([(z0, .inr (6, [.ref (q 0), .ref (k1 0), .int (nI 0), .ref (h 0), .ref x4, .ref x5, .ref (x 0), .ref (r 0), .null]))] ++ wDo cy q MZ ++ wHi cy h 0 d (fun _ => MZ) ++ wWe cy x (fun _ => 0) ++ wRe cy r (q 0) (fun _ => some 0) (fun _ => false) (fun _ => 0)) := hD
  refine lv_aload_n hx hb dX7_init_94 rfl (lv_at hl 0 rfl) ?_
  refine va_new (D := G) (ci := 3) (fs := [.null, .null, .null, .null]) (C := RX4) (T := TX4) (N := 4) hx hb hts iX7_init_X4 tyX4 tyX4_ok hown (hts (.classLink RX7 53 RX4) (by decide +kernel)) (hts (.instantiable RX4 4) (by decide +kernel)) (hts (.initialized RX4) (by decide +kernel)) hK hP hD hS hA rfl (fun j hj => by rcases (show j = 0 ∨ j = 1 ∨ j = 2 ∨ j = 3 by omega) with rfl | rfl | rfl | rfl <;> rfl) (Nat.le_of_ble_eq_true rfl) (Nat.le_of_ble_eq_true rfl) dX7_init_95 (fun x8 H hP hD hS => ?_)
  have hP : va_P G vwCl ([(z0, .inr (6, [.ref (q 0), .ref (k1 0), .int (nI 0), .ref (h 0), .ref x4, .ref x5, .ref (x 0), .ref (r 0), .null]))] ++ wDo cy q MZ ++ wHi cy h 0 d (fun _ => MZ) ++ wWe cy x (fun _ => 0) ++ wRe cy r (q 0) (fun _ => some 0) (fun _ => false) (fun _ => 0) ++ [(x8, .inr (3, [.null, .null, .null, .null]))]) H := hP
  have hD : va_D A ([(z0, .inr (6, [.ref (q 0), .ref (k1 0), .int (nI 0), .ref (h 0), .ref x4, .ref x5, .ref (x 0), .ref (r 0), .null]))] ++ wDo cy q MZ ++ wHi cy h 0 d (fun _ => MZ) ++ wWe cy x (fun _ => 0) ++ wRe cy r (q 0) (fun _ => some 0) (fun _ => false) (fun _ => 0) ++ [(x8, .inr (3, [.null, .null, .null, .null]))]) := hD
  refine lv_dup hx hb dX7_init_98 rfl ?_
  refine lv_aload_n hx hb dX7_init_99 rfl (lv_at hl 0 rfl) ?_
  refine va_get (D := G) (ci := 6) (v := .ref (q 0)) (C := RX7) (T := TX7) (N := 9) hx hb hts iX7_init_X7 hown hK hP 0 rfl rfl 0 (by decide) (hts (.fieldLink RX7 10 "NailedOrders" "door" "LNailedOrders$Door;") (by decide +kernel)) (fun _ h9 => h9) rfl dX7_init_100 ?_
  have hPc := hP.sub (ws' := n0R x8) [54] rfl
  have hDc := hD.sub (ws' := n0R x8) [54] (by decide) rfl
  have hFc := va_free (wc := n0R x8) hD hS hA [54] rfl
  refine va_callv (va_runI (As := [.ref (q 0)]) (rest := [.ref x8, .ref z0]) ⟨hx, hb, hml, hown, hts⟩ (kX4_init l G cy hPc hDc) (cwI 1 hts gX7_init_X4_init rfl rfl rfl (hts (.initialized RX4) (by decide +kernel)) (hts (.methodLink RX7 55 yX4_init) (by decide +kernel)) (hts (.instanceMethod yX4_init) (by decide +kernel)) rfl (by decide +kernel) ⟨Nat.le_of_ble_eq_true rfl, Nat.le_of_ble_eq_true rfl⟩) ⟨pR_blind, pR_at hK⟩ rfl rfl hl.1 rfl (lv_room (Nat.le_of_ble_eq_true rfl)) dX7_init_103 ⟨Nat.le_of_ble_eq_true rfl, Nat.le_of_ble_eq_true rfl⟩) hS (fun q _ h => hFc q h) hFc (fun u_ t_ H locs ht hvm hw hB hz1 hk1 hS => ?_)
  obtain ⟨w0, eu_⟩ : ∃ z, z = u_ := ⟨_, rfl⟩
  subst eu_
  have hw : w0 0 = x8 := hw
  subst hw
  have hB : va_P G vwCl (wRe cy w0 (q 0) (fun _ => some 0) (fun _ => false) (fun _ => 0)) t_.heap ∧ va_D (va_A (n0R (w0 0)) _) (wRe cy w0 (q 0) (fun _ => some 0) (fun _ => false) (fun _ => 0)) := hB
  rw [ht] at hB
  obtain ⟨hP1, hD1⟩ := hB
  obtain ⟨hP, hD⟩ := va_join (wr := [(z0, .inr (6, [.ref (q 0), .ref (k1 0), .int (nI 0), .ref (h 0), .ref x4, .ref x5, .ref (x 0), .ref (r 0), .null]))] ++ wDo cy q MZ ++ wHi cy h 0 d (fun _ => MZ) ++ wWe cy x (fun _ => 0) ++ wRe cy r (q 0) (fun _ => some 0) (fun _ => false) (fun _ => 0)) hP hD [54] [0, 1, 2, 3, 4, 5, 6, 7, 8, 9, 10, 11, 12, 13, 14, 15, 16, 17, 18, 19, 20, 21, 22, 23, 24, 25, 26, 27, 28, 29, 30, 31, 32, 33, 34, 35, 36, 37, 38, 39, 40, 41, 42, 43, 44, 45, 46, 47, 48, 49, 50, 51, 52, 53] rfl rfl (by decide) (by decide) hk1 hFc hP1 hD1
  have hP : va_P G vwCl ([(z0, .inr (6, [.ref (q 0), .ref (k1 0), .int (nI 0), .ref (h 0), .ref x4, .ref x5, .ref (x 0), .ref (r 0), .null]))] ++ wDo cy q MZ ++ wHi cy h 0 d (fun _ => MZ) ++ wWe cy x (fun _ => 0) ++ wRe cy r (q 0) (fun _ => some 0) (fun _ => false) (fun _ => 0) ++ wRe cy w0 (q 0) (fun _ => some 0) (fun _ => false) (fun _ => 0)) H := hP
  have hD : va_D A ([(z0, .inr (6, [.ref (q 0), .ref (k1 0), .int (nI 0), .ref (h 0), .ref x4, .ref x5, .ref (x 0), .ref (r 0), .null]))] ++ wDo cy q MZ ++ wHi cy h 0 d (fun _ => MZ) ++ wWe cy x (fun _ => 0) ++ wRe cy r (q 0) (fun _ => some 0) (fun _ => false) (fun _ => 0) ++ wRe cy w0 (q 0) (fun _ => some 0) (fun _ => false) (fun _ => 0)) := hD
  have hP : va_P G vwCl ([(z0, .inr (6, [.ref (q 0), .ref (k1 0), .int (nI 0), .ref (h 0), .ref x4, .ref x5, .ref (x 0), .ref (r 0), .null]))] ++ wDo cy q MZ ++ wHi cy h 0 d (fun _ => MZ) ++ wWe cy x (fun _ => 0) ++ wRe cy r (q 0) (fun _ => some 0) (fun _ => false) (fun _ => 0)) H := hP.sub [0, 1, 2, 3, 4, 5, 6, 7, 8, 9, 10, 11, 12, 13, 14, 15, 16, 17, 18, 19, 20, 21, 22, 23, 24, 25, 26, 27, 28, 29, 30, 31, 32, 33, 34, 35, 36, 37, 38, 39, 40, 41, 42, 43, 44, 45, 46, 47, 48, 49, 50, 51, 52, 53] rfl
  have hD : va_D A ([(z0, .inr (6, [.ref (q 0), .ref (k1 0), .int (nI 0), .ref (h 0), .ref x4, .ref x5, .ref (x 0), .ref (r 0), .null]))] ++ wDo cy q MZ ++ wHi cy h 0 d (fun _ => MZ) ++ wWe cy x (fun _ => 0) ++ wRe cy r (q 0) (fun _ => some 0) (fun _ => false) (fun _ => 0)) := hD.sub [0, 1, 2, 3, 4, 5, 6, 7, 8, 9, 10, 11, 12, 13, 14, 15, 16, 17, 18, 19, 20, 21, 22, 23, 24, 25, 26, 27, 28, 29, 30, 31, 32, 33, 34, 35, 36, 37, 38, 39, 40, 41, 42, 43, 44, 45, 46, 47, 48, 49, 50, 51, 52, 53] (by decide) rfl
  refine va_putF (D := G) (ci := 6) (v := .ref (w0 0)) (ty := (.object "NailedOrders$Reckoning")) (C := RX7) (T := TX7) (N := 9) hx hb hts iX7_init_X7 tyX7 tyX7_ok nmX7 hown hK hP hD hS 0 rfl rfl 8 (by decide) (hts (.fieldLink RX7 62 "NailedOrders" "without" "LNailedOrders$Reckoning;") (by decide +kernel)) (fun _ h9 => h9) rfl hin rfl (by decide +kernel) rfl rfl (Nat.le_of_ble_eq_true rfl) dX7_init_106 (fun H locs hP hD hS => ?_)
  have hP : va_P G vwCl ([(z0, .inr (6, [.ref (q 0), .ref (k1 0), .int (nI 0), .ref (h 0), .ref x4, .ref x5, .ref (x 0), .ref (r 0), .ref (w0 0)]))] ++ wDo cy q MZ ++ wHi cy h 0 d (fun _ => MZ) ++ wWe cy x (fun _ => 0) ++ wRe cy r (q 0) (fun _ => some 0) (fun _ => false) (fun _ => 0)) H := hP
  have hD : va_D A ([(z0, .inr (6, [.ref (q 0), .ref (k1 0), .int (nI 0), .ref (h 0), .ref x4, .ref x5, .ref (x 0), .ref (r 0), .ref (w0 0)]))] ++ wDo cy q MZ ++ wHi cy h 0 d (fun _ => MZ) ++ wWe cy x (fun _ => 0) ++ wRe cy r (q 0) (fun _ => some 0) (fun _ => false) (fun _ => 0)) := hD
  exact o_endC (σ := (Nat → Nat) × (Nat → Nat) × (Nat → Nat) × (Nat → Nat) × (Nat → Nat) × (Nat → Nat → Nat)) (P := fun (u : (Nat → Nat) × (Nat → Nat) × (Nat → Nat) × (Nat → Nat) × (Nat → Nat) × (Nat → Nat → Nat)) => True) (w := fun (u : (Nat → Nat) × (Nat → Nat) × (Nat → Nat) × (Nat → Nat) × (Nat → Nat) × (Nat → Nat → Nat)) => w7 cy z0 u.1 u.2.1 u.2.2.1 u.2.2.2.1 u.2.2.2.2.1 u.2.2.2.2.2 (fun _ => 0) 0 (fun _ => MZ) (fun _ => some 0) (fun _ => false) (fun _ => 0) MZ) (k := 100) (n := 3000) ((q, h, x, r, yS (k1 0) x4 x5 (w0 0), d)) hx hb hr hlocks dX7_init_109 trivial (hP.sub (ws' := w7 cy z0 q h x r ((yS (k1 0) x4 x5 (w0 0))) d (fun _ => 0) 0 (fun _ => MZ) (fun _ => some 0) (fun _ => false) (fun _ => 0) MZ) [0, 48, 49, 10, 11, 12, 13, 14, 15, 16, 17, 18, 19, 20, 21, 22, 23, 24, 25, 26, 27, 28, 29, 30, 31, 32, 33, 34, 35, 36, 37, 38, 39, 40, 41, 42, 43, 44, 45, 46, 47, 1, 2, 3, 4, 5, 6, 7, 8, 9, 50, 51, 52, 53] rfl) (hD.sub (ws' := w7 cy z0 q h x r ((yS (k1 0) x4 x5 (w0 0))) d (fun _ => 0) 0 (fun _ => MZ) (fun _ => some 0) (fun _ => false) (fun _ => 0) MZ) [0, 48, 49, 10, 11, 12, 13, 14, 15, 16, 17, 18, 19, 20, 21, 22, 23, 24, 25, 26, 27, 28, 29, 30, 31, 32, 33, 34, 35, 36, 37, 38, 39, 40, 41, 42, 43, 44, 45, 46, 47, 1, 2, 3, 4, 5, 6, 7, 8, 9, 50, 51, 52, 53] (by decide) rfl) hS (Nat.le_of_ble_eq_true rfl) (Nat.le_of_ble_eq_true rfl)
