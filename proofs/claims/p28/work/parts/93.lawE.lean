theorem iL_law_X7 : ∀ w ∈ u_ws RX7 TX7 9, w ∈ wsL_law := inlX7
theorem gI_Z : (fun i9 => nI ((gI MZ) i9)) = fun _ => 0 := funext fun i => by
  match i with
  | 0 => rfl
  | 1 => rfl
  | 2 => rfl
  | 3 => rfl
  | n + 4 => rfl
theorem aI_Z : aI MZ = fun _ => 0 := funext fun j => by
  unfold aI
  split
  · rfl
  · split
    · rfl
    · split
      · rfl
      · rfl
theorem f2d_Z : FP.f2d 0 = 0 := by decide +kernel
theorem vD_Z : vD MZ = fun _ => 0 := funext fun j => by
  unfold vD
  split
  · exact f2d_Z
  · exact f2d_Z
theorem tD_Z : tD MZ = fun _ => 0 := funext fun j => by
  unfold tD
  split
  · exact f2d_Z
  · exact f2d_Z
theorem gI_2 (u0 u1 : Nat) : va_up (gI MZ) 0 2 = gI (added (added MZ u0) u1) := funext fun i => by
  match i with
  | 0 => rfl
  | 1 => rfl
  | 2 => rfl
  | 3 => rfl
  | n + 4 => rfl
theorem ar_of {s : State} {args : Array Value} {ty : FieldType} (h : (Cond.arrayClass ty).before args s = true) : ∃ cA, ArrOfT s cA ty ∧ s.vm.findClass ("[" ++ ty.toString) = some cA := by
  obtain ⟨cA, kA, comp, h1, h2, h3⟩ := Cond.arrayClass_spec h
  exact ⟨cA, fun n z => ⟨fun k h => (by cases h), kA, h2, comp, h3⟩, h1⟩
theorem ao_of {s : State} {C : String} (h : va_AO C s) : ∃ cA, ArrOfT s cA (.object C) ∧ va_RA s cA (.object C) := by
  obtain ⟨comp, c, k, h1, h2, h3, h4, h5⟩ := Cond.arrayOver_spec h
  exact ⟨c, fun n z => ⟨fun k h => (by cases h), k, h3, comp, h4⟩, k, comp, h3, h4, h1, h5⟩
theorem law_known {s : State} {b : Nat} (hts : ∀ w ∈ lw_tbl, w.before #[Value.ref b] s = true) : ∃ (G : va_G) (cy : Nat → ClassId), oN G cy s := by
  have hw : ∀ w ∈ wsL_law, w.before #[Value.ref b] s = true := fun w h => hts w (wsL_law_in w h)
  obtain ⟨c0, iS0, hKn0⟩ := u_known (C := RX1) (T := TX1) (N := 13) (n := 13) hw inlX1 (hw (.instantiable RX1 13) (by decide +kernel))
  obtain ⟨c1, iS1, hKn1⟩ := u_known (C := RX2) (T := TX2) (N := 2) (n := 2) hw inlX2 (hw (.instantiable RX2 2) (by decide +kernel))
  obtain ⟨c2, iS2, hKn2⟩ := u_known (C := RX3) (T := TX3) (N := 8) (n := 8) hw inlX3 (hw (.instantiable RX3 8) (by decide +kernel))
  obtain ⟨c3, iS3, hKn3⟩ := u_known (C := RX4) (T := TX4) (N := 4) (n := 4) hw inlX4 (hw (.instantiable RX4 4) (by decide +kernel))
  obtain ⟨c4, iS4, hKn4⟩ := u_known (C := RX5) (T := TX5) (N := 2) (n := 2) hw inlX5 (hw (.instantiable RX5 2) (by decide +kernel))
  obtain ⟨c5, iS5, hKn5⟩ := u_known (C := RX6) (T := TX6) (N := 2) (n := 2) hw inlX6 (hw (.instantiable RX6 2) (by decide +kernel))
  obtain ⟨c6, iS6, hKn6⟩ := u_known (C := RX7) (T := TX7) (N := 9) (n := 9) hw inlX7 (hw (.instantiable RX7 9) (by decide +kernel))
  have hAO : va_AO "NailedOrders$Door" s := va_AO.of (hts (.arrayOver (.object "NailedOrders$Door")) (List.mem_of_getElem? (i := 108) rfl))
  obtain ⟨a0, hA0, hB0⟩ := ar_of (hts (.arrayClass .int) (List.mem_of_getElem? (i := 99) rfl))
  obtain ⟨a1, hA1, hB1⟩ := ar_of (hts (.arrayClass .float) (List.mem_of_getElem? (i := 100) rfl))
  obtain ⟨a2, hA2, hB2⟩ := ar_of (hts (.arrayClass .boolean) (List.mem_of_getElem? (i := 197) rfl))
  obtain ⟨a3, hA3, hB3⟩ := ar_of (hts (.arrayClass .double) (List.mem_of_getElem? (i := 408) rfl))
  obtain ⟨a4, hA4, hB4⟩ := ao_of hAO
  obtain ⟨a5, hA5, hB5⟩ := ar_of (hts (.arrayClass .char) (List.mem_of_getElem? (i := 131) rfl))
  refine ⟨(fun k => if k = 0 then c0 else if k = 1 then c1 else if k = 2 then c2 else if k = 3 then c3 else if k = 4 then c4 else if k = 5 then c5 else c6, fun k => if k = 0 then iS0 else if k = 1 then iS1 else if k = 2 then iS2 else if k = 3 then iS3 else if k = 4 then iS4 else if k = 5 then iS5 else iS6), fun k => if k = 0 then a0 else if k = 1 then a1 else if k = 2 then a2 else if k = 3 then a3 else if k = 4 then a4 else a5, ⟨fun k q hq => ?_, fun k q hq => ?_⟩, hAO, va_Nw.of rfl (hts _ (List.mem_of_getElem? (i := 30) rfl)), va_Nw.of rfl (hts _ (List.mem_of_getElem? (i := 109) rfl)), va_Nw.of rfl (hts _ (List.mem_of_getElem? (i := 120) rfl)), va_Nw.of rfl (hts _ (List.mem_of_getElem? (i := 162) rfl)), va_Nw.of rfl (hts _ (List.mem_of_getElem? (i := 167) rfl))⟩
  · match k, hq with
    | 0, hq => cases hq; exact hKn0
    | 1, hq => cases hq; exact hKn1
    | 2, hq => cases hq; exact hKn2
    | 3, hq => cases hq; exact hKn3
    | 4, hq => cases hq; exact hKn4
    | 5, hq => cases hq; exact hKn5
    | 6, hq => cases hq; exact hKn6
    | k + 7, hq => exact absurd hq (by simp [vwCl])
  · match k, hq with
    | 0, hq => cases hq; exact ⟨hA0, hB0⟩
    | 1, hq => cases hq; exact ⟨hA1, hB1⟩
    | 2, hq => cases hq; exact ⟨hA2, hB2⟩
    | 3, hq => cases hq; exact ⟨hA3, hB3⟩
    | 4, hq => cases hq; exact ⟨hA4, hB4⟩
    | 5, hq => cases hq; exact ⟨hA5, hB5⟩
    | k + 6, hq => exact absurd hq (by simp [oT])
set_option maxHeartbeats 16000000 in
set_option maxRecDepth 100000 in
/-- the law from its entry -/
theorem law_start {p : Program} {e : Env} {s : State} {m : MethodId} {below : List Frame} {meth : Method} {c : Code} (l : Launch) {b Ln : Nat} {xs : Nat → Int32} (hLn : Ln ≤ 260) (C0 : lw_At p s m meth c b Ln xs) : W p l e room_1 s m #[Value.ref b] below meth c s.heap [] 0 0 (lw_Z below #[Value.ref b] s) (entryFrame m ([Value.ref b] : List Value).toArray 10) := by
  have hC0 := C0
  obtain ⟨hx, hb, hr, hml, hown, hts0, hX, hbl, hlocks, hgv⟩ := C0
  have hown : s.vm.findClass RL = some m.cls := hown
  have hts : ∀ w ∈ wsL_law, w.before #[Value.ref b] s = true := fun w h => hts0 w (wsL_law_in w h)
  obtain ⟨G, cy, hN9⟩ := law_known hts0
  have hK := hN9.1
  obtain ⟨A, hAe⟩ : ∃ A : Nat → Prop, A = fun q9 : Nat => s.heap.size ≤ q9 := ⟨_, rfl⟩
  have hA : ∀ q : Nat, s.heap.size ≤ q → A q := fun q h => by rw [hAe]; exact h
  have hAs : ∀ q : Nat, A q → s.heap.size ≤ q := fun q h => by rw [hAe] at h; exact h
  have hbA : ¬ A b := fun z9 => absurd (hAs b z9) (Nat.not_le.mpr hbl)
  have hS : va_S A s.heap s.heap [] := va_S.rf
  have hP : va_P G vwCl [] s.heap := fun k q h => by simp at h
  have hD : va_D A [] := ⟨fun i j p q h => by simp at h, fun k q h => by simp at h⟩
  have hl := lv_entry ([.ref b]) (n := 10) (Nat.le_of_ble_eq_true rfl)
  rw [lg_entry_eq]
  generalize (lg_sl ([.ref b]) ++ List.replicate (10 - (lg_sl ([.ref b])).length) Slot.unset).toArray = ls at hl ⊢
  have hl : lv_has ls 10 [(0, .ref b)] := hl
  refine va_new (D := G) (ci := 6) (fs := [.null, .null, .int 0, .null, .null, .null, .null, .null, .null]) (C := RX7) (T := TX7) (N := 9) hx hb hts iL_law_X7 tyX7 tyX7_ok hown (hts (.classLink RL 30 RX7) (by decide +kernel)) (hts (.instantiable RX7 9) (by decide +kernel)) (hts (.initialized RX7) (by decide +kernel)) hK hP hD hS hA rfl (fun j hj => by rcases (show j = 0 ∨ j = 1 ∨ j = 2 ∨ j = 3 ∨ j = 4 ∨ j = 5 ∨ j = 6 ∨ j = 7 ∨ j = 8 by omega) with rfl | rfl | rfl | rfl | rfl | rfl | rfl | rfl | rfl <;> rfl) (Nat.le_of_ble_eq_true rfl) (Nat.le_of_ble_eq_true rfl) dL_law_0 (fun z H hP hD hS => ?_)
  have hP : va_P G vwCl ([(z, .inr (6, [.null, .null, .int 0, .null, .null, .null, .null, .null, .null]))]) H := hP
  have hD : va_D A ([(z, .inr (6, [.null, .null, .int 0, .null, .null, .null, .null, .null, .null]))]) := hD
  refine lv_dup hx hb dL_law_3 rfl ?_
  have hPc := hP.sub (ws' := n0S z) [0] rfl
  have hDc := hD.sub (ws' := n0S z) [0] (by decide) rfl
  have hFc := va_free (wc := n0S z) hD hS hA [0] rfl
  refine va_callv (va_runI (As := []) (rest := [.ref z]) ⟨hx, hb, hml, hown, hts⟩ (kX7_init l G cy hPc hDc) (cwI 0 hts gL_law_X7_init rfl rfl rfl (hts (.initialized RX7) (by decide +kernel)) (hts (.methodLink RL 106 yX7_init) (by decide +kernel)) (hts (.instanceMethod yX7_init) (by decide +kernel)) rfl (by decide +kernel) ⟨Nat.le_of_ble_eq_true rfl, Nat.le_of_ble_eq_true rfl⟩) ⟨pN_blind, pN_at hN9⟩ rfl rfl hl.1 rfl (lv_room (Nat.le_of_ble_eq_true rfl)) dL_law_4 ⟨Nat.le_of_ble_eq_true rfl, Nat.le_of_ble_eq_true rfl⟩) hS (fun q _ h => hFc q h) hFc (fun u_ t_ H locs ht hvm hw hB hz1 hk1 hS => ?_)
  obtain ⟨q, h, x, r, y, d⟩ := u_
  have hB : va_P G vwCl (w7 cy z q h x r y d (fun _ => 0) 0 (fun _ => MZ) (fun _ => some 0) (fun _ => false) (fun _ => 0) MZ) t_.heap ∧ va_D (va_A (n0S z) _) (w7 cy z q h x r y d (fun _ => 0) 0 (fun _ => MZ) (fun _ => some 0) (fun _ => false) (fun _ => 0) MZ) := hB
  rw [ht] at hB
  obtain ⟨hP1, hD1⟩ := hB
  obtain ⟨hP, hD⟩ := va_join (wr := []) hP hD [0] [] rfl rfl (by decide) (by decide) hk1 hFc hP1 hD1
  have hP : va_P G vwCl (w7 cy z q h x r y d (fun _ => 0) 0 (fun _ => MZ) (fun _ => some 0) (fun _ => false) (fun _ => 0) MZ) H := hP
  have hD : va_D A (w7 cy z q h x r y d (fun _ => 0) 0 (fun _ => MZ) (fun _ => some 0) (fun _ => false) (fun _ => 0) MZ) := hD
  refine lv_astore_n (lv' := [(1, .ref z), (0, .ref b)]) hx hb dL_law_7 rfl hl (by decide) rfl (fun ls hl => ?_)
  refine lv_iconst (v := nI 5) hx hb dL_law_8 (by decide +kernel) ?_
  refine o_newI hx hb (hts (.arrayClass .int) (by decide +kernel)) hK hP hD hS hA (n := 5) (by decide) (Nat.le_of_ble_eq_true rfl) (Nat.le_of_ble_eq_true rfl) dL_law_9 (fun l0 H hP hD hS => ?_)
  have hP : va_P G vwCl (w7 cy z q h x r y d (fun _ => 0) 0 (fun _ => MZ) (fun _ => some 0) (fun _ => false) (fun _ => 0) MZ ++ [(l0, eI cy 5 (fun _ => 0))]) H := hP
  have hD : va_D A (w7 cy z q h x r y d (fun _ => 0) 0 (fun _ => MZ) (fun _ => some 0) (fun _ => false) (fun _ => 0) MZ ++ [(l0, eI cy 5 (fun _ => 0))]) := hD
  refine lv_astore_n (lv' := [(2, .ref l0), (1, .ref z), (0, .ref b)]) hx hb dL_law_11 rfl hl (by decide) rfl (fun ls hl => ?_)
  refine lv_bipush (v := nI 6) hx hb dL_law_12 (by decide +kernel) ?_
  refine o_newI hx hb (hts (.arrayClass .int) (by decide +kernel)) hK hP hD hS hA (n := 6) (by decide) (Nat.le_of_ble_eq_true rfl) (Nat.le_of_ble_eq_true rfl) dL_law_14 (fun l1 H hP hD hS => ?_)
  have hP : va_P G vwCl (w7 cy z q h x r y d (fun _ => 0) 0 (fun _ => MZ) (fun _ => some 0) (fun _ => false) (fun _ => 0) MZ ++ [(l0, eI cy 5 (fun _ => 0))] ++ [(l1, eI cy 6 (fun _ => 0))]) H := hP
  have hD : va_D A (w7 cy z q h x r y d (fun _ => 0) 0 (fun _ => MZ) (fun _ => some 0) (fun _ => false) (fun _ => 0) MZ ++ [(l0, eI cy 5 (fun _ => 0))] ++ [(l1, eI cy 6 (fun _ => 0))]) := hD
  refine lv_astore_n (lv' := [(3, .ref l1), (2, .ref l0), (1, .ref z), (0, .ref b)]) hx hb dL_law_16 rfl hl (by decide) rfl (fun ls hl => ?_)
  refine lv_bipush (v := nI 60) hx hb dL_law_17 (by decide +kernel) ?_
  refine o_newI hx hb (hts (.arrayClass .int) (by decide +kernel)) hK hP hD hS hA (n := 60) (by decide) (Nat.le_of_ble_eq_true rfl) (Nat.le_of_ble_eq_true rfl) dL_law_19 (fun l2 H hP hD hS => ?_)
  have hP : va_P G vwCl (w7 cy z q h x r y d (fun _ => 0) 0 (fun _ => MZ) (fun _ => some 0) (fun _ => false) (fun _ => 0) MZ ++ [(l0, eI cy 5 (fun _ => 0))] ++ [(l1, eI cy 6 (fun _ => 0))] ++ [(l2, eI cy 60 (fun _ => 0))]) H := hP
  have hD : va_D A (w7 cy z q h x r y d (fun _ => 0) 0 (fun _ => MZ) (fun _ => some 0) (fun _ => false) (fun _ => 0) MZ ++ [(l0, eI cy 5 (fun _ => 0))] ++ [(l1, eI cy 6 (fun _ => 0))] ++ [(l2, eI cy 60 (fun _ => 0))]) := hD
  refine lv_astore (lv' := [(4, .ref l2), (3, .ref l1), (2, .ref l0), (1, .ref z), (0, .ref b)]) hx hb dL_law_21 hl (by decide) rfl (fun ls hl => ?_)
  refine lv_bipush (v := nI 30) hx hb dL_law_23 (by decide +kernel) ?_
  refine o_newD hx hb (hts (.arrayClass .double) (by decide +kernel)) hK hP hD hS hA (n := 30) (by decide) (Nat.le_of_ble_eq_true rfl) (Nat.le_of_ble_eq_true rfl) dL_law_25 (fun l3 H hP hD hS => ?_)
  have hP : va_P G vwCl (w7 cy z q h x r y d (fun _ => 0) 0 (fun _ => MZ) (fun _ => some 0) (fun _ => false) (fun _ => 0) MZ ++ [(l0, eI cy 5 (fun _ => 0))] ++ [(l1, eI cy 6 (fun _ => 0))] ++ [(l2, eI cy 60 (fun _ => 0))] ++ [(l3, eD cy 30 (fun _ => 0))]) H := hP
  have hD : va_D A (w7 cy z q h x r y d (fun _ => 0) 0 (fun _ => MZ) (fun _ => some 0) (fun _ => false) (fun _ => 0) MZ ++ [(l0, eI cy 5 (fun _ => 0))] ++ [(l1, eI cy 6 (fun _ => 0))] ++ [(l2, eI cy 60 (fun _ => 0))] ++ [(l3, eD cy 30 (fun _ => 0))]) := hD
  refine lv_astore (lv' := [(5, .ref l3), (4, .ref l2), (3, .ref l1), (2, .ref l0), (1, .ref z), (0, .ref b)]) hx hb dL_law_27 hl (by decide) rfl (fun ls hl => ?_)
  refine lv_bipush (v := nI 25) hx hb dL_law_29 (by decide +kernel) ?_
  refine o_newD hx hb (hts (.arrayClass .double) (by decide +kernel)) hK hP hD hS hA (n := 25) (by decide) (Nat.le_of_ble_eq_true rfl) (Nat.le_of_ble_eq_true rfl) dL_law_31 (fun l4 H hP hD hS => ?_)
  have hP : va_P G vwCl (w7 cy z q h x r y d (fun _ => 0) 0 (fun _ => MZ) (fun _ => some 0) (fun _ => false) (fun _ => 0) MZ ++ [(l0, eI cy 5 (fun _ => 0))] ++ [(l1, eI cy 6 (fun _ => 0))] ++ [(l2, eI cy 60 (fun _ => 0))] ++ [(l3, eD cy 30 (fun _ => 0))] ++ [(l4, eD cy 25 (fun _ => 0))]) H := hP
  have hD : va_D A (w7 cy z q h x r y d (fun _ => 0) 0 (fun _ => MZ) (fun _ => some 0) (fun _ => false) (fun _ => 0) MZ ++ [(l0, eI cy 5 (fun _ => 0))] ++ [(l1, eI cy 6 (fun _ => 0))] ++ [(l2, eI cy 60 (fun _ => 0))] ++ [(l3, eD cy 30 (fun _ => 0))] ++ [(l4, eD cy 25 (fun _ => 0))]) := hD
  refine lv_astore (lv' := [(6, .ref l4), (5, .ref l3), (4, .ref l2), (3, .ref l1), (2, .ref l0), (1, .ref z), (0, .ref b)]) hx hb dL_law_33 hl (by decide) rfl (fun ls hl => ?_)
  have hP := bi_P hP
  have hD := bi_D hD
  obtain ⟨L, e0, e1, e2, e3, e4⟩ : ∃ L : Nat → Nat, L 0 = l0 ∧ L 1 = l1 ∧ L 2 = l2 ∧ L 3 = l3 ∧ L 4 = l4 := ⟨fun k => if k = 0 then l0 else if k = 1 then l1 else if k = 2 then l2 else if k = 3 then l3 else l4, rfl, rfl, rfl, rfl, rfl⟩
  subst e0
  subst e1
  subst e2
  subst e3
  subst e4
  have hP : va_P G vwCl (([oSy z q h x r y] ++ wWe cy x (fun _ => 0)) ++ (wHi cy h 0 d (fun _ => MZ) ++ (wDo cy q MZ ++ (wRe cy r (q 0) (fun _ => some 0) (fun _ => false) (fun _ => 0) ++ [(L 0, eI cy 5 (fun i9 => nI ((gI MZ) i9))), (L 1, eI cy 6 (fun k9 => nI ((mR MZ) k9))), (L 2, eI cy 60 (aI MZ)), (L 3, eD cy 30 (vD MZ)), (L 4, eD cy 25 (tD MZ))])))) H := by rw [gI_Z, aI_Z, vD_Z, tD_Z]; exact hP
  have hD : va_D A (([oSy z q h x r y] ++ wWe cy x (fun _ => 0)) ++ (wHi cy h 0 d (fun _ => MZ) ++ (wDo cy q MZ ++ (wRe cy r (q 0) (fun _ => some 0) (fun _ => false) (fun _ => 0) ++ [(L 0, eI cy 5 (fun i9 => nI ((gI MZ) i9))), (L 1, eI cy 6 (fun k9 => nI ((mR MZ) k9))), (L 2, eI cy 60 (aI MZ)), (L 3, eD cy 30 (vD MZ)), (L 4, eD cy 25 (tD MZ))])))) := by rw [gI_Z, aI_Z, vD_Z, tD_Z]; exact hD
  refine lv_iconst (v := nI 0) hx hb dL_law_35 (by decide +kernel) ?_
  refine lv_istore (lv' := [(7, .int (nI 0)), (6, .ref (L 4)), (5, .ref (L 3)), (4, .ref (L 2)), (3, .ref (L 1)), (2, .ref (L 0)), (1, .ref z), (0, .ref b)]) hx hb dL_law_36 hl (by decide) rfl (fun ls hl => ?_)
  refine lv_iload hx hb dL_law_38 (lv_at hl 0 rfl) ?_
  refine lv_iconst (v := nI 2) hx hb dL_law_40 (by decide +kernel) ?_
  refine o_icmp_ge (tgt := 81) hx hb dL_law_41 (by decide) (by omega) (by omega) (fun c41 => ?_) (fun c41 => ?_)
  · exact absurd c41 (by decide)
  · refine lv_aload_n hx hb dL_law_44 rfl (lv_at hl 4 rfl) ?_
    refine lv_iload hx hb dL_law_45 (lv_at hl 0 rfl) ?_
    refine lv_iconst (v := nI 1) hx hb dL_law_47 (by decide +kernel) ?_
    refine lv_aload_n hx hb dL_law_48 rfl (lv_at hl 7 rfl) ?_
    refine lv_iload hx hb dL_law_49 (lv_at hl 0 rfl) ?_
    refine o_runA (va_runS (As := [.ref b, .int (nI 0)]) (rest := [.int (nI 1), .int (nI 0), .ref (L 1)]) ⟨hx, hb, hml, hown, hts⟩ (kL_cell (H0 := H) (b := b) (Ln := Ln) (xs := xs) l 0 (by decide) (by omega) (Nat.lt_of_lt_of_le hbl hS.1)) (va_cwS 2 hts gL_law_L_cell rfl rfl rfl (by decide +kernel) ⟨Nat.le_of_ble_eq_true rfl, Nat.le_of_ble_eq_true rfl⟩) ⟨cell_blind, cell_at (hX.kept (hS.2.1 b hbl hbA))⟩ rfl rfl hl.1 rfl (lv_room (Nat.le_of_ble_eq_true rfl)) dL_law_51 ⟨Nat.le_of_ble_eq_true rfl, Nat.le_of_ble_eq_true rfl⟩) (fun v0 => ?_)
    obtain ⟨u0, hu0⟩ : ∃ n, 1 + lwN v0 % 5 = n := ⟨_, rfl⟩
    have hv0 : 1 ≤ u0 ∧ u0 ≤ 5 := by omega
    refine lv_iconst (v := nI 5) hx hb dL_law_54 (by decide +kernel) ?_
    refine o_SI (As := [.int v0, .int (nI 5)]) (rest := [.int (nI 1), .int (nI 0), .ref (L 1)]) ⟨hx, hb, hml, hown, hts⟩ (kL_low l G cy v0 5 (by decide) (by decide)) (va_cwS 2 hts gL_law_L_low rfl rfl rfl (by decide +kernel) ⟨Nat.le_of_ble_eq_true rfl, Nat.le_of_ble_eq_true rfl⟩) hK rfl hl.1 rfl (Nat.le_of_ble_eq_true rfl) dL_law_55 ⟨Nat.le_of_ble_eq_true rfl, Nat.le_of_ble_eq_true rfl⟩ ?_
    refine lv_iadd hx hb dL_law_58 ?_
    rw [nI_add, hu0]
    refine o_iast hx hb hK hP hD hS 55 0 rfl rfl 0 (by omega) (by decide) (upd_nI (mR MZ) 0 u0) dL_law_59 (fun H locs hP hD hS => ?_)
    have hP : va_P G vwCl (([oSy z q h x r y] ++ wWe cy x (fun _ => 0)) ++ (wHi cy h 0 d (fun _ => MZ) ++ (wDo cy q MZ ++ (wRe cy r (q 0) (fun _ => some 0) (fun _ => false) (fun _ => 0) ++ [(L 0, eI cy 5 (fun i9 => nI ((gI MZ) i9))), (L 1, eI cy 6 (fun k9 => nI ((va_up (mR MZ) 0 u0) k9))), (L 2, eI cy 60 (aI MZ)), (L 3, eD cy 30 (vD MZ)), (L 4, eD cy 25 (tD MZ))])))) H := hP
    have hD : va_D A (([oSy z q h x r y] ++ wWe cy x (fun _ => 0)) ++ (wHi cy h 0 d (fun _ => MZ) ++ (wDo cy q MZ ++ (wRe cy r (q 0) (fun _ => some 0) (fun _ => false) (fun _ => 0) ++ [(L 0, eI cy 5 (fun i9 => nI ((gI MZ) i9))), (L 1, eI cy 6 (fun k9 => nI ((va_up (mR MZ) 0 u0) k9))), (L 2, eI cy 60 (aI MZ)), (L 3, eD cy 30 (vD MZ)), (L 4, eD cy 25 (tD MZ))])))) := hD
    refine lv_aload_n hx hb dL_law_60 rfl (lv_at hl 6 rfl) ?_
    refine lv_aload_n hx hb dL_law_61 rfl (lv_at hl 4 rfl) ?_
    refine lv_iload hx hb dL_law_62 (lv_at hl 0 rfl) ?_
    refine o_iald hx hb hK hP 55 0 rfl rfl 0 (by omega) (by decide) dL_law_64 ?_
    rw [va_us]
    have hPc : va_P G vwCl ([oSy z q h x r y] ++ (wHi cy h 0 d (fun _ => MZ) ++ wDo cy q MZ)) H := bp_P hP
    have hDc : va_D A ([oSy z q h x r y] ++ (wHi cy h 0 d (fun _ => MZ) ++ wDo cy q MZ)) := bp_D hD
    have hFc := bz_F (sz := H.size) hDc hA hS.1
    refine va_calli (va_runV (As := [.int (nI u0)]) (rest := []) ⟨hx, hb, hml, hown, hts⟩ (kX7_addPerson l G cy (Nat.zero_le 4) WB_Z hPc hDc u0 hv0 (show 0 < 6 by decide)) (cwV 1 hts gL_law_X7_addPerson rfl rfl rfl (by decide +kernel) ⟨Nat.le_of_ble_eq_true rfl, Nat.le_of_ble_eq_true rfl⟩) ⟨pR_blind, va_recv hK hP (ci := 6) (q0 := 0) rfl rfl, pR_at hK⟩ rfl rfl hl.1 rfl (lv_room (Nat.le_of_ble_eq_true rfl)) dL_law_65 ⟨Nat.le_of_ble_eq_true rfl, Nat.le_of_ble_eq_true rfl⟩) hS (fun q _ h => hFc q h) hFc (fun r_ u_ t_ H locs ht hvm hw_ hB hz1 hk1 hS => ?_)
    obtain ⟨k1, d1, E1⟩ := u_
    obtain ⟨hr_, hk5⟩ := hw_
    have hk5 : k1 ≤ 4 := hk5
    have hr_ : r_ = nI 0 := hr_
    subst hr_
    have hB : va_P G vwCl ([oSy z q h x r y] ++ (wHi cy h k1 d1 E1 ++ wDo cy q (added MZ u0))) t_.heap ∧ va_D (va_A ([oSy z q h x r y] ++ (wHi cy h 0 d (fun _ => MZ) ++ wDo cy q MZ)) _) ([oSy z q h x r y] ++ (wHi cy h k1 d1 E1 ++ wDo cy q (added MZ u0))) := hB
    rw [ht] at hB
    obtain ⟨hP1, hD1⟩ := hB
    obtain ⟨hP, hD⟩ := bp_J hP hD hk1 hFc hP1 hD1
    have hP : va_P G vwCl (([oSy z q h x r y] ++ wWe cy x (fun _ => 0)) ++ (wHi cy h k1 d1 E1 ++ (wDo cy q (added MZ u0) ++ (wRe cy r (q 0) (fun _ => some 0) (fun _ => false) (fun _ => 0) ++ [(L 0, eI cy 5 (fun i9 => nI ((gI MZ) i9))), (L 1, eI cy 6 (fun k9 => nI ((va_up (mR MZ) 0 u0) k9))), (L 2, eI cy 60 (aI MZ)), (L 3, eD cy 30 (vD MZ)), (L 4, eD cy 25 (tD MZ))])))) H := hP
    have hD : va_D A (([oSy z q h x r y] ++ wWe cy x (fun _ => 0)) ++ (wHi cy h k1 d1 E1 ++ (wDo cy q (added MZ u0) ++ (wRe cy r (q 0) (fun _ => some 0) (fun _ => false) (fun _ => 0) ++ [(L 0, eI cy 5 (fun i9 => nI ((gI MZ) i9))), (L 1, eI cy 6 (fun k9 => nI ((va_up (mR MZ) 0 u0) k9))), (L 2, eI cy 60 (aI MZ)), (L 3, eD cy 30 (vD MZ)), (L 4, eD cy 25 (tD MZ))])))) := hD
    refine lv_iload hx hb dL_law_68 (lv_at hl 0 rfl) ?_
    refine lv_icmp_eq (tgt := 75) hx hb dL_law_70 (by decide) (fun c70 => ?_) (fun c70 => ?_)
    · refine lv_iinc (v := nI 1) (lv' := [(7, .int (nI 1)), (6, .ref (L 4)), (5, .ref (L 3)), (4, .ref (L 2)), (3, .ref (L 1)), (2, .ref (L 0)), (1, .ref z), (0, .ref b)]) hx hb dL_law_75 hl (k := 0) rfl (nI_1 0) (by decide) rfl (fun ls hl => ?_)
      refine lv_goto (tgt := 38) hx hb dL_law_78 (by decide) ?_
      refine lv_iload hx hb dL_law_38 (lv_at hl 0 rfl) ?_
      refine lv_iconst (v := nI 2) hx hb dL_law_40 (by decide +kernel) ?_
      refine o_icmp_ge (tgt := 81) hx hb dL_law_41 (by decide) (by omega) (by omega) (fun c41 => ?_) (fun c41 => ?_)
      · exact absurd c41 (by decide)
      · refine lv_aload_n hx hb dL_law_44 rfl (lv_at hl 4 rfl) ?_
        refine lv_iload hx hb dL_law_45 (lv_at hl 0 rfl) ?_
        refine lv_iconst (v := nI 1) hx hb dL_law_47 (by decide +kernel) ?_
        refine lv_aload_n hx hb dL_law_48 rfl (lv_at hl 7 rfl) ?_
        refine lv_iload hx hb dL_law_49 (lv_at hl 0 rfl) ?_
        refine o_runA (va_runS (As := [.ref b, .int (nI 1)]) (rest := [.int (nI 1), .int (nI 1), .ref (L 1)]) ⟨hx, hb, hml, hown, hts⟩ (kL_cell (H0 := H) (b := b) (Ln := Ln) (xs := xs) l 1 (by decide) (by omega) (Nat.lt_of_lt_of_le hbl hS.1)) (va_cwS 2 hts gL_law_L_cell rfl rfl rfl (by decide +kernel) ⟨Nat.le_of_ble_eq_true rfl, Nat.le_of_ble_eq_true rfl⟩) ⟨cell_blind, cell_at (hX.kept (hS.2.1 b hbl hbA))⟩ rfl rfl hl.1 rfl (lv_room (Nat.le_of_ble_eq_true rfl)) dL_law_51 ⟨Nat.le_of_ble_eq_true rfl, Nat.le_of_ble_eq_true rfl⟩) (fun v1 => ?_)
        obtain ⟨u1, hu1⟩ : ∃ n, 1 + lwN v1 % 5 = n := ⟨_, rfl⟩
        have hv1 : 1 ≤ u1 ∧ u1 ≤ 5 := by omega
        refine lv_iconst (v := nI 5) hx hb dL_law_54 (by decide +kernel) ?_
        refine o_SI (As := [.int v1, .int (nI 5)]) (rest := [.int (nI 1), .int (nI 1), .ref (L 1)]) ⟨hx, hb, hml, hown, hts⟩ (kL_low l G cy v1 5 (by decide) (by decide)) (va_cwS 2 hts gL_law_L_low rfl rfl rfl (by decide +kernel) ⟨Nat.le_of_ble_eq_true rfl, Nat.le_of_ble_eq_true rfl⟩) hK rfl hl.1 rfl (Nat.le_of_ble_eq_true rfl) dL_law_55 ⟨Nat.le_of_ble_eq_true rfl, Nat.le_of_ble_eq_true rfl⟩ ?_
        refine lv_iadd hx hb dL_law_58 ?_
        rw [nI_add, hu1]
        refine o_iast hx hb hK hP hD hS 55 0 rfl rfl 1 (by omega) (by decide) (upd_nI (va_up (mR MZ) 0 u0) 1 u1) dL_law_59 (fun H locs hP hD hS => ?_)
        have hP : va_P G vwCl (([oSy z q h x r y] ++ wWe cy x (fun _ => 0)) ++ (wHi cy h k1 d1 E1 ++ (wDo cy q (added MZ u0) ++ (wRe cy r (q 0) (fun _ => some 0) (fun _ => false) (fun _ => 0) ++ [(L 0, eI cy 5 (fun i9 => nI ((gI MZ) i9))), (L 1, eI cy 6 (fun k9 => nI ((va_up (va_up (mR MZ) 0 u0) 1 u1) k9))), (L 2, eI cy 60 (aI MZ)), (L 3, eD cy 30 (vD MZ)), (L 4, eD cy 25 (tD MZ))])))) H := hP
        have hD : va_D A (([oSy z q h x r y] ++ wWe cy x (fun _ => 0)) ++ (wHi cy h k1 d1 E1 ++ (wDo cy q (added MZ u0) ++ (wRe cy r (q 0) (fun _ => some 0) (fun _ => false) (fun _ => 0) ++ [(L 0, eI cy 5 (fun i9 => nI ((gI MZ) i9))), (L 1, eI cy 6 (fun k9 => nI ((va_up (va_up (mR MZ) 0 u0) 1 u1) k9))), (L 2, eI cy 60 (aI MZ)), (L 3, eD cy 30 (vD MZ)), (L 4, eD cy 25 (tD MZ))])))) := hD
        refine lv_aload_n hx hb dL_law_60 rfl (lv_at hl 6 rfl) ?_
        refine lv_aload_n hx hb dL_law_61 rfl (lv_at hl 4 rfl) ?_
        refine lv_iload hx hb dL_law_62 (lv_at hl 0 rfl) ?_
        refine o_iald hx hb hK hP 55 0 rfl rfl 1 (by omega) (by decide) dL_law_64 ?_
        rw [va_us]
        have hPc : va_P G vwCl ([oSy z q h x r y] ++ (wHi cy h k1 d1 E1 ++ wDo cy q (added MZ u0))) H := bp_P hP
        have hDc : va_D A ([oSy z q h x r y] ++ (wHi cy h k1 d1 E1 ++ wDo cy q (added MZ u0))) := bp_D hD
        have hFc := bz_F (sz := H.size) hDc hA hS.1
        refine va_calli (va_runV (As := [.int (nI u1)]) (rest := []) ⟨hx, hb, hml, hown, hts⟩ (kX7_addPerson l G cy hk5 (WB_added WB_Z hv0.2 (show 0 < 6 by decide)) hPc hDc u1 hv1 (show 0 + 1 < 6 by decide)) (cwV 1 hts gL_law_X7_addPerson rfl rfl rfl (by decide +kernel) ⟨Nat.le_of_ble_eq_true rfl, Nat.le_of_ble_eq_true rfl⟩) ⟨pR_blind, va_recv hK hP (ci := 6) (q0 := 0) rfl rfl, pR_at hK⟩ rfl rfl hl.1 rfl (lv_room (Nat.le_of_ble_eq_true rfl)) dL_law_65 ⟨Nat.le_of_ble_eq_true rfl, Nat.le_of_ble_eq_true rfl⟩) hS (fun q _ h => hFc q h) hFc (fun r_ u_ t_ H locs ht hvm hw_ hB hz1 hk1 hS => ?_)
        obtain ⟨k2, d2, E2⟩ := u_
        obtain ⟨hr_, hk6⟩ := hw_
        have hk6 : k2 ≤ 4 := hk6
        have hr_ : r_ = nI 1 := hr_
        subst hr_
        have hB : va_P G vwCl ([oSy z q h x r y] ++ (wHi cy h k2 d2 E2 ++ wDo cy q (added (added MZ u0) u1))) t_.heap ∧ va_D (va_A ([oSy z q h x r y] ++ (wHi cy h k1 d1 E1 ++ wDo cy q (added MZ u0))) _) ([oSy z q h x r y] ++ (wHi cy h k2 d2 E2 ++ wDo cy q (added (added MZ u0) u1))) := hB
        rw [ht] at hB
        obtain ⟨hP1, hD1⟩ := hB
        obtain ⟨hP, hD⟩ := bp_J hP hD hk1 hFc hP1 hD1
        have hP : va_P G vwCl (([oSy z q h x r y] ++ wWe cy x (fun _ => 0)) ++ (wHi cy h k2 d2 E2 ++ (wDo cy q (added (added MZ u0) u1) ++ (wRe cy r (q 0) (fun _ => some 0) (fun _ => false) (fun _ => 0) ++ [(L 0, eI cy 5 (fun i9 => nI ((gI MZ) i9))), (L 1, eI cy 6 (fun k9 => nI ((va_up (va_up (mR MZ) 0 u0) 1 u1) k9))), (L 2, eI cy 60 (aI MZ)), (L 3, eD cy 30 (vD MZ)), (L 4, eD cy 25 (tD MZ))])))) H := hP
        have hD : va_D A (([oSy z q h x r y] ++ wWe cy x (fun _ => 0)) ++ (wHi cy h k2 d2 E2 ++ (wDo cy q (added (added MZ u0) u1) ++ (wRe cy r (q 0) (fun _ => some 0) (fun _ => false) (fun _ => 0) ++ [(L 0, eI cy 5 (fun i9 => nI ((gI MZ) i9))), (L 1, eI cy 6 (fun k9 => nI ((va_up (va_up (mR MZ) 0 u0) 1 u1) k9))), (L 2, eI cy 60 (aI MZ)), (L 3, eD cy 30 (vD MZ)), (L 4, eD cy 25 (tD MZ))])))) := hD
        refine lv_iload hx hb dL_law_68 (lv_at hl 0 rfl) ?_
        refine lv_icmp_eq (tgt := 75) hx hb dL_law_70 (by decide) (fun c70 => ?_) (fun c70 => ?_)
        · refine lv_iinc (v := nI 2) (lv' := [(7, .int (nI 2)), (6, .ref (L 4)), (5, .ref (L 3)), (4, .ref (L 2)), (3, .ref (L 1)), (2, .ref (L 0)), (1, .ref z), (0, .ref b)]) hx hb dL_law_75 hl (k := 0) rfl (nI_1 1) (by decide) rfl (fun ls hl => ?_)
          refine lv_goto (tgt := 38) hx hb dL_law_78 (by decide) ?_
          refine lv_iload hx hb dL_law_38 (lv_at hl 0 rfl) ?_
          refine lv_iconst (v := nI 2) hx hb dL_law_40 (by decide +kernel) ?_
          refine o_icmp_ge (tgt := 81) hx hb dL_law_41 (by decide) (by omega) (by omega) (fun c41 => ?_) (fun c41 => ?_)
          · refine lv_aload_n hx hb dL_law_81 rfl (lv_at hl 5 rfl) ?_
            refine lv_iconst (v := nI 0) hx hb dL_law_82 (by decide +kernel) ?_
            refine lv_iconst (v := nI 2) hx hb dL_law_83 (by decide +kernel) ?_
            refine o_iast hx hb hK hP hD hS 54 0 rfl rfl 0 (by omega) (by decide) (upd_nI (gI MZ) 0 2) dL_law_84 (fun H locs hP hD hS => ?_)
            have hP : va_P G vwCl (([oSy z q h x r y] ++ wWe cy x (fun _ => 0)) ++ (wHi cy h k2 d2 E2 ++ (wDo cy q (added (added MZ u0) u1) ++ (wRe cy r (q 0) (fun _ => some 0) (fun _ => false) (fun _ => 0) ++ [(L 0, eI cy 5 (fun i9 => nI ((va_up (gI MZ) 0 2) i9))), (L 1, eI cy 6 (fun k9 => nI ((va_up (va_up (mR MZ) 0 u0) 1 u1) k9))), (L 2, eI cy 60 (aI MZ)), (L 3, eD cy 30 (vD MZ)), (L 4, eD cy 25 (tD MZ))])))) H := hP
            have hD : va_D A (([oSy z q h x r y] ++ wWe cy x (fun _ => 0)) ++ (wHi cy h k2 d2 E2 ++ (wDo cy q (added (added MZ u0) u1) ++ (wRe cy r (q 0) (fun _ => some 0) (fun _ => false) (fun _ => 0) ++ [(L 0, eI cy 5 (fun i9 => nI ((va_up (gI MZ) 0 2) i9))), (L 1, eI cy 6 (fun k9 => nI ((va_up (va_up (mR MZ) 0 u0) 1 u1) k9))), (L 2, eI cy 60 (aI MZ)), (L 3, eD cy 30 (vD MZ)), (L 4, eD cy 25 (tD MZ))])))) := hD
            rw [gI_2 u0 u1] at hP hD
            refine lv_iconst (v := nI 2) hx hb dL_law_85 (by decide +kernel) ?_
            refine lv_istore (lv' := [(7, .int (nI 2)), (6, .ref (L 4)), (5, .ref (L 3)), (4, .ref (L 2)), (3, .ref (L 1)), (2, .ref (L 0)), (1, .ref z), (0, .ref b)]) hx hb dL_law_86 hl (by decide) rfl (fun ls hl => ?_)
            exact W.widen (k := 200 + 10 * 2) (n := 5000 + 10 * 2) (Nat.le_of_ble_eq_true rfl) (Nat.le_of_ble_eq_true rfl) (law_loop l hLn hC0 hK hA hbA hAs 44 2 (by decide) (by decide) (fun _ => 0) k2 d2 E2 (fun _ => some 0) (fun _ => false) (fun _ => 0) (added (added MZ u0) u1) _ _ _ hk6 (SInv_0 hv0.2 hv1.2) (show va_P G vwCl (LW cy z q h x r y L (fun _ => 0) k2 d2 E2 (fun _ => some 0) (fun _ => false) (fun _ => 0) (added (added MZ u0) u1)) H from hP) (show va_D A (LW cy z q h x r y L (fun _ => 0) k2 d2 E2 (fun _ => some 0) (fun _ => false) (fun _ => 0) (added (added MZ u0) u1)) from hD) hS (lv_sub hl [0, 7, 6, 5, 4, 3, 2, 1] rfl))
          · exact absurd c41 (by decide)
        · exact absurd rfl c70
    · exact absurd rfl c70
