/-! constructors -/
/-- a method that makes cells: the world w u behind it, for some u with P -/
abbrev MetC (l : Launch) (y : MethodName) (ws : List Cond) (f lo mc ms : Nat) (av : List Value) (H0 : Heap) (G : va_G) (cy : Nat → ClassId) {σ : Type} (P : σ → Prop) (w : σ → va_W) (W0 : va_W) : Prop := Met l y ws ({ frames := f, cells := mc, slots := ms, locals := lo }) (pR av H0 G cy) (va_Qv P (fun u t => va_P G vwCl (w u) t.heap ∧ va_D (va_A W0 H0.size) (w u)) (va_A W0 H0.size)) mc ms (va_A W0 H0.size)
/-- what the nest's own calls and the row of doors want besides -/
abbrev oN (G : va_G) (cy : Nat → ClassId) (U : State) : Prop := oK G cy U ∧ va_AO "NailedOrders$Door" U ∧ va_Nw (.methodLinkNest RX7 9 yX1_init RX7) U ∧ va_Nw (.methodLinkNest RX2 17 yX1_init RX7) U ∧ va_Nw (.methodLinkNest RX7 32 yX5_init RX7) U ∧ va_Nw (.methodLinkNest RX7 48 yX6_init RX7) U ∧ va_Nw (.methodLinkNest RX6 11 yX1_init RX7) U
abbrev pN (av : List Value) (H0 : Heap) (G : va_G) (cy : Nat → ClassId) : Array Value → State → Prop := va_Pc av (fun U => U.heap = H0 ∧ oN G cy U)
abbrev MetN (l : Launch) (y : MethodName) (ws : List Cond) (f lo mc ms : Nat) (av : List Value) (H0 : Heap) (G : va_G) (cy : Nat → ClassId) {σ : Type} (P : σ → Prop) (w : σ → va_W) (W0 : va_W) : Prop := Met l y ws ({ frames := f, cells := mc, slots := ms, locals := lo }) (pN av H0 G cy) (va_Qv P (fun u t => va_P G vwCl (w u) t.heap ∧ va_D (va_A W0 H0.size) (w u)) (va_A W0 H0.size)) mc ms (va_A W0 H0.size)
theorem oN_warm {G : va_G} {cy : Nat → ClassId} {s U : State} (hW : s.WarmedH U.vm) (h : oN G cy s) : oN G cy U := by
  obtain ⟨h1, h2, h3, h4, h5, h6, h7⟩ := h
  exact ⟨va_K.moved hW.alike h1, va_AO.moved hW.alike h2, va_Nw.warmM hW h3, va_Nw.warmM hW h4, va_Nw.warmM hW h5, va_Nw.warmM hW h6, va_Nw.warmM hW h7⟩
theorem pN_blind {av : List Value} {H0 : Heap} {G : va_G} {cy : Nat → ClassId} : FrameBlind (pN av H0 G cy) := fun a U g mk q => by
  obtain ⟨q0, q1, h1, h2, h3, h4, h5, h6, h7⟩ := q
  exact ⟨q0, q1, va_K.moved (u := U) (U := U.calling g mk a) (Vm.Alike.refl U.vm) h1, va_AO.moved (u := U) (U := U.calling g mk a) (Vm.Alike.refl U.vm) h2, va_Nw.same (u := U) (U := U.calling g mk a) rfl rfl h3, va_Nw.same (u := U) (U := U.calling g mk a) rfl rfl h4, va_Nw.same (u := U) (U := U.calling g mk a) rfl rfl h5, va_Nw.same (u := U) (U := U.calling g mk a) rfl rfl h6, va_Nw.same (u := U) (U := U.calling g mk a) rfl rfl h7⟩
theorem pN_at {av : List Value} {s : State} {H : Heap} {G : va_G} {cy : Nat → ClassId} (hN : oN G cy s) : ∀ U : State, U.heap = H → s.WarmedH U.vm → pN av H G cy av.toArray U := fun U hU hW => ⟨rfl, hU, oN_warm hW hN⟩
/-- a new door's state -/
abbrev MZ : MT := (0, 0, 0, 0, 0, fun _ => 0, fun _ => 0, fun _ => 0, fun _ => some 0, fun _ => 0, fun _ => 0, fun _ => 0, fun _ => 0)
theorem WB_Z : WB MZ := ⟨Nat.zero_le _, Nat.zero_le _, fun _ => Nat.zero_le _, fun _ => (show 0 < 6 by decide), fun _ => (show 0 < 16 by decide), fun _ w h => by cases h; decide, fun _ => (show 0 < 4 by decide)⟩
/-- a door's addresses -/
def qDo (x0 x1 x6 x7 x8 x9 xa xb xc : Nat) : Nat → Nat := fun k => match k with
  | 0 => x0
  | 1 => x1
  | 6 => x6
  | 7 => x7
  | 8 => x8
  | 9 => x9
  | 10 => xa
  | 11 => xb
  | _ => xc
def q4 (x0 x1 x2 x3 : Nat) : Nat → Nat := fun k => match k with
  | 0 => x0
  | 1 => x1
  | 2 => x2
  | _ => x3
def d4 (x0 x1 x2 x3 : Nat → Nat) : Nat → Nat → Nat := fun k => match k with
  | 0 => x0
  | 1 => x1
  | 2 => x2
  | _ => x3
abbrev n0D (q : Nat) : va_W := [(q, .inr (0, [.int 0, .null, .int 0, .float 0, .int 0, .int 0, .null, .null, .null, .null, .null, .null, .null]))]
abbrev n0H (q : Nat) : va_W := [(q, .inr (1, [.null, .int 0]))]
abbrev n0C (q : Nat) : va_W := [(q, .inr (2, [.null, .int 0, .int 0, .null, .null, .null, .null, .int 0]))]
abbrev n0R (q : Nat) : va_W := [(q, .inr (3, [.null, .null, .null, .null]))]
abbrev n0T (q : Nat) : va_W := [(q, .inr (4, [.null, .int 0]))]
abbrev n0W (q : Nat) : va_W := [(q, .inr (5, [.null, .null]))]
abbrev n0S (q : Nat) : va_W := [(q, .inr (6, [.null, .null, .int 0, .null, .null, .null, .null, .null, .null]))]
section OKn
variable {p : Program} {l : Launch} {e : Env} {R : Room} {s : State} {m : MethodId} {args : Array Value} {below : List Frame} {meth : Method} {c : Code} {H H0 : Heap} {locs : List Loc} {cells slots : Nat} {Q : State → Prop}
variable {pc : Nat} {ls : Array Slot} {rest : List Value} {cc : ByteArray} {G : va_G} {cy : Nat → ClassId} {A : Nat → Prop} {W1 ws : va_W}
theorem o_newI (hx : p.tables.exec = Jvm.exec) (hb : c.code = cc) (harr : (Cond.arrayClass .int).before args s = true) (hK : oK G cy s) (hP : va_P G vwCl ws H) (hD : va_D A ws) (hS : va_S A H0 H locs) (hA : ∀ q, H0.size ≤ q → A q) {n : Nat} (hn : n < 1000) (hcells : cells + 1 ≤ R.cells) (hslots : slots + n ≤ R.slots) (hdg : decode cc pc = .ok (.newarray .int, 2))
    (kk : ∀ (q : Nat) (H1 : Heap), va_P G vwCl (ws ++ [(q, (eI cy n (fun _ => 0)))]) H1 → va_D A (ws ++ [(q, (eI cy n (fun _ => 0)))]) → va_S A H0 H1 locs → W p l e R s m args below meth c H1 locs (cells + 1) (slots + n) Q (F0 m (pc + 2) ls (.ref q :: rest))) : W p l e R s m args below meth c H locs cells slots Q (F0 m pc ls (.int (nI n) :: rest)) := by
  refine va_newa (atype := .int) (ty := .int) (N' := n) (a0 := (n, .inl (fun _ => 0))) hx hb harr rfl hK hP hD hS hA (fun cA => rfl) (nI_pos (by omega)) (nI_clamp (by omega)) (by show n * 4 ≤ 536870912; omega) hcells hslots hdg ?_
  intro q cA H1 hK1 hP1 hD1 hS1
  have h1 : s.vm.findClass ("[" ++ FieldType.int.toString) = some cA := (hK1.2 6 (cA, .int) rfl).2
  have h2 : s.vm.findClass ("[" ++ FieldType.int.toString) = some (cy 0) := (hK.2 0 (cy 0, .int) rfl).2
  obtain rfl : cA = cy 0 := Option.some.inj (h1.symm.trans h2)
  exact kk q H1 hP1 hD1 hS1
theorem o_newF (hx : p.tables.exec = Jvm.exec) (hb : c.code = cc) (harr : (Cond.arrayClass .float).before args s = true) (hK : oK G cy s) (hP : va_P G vwCl ws H) (hD : va_D A ws) (hS : va_S A H0 H locs) (hA : ∀ q, H0.size ≤ q → A q) {n : Nat} (hn : n < 1000) (hcells : cells + 1 ≤ R.cells) (hslots : slots + n ≤ R.slots) (hdg : decode cc pc = .ok (.newarray .float, 2))
    (kk : ∀ (q : Nat) (H1 : Heap), va_P G vwCl (ws ++ [(q, (eF cy n (fun _ => 0)))]) H1 → va_D A (ws ++ [(q, (eF cy n (fun _ => 0)))]) → va_S A H0 H1 locs → W p l e R s m args below meth c H1 locs (cells + 1) (slots + n) Q (F0 m (pc + 2) ls (.ref q :: rest))) : W p l e R s m args below meth c H locs cells slots Q (F0 m pc ls (.int (nI n) :: rest)) := by
  refine va_newa (atype := .float) (ty := .float) (N' := n) (a0 := (n, .inr (.inr (.inl (fun _ => 0))))) hx hb harr rfl hK hP hD hS hA (fun cA => rfl) (nI_pos (by omega)) (nI_clamp (by omega)) (by show n * 4 ≤ 536870912; omega) hcells hslots hdg ?_
  intro q cA H1 hK1 hP1 hD1 hS1
  have h1 : s.vm.findClass ("[" ++ FieldType.float.toString) = some cA := (hK1.2 6 (cA, .float) rfl).2
  have h2 : s.vm.findClass ("[" ++ FieldType.float.toString) = some (cy 1) := (hK.2 1 (cy 1, .float) rfl).2
  obtain rfl : cA = cy 1 := Option.some.inj (h1.symm.trans h2)
  exact kk q H1 hP1 hD1 hS1
theorem o_newZ (hx : p.tables.exec = Jvm.exec) (hb : c.code = cc) (harr : (Cond.arrayClass .boolean).before args s = true) (hK : oK G cy s) (hP : va_P G vwCl ws H) (hD : va_D A ws) (hS : va_S A H0 H locs) (hA : ∀ q, H0.size ≤ q → A q) {n : Nat} (hn : n < 1000) (hcells : cells + 1 ≤ R.cells) (hslots : slots + n ≤ R.slots) (hdg : decode cc pc = .ok (.newarray .boolean, 2))
    (kk : ∀ (q : Nat) (H1 : Heap), va_P G vwCl (ws ++ [(q, (eZ cy n (fun _ => 0)))]) H1 → va_D A (ws ++ [(q, (eZ cy n (fun _ => 0)))]) → va_S A H0 H1 locs → W p l e R s m args below meth c H1 locs (cells + 1) (slots + n) Q (F0 m (pc + 2) ls (.ref q :: rest))) : W p l e R s m args below meth c H locs cells slots Q (F0 m pc ls (.int (nI n) :: rest)) := by
  refine va_newa (atype := .boolean) (ty := .boolean) (N' := n) (a0 := (n, .inl (fun _ => 0))) hx hb harr rfl hK hP hD hS hA (fun cA => rfl) (nI_pos (by omega)) (nI_clamp (by omega)) (by show n * 1 ≤ 536870912; omega) hcells hslots hdg ?_
  intro q cA H1 hK1 hP1 hD1 hS1
  have h1 : s.vm.findClass ("[" ++ FieldType.boolean.toString) = some cA := (hK1.2 6 (cA, .boolean) rfl).2
  have h2 : s.vm.findClass ("[" ++ FieldType.boolean.toString) = some (cy 2) := (hK.2 2 (cy 2, .boolean) rfl).2
  obtain rfl : cA = cy 2 := Option.some.inj (h1.symm.trans h2)
  exact kk q H1 hP1 hD1 hS1
theorem o_newC (hx : p.tables.exec = Jvm.exec) (hb : c.code = cc) (harr : (Cond.arrayClass .char).before args s = true) (hK : oK G cy s) (hP : va_P G vwCl ws H) (hD : va_D A ws) (hS : va_S A H0 H locs) (hA : ∀ q, H0.size ≤ q → A q) {n : Nat} (hn : n < 1000) (hcells : cells + 1 ≤ R.cells) (hslots : slots + n ≤ R.slots) (hdg : decode cc pc = .ok (.newarray .char, 2))
    (kk : ∀ (q : Nat) (H1 : Heap), va_P G vwCl (ws ++ [(q, (.inl (cy 5, n, .inl (fun _ => 0))))]) H1 → va_D A (ws ++ [(q, (.inl (cy 5, n, .inl (fun _ => 0))))]) → va_S A H0 H1 locs → W p l e R s m args below meth c H1 locs (cells + 1) (slots + n) Q (F0 m (pc + 2) ls (.ref q :: rest))) : W p l e R s m args below meth c H locs cells slots Q (F0 m pc ls (.int (nI n) :: rest)) := by
  refine va_newa (atype := .char) (ty := .char) (N' := n) (a0 := (n, .inl (fun _ => 0))) hx hb harr rfl hK hP hD hS hA (fun cA => rfl) (nI_pos (by omega)) (nI_clamp (by omega)) (by show n * 2 ≤ 536870912; omega) hcells hslots hdg ?_
  intro q cA H1 hK1 hP1 hD1 hS1
  have h1 : s.vm.findClass ("[" ++ FieldType.char.toString) = some cA := (hK1.2 6 (cA, .char) rfl).2
  have h2 : s.vm.findClass ("[" ++ FieldType.char.toString) = some (cy 5) := (hK.2 5 (cy 5, .char) rfl).2
  obtain rfl : cA = cy 5 := Option.some.inj (h1.symm.trans h2)
  exact kk q H1 hP1 hD1 hS1
theorem o_newR {own : String} {index : Nat} (hx : p.tables.exec = Jvm.exec) (hb : c.code = cc) (hown : s.vm.findClass own = some m.cls) (hclink : (Cond.classLink own index "NailedOrders$Door").before args s = true) (hover : va_AO "NailedOrders$Door" s) (hK : oK G cy s) (hP : va_P G vwCl ws H) (hD : va_D A ws) (hS : va_S A H0 H locs) (hA : ∀ q, H0.size ≤ q → A q) {n : Nat} (hn : n < 1000) (hcells : cells + 1 ≤ R.cells) (hslots : slots + n ≤ R.slots) (hdg : decode cc pc = .ok (.anewarray index, 3))
    (kk : ∀ (q : Nat) (H1 : Heap), va_P G vwCl (ws ++ [(q, eR cy n (fun _ => none))]) H1 → va_D A (ws ++ [(q, eR cy n (fun _ => none))]) → va_S A H0 H1 locs → W p l e R s m args below meth c H1 locs (cells + 1) (slots + n) Q (F0 m (pc + 3) ls (.ref q :: rest))) : W p l e R s m args below meth c H locs cells slots Q (F0 m pc ls (.int (nI n) :: rest)) := by
  refine va_newq hx hb hown hclink hover hK hP hD hS hA (n := nI n) (N' := n) (nI_pos (by omega)) (nI_clamp (by omega)) (by omega) hcells hslots hdg ?_
  intro q cA H1 hK1 hP1 hD1 hS1
  obtain ⟨_, _, _, _, _, h1⟩ : va_RA s cA (.object "NailedOrders$Door") := (hK1.2 6 (cA, .object "NailedOrders$Door") rfl).2
  obtain ⟨_, _, _, _, _, h2⟩ : va_RA s (cy 4) (.object "NailedOrders$Door") := (hK.2 4 (cy 4, .object "NailedOrders$Door") rfl).2
  obtain rfl : cA = cy 4 := Option.some.inj (h1.symm.trans h2)
  exact kk q H1 hP1 hD1 hS1
/-- the end of a constructor -/
theorem o_endC {σ : Type} {P : σ → Prop} {w : σ → va_W} (u : σ) (hx : p.tables.exec = Jvm.exec) (hb : c.code = cc) (hr : meth.sig.returnType = none) (hlocks : meth.locks = false) (hdg : decode cc pc = .ok (.return_, 1)) (hu : P u) (hP : va_P G vwCl (w u) H) (hD : va_D A (w u)) (hS : va_S A s.heap H locs) {k n : Nat} (hk : cells ≤ k) (hn : slots ≤ n) :
    W p l e R s m args below meth c H locs cells slots (MQ below (va_Qv P (fun u t => va_P G vwCl (w u) t.heap ∧ va_D A (w u)) A) args s k n A) (F0 m pc ls []) :=
  W.widen hk hn (W.vret hx hb hr (fun t ht hW => ⟨⟨u, rfl, hu, by show va_P G vwCl (w u) t.heap; rw [ht]; exact hP, hD⟩, hS.F ht⟩) hS.2.2 hdg hlocks)
end OKn
