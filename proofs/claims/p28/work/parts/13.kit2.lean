/-! the walk's own rows: writes -/
theorem o_fnV {cA : ClassId} {n : Nat} {f g : Nat → Value} (h : ∀ j, j < n → f j = g j) : arrV cA n f = arrV cA n g := by
  have e : (fun j : Fin n => f j.val) = fun j : Fin n => g j.val := funext fun j => h j.val j.isLt
  show ({ cls := cA, slots := Array.ofFn (n := n) fun j => f j.val, vm := .none } : Cell) = { cls := cA, slots := Array.ofFn (n := n) fun j => g j.val, vm := .none }
  rw [e]
theorem o_cellI {D : va_G} {cl : List vw_C} {a : Nat} {cA : ClassId} {n : Nat} {f g : Nat → Int32} {H : Heap} (h : ∀ j, j < n → f j = g j) (hp : va_at D cl (a, .inl (cA, n, .inl f)) H) : va_at D cl (a, .inl (cA, n, .inl g)) H := by
  show H[a]? = some (vp_cell cA (n, .inl g))
  have hq : H[a]? = some (vp_cell cA (n, .inl f)) := hp
  rw [hq, vp_cell_i, vp_cell_i, o_fnV (fun j hj => by rw [h j hj])]
theorem o_cellF {D : va_G} {cl : List vw_C} {a : Nat} {cA : ClassId} {n : Nat} {f g : Nat → UInt32} {H : Heap} (h : ∀ j, j < n → f j = g j) (hp : va_at D cl (a, .inl (cA, n, .inr (.inr (.inl f)))) H) : va_at D cl (a, .inl (cA, n, .inr (.inr (.inl g)))) H := by
  show H[a]? = some (vp_cell cA (n, .inr (.inr (.inl g))))
  have hq : H[a]? = some (vp_cell cA (n, .inr (.inr (.inl f)))) := hp
  rw [hq, vp_cell_f, vp_cell_f, o_fnV (fun j hj => by rw [h j hj])]
theorem o_cellD {D : va_G} {cl : List vw_C} {a : Nat} {cA : ClassId} {n : Nat} {f g : Nat → UInt64} {H : Heap} (h : ∀ j, j < n → f j = g j) (hp : va_at D cl (a, .inl (cA, n, .inr (.inr (.inr (.inl f))))) H) : va_at D cl (a, .inl (cA, n, .inr (.inr (.inr (.inl g))))) H := by
  show H[a]? = some (vp_cell cA (n, .inr (.inr (.inr (.inl g)))))
  have hq : H[a]? = some (vp_cell cA (n, .inr (.inr (.inr (.inl f))))) := hp
  rw [hq, vp_cell_d, vp_cell_d, o_fnV (fun j hj => by rw [h j hj])]
theorem o_cellR {D : va_G} {cl : List vw_C} {a : Nat} {cA : ClassId} {n : Nat} {f g : Nat → Option Nat} {H : Heap} (h : ∀ j, j < n → f j = g j) (hp : va_at D cl (a, .inl (cA, n, .inr (.inr (.inr (.inr f))))) H) : va_at D cl (a, .inl (cA, n, .inr (.inr (.inr (.inr g))))) H := by
  show H[a]? = some (vp_cell cA (n, .inr (.inr (.inr (.inr g)))))
  have hq : H[a]? = some (vp_cell cA (n, .inr (.inr (.inr (.inr f))))) := hp
  rw [hq, vp_cell_q, vp_cell_q, o_fnV (fun j hj => by rw [h j hj])]
/-- one entry said otherwise -/
theorem o_set {D : va_G} {cl : List vw_C} {ws : va_W} {p : Nat} {x y : Nat × va_E} {H : Heap} (hP : va_P D cl (ws.set p x) H) (h : va_at D cl x H → va_at D cl y H) : va_P D cl (ws.set p y) H := by
  intro k q hk
  by_cases hkp : k = p
  · subst hkp
    by_cases hl : k < ws.length
    · rw [List.getElem?_set_self hl] at hk
      cases hk
      exact h (hP k x (List.getElem?_set_self hl))
    · rw [List.getElem?_eq_none (by rw [List.length_set]; omega)] at hk
      cases hk
  · rw [List.getElem?_set_ne (Ne.symm hkp)] at hk
    exact hP k q (by rw [List.getElem?_set_ne (Ne.symm hkp)]; exact hk)
/-- the same addresses in the same order are as much apart -/
theorem vd_same {A : Nat → Prop} {ws ws' : va_W} (hD : va_D A ws) (h : ws.map (·.1) = ws'.map (·.1)) : va_D A ws' := by
  have key : ∀ (k : Nat) (q : Nat × va_E), ws'[k]? = some q → ∃ e, ws[k]? = some (q.1, e) := by
    intro k q hk
    have h1 : (ws.map (·.1))[k]? = some q.1 := by rw [h, List.getElem?_map, hk]; rfl
    rw [List.getElem?_map] at h1
    cases hw : ws[k]? with
    | none => rw [hw] at h1; cases h1
    | some x => rw [hw] at h1; exact ⟨x.2, by rw [show x = (x.1, x.2) from rfl, show x.1 = q.1 from Option.some.inj h1]⟩
  refine ⟨fun i j x y hi hj hxy => ?_, fun k q hk => ?_⟩
  · obtain ⟨e1, h1⟩ := key i x hi
    obtain ⟨e2, h2⟩ := key j y hj
    exact hD.1 i j _ _ h1 h2 hxy
  · obtain ⟨e1, h1⟩ := key k q hk
    exact hD.2 k (q.1, e1) h1
/-- behind a call that writes: the caller's other cells, and the callee's as they are now -/
theorem o_join {A0 : Nat → Prop} {D : va_G} {cl : List vw_C} {ws wc wr w1 : va_W} {H H1 : Heap} (hP : va_P D cl ws H) (hD : va_D A0 ws) (isC isR : List Nat) (hC : isC.map (fun i => ws[i]?) = wc.map some) (hR : isR.map (fun i => ws[i]?) = wr.map some) (hn : va_nd isR = true) (hnC : va_nd isC = true) (hdis : ∀ i ∈ isR, i ∉ isC)
    (hk : ∀ q : Nat, q < H.size → ¬ va_A wc H.size q → H1[q]? = H[q]?) (hF : ∀ q, va_A wc H.size q → A0 q) (hP1 : va_P D cl w1 H1) (hf : wc.map (·.1) = w1.map (·.1)) : va_P D cl (wr ++ w1) H1 :=
  (va_join hP hD isC isR hC hR hn hdis hk hF hP1 (vd_same ((hD.sub isC hnC hC).self) hf)).1
theorem upd_nI (m : Nat → Nat) (k v : Nat) : upd (fun j => nI (m j)) k (nI v) = fun j => nI (va_up m k v j) := by
  funext j
  unfold upd va_up
  split <;> rfl
theorem upd_lk (m : Nat → Option Nat) (k : Nat) (v : Option Nat) : upd (fun j => lkI (m j)) k (lkI v) = fun j => lkI (va_up m k v j) := by
  funext j
  unfold upd va_up
  split <;> rfl
theorem upd_bI (m : Nat → Bool) (k : Nat) (v : Bool) : upd (fun j => bI (m j = true)) k (bI (v = true)) = fun j => bI (va_up m k v j = true) := by
  funext j
  unfold upd va_up
  by_cases h : j = k
  · simp only [h, if_true]
  · simp only [h, if_false]
section OK4
variable {p : Program} {l : Launch} {e : Env} {R : Room} {s : State} {m : MethodId} {args : Array Value} {below : List Frame} {meth : Method} {c : Code} {H H0 : Heap} {locs : List Loc} {cells slots : Nat} {Q : State → Prop}
variable {pc : Nat} {ls : Array Slot} {rest : List Value} {cc : ByteArray} {D : va_G} {cl : List vw_C} {tys : List (ClassId × FieldType)} {ws : va_W} {A : Nat → Prop} {a : Nat} {cA : ClassId} {n : Nat}
theorem o_iast (hx : p.tables.exec = Jvm.exec) (hb : c.code = cc) (hK : va_K D cl tys s) (hP : va_P D cl ws H) (hD : va_D A ws) (hS : va_S A H0 H locs) (q0 t0 : Nat) {f : Nat → Int32} (ha : ws[q0]? = some (a, .inl (cA, n, .inl f))) (ht : tys[t0]? = some (cA, .int)) (k : Nat) (hk : k < n) (hn : n < 2 ^ 31) {x : Int32} {g : Nat → Int32} (hg : upd f k x = g) (hdg : decode cc pc = .ok (.iastore, 1))
    (kk : ∀ (H1 : Heap) (locs1 : List Loc), va_P D cl (ws.set q0 (a, .inl (cA, n, .inl g))) H1 → va_D A (ws.set q0 (a, .inl (cA, n, .inl g))) → va_S A H0 H1 locs1 → W p l e R s m args below meth c H1 locs1 cells slots Q (F0 m (pc + 1) ls rest)) : W p l e R s m args below meth c H locs cells slots Q (F0 m pc ls (.int x :: .int (nI k) :: .ref a :: rest)) := by
  refine va_iast hx hb hK hP hD hS q0 t0 ha ht (vp_in_nI hk hn) hdg ?_
  rw [nI_clamp (Nat.lt_trans hk hn), hg]
  exact kk
theorem o_zast (hx : p.tables.exec = Jvm.exec) (hb : c.code = cc) (hK : va_K D cl tys s) (hP : va_P D cl ws H) (hD : va_D A ws) (hS : va_S A H0 H locs) (q0 t0 : Nat) {f : Nat → Int32} (ha : ws[q0]? = some (a, .inl (cA, n, .inl f))) (ht : tys[t0]? = some (cA, .boolean)) (k : Nat) (hk : k < n) (hn : n < 2 ^ 31) {x : Int32} {g : Nat → Int32} (hg : upd f k (vp_nar .boolean x) = g) (hdg : decode cc pc = .ok (.bastore, 1))
    (kk : ∀ (H1 : Heap) (locs1 : List Loc), va_P D cl (ws.set q0 (a, .inl (cA, n, .inl g))) H1 → va_D A (ws.set q0 (a, .inl (cA, n, .inl g))) → va_S A H0 H1 locs1 → W p l e R s m args below meth c H1 locs1 cells slots Q (F0 m (pc + 1) ls rest)) : W p l e R s m args below meth c H locs cells slots Q (F0 m pc ls (.int x :: .int (nI k) :: .ref a :: rest)) := by
  refine va_zast hx hb hK hP hD hS q0 t0 ha ht (vp_in_nI hk hn) hdg ?_
  rw [nI_clamp (Nat.lt_trans hk hn), hg]
  exact kk
theorem o_fast (hx : p.tables.exec = Jvm.exec) (hb : c.code = cc) (hK : va_K D cl tys s) (hP : va_P D cl ws H) (hD : va_D A ws) (hS : va_S A H0 H locs) (q0 t0 : Nat) {f : Nat → UInt32} (ha : ws[q0]? = some (a, .inl (cA, n, .inr (.inr (.inl f))))) (ht : tys[t0]? = some (cA, .float)) (k : Nat) (hk : k < n) (hn : n < 2 ^ 31) {x : UInt32} {g : Nat → UInt32} (hg : va_up f k x = g) (hdg : decode cc pc = .ok (.fastore, 1))
    (kk : ∀ (H1 : Heap) (locs1 : List Loc), va_P D cl (ws.set q0 (a, .inl (cA, n, .inr (.inr (.inl g))))) H1 → va_D A (ws.set q0 (a, .inl (cA, n, .inr (.inr (.inl g))))) → va_S A H0 H1 locs1 → W p l e R s m args below meth c H1 locs1 cells slots Q (F0 m (pc + 1) ls rest)) : W p l e R s m args below meth c H locs cells slots Q (F0 m pc ls (.float x :: .int (nI k) :: .ref a :: rest)) := by
  refine va_fast hx hb hK hP hD hS q0 t0 ha ht (vp_in_nI hk hn) hdg ?_
  rw [nI_clamp (Nat.lt_trans hk hn), show vf_upd f k x = g from hg]
  exact kk
theorem o_dast (hx : p.tables.exec = Jvm.exec) (hb : c.code = cc) (hK : va_K D cl tys s) (hP : va_P D cl ws H) (hD : va_D A ws) (hS : va_S A H0 H locs) (q0 t0 : Nat) {f : Nat → UInt64} (ha : ws[q0]? = some (a, .inl (cA, n, .inr (.inr (.inr (.inl f)))))) (ht : tys[t0]? = some (cA, .double)) (k : Nat) (hk : k < n) (hn : n < 2 ^ 31) {x : UInt64} {g : Nat → UInt64} (hg : va_up f k x = g) (hdg : decode cc pc = .ok (.dastore, 1))
    (kk : ∀ (H1 : Heap) (locs1 : List Loc), va_P D cl (ws.set q0 (a, .inl (cA, n, .inr (.inr (.inr (.inl g)))))) H1 → va_D A (ws.set q0 (a, .inl (cA, n, .inr (.inr (.inr (.inl g)))))) → va_S A H0 H1 locs1 → W p l e R s m args below meth c H1 locs1 cells slots Q (F0 m (pc + 1) ls rest)) : W p l e R s m args below meth c H locs cells slots Q (F0 m pc ls (.double x :: .int (nI k) :: .ref a :: rest)) := by
  refine va_dast hx hb hK hP hD hS q0 t0 ha ht (vp_in_nI hk hn) hdg ?_
  rw [nI_clamp (Nat.lt_trans hk hn), show vf_upd f k x = g from hg]
  exact kk
theorem cpy_all {α : Type} (f g : Nat → α) (n j : Nat) (h : j < n) : va_cpy f g 0 0 n j = f j := by
  unfold va_cpy
  rw [if_pos ⟨Nat.zero_le _, by omega⟩, Nat.sub_zero, Nat.zero_add]
/-- a whole row copied -/
theorem o_copyi (hx : p.tables.exec = Jvm.exec) (hb : c.code = cc) (hml : c.maxLocals = ls.size) {own : String} {index : Nat} (hown : s.vm.findClass own = some m.cls) (hlink : (Cond.methodLink own index arraycopyName).before args s = true) (hnat : (Cond.native arraycopyName).before args s = true) (hstat : (Cond.static arraycopyName).before args s = true) (hini : (Cond.initialized "java/lang/System").before args s = true)
    (hK : va_K D cl tys s) (hP : va_P D cl ws H) (hD : va_D A ws) (hS : va_S A H0 H locs) (q0 q1 t0 : Nat) {a0 : Nat} {f g : Nat → Int32} (ha0 : ws[q0]? = some (a0, .inl (cA, n, .inl f))) (ha1 : ws[q1]? = some (a, .inl (cA, n, .inl g))) (ht0 : tys[t0]? = some (cA, .int)) (hn : n < 2 ^ 31)
    (hframes : 1 ≤ R.frames) (hlocals : (rest.map fun v => v.category).sum + (nativeFrameWords "java/lang/System" "arraycopy" 5 + 11) ≤ R.locals) (hdg : decode cc pc = .ok (.invokestatic index, 3))
    (kk : ∀ (H1 : Heap) (locs1 : List Loc), va_P D cl (ws.set q1 (a, .inl (cA, n, .inl f))) H1 → va_D A (ws.set q1 (a, .inl (cA, n, .inl f))) → va_S A H0 H1 locs1 → W p l e R s m args below meth c H1 locs1 cells slots Q (F0 m (pc + 3) ls rest)) : W p l e R s m args below meth c H locs cells slots Q (F0 m pc ls (.int (nI n) :: .int (nI 0) :: .ref a :: .int (nI 0) :: .ref a0 :: rest)) := by
  have e0 : (nI 0).toNatClampNeg = 0 := by decide
  have en : (nI n).toNatClampNeg = n := nI_clamp hn
  refine va_copyi hx hb hml hown hlink hnat hstat hini hK hP hD hS q0 q1 t0 t0 ha0 ha1 ht0 ht0 rfl (by decide) (by decide) (nI_pos hn) (by rw [e0, en]; omega) (by rw [e0, en]; omega) (fun i hi => rfl) hframes hlocals hdg (fun H1 locs1 hP1 hD1 hS1 => ?_)
  rw [e0, en] at hP1
  exact kk H1 locs1 (o_set hP1 (o_cellI (fun j hj => cpy_all f g n j hj))) (vd_same hD1 (by rw [List.map_set, List.map_set])) hS1
theorem o_copyf (hx : p.tables.exec = Jvm.exec) (hb : c.code = cc) (hml : c.maxLocals = ls.size) {own : String} {index : Nat} (hown : s.vm.findClass own = some m.cls) (hlink : (Cond.methodLink own index arraycopyName).before args s = true) (hnat : (Cond.native arraycopyName).before args s = true) (hstat : (Cond.static arraycopyName).before args s = true) (hini : (Cond.initialized "java/lang/System").before args s = true)
    (hK : va_K D cl tys s) (hP : va_P D cl ws H) (hD : va_D A ws) (hS : va_S A H0 H locs) (q0 q1 t0 : Nat) {a0 : Nat} {f g : Nat → UInt32} (ha0 : ws[q0]? = some (a0, .inl (cA, n, .inr (.inr (.inl f))))) (ha1 : ws[q1]? = some (a, .inl (cA, n, .inr (.inr (.inl g))))) (ht0 : tys[t0]? = some (cA, .float)) (hn : n < 2 ^ 31)
    (hframes : 1 ≤ R.frames) (hlocals : (rest.map fun v => v.category).sum + (nativeFrameWords "java/lang/System" "arraycopy" 5 + 11) ≤ R.locals) (hdg : decode cc pc = .ok (.invokestatic index, 3))
    (kk : ∀ (H1 : Heap) (locs1 : List Loc), va_P D cl (ws.set q1 (a, .inl (cA, n, .inr (.inr (.inl f))))) H1 → va_D A (ws.set q1 (a, .inl (cA, n, .inr (.inr (.inl f))))) → va_S A H0 H1 locs1 → W p l e R s m args below meth c H1 locs1 cells slots Q (F0 m (pc + 3) ls rest)) : W p l e R s m args below meth c H locs cells slots Q (F0 m pc ls (.int (nI n) :: .int (nI 0) :: .ref a :: .int (nI 0) :: .ref a0 :: rest)) := by
  have e0 : (nI 0).toNatClampNeg = 0 := by decide
  have en : (nI n).toNatClampNeg = n := nI_clamp hn
  refine va_copyf hx hb hml hown hlink hnat hstat hini hK hP hD hS q0 q1 t0 t0 ha0 ha1 ht0 ht0 rfl (by decide) (by decide) (nI_pos hn) (by rw [e0, en]; omega) (by rw [e0, en]; omega) (fun i hi => rfl) hframes hlocals hdg (fun H1 locs1 hP1 hD1 hS1 => ?_)
  rw [e0, en] at hP1
  exact kk H1 locs1 (o_set hP1 (o_cellF (fun j hj => cpy_all f g n j hj))) (vd_same hD1 (by rw [List.map_set, List.map_set])) hS1
end OK4
/-- a method that writes its world W0, which is W1 afterwards -/
abbrev qVm (A : Nat → Prop) (W1 : va_W) (G : va_G) : Array Value → State → Outcome → State → Prop := va_Qv (fun (_ : Unit) => True) (fun _ t => va_P G vwCl W1 t.heap) A
abbrev qIm (A : Nat → Prop) (v : Int32) (W1 : va_W) (G : va_G) : Array Value → State → Outcome → State → Prop := va_Qi (fun r (_ : Unit) => r = v) (fun _ t => va_P G vwCl W1 t.heap) A
abbrev MutV (l : Launch) (y : MethodName) (ws : List Cond) (f lo : Nat) (av : List Value) (H0 : Heap) (G : va_G) (cy : Nat → ClassId) (W0 W1 : va_W) : Prop := Met l y ws (oR f lo) (pR av H0 G cy) (qVm (va_A W0 H0.size) W1 G) 0 0 (va_A W0 H0.size)
abbrev MutI (l : Launch) (y : MethodName) (ws : List Cond) (f lo : Nat) (av : List Value) (H0 : Heap) (G : va_G) (cy : Nat → ClassId) (v : Int32) (W0 W1 : va_W) : Prop := Met l y ws (oR f lo) (pR av H0 G cy) (qIm (va_A W0 H0.size) v W1 G) 0 0 (va_A W0 H0.size)
section OK5
variable {p : Program} {l : Launch} {e : Env} {R : Room} {s : State} {m : MethodId} {args : Array Value} {below : List Frame} {meth : Method} {c : Code} {H : Heap} {locs : List Loc} {cells slots : Nat} {Q : State → Prop}
variable {pc : Nat} {ls : Array Slot} {rest st0 As : List Value} {cc bytes : ByteArray} {G : va_G} {cy : Nat → ClassId} {y : MethodName} {ws : List Cond} {f lo maxL nL n index : Nat} {ret : Option FieldType} {Ts : List Cond} {own C : String} {b : Addr} {a : Array Value} {A : Nat → Prop} {W1 : va_W}
theorem o_endVm (hx : p.tables.exec = Jvm.exec) (hb : c.code = cc) (hr : meth.sig.returnType = none) (hlocks : meth.locks = false) (hdg : decode cc pc = .ok (.return_, 1)) (hP : va_P G vwCl W1 H) (hS : va_S A s.heap H locs) :
    W p l e R s m args below meth c H locs 0 0 (MQ below (qVm A W1 G) args s 0 0 A) (F0 m pc ls []) :=
  W.vret hx hb hr (fun t ht hW => ⟨⟨(), rfl, trivial, by show va_P G vwCl W1 t.heap; rw [ht]; exact hP⟩, hS.F ht⟩) hS.2.2 hdg hlocks
theorem o_endIm {v v' : Int32} (hx : p.tables.exec = Jvm.exec) (hb : c.code = cc) (hr : meth.sig.returnType = some .int) (hlocks : meth.locks = false) (hdg : decode cc pc = .ok (.ireturn, 1)) (hP : va_P G vwCl W1 H) (hS : va_S A s.heap H locs) (hv : v = v') :
    W p l e R s m args below meth c H locs 0 0 (MQ below (qIm A v' W1 G) args s 0 0 A) (F0 m pc ls [.int v]) :=
  W.iret hx hb hr (fun t ht hW => ⟨⟨v, (), rfl, hv, by show va_P G vwCl W1 t.heap; rw [ht]; exact hP⟩, hS.F ht⟩) hS.2.2 hdg hlocks
end OK5
