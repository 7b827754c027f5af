/-! the history: four doors, whose order in the row turns -/
abbrev wHi (cy : Nat → ClassId) (h : Nat → Nat) (k : Nat) (d : Nat → Nat → Nat) (E : Nat → MT) : va_W := [(h 0, .inr (1, [.ref (h 1), .int (nI k)])), (h 1, eR cy 4 (fun i => some (d i 0)))] ++ (wDo cy (d 0) (E 0) ++ (wDo cy (d 1) (E 1) ++ (wDo cy (d 2) (E 2) ++ wDo cy (d 3) (E 3))))
def rot {α : Type} (f : Nat → α) : Nat → α := fun i => if i = 3 then f 0 else f (i + 1)
abbrev HT : Type := Nat × (Nat → Nat → Nat) × (Nat → MT)
/-- the history's own end: which doors it holds then, and that they are apart -/
abbrev qVh (A : Nat → Prop) (B : Nat → Prop) (cy : Nat → ClassId) (h : Nat → Nat) (X : va_W) (G : va_G) : Array Value → State → Outcome → State → Prop := va_Qv (fun (u : HT) => B u.1) (fun u t => va_P G vwCl (wHi cy h u.1 u.2.1 u.2.2 ++ X) t.heap ∧ va_D A (wHi cy h u.1 u.2.1 u.2.2 ++ X)) A
abbrev MutH (l : Launch) (y : MethodName) (ws : List Cond) (f lo : Nat) (av : List Value) (H0 : Heap) (G : va_G) (cy : Nat → ClassId) (B : Nat → Prop) (h : Nat → Nat) (W0 X : va_W) : Prop := Met l y ws (oR f lo) (pR av H0 G cy) (qVh (va_A W0 H0.size) B cy h X G) 0 0 (va_A W0 H0.size)
section OK6
variable {p : Program} {l : Launch} {e : Env} {R : Room} {s : State} {m : MethodId} {args : Array Value} {below : List Frame} {meth : Method} {c : Code} {H H0 : Heap} {locs : List Loc} {cells slots : Nat} {Q : State → Prop}
variable {pc : Nat} {ls : Array Slot} {rest : List Value} {cc : ByteArray} {D : va_G} {cl : List vw_C} {tys : List (ClassId × FieldType)} {ws : va_W} {A : Nat → Prop} {a : Nat} {cA : ClassId} {n : Nat}
theorem o_aldq (hx : p.tables.exec = Jvm.exec) (hb : c.code = cc) (hK : va_K D cl tys s) (hP : va_P D cl ws H) (q0 t0 : Nat) {C : String} {f : Nat → Option Nat} (ha : ws[q0]? = some (a, .inl (cA, n, .inr (.inr (.inr (.inr f)))))) (ht : tys[t0]? = some (cA, .object C)) (k : Nat) (hk : k < n) (hn : n < 2 ^ 31) {v : Value} (hv : va_rf (f k) = v) (hdg : decode cc pc = .ok (.aaload, 1))
    (kk : W p l e R s m args below meth c H locs cells slots Q (F0 m (pc + 1) ls (v :: rest))) : W p l e R s m args below meth c H locs cells slots Q (F0 m pc ls (.int (nI k) :: .ref a :: rest)) :=
  va_aldq hx hb hK hP q0 t0 ha ht (vp_in_nI hk hn) hdg (by rw [nI_clamp (Nat.lt_trans hk hn), hv]; exact kk)
theorem o_astq (hx : p.tables.exec = Jvm.exec) (hb : c.code = cc) (hK : va_K D cl tys s) (hP : va_P D cl ws H) (hD : va_D A ws) (hS : va_S A H0 H locs) (q0 t0 qk ci : Nat) {r : vw_C} {v : Nat} {vs : List Value} {f : Nat → Option Nat} (ha : ws[q0]? = some (a, .inl (cA, n, .inr (.inr (.inr (.inr f)))))) (ht : tys[t0]? = some (cA, .object r.1)) (hv : ws[qk]? = some (v, .inr (ci, vs))) (hc : cl[ci]? = some r) (k : Nat) (hk : k < n) (hn : n < 2 ^ 31) (hdg : decode cc pc = .ok (.aastore, 1))
    (kk : ∀ (H1 : Heap) (locs1 : List Loc), va_P D cl (ws.set q0 (a, .inl (cA, n, .inr (.inr (.inr (.inr (va_up f k (some v)))))))) H1 → va_D A (ws.set q0 (a, .inl (cA, n, .inr (.inr (.inr (.inr (va_up f k (some v)))))))) → va_S A H0 H1 locs1 → W p l e R s m args below meth c H1 locs1 cells slots Q (F0 m (pc + 1) ls rest)) : W p l e R s m args below meth c H locs cells slots Q (F0 m pc ls (.ref v :: .int (nI k) :: .ref a :: rest)) := by
  refine va_astq hx hb hK hP hD hS q0 t0 qk ci ha ht hv hc (vp_in_nI hk hn) hdg ?_
  rw [nI_clamp (Nat.lt_trans hk hn)]
  exact kk
end OK6
