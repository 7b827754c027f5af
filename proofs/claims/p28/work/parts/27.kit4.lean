/-! the whole object: its own cell, and what a writing call leaves -/
abbrev oSy (z : Nat) (q h x r y : Nat → Nat) : Nat × va_E := (z, .inr (6, [.ref (q 0), .ref (y 1), .int (nI 0), .ref (h 0), .ref (y 4), .ref (y 5), .ref (x 0), .ref (r 0), .ref (y 8)]))
abbrev qIs (A : Nat → Prop) (v : Int32) (cy : Nat → ClassId) (h : Nat → Nat) (X Y : va_W) (G : va_G) : Array Value → State → Outcome → State → Prop := va_Qi (fun r (u : HT) => r = v ∧ u.1 ≤ 4) (fun u t => va_P G vwCl (X ++ (wHi cy h u.1 u.2.1 u.2.2 ++ Y)) t.heap ∧ va_D A (X ++ (wHi cy h u.1 u.2.1 u.2.2 ++ Y))) A
abbrev MutS (l : Launch) (y : MethodName) (ws : List Cond) (f lo : Nat) (av : List Value) (H0 : Heap) (G : va_G) (cy : Nat → ClassId) (v : Int32) (h : Nat → Nat) (W0 X Y : va_W) : Prop := Met l y ws (oR f lo) (pR av H0 G cy) (qIs (va_A W0 H0.size) v cy h X Y G) 0 0 (va_A W0 H0.size)
section OK9
variable {p : Program} {l : Launch} {e : Env} {R : Room} {s : State} {m : MethodId} {args : Array Value} {below : List Frame} {meth : Method} {c : Code} {H : Heap} {locs : List Loc} {cells slots : Nat} {Q : State → Prop}
variable {pc : Nat} {ls : Array Slot} {rest : List Value} {cc : ByteArray} {G : va_G} {cy : Nat → ClassId} {A : Nat → Prop} {X Y : va_W} {h : Nat → Nat} {k : Nat} {d : Nat → Nat → Nat} {E : Nat → MT}
theorem o_endIs {v v' : Int32} (hx : p.tables.exec = Jvm.exec) (hb : c.code = cc) (hr : meth.sig.returnType = some .int) (hlocks : meth.locks = false) (hdg : decode cc pc = .ok (.ireturn, 1)) (hk : k ≤ 4) (hP : va_P G vwCl (X ++ (wHi cy h k d E ++ Y)) H) (hD : va_D A (X ++ (wHi cy h k d E ++ Y))) (hS : va_S A s.heap H locs) (hv : v = v') :
    W p l e R s m args below meth c H locs 0 0 (MQ below (qIs A v' cy h X Y G) args s 0 0 A) (F0 m pc ls [.int v]) :=
  W.iret hx hb hr (fun t ht hW => ⟨⟨v, (k, d, E), rfl, ⟨hv, hk⟩, by show va_P G vwCl (X ++ (wHi cy h k d E ++ Y)) t.heap; rw [ht]; exact hP, hD⟩, hS.F ht⟩) hS.2.2 hdg hlocks
end OK9
theorem va_us {α : Type} (f : Nat → α) (k : Nat) (v : α) : va_up f k v k = v := if_pos rfl
theorem va_un {α : Type} {f : Nat → α} {k j : Nat} {v : α} (h : j ≠ k) : va_up f k v j = f j := if_neg h
theorem WB_F {M : MT} (hW : WB M) (k v : Nat) (hv : v < 4) : WB (mP M, mN M, mS M, mB M, mT M, mR M, mO M, mW M, mL M, va_up (mF M) k v, mA M, mU M, mH M) := by
  obtain ⟨bP, bN, bR, bO, bW, bL, bF⟩ := hW
  refine ⟨bP, bN, bR, bO, bW, bL, fun j => ?_⟩
  show va_up (mF M) k v j < 4
  unfold va_up
  split
  · exact hv
  · exact bF j
theorem WB_H {M : MT} (hW : WB M) (g : Nat → UInt32) : WB (mP M, mN M, mS M, mB M, mT M, mR M, mO M, mW M, mL M, mF M, mA M, mU M, g) := hW
