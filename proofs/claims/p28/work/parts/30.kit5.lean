/-! the face's questions -/
abbrev qFm (A : Nat → Prop) (v : UInt32) (W1 : va_W) (G : va_G) : Array Value → State → Outcome → State → Prop := va_Qf (fun r (_ : Unit) => r = v) (fun _ t => va_P G vwCl W1 t.heap) A
abbrev MutF (l : Launch) (y : MethodName) (ws : List Cond) (f lo : Nat) (av : List Value) (H0 : Heap) (G : va_G) (cy : Nat → ClassId) (v : UInt32) (W0 W1 : va_W) : Prop := Met l y ws (oR f lo) (pR av H0 G cy) (qFm (va_A W0 H0.size) v W1 G) 0 0 (va_A W0 H0.size)
section OKa
variable {p : Program} {l : Launch} {e : Env} {R : Room} {s : State} {m : MethodId} {args : Array Value} {below : List Frame} {meth : Method} {c : Code} {H : Heap} {locs : List Loc} {cells slots : Nat} {Q : State → Prop}
variable {pc : Nat} {ls : Array Slot} {cc : ByteArray} {G : va_G} {A : Nat → Prop} {W1 : va_W}
theorem o_endFm {v v' : UInt32} (hx : p.tables.exec = Jvm.exec) (hb : c.code = cc) (hr : meth.sig.returnType = some .float) (hlocks : meth.locks = false) (hdg : decode cc pc = .ok (.freturn, 1)) (hP : va_P G vwCl W1 H) (hS : va_S A s.heap H locs) (hv : v = v') :
    W p l e R s m args below meth c H locs 0 0 (MQ below (qFm A v' W1 G) args s 0 0 A) (F0 m pc ls [.float v]) :=
  W.fret hx hb hr (fun t ht hW => ⟨⟨v, (), rfl, hv, by show va_P G vwCl W1 t.heap; rw [ht]; exact hP⟩, hS.F ht⟩) hS.2.2 hdg hlocks
theorem o_endZm {v v' : Int32} (hx : p.tables.exec = Jvm.exec) (hb : c.code = cc) (hr : meth.sig.returnType = some .boolean) (hlocks : meth.locks = false) (hdg : decode cc pc = .ok (.ireturn, 1)) (hn : narrow .boolean (.int v) = .int v) (hP : va_P G vwCl W1 H) (hS : va_S A s.heap H locs) (hv : v = v') :
    W p l e R s m args below meth c H locs 0 0 (MQ below (qIm A v' W1 G) args s 0 0 A) (F0 m pc ls [.int v]) :=
  W.zret hx hb hr hn (fun t ht hW => ⟨⟨v, (), rfl, hv, by show va_P G vwCl W1 t.heap; rw [ht]; exact hP⟩, hS.F ht⟩) hS.2.2 hdg hlocks
end OKa
theorem lk_eq {x : Option Nat} {k : Nat} (hk : k < 2 ^ 31) (hb : ∀ j, x = some j → j < 2 ^ 31) : lkI x = nI k ↔ x = some k := by
  cases x with
  | none => exact ⟨fun h => absurd h.symm (nI_m5 hk), fun h => by cases h⟩
  | some j => exact ⟨fun h => congrArg some ((nI_eq (hb j rfl) hk).mp h), fun h => by cases h; rfl⟩
/-- ruled by x -/
def rbB (M : MT) (ru : Nat → Option Nat) (x w : Nat) : Bool := match ru w with
  | none => false
  | some o => decide (mO M o = x)
theorem rbB_n {M : MT} {ru : Nat → Option Nat} {x w : Nat} (h : ru w = none) : ¬ rbB M ru x w = true := by unfold rbB; rw [h]; exact fun z => by cases z
theorem rbB_s {M : MT} {ru : Nat → Option Nat} {x w o : Nat} (h : ru w = some o) : rbB M ru x w = true ↔ mO M o = x := by unfold rbB; rw [h]; exact decide_eq_true_iff
