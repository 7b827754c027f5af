/-! floats by their bits, as the class makes them -/
def exN (b : Int32) : Nat := b.toBitVec.toNat / 2 ^ 23 % 2 ^ 8
abbrev tN (b : Int32) : Nat := b.toBitVec.toNat % 2 ^ 23
def hvN (x : UInt32) : Nat → UInt32
  | 0 => x
  | n + 1 => FP.fmul (hvN x n) 1056964608
theorem half_fin : Fin32 1056964608 := ⟨false, 8388608, -24, by decide +kernel⟩
theorem half_nz : ¬ FP.Core.FZero 1056964608 := fun h => by
  have := (FP.Core.zero_bits232 _).mp h
  exact absurd this (by decide +kernel)
theorem hvN_n {x : UInt32} (h : FP.Core.fIsNaN x = false) : ∀ n, FP.Core.fIsNaN (hvN x n) = false
  | 0 => h
  | n + 1 => FP.Core.fmul_out' (hvN_n h n) half_fin half_nz
def exE (b : Int32) : Nat := if exN b = 0 then 1 else exN b
def dgE (b : Int32) : Nat := if exN b = 0 then tN b else tN b + 8388608
def tfl (b : Int32) : UInt32 := if 0 ≤ b then hvN (FP.i2f (nI (dgE b))) (150 - exE b) else FP.fneg (hvN (FP.i2f (nI (dgE b))) (150 - exE b))
theorem exN_lt (b : Int32) : exN b < 256 := Nat.mod_lt _ (by decide)
theorem tN_lt (b : Int32) : tN b < 2 ^ 23 := Nat.mod_lt _ (by decide)
def frB (b : Int32) (lo hi : UInt32) : Bool := decide (exN b ≤ 150 ∧ ¬ Op.cmpValue (FP.fcmp (tfl b) lo) .l < 0 ∧ ¬ 0 < Op.cmpValue (FP.fcmp (tfl b) hi) .g)
theorem frB_iff {b : Int32} {lo hi : UInt32} : frB b lo hi = true ↔ exN b ≤ 150 ∧ ¬ Op.cmpValue (FP.fcmp (tfl b) lo) .l < 0 ∧ ¬ 0 < Op.cmpValue (FP.fcmp (tfl b) hi) .g := by unfold frB; exact decide_eq_true_iff
theorem tfl_0 {b : Int32} (h : 0 ≤ b) : hvN (FP.i2f (nI (dgE b))) (150 - exE b) = tfl b := (if_pos h).symm
theorem tfl_1 {b : Int32} (h : ¬ 0 ≤ b) : FP.fneg (hvN (FP.i2f (nI (dgE b))) (150 - exE b)) = tfl b := (if_neg h).symm
theorem exE_0 {b : Int32} (h : exN b = 0) : exE b = 1 := if_pos h
theorem exE_s {b : Int32} (h : 0 < exN b) : exE b = exN b := if_neg (by omega)
theorem dgE_0 {b : Int32} (h : exN b = 0) : dgE b = tN b := if_pos h
theorem dgE_s {b : Int32} (h : 0 < exN b) : dgE b = tN b + 8388608 := if_neg (by omega)
section OK8
variable {p : Program} {l : Launch} {e : Env} {R : Room} {s : State} {m : MethodId} {args : Array Value} {below : List Frame} {meth : Method} {c : Code} {H : Heap} {locs : List Loc} {cells slots : Nat} {Q : State → Prop}
variable {pc : Nat} {ls : Array Slot} {rest : List Value} {cc : ByteArray}
theorem o_ldcwf0 {T : State} (X : Stand p l e R s m args below meth c T locs cells slots) (hexec : p.tables.exec = Jvm.exec) {own : String} {index : Nat} {v : UInt32} (hown : s.vm.findClass own = some m.cls)
    (hconst : (Cond.constantFloat own index v).before args s = true) {g : JFrame} (hg : g.method = m) (hdg : decode c.code g.pc = .ok (.ldc_w index, 3)) :
    ∀ target, Steps p.tables e below (T.setTop { g with pc := g.pc + 3, stack := .float v :: g.stack }) target → Steps p.tables e below (T.setTop g) target := by
  obtain ⟨k, cf, hk, hcf, hcp⟩ := Cond.constantFloat_spec hown hconst
  obtain ⟨k', hk', he⟩ := X.warmed.alike.2.2 _ _ hk
  intro target hrest
  subst hg
  jvm_step X.here [hexec, hdg, ldc_w.wp_float (s := T) (f := g) X.here.top hk' (by rw [he]; exact hcf) hcp]
  exact hrest
theorem o_ldcwf (hexec : p.tables.exec = Jvm.exec) (hb : c.code = cc) {own : String} {index : Nat} {v : UInt32} (hown : s.vm.findClass own = some m.cls) (hconst : (Jvm.Cond.constantFloat own index v).before args s = true) (hdg : decode cc pc = .ok (.ldc_w index, 3)) (k : W p l e R s m args below meth c H locs cells slots Q (F0 m (pc + 3) ls (.float v :: rest))) : W p l e R s m args below meth c H locs cells slots Q (F0 m pc ls rest) := by
  intro T hT X
  obtain ⟨t, a, b⟩ := k T hT X
  exact ⟨t, o_ldcwf0 X hexec hown hconst (g := F0 m pc ls rest) rfl (by rw [hb]; exact hdg) t a, b⟩
end OK8
