/-! a new row of doubles; ends of methods that make cells; equalities that the checks meet -/
abbrev MutN (l : Launch) (y : MethodName) (ws : List Cond) (f lo mc ms : Nat) (av : List Value) (H0 : Heap) (G : va_G) (cy : Nat → ClassId) (v : Int32) (W0 W1 : va_W) : Prop := Met l y ws ({ frames := f, cells := mc, slots := ms, locals := lo }) (pR av H0 G cy) (qIm (va_A W0 H0.size) v W1 G) mc ms (va_A W0 H0.size)
section OKe
variable {p : Program} {l : Launch} {e : Env} {R : Room} {s : State} {m : MethodId} {args : Array Value} {below : List Frame} {meth : Method} {c : Code} {H H0 : Heap} {locs : List Loc} {cells slots : Nat} {Q : State → Prop}
variable {pc : Nat} {ls : Array Slot} {rest : List Value} {cc : ByteArray} {G : va_G} {cy : Nat → ClassId} {A : Nat → Prop} {W1 ws : va_W}
theorem o_newD (hx : p.tables.exec = Jvm.exec) (hb : c.code = cc) (harr : (Cond.arrayClass .double).before args s = true) (hK : oK G cy s) (hP : va_P G vwCl ws H) (hD : va_D A ws) (hS : va_S A H0 H locs) (hA : ∀ q, H0.size ≤ q → A q) {n : Nat} (hn : n < 1000) (hcells : cells + 1 ≤ R.cells) (hslots : slots + n ≤ R.slots) (hdg : decode cc pc = .ok (.newarray .double, 2))
    (kk : ∀ (q : Nat) (H1 : Heap), va_P G vwCl (ws ++ [(q, eD cy n (fun _ => 0))]) H1 → va_D A (ws ++ [(q, eD cy n (fun _ => 0))]) → va_S A H0 H1 locs → W p l e R s m args below meth c H1 locs (cells + 1) (slots + n) Q (F0 m (pc + 2) ls (.ref q :: rest))) : W p l e R s m args below meth c H locs cells slots Q (F0 m pc ls (.int (nI n) :: rest)) := by
  refine va_newa (atype := .double) (ty := .double) (N' := n) (a0 := (n, .inr (.inr (.inr (.inl (fun _ => 0)))))) hx hb harr rfl hK hP hD hS hA (fun cA => rfl) (nI_pos (by omega)) (nI_clamp (by omega)) (by show n * 8 ≤ 536870912; omega) hcells hslots hdg ?_
  intro q cA H1 hK1 hP1 hD1 hS1
  have h1 : s.vm.findClass ("[" ++ FieldType.double.toString) = some cA := (hK1.2 6 (cA, .double) rfl).2
  have h2 : s.vm.findClass ("[" ++ FieldType.double.toString) = some (cy 3) := (hK.2 3 (cy 3, .double) rfl).2
  obtain rfl : cA = cy 3 := Option.some.inj (h1.symm.trans h2)
  exact kk q H1 hP1 hD1 hS1
theorem o_endZn {v v' : Int32} (hx : p.tables.exec = Jvm.exec) (hb : c.code = cc) (hr : meth.sig.returnType = some .boolean) (hlocks : meth.locks = false) (hdg : decode cc pc = .ok (.ireturn, 1)) (hn : narrow .boolean (.int v) = .int v) (hP : va_P G vwCl W1 H) (hS : va_S A s.heap H locs) (hv : v = v') :
    W p l e R s m args below meth c H locs cells slots (MQ below (qIm A v' W1 G) args s cells slots A) (F0 m pc ls [.int v]) :=
  W.zret hx hb hr hn (fun t ht hW => ⟨⟨v, (), rfl, hv, by show va_P G vwCl W1 t.heap; rw [ht]; exact hP⟩, hS.F ht⟩) hS.2.2 hdg hlocks
end OKe
theorem cmp_same {a : UInt32} (h : Fin32 a) : Op.cmpValue (FP.dcmp (FP.f2d a) (FP.f2d a)) .l = 0 := by
  rw [dcmp_f2d h h, show FP.fcmp a a = some .eq from FP.Core.fcmp_self ((FP.Core.notNaN_iff32 a).mp (FP.Core.FFin.notNaN h))]
  rfl
theorem hAt_cnt {p : Nat → Bool} : ∀ {n r : Nat}, cR p 0 n ≤ r → hAt p n r = -5
  | 0, r, _ => rfl
  | n + 1, r, h => by
    by_cases hp : p n = true
    · rw [cZ_t hp] at h
      rw [hAt_s hp (by omega)]
      exact hAt_cnt (by omega)
    · rw [cZ_f hp] at h
      rw [hAt_n hp]
      exact hAt_cnt h
theorem cR_zero {p : Nat → Bool} : ∀ {n : Nat}, cR p 0 n = 0 → ∀ j, j < n → ¬ p j = true
  | 0, _, j, h => absurd h (Nat.not_lt_zero j)
  | n + 1, h, j, hj => by
    by_cases hp : p n = true
    · rw [cZ_t hp] at h; omega
    · rw [cZ_f hp] at h
      by_cases q : j = n
      · rw [q]; exact hp
      · exact cR_zero h j (by omega)
theorem cR_none {p : Nat → Bool} : ∀ {n : Nat}, (∀ j, j < n → ¬ p j = true) → cR p 0 n = 0
  | 0, _ => rfl
  | n + 1, h => by rw [cZ_f (h n (Nat.lt_succ_self n))]; exact cR_none (fun j hj => h j (by omega))
theorem rl_none {M : MT} {w : Nat} : rl M w = none ↔ cR (hfB M w) 0 (mN M) = 0 := by
  constructor
  · intro h
    have hb : isB M w 0 (mN M) (rl M w) := isB_rlN (mN M)
    rw [h] at hb
    exact cR_none (fun j hj z => hb j (Nat.zero_le _) hj (hfB_iff.mp z))
  · intro h
    have hb : isB M w 0 (mN M) none := fun j _ hj z => cR_zero h j hj (hfB_iff.mpr z)
    exact (isB_rl hb).symm
