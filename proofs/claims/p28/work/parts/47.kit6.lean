theorem rng_mag {x : UInt32} (h : rngB x = true) : x.toNat % 2 ^ 31 < 157 * 2 ^ 23 := by
  have hf := rng_fin h
  obtain ⟨h1, h2⟩ := rngB_iff.mp h
  have nx := (FP.Core.notNaN_iff32 x).mp (FP.Core.FFin.notNaN hf)
  have e1 : FP.fcmp x 3463342888 = some (compare (FP.Core.fkey x) (FP.Core.fkey 3463342888)) := FP.Core.fcmp_key nx (by intro z; exact absurd z (by decide +kernel))
  have e2 : FP.fcmp x 1315859240 = some (compare (FP.Core.fkey x) (FP.Core.fkey 1315859240)) := FP.Core.fcmp_key nx (by intro z; exact absurd z (by decide +kernel))
  have k1 : FP.Core.fkey 3463342888 = -1315859240 := by decide +kernel
  have k2 : FP.Core.fkey 1315859240 = 1315859240 := by decide +kernel
  rw [k1] at e1
  rw [k2] at e2
  have a1 : ¬ FP.Core.fkey x < -1315859240 := fun z => by
    rw [e1, (FP.Core.compare_lt_iff _ _).mpr z] at h1
    exact h1 (by decide)
  have a2 : ¬ 1315859240 < FP.Core.fkey x := fun z => by
    rw [e2, (FP.Core.compare_gt_iff _ _).mpr z] at h2
    exact h2 (by decide)
  have hl := x.toNat_lt
  unfold FP.Core.fkey at a1 a2
  split at a1 <;> omega
theorem sub_rng {x y : UInt32} (hx : rngB x = true) (hy : rngB y = true) : Fin32 (FP.fsub x y) := FP.Core.fin_of_lt32 (FP.Core.fsub_mag (rng_mag hx) (rng_mag hy) (by decide)) (by decide)
theorem abs_fin {d : UInt32} (h : Fin32 d) : Fin32 (absF d) := by
  unfold absF
  split
  · exact h
  · obtain ⟨s, c, q, e⟩ := h
    exact ⟨!s, c, q, by rw [FP.val32_fneg, e]; rfl⟩
/-- what conflict() leaves -/
abbrev qWm (A : Nat → Prop) (v : Int32) (X : va_W) (cy : Nat → ClassId) (ua : Nat) (G : va_G) : Array Value → State → Outcome → State → Prop := va_Qi (fun r (_ : Nat → UInt64) => r = v) (fun uu t => va_P G vwCl (X ++ [(ua, eD cy 1 uu)]) t.heap) A
abbrev MutW (l : Launch) (y : MethodName) (ws : List Cond) (f lo : Nat) (av : List Value) (H0 : Heap) (G : va_G) (cy : Nat → ClassId) (v : Int32) (W0 X : va_W) (ua : Nat) : Prop := Met l y ws (oR f lo) (pR av H0 G cy) (qWm (va_A W0 H0.size) v X cy ua G) 0 0 (va_A W0 H0.size)
section OKd
variable {p : Program} {l : Launch} {e : Env} {R : Room} {s : State} {m : MethodId} {args : Array Value} {below : List Frame} {meth : Method} {c : Code} {H : Heap} {locs : List Loc} {cells slots : Nat} {Q : State → Prop}
variable {pc : Nat} {ls : Array Slot} {cc : ByteArray} {G : va_G} {A : Nat → Prop} {X : va_W} {cy : Nat → ClassId} {ua : Nat} {uu : Nat → UInt64}
theorem o_endW {v v' : Int32} (hx : p.tables.exec = Jvm.exec) (hb : c.code = cc) (hr : meth.sig.returnType = some .int) (hlocks : meth.locks = false) (hdg : decode cc pc = .ok (.ireturn, 1)) (hP : va_P G vwCl (X ++ [(ua, eD cy 1 uu)]) H) (hS : va_S A s.heap H locs) (hv : v = v') :
    W p l e R s m args below meth c H locs 0 0 (MQ below (qWm A v' X cy ua G) args s 0 0 A) (F0 m pc ls [.int v]) :=
  W.iret hx hb hr (fun t ht hW => ⟨⟨v, uu, rfl, hv, by show va_P G vwCl (X ++ [(ua, eD cy 1 uu)]) t.heap; rw [ht]; exact hP⟩, hS.F ht⟩) hS.2.2 hdg hlocks
end OKd
