section OKf
variable {p : Program} {l : Launch} {e : Env} {R : Room} {s : State} {m : MethodId} {args : Array Value} {below : List Frame} {meth : Method} {c : Code} {H : Heap} {locs : List Loc} {cells slots : Nat} {Q : State → Prop}
variable {pc : Nat} {ls : Array Slot} {rest : List Value} {cc : ByteArray} {G : va_G} {cy : Nat → ClassId} {A : Nat → Prop} {X Y : va_W} {h : Nat → Nat} {k : Nat} {d : Nat → Nat → Nat} {E : Nat → MT}
theorem o_endSz {v v' : Int32} (hx : p.tables.exec = Jvm.exec) (hb : c.code = cc) (hr : meth.sig.returnType = some .boolean) (hlocks : meth.locks = false) (hdg : decode cc pc = .ok (.ireturn, 1)) (hn : narrow .boolean (.int v) = .int v) (hk : k ≤ 4) (hP : va_P G vwCl (X ++ (wHi cy h k d E ++ Y)) H) (hD : va_D A (X ++ (wHi cy h k d E ++ Y))) (hS : va_S A s.heap H locs) (hv : v = v') :
    W p l e R s m args below meth c H locs 0 0 (MQ below (qIs A v' cy h X Y G) args s 0 0 A) (F0 m pc ls [.int v]) :=
  W.zret hx hb hr hn (fun t ht hW => ⟨⟨v, (k, d, E), rfl, ⟨hv, hk⟩, by show va_P G vwCl (X ++ (wHi cy h k d E ++ Y)) t.heap; rw [ht]; exact hP, hD⟩, hS.F ht⟩) hS.2.2 hdg hlocks
end OKf
/-- a strength written in the law's rows -/
theorem tD_up (M : MT) {k : Nat} (hk : k ≠ 24) (x : UInt32) : vf_upd (tD M) k (FP.f2d x) = tD (mP M, mN M, mS M, mB M, mT M, mR M, mO M, mW M, mL M, mF M, mA M, mU M, va_up (mH M) k x) := by
  funext j
  show (if j = k then FP.f2d x else if j = 24 then FP.f2d (mT M) else FP.f2d (mH M j)) = (if j = 24 then FP.f2d (mT M) else FP.f2d (if j = k then x else mH M j))
  by_cases q : j = k
  · rw [if_pos q, if_neg (by omega), if_pos q]
  · rw [if_neg q, if_neg q]
/-- an order torn in the law's rows -/
theorem aI_up (M : MT) (k v : Nat) (hv : ¬ v = 1) : upd (aI M) (4 * k + 3) (nI 0) = aI (mP M, mN M, mS M, mB M, mT M, mR M, mO M, mW M, mL M, va_up (mF M) k v, mA M, mU M, mH M) := by
  funext j
  show (if j = 4 * k + 3 then nI 0 else aI M j) = _
  unfold aI
  by_cases q : j = 4 * k + 3
  · rw [if_pos q, if_neg (by omega), if_neg (by omega), if_neg (by omega)]
    show nI 0 = bI ((if j / 4 = k then v else mF M (j / 4)) = 1)
    rw [if_pos (by omega), bI_f hv]
    rfl
  · rw [if_neg q]
    by_cases q0 : j % 4 = 0
    · rw [if_pos q0, if_pos q0]
    · rw [if_neg q0, if_neg q0]
      by_cases q1 : j % 4 = 1
      · rw [if_pos q1, if_pos q1]
      · rw [if_neg q1, if_neg q1]
        by_cases q2 : j % 4 = 2
        · rw [if_pos q2, if_pos q2]
        · rw [if_neg q2, if_neg q2]
          show bI (mF M (j / 4) = 1) = bI ((if j / 4 = k then v else mF M (j / 4)) = 1)
          rw [if_neg (by omega)]
theorem ten_fin : Fin32 1092616192 := ⟨false, 10485760, -20, by decide +kernel⟩
theorem ham_n2 {x : UInt32} (hx : Fin32 x) : FP.Core.fIsNaN (FP.fmul (FP.fsub 1092616192 x) 1056964608) = false := FP.Core.fmul_out' (sub_n ten_fin hx) half_fin half_nz
