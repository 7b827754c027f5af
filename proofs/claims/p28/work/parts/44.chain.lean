/-! chains of links -/
theorem ex_fix {M : MT} {ru : Nat → Option Nat} : ∃ kn va, IvK M ru kn va ∧ ∀ w, w < 16 → stk M ru kn va w := by
  have key : ∀ (d : Nat) (kn : Nat → Bool) (va : Nat → UInt32), 16 - cR kn 0 16 ≤ d → IvK M ru kn va → ∃ kn va, IvK M ru kn va ∧ ∀ w, w < 16 → stk M ru kn va w := by
    intro d
    induction d with
    | zero =>
      intro kn va h hI
      refine ⟨kn, va, hI, fun w hw hk => ?_⟩
      rw [cR_full (p := kn) (n := 16) (by omega) w hw] at hk
      cases hk
    | succ d ih =>
      intro kn va h hI
      by_cases hs : ∀ w, w < 16 → stk M ru kn va w
      · exact ⟨kn, va, hI, hs⟩
      · have : ∃ w, w < 16 ∧ ¬ stk M ru kn va w := by
          refine Classical.byContradiction fun q => hs fun w hw => Classical.byContradiction fun z => q ⟨w, hw, z⟩
        obtain ⟨w, hw, hz⟩ := this
        have h2 : kn w = false ∧ ∃ o, ru w = some o ∧ oHas M kn va o = true := by
          refine Classical.byContradiction fun q => hz fun hk o ho hh => q ⟨hk, o, ho, hh⟩
        obtain ⟨hk, o, ho, hh⟩ := h2
        have h3 := IvK_step hI hw (by rw [hk]; decide) ho hh
        exact ih _ _ (by rw [h3.2]; omega) h3.1
  exact key 16 _ _ (Nat.sub_le _ _) (IvK_0)
theorem ev_stab {M : MT} (hW : WB M) {ru : Nat → Option Nat} {n x : Nat} {v : UInt32} (hx : x < 16) (h : ev M ru n x = some v) : ev M ru 16 x = some v := by
  obtain ⟨kn, va, hI, hs⟩ := ex_fix (M := M) (ru := ru)
  obtain ⟨h1, h2⟩ := known_of_ev hW hI hs n x v hx h
  rw [← h2]
  exact ev_mono (cR_le kn 0 16) (hI.2.1 x h1)
/-- the value of a word -/
abbrev EV (M : MT) : Nat → Option UInt32 := ev M (rl M) 16
theorem EV_s {M : MT} (hW : WB M) {x o : Nat} (hx : x < 16) (h : rl M x = some o) : EV M x = evo M (EV M) o := by
  have e : ev M (rl M) 17 x = evo M (EV M) o := ev_s h
  rw [← e]
  cases h16 : ev M (rl M) 16 x with
  | some v => exact (ev_mono1 16 h16).symm ▸ h16
  | none =>
    cases h17 : ev M (rl M) 17 x with
    | none => exact h16
    | some v => rw [ev_stab hW hx h17] at h16; cases h16
theorem EV_n {M : MT} {x : Nat} (h : rl M x = none) : EV M x = none := ev_n h
theorem kF_iff {M : MT} {w : Nat} : kF M w = true ↔ ∃ v, EV M w = some v := Option.isSome_iff_exists
theorem vF_eq {M : MT} {w : Nat} {v : UInt32} (h : EV M w = some v) : vF M w = v := by
  show (EV M w).getD 0 = v
  rw [h]
  rfl
theorem EV_kF {M : MT} {w : Nat} (h : kF M w = true) : EV M w = some (vF M w) := by
  obtain ⟨v, hv⟩ := kF_iff.mp h
  rw [vF_eq hv]
  exact hv
def nxt (M : MT) (x : Nat) : Option Nat := match rl M x with
  | none => none
  | some o => mL M o
theorem nxt_s {M : MT} {x o : Nat} (h : rl M x = some o) : nxt M x = mL M o := by unfold nxt; rw [h]
theorem nxt_n {M : MT} {x : Nat} (h : rl M x = none) : nxt M x = none := by unfold nxt; rw [h]
/-- the word after so many links -/
def ch (M : MT) (w : Nat) : Nat → Option Nat
  | 0 => some w
  | i + 1 => match ch M w i with
    | none => none
    | some x => nxt M x
theorem ch_s {M : MT} {w i x : Nat} (h : ch M w i = some x) : ch M w (i + 1) = nxt M x := by
  show (match ch M w i with | none => none | some x => nxt M x) = _
  rw [h]
theorem ch_n {M : MT} {w i : Nat} (h : ch M w i = none) : ch M w (i + 1) = none := by
  show (match ch M w i with | none => none | some x => nxt M x) = _
  rw [h]
theorem ch_suc {M : MT} {w i y : Nat} (h : ch M w (i + 1) = some y) : ∃ x o, ch M w i = some x ∧ rl M x = some o ∧ mL M o = some y := by
  cases hx : ch M w i with
  | none => rw [ch_n hx] at h; cases h
  | some x =>
    rw [ch_s hx] at h
    cases ho : rl M x with
    | none => rw [nxt_n ho] at h; cases h
    | some o => rw [nxt_s ho] at h; exact ⟨x, o, rfl, ho, h⟩
theorem ch_lt {M : MT} (hW : WB M) {w : Nat} (hw : w < 16) : ∀ {i x : Nat}, ch M w i = some x → x < 16
  | 0, x, h => by cases h; exact hw
  | i + 1, x, h => by
    obtain ⟨y, o, h1, h2, h3⟩ := ch_suc h
    exact hW.2.2.2.2.2.1 o x h3
theorem ch_le {M : MT} {w : Nat} {i j : Nat} {y : Nat} (h : ch M w j = some y) (hij : i ≤ j) : ∃ x, ch M w i = some x := by
  obtain ⟨d, rfl⟩ := Nat.exists_eq_add_of_le hij
  clear hij
  induction d generalizing y with
  | zero => exact ⟨y, h⟩
  | succ d ih =>
    obtain ⟨x, o, h1, -, -⟩ := ch_suc (i := i + d) h
    exact ih h1
theorem ch_front {M : MT} {w : Nat} : ∀ n, ch M w (n + 1) = (match nxt M w with | none => none | some y => ch M y n)
  | 0 => by
    rw [ch_s (i := 0) (x := w) rfl]
    cases nxt M w <;> rfl
  | n + 1 => by
    have ih := ch_front (M := M) (w := w) n
    cases h : nxt M w with
    | none =>
      have ih2 : ch M w (n + 1) = none := by rw [ih, h]
      exact ch_n ih2
    | some y =>
      have ih2 : ch M w (n + 1) = ch M y n := by rw [ih, h]
      show ch M w (n + 1 + 1) = ch M y (n + 1)
      cases hy : ch M y n with
      | none => rw [ch_n (ih2.trans hy), ch_n hy]
      | some z => rw [ch_s (ih2.trans hy), ch_s hy]
theorem ch_ev {M : MT} : ∀ {n w : Nat} {v : UInt32}, ev M (rl M) n w = some v → ch M w n = none
  | 0, w, v, h => by cases h
  | n + 1, w, v, h => by
    rw [ch_front]
    cases hr : rl M w with
    | none => rw [nxt_n hr]
    | some o =>
      rw [ev_s hr] at h
      rw [nxt_s hr]
      cases hl : mL M o with
      | none => rfl
      | some x =>
        cases hx : ev M (rl M) n x with
        | none => rw [evo_0 hl hx] at h; cases h
        | some u => exact ch_ev hx
theorem ch_17 {M : MT} {w x : Nat} (h : ch M w 17 = some x) : ¬ kF M w = true := fun z => by
  obtain ⟨v, hv⟩ := kF_iff.mp z
  rw [ch_n (ch_ev hv)] at h
  cases h
/-- a word without a value on the way: the first has none -/
theorem ch_none {M : MT} (hW : WB M) {w : Nat} (hw : w < 16) : ∀ {i x : Nat}, ch M w i = some x → EV M x = none → EV M w = none
  | 0, x, h, hx => by cases h; exact hx
  | i + 1, x, h, hx => by
    obtain ⟨y, o, h1, h2, h3⟩ := ch_suc h
    exact ch_none hW hw h1 (by rw [EV_s hW (ch_lt hW hw h1) h2]; exact evo_0 h3 hx)
theorem not_kF {M : MT} {w : Nat} (h : EV M w = none) : ¬ kF M w = true := fun z => by
  obtain ⟨v, hv⟩ := kF_iff.mp z
  rw [h] at hv
  cases hv
/-- what has() and hasOf() leave: their answer, and the value where there is one -/
abbrev qUm (A : Nat → Prop) (P : Prop) [Decidable P] (v : UInt32) (X : va_W) (cy : Nat → ClassId) (ua : Nat) (G : va_G) : Array Value → State → Outcome → State → Prop := va_Qi (fun r (uu : Nat → UInt64) => r = bI P ∧ (P → uu 0 = FP.f2d v)) (fun uu t => va_P G vwCl (X ++ [(ua, eD cy 1 uu)]) t.heap) A
abbrev MutU (l : Launch) (y : MethodName) (ws : List Cond) (f lo : Nat) (av : List Value) (H0 : Heap) (G : va_G) (cy : Nat → ClassId) (P : Prop) [Decidable P] (v : UInt32) (W0 X : va_W) (ua : Nat) : Prop := Met l y ws (oR f lo) (pR av H0 G cy) (qUm (va_A W0 H0.size) P v X cy ua G) 0 0 (va_A W0 H0.size)
theorem chk_f {v : UInt32} (h : ¬ rngB v = true) : chk v = none := if_neg h
theorem has_end {M : MT} {w : Nat} {f : UInt32} {bb : Bool} (h1 : bb = true → ∃ y, ch M w 0 = some y ∧ EV M y = some f) (h2 : bb = false → EV M w = none) : ((bb = true) ↔ kF M w = true) ∧ (kF M w = true → FP.f2d f = FP.f2d (vF M w)) := by
  cases bb with
  | true =>
    obtain ⟨y, g1, g2⟩ := h1 rfl
    cases g1
    exact ⟨⟨fun _ => kF_iff.mpr ⟨f, g2⟩, fun _ => rfl⟩, fun _ => by rw [vF_eq g2]⟩
  | false => exact ⟨⟨fun z => (by cases z), fun z => absurd z (not_kF (h2 rfl))⟩, fun z => absurd z (not_kF (h2 rfl))⟩
theorem has_end2 {M : MT} {w : Nat} {f : UInt32} {bb : Bool} (h1 : ¬ bb = true) (h2 : bb = false → EV M w = none) : ((bb = true) ↔ kF M w = true) ∧ (kF M w = true → FP.f2d f = FP.f2d (vF M w)) := by
  cases bb with
  | true => exact absurd rfl h1
  | false => exact ⟨⟨fun z => (by cases z), fun z => absurd z (not_kF (h2 rfl))⟩, fun z => absurd z (not_kF (h2 rfl))⟩
section OKc
variable {p : Program} {l : Launch} {e : Env} {R : Room} {s : State} {m : MethodId} {args : Array Value} {below : List Frame} {meth : Method} {c : Code} {H : Heap} {locs : List Loc} {cells slots : Nat} {Q : State → Prop}
variable {pc : Nat} {ls : Array Slot} {cc : ByteArray} {G : va_G} {A : Nat → Prop} {X : va_W} {cy : Nat → ClassId} {ua : Nat} {uu : Nat → UInt64}
theorem o_endU {P : Prop} [Decidable P] {v : Int32} {x : UInt32} (hx : p.tables.exec = Jvm.exec) (hb : c.code = cc) (hr : meth.sig.returnType = some .boolean) (hlocks : meth.locks = false) (hdg : decode cc pc = .ok (.ireturn, 1)) (hn : narrow .boolean (.int v) = .int v) (hP : va_P G vwCl (X ++ [(ua, eD cy 1 uu)]) H) (hS : va_S A s.heap H locs) (hv : v = bI P) (hu : P → uu 0 = FP.f2d x) :
    W p l e R s m args below meth c H locs 0 0 (MQ below (qUm A P x X cy ua G) args s 0 0 A) (F0 m pc ls [.int v]) :=
  W.zret hx hb hr hn (fun t ht hW => ⟨⟨v, uu, rfl, ⟨hv, hu⟩, by show va_P G vwCl (X ++ [(ua, eD cy 1 uu)]) t.heap; rw [ht]; exact hP⟩, hS.F ht⟩) hS.2.2 hdg hlocks
end OKc
