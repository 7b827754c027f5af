/-! the values that come of rulers: by chains, and by rounds -/
def chk (v : UInt32) : Option UInt32 := if rngB v = true then some v else none
theorem chk_t {v : UInt32} (h : rngB v = true) : chk v = some v := if_pos h
theorem chk_s {v u : UInt32} (h : chk v = some u) : rngB v = true ∧ v = u := by
  unfold chk at h
  split at h
  · rename_i z
    cases h
    exact ⟨z, rfl⟩
  · cases h
def evo (M : MT) (f : Nat → Option UInt32) (o : Nat) : Option UInt32 := match mL M o with
  | none => chk (mU M o)
  | some x => match f x with
    | none => none
    | some v => chk (FP.fadd (FP.fmul v (mA M o)) (mU M o))
theorem evo_n {M : MT} {f : Nat → Option UInt32} {o : Nat} (h : mL M o = none) : evo M f o = chk (mU M o) := by unfold evo; rw [h]
theorem evo_s {M : MT} {f : Nat → Option UInt32} {o x : Nat} {v : UInt32} (h : mL M o = some x) (hv : f x = some v) : evo M f o = chk (FP.fadd (FP.fmul v (mA M o)) (mU M o)) := by unfold evo; rw [h]; simp only [hv]
theorem evo_0 {M : MT} {f : Nat → Option UInt32} {o x : Nat} (h : mL M o = some x) (hv : f x = none) : evo M f o = none := by unfold evo; rw [h]; simp only [hv]
def ev (M : MT) (ru : Nat → Option Nat) : Nat → Nat → Option UInt32
  | 0 => fun _ => none
  | n + 1 => fun w => match ru w with
    | none => none
    | some o => evo M (ev M ru n) o
theorem ev_n {M : MT} {ru : Nat → Option Nat} {n w : Nat} (h : ru w = none) : ev M ru (n + 1) w = none := by
  show (match ru w with | none => none | some o => evo M (ev M ru n) o) = _
  rw [h]
theorem ev_s {M : MT} {ru : Nat → Option Nat} {n w o : Nat} (h : ru w = some o) : ev M ru (n + 1) w = evo M (ev M ru n) o := by
  show (match ru w with | none => none | some o => evo M (ev M ru n) o) = _
  rw [h]
theorem evo_mono {M : MT} {f g : Nat → Option UInt32} (h : ∀ x v, f x = some v → g x = some v) {o : Nat} {v : UInt32} (hv : evo M f o = some v) : evo M g o = some v := by
  cases hl : mL M o with
  | none => rw [evo_n hl] at hv ⊢; exact hv
  | some x =>
    cases hx : f x with
    | none => rw [evo_0 hl hx] at hv; cases hv
    | some u => rw [evo_s hl hx] at hv; rw [evo_s hl (h x u hx)]; exact hv
theorem ev_mono1 {M : MT} {ru : Nat → Option Nat} : ∀ (n : Nat) {w : Nat} {v : UInt32}, ev M ru n w = some v → ev M ru (n + 1) w = some v
  | 0, w, v, h => by cases h
  | n + 1, w, v, h => by
    cases hr : ru w with
    | none => rw [ev_n hr] at h; cases h
    | some o =>
      rw [ev_s hr] at h ⊢
      exact evo_mono (fun x u hx => ev_mono1 n hx) h
theorem ev_mono {M : MT} {ru : Nat → Option Nat} {n m w : Nat} {v : UInt32} (hm : n ≤ m) (h : ev M ru n w = some v) : ev M ru m w = some v := by
  obtain ⟨d, rfl⟩ := Nat.exists_eq_add_of_le hm
  induction d with
  | zero => exact h
  | succ d ih => exact ev_mono1 (n + d) (ih (Nat.le_add_right _ _))
theorem ev_fin {M : MT} {ru : Nat → Option Nat} : ∀ {n w : Nat} {v : UInt32}, ev M ru n w = some v → rngB v = true
  | 0, w, v, h => by cases h
  | n + 1, w, v, h => by
    cases hr : ru w with
    | none => rw [ev_n hr] at h; cases h
    | some o =>
      rw [ev_s hr] at h
      cases hl : mL M o with
      | none => rw [evo_n hl] at h; obtain ⟨a, rfl⟩ := chk_s h; exact a
      | some x =>
        cases hx : ev M ru n x with
        | none => rw [evo_0 hl hx] at h; cases h
        | some u => rw [evo_s hl hx] at h; obtain ⟨a, rfl⟩ := chk_s h; exact a
theorem cR_up {p : Nat → Bool} {w : Nat} (h : p w = false) : ∀ n : Nat, cR (va_up p w true) 0 n = cR p 0 n + (if w < n then 1 else 0)
  | 0 => rfl
  | n + 1 => by
    show cR (va_up p w true) 0 n + (if va_up p w true (0 + n) then 1 else 0) = cR p 0 n + (if p (0 + n) then 1 else 0) + _
    rw [cR_up h n, Nat.zero_add]
    by_cases hn : n = w
    · subst hn
      have e : va_up p n true n = true := by unfold va_up; rw [if_pos rfl]
      rw [e, h]
      simp
    · have e : va_up p w true n = p n := by unfold va_up; rw [if_neg hn]
      rw [e]
      by_cases hw : w < n
      · rw [if_pos hw, if_pos (show w < n + 1 by omega)]; omega
      · rw [if_neg hw, if_neg (show ¬ w < n + 1 by omega)]; omega
/-- what every round keeps -/
def IvK (M : MT) (ru : Nat → Option Nat) (kn : Nat → Bool) (va : Nat → UInt32) : Prop := (∀ w, Fin32 (va w)) ∧ (∀ w, kn w = true → ev M ru (cR kn 0 16) w = some (va w)) ∧ ∀ w, kn w = false → va w = 0
def stk (M : MT) (ru : Nat → Option Nat) (kn : Nat → Bool) (va : Nat → UInt32) (w : Nat) : Prop := kn w = false → ∀ o, ru w = some o → ¬ oHas M kn va o = true
theorem IvK_0 {M : MT} {ru : Nat → Option Nat} : IvK M ru (fun _ => false) (fun _ => 0) := ⟨fun _ => fin_0, fun _ h => (by cases h), fun _ _ => rfl⟩
theorem oHas_ev {M : MT} {ru : Nat → Option Nat} {kn : Nat → Bool} {va : Nat → UInt32} {n o : Nat} (hk : ∀ x, kn x = true → ev M ru n x = some (va x)) (h : oHas M kn va o = true) : evo M (ev M ru n) o = some (oVal M va o) := by
  cases hl : mL M o with
  | none =>
    have hr := (oHas_n hl).mp h
    rw [evo_n hl, oVal_n hl] at *
    exact chk_t hr
  | some x =>
    obtain ⟨h1, h2⟩ := (oHas_s hl).mp h
    rw [evo_s hl (hk x h1)]
    rw [oVal_s hl] at h2 ⊢
    exact chk_t h2
theorem IvK_step {M : MT} {ru : Nat → Option Nat} {kn : Nat → Bool} {va : Nat → UInt32} {w o : Nat} (hI : IvK M ru kn va) (hw : w < 16) (hk : ¬ kn w = true) (hr : ru w = some o) (hh : oHas M kn va o = true) : IvK M ru (va_up kn w true) (va_up va w (oVal M va o)) ∧ cR (va_up kn w true) 0 16 = cR kn 0 16 + 1 := by
  have hk' : kn w = false := by cases h : kn w; rfl; exact absurd h hk
  have hc : cR (va_up kn w true) 0 16 = cR kn 0 16 + 1 := by rw [cR_up hk' 16, if_pos hw]
  refine ⟨⟨fun x => ?_, fun x hx => ?_, fun x hx => ?_⟩, hc⟩
  · unfold va_up
    split
    · exact rng_fin (oHas_rng hh)
    · exact hI.1 x
  · rw [hc]
    by_cases he : x = w
    · subst he
      rw [ev_s hr, oHas_ev hI.2.1 hh]
      unfold va_up
      rw [if_pos rfl]
    · have e1 : va_up kn w true x = kn x := by unfold va_up; rw [if_neg he]
      have e2 : va_up va w (oVal M va o) x = va x := by unfold va_up; rw [if_neg he]
      rw [e1] at hx
      rw [e2]
      exact ev_mono1 _ (hI.2.1 x hx)
  · by_cases he : x = w
    · subst he
      unfold va_up at hx
      rw [if_pos rfl] at hx
      cases hx
    · have e1 : va_up kn w true x = kn x := by unfold va_up; rw [if_neg he]
      have e2 : va_up va w (oVal M va o) x = va x := by unfold va_up; rw [if_neg he]
      rw [e1] at hx
      rw [e2]
      exact hI.2.2 x hx
def knF (M : MT) (ru : Nat → Option Nat) : Nat → Bool := fun w => (ev M ru 16 w).isSome
def vaF (M : MT) (ru : Nat → Option Nat) : Nat → UInt32 := fun w => (ev M ru 16 w).getD 0
theorem vaF_fin {M : MT} {ru : Nat → Option Nat} (w : Nat) : Fin32 (vaF M ru w) := by
  unfold vaF
  cases h : ev M ru 16 w with
  | none => exact fin_0
  | some v => exact rng_fin (ev_fin h)
theorem known_of_ev {M : MT} {ru : Nat → Option Nat} {kn : Nat → Bool} {va : Nat → UInt32} (hW : WB M) (hI : IvK M ru kn va) (hs : ∀ w, w < 16 → stk M ru kn va w) : ∀ (n w : Nat) (v : UInt32), w < 16 → ev M ru n w = some v → kn w = true ∧ va w = v
  | 0, w, v, _, h => by cases h
  | n + 1, w, v, hw, h => by
    have hkn : kn w = true := by
      cases hk : kn w with
      | true => rfl
      | false =>
        exfalso
        cases hr : ru w with
        | none => rw [ev_n hr] at h; cases h
        | some o =>
          refine hs w hw hk o hr ?_
          rw [ev_s hr] at h
          cases hl : mL M o with
          | none =>
            rw [evo_n hl] at h
            rw [oHas_n hl, oVal_n hl]
            exact (chk_s h).1
          | some x =>
            cases hx : ev M ru n x with
            | none => rw [evo_0 hl hx] at h; cases h
            | some u =>
              obtain ⟨h1, h2⟩ := known_of_ev hW hI hs n x u (hW.2.2.2.2.2.1 o x hl) hx
              rw [evo_s hl hx] at h
              rw [oHas_s hl, oVal_s hl, h2]
              exact ⟨h1, (chk_s h).1⟩
    refine ⟨hkn, ?_⟩
    have a := ev_mono (Nat.le_max_left (cR kn 0 16) (n + 1)) (hI.2.1 w hkn)
    have b := ev_mono (Nat.le_max_right (cR kn 0 16) (n + 1)) h
    rw [a] at b
    exact Option.some.inj b
theorem fix_known {M : MT} {ru : Nat → Option Nat} {kn : Nat → Bool} {va : Nat → UInt32} (hW : WB M) (hI : IvK M ru kn va) (hs : ∀ w, w < 16 → stk M ru kn va w) {w : Nat} (hw : w < 16) : kn w = knF M ru w ∧ va w = vaF M ru w := by
  cases hk : kn w with
  | true =>
    have h := ev_mono (cR_le kn 0 16) (hI.2.1 w hk)
    unfold knF vaF
    rw [h]
    exact ⟨rfl, rfl⟩
  | false =>
    cases h : ev M ru 16 w with
    | none =>
      unfold knF vaF
      rw [h]
      exact ⟨rfl, hI.2.2 w hk⟩
    | some v =>
      have := (known_of_ev hW hI hs 16 w v hw h).1
      rw [hk] at this
      cases this
theorem cR_full {p : Nat → Bool} : ∀ {n : Nat}, n ≤ cR p 0 n → ∀ w, w < n → p w = true
  | 0, _, w, h => absurd h (Nat.not_lt_zero w)
  | n + 1, h, w, hw => by
    have hle := cR_le p 0 n
    have hs : cR p 0 (n + 1) = cR p 0 n + (if p (0 + n) then 1 else 0) := rfl
    rw [hs, Nat.zero_add] at h
    by_cases hp : p n = true
    · rw [if_pos hp] at h
      by_cases he : w = n
      · rw [he]; exact hp
      · exact cR_full (n := n) (by omega) w (by omega)
    · rw [if_neg hp] at h
      omega
/-- the rulers, known words and values of a door as it stands -/
abbrev rl (M : MT) : Nat → Option Nat := rlN M (mN M)
abbrev kF (M : MT) : Nat → Bool := knF M (rl M)
abbrev vF (M : MT) : Nat → UInt32 := vaF M (rl M)
theorem rl_lt {M : MT} : ∀ w o, rl M w = some o → o < mN M := fun w o h => rlN_lt (mN M) h
theorem nI_m5 {i : Nat} (h : i < 2 ^ 31) : ¬ nI i = -5 := fun z => by
  have := nI_pos (n := i) h
  rw [z] at this
  exact this (by decide)
theorem o_reck {G : va_G} {cy : Nat → ClassId} {r : Nat → Nat} {d : Nat} {ru ru' : Nat → Option Nat} {kn kn' : Nat → Bool} {va va' : Nat → UInt32} {X : va_W} {H : Heap} (hP : va_P G vwCl (wRe cy r d ru kn va ++ X) H) (h1 : ∀ w, w < 16 → ru w = ru' w) (h2 : ∀ w, w < 16 → kn w = kn' w) (h3 : ∀ w, w < 16 → va w = va' w) : va_P G vwCl (wRe cy r d ru' kn' va' ++ X) H := by
  have a : va_P G vwCl (wRe cy r d ru' kn va ++ X) H := o_set (ws := wRe cy r d ru kn va ++ X) (p := 1) (x := (r 1, eI cy 16 (fun w => lkI (ru w)))) (y := (r 1, eI cy 16 (fun w => lkI (ru' w)))) hP (o_cellI (fun w hw => by show lkI (ru w) = lkI (ru' w); rw [h1 w hw]))
  have b : va_P G vwCl (wRe cy r d ru' kn' va ++ X) H := o_set (ws := wRe cy r d ru' kn va ++ X) (p := 2) (x := (r 2, eZ cy 16 (fun w => bI (kn w = true)))) (y := (r 2, eZ cy 16 (fun w => bI (kn' w = true)))) a (o_cellI (fun w hw => by show bI (kn w = true) = bI (kn' w = true); rw [h2 w hw]))
  exact o_set (ws := wRe cy r d ru' kn' va ++ X) (p := 3) (x := (r 3, eF cy 16 va)) (y := (r 3, eF cy 16 va')) b (o_cellF (fun w hw => h3 w hw))
