/-! worlds in blocks -/
def ap (a b : va_W) : Prop := ∀ x ∈ a, ∀ y ∈ b, x.1 ≠ y.1
theorem ap_sym {a b : va_W} (h : ap a b) : ap b a := fun x hx y hy e => h y hy x hx e.symm
theorem ap_l {a b c : va_W} : ap (a ++ b) c ↔ ap a c ∧ ap b c := ⟨fun h => ⟨fun x hx => h x (List.mem_append_left _ hx), fun x hx => h x (List.mem_append_right _ hx)⟩, fun h x hx => (List.mem_append.mp hx).elim (h.1 x) (h.2 x)⟩
theorem ap_r {a b c : va_W} : ap c (a ++ b) ↔ ap c a ∧ ap c b := ⟨fun h => ⟨fun x hx y hy => h x hx y (List.mem_append_left _ hy), fun x hx y hy => h x hx y (List.mem_append_right _ hy)⟩, fun h x hx y hy => (List.mem_append.mp hy).elim (h.1 x hx y) (h.2 x hx y)⟩
theorem at_l {a b : va_W} {k : Nat} {q : Nat × va_E} (h : a[k]? = some q) : (a ++ b)[k]? = some q := by
  rw [List.getElem?_append_left (List.getElem?_eq_some_iff.mp h).1]
  exact h
theorem at_r {a b : va_W} {k : Nat} {q : Nat × va_E} (h : b[k]? = some q) : (a ++ b)[a.length + k]? = some q := by
  rw [List.getElem?_append_right (by omega), show a.length + k - a.length = k by omega]
  exact h
theorem at_m {a : va_W} {x : Nat × va_E} (h : x ∈ a) : ∃ k : Nat, k < a.length ∧ a[k]? = some x := by
  obtain ⟨k, hk, he⟩ := List.mem_iff_getElem.mp h
  exact ⟨k, hk, List.getElem?_eq_some_iff.mpr ⟨hk, he⟩⟩
theorem D_app {A : Nat → Prop} {a b : va_W} : va_D A (a ++ b) ↔ va_D A a ∧ va_D A b ∧ ap a b := by
  constructor
  · intro h
    refine ⟨⟨fun i j p q hi hj e => h.1 i j p q (at_l hi) (at_l hj) e, fun k q hk => h.2 k q (at_l hk)⟩, ⟨fun i j p q hi hj e => ?_, fun k q hk => h.2 _ q (at_r hk)⟩, fun x hx y hy e => ?_⟩
    · have := h.1 _ _ p q (at_r (a := a) hi) (at_r (a := a) hj) e
      omega
    · obtain ⟨i, hi, hi2⟩ := at_m hx
      obtain ⟨j, hj, hj2⟩ := at_m hy
      have := h.1 _ _ x y (at_l (b := b) hi2) (at_r (a := a) hj2) e
      omega
  · rintro ⟨h1, h2, h3⟩
    exact va_D.app h1 h2 (fun i j p q hi hj => h3 p (List.mem_of_getElem? hi) q (List.mem_of_getElem? hj))
theorem P_app {G : va_G} {cl : List vw_C} {a b : va_W} {H : Heap} : va_P G cl (a ++ b) H ↔ va_P G cl a H ∧ va_P G cl b H := ⟨fun h => ⟨fun k q hk => h k q (at_l hk), fun k q hk => h _ q (at_r hk)⟩, fun h => va_P.app h.1 h.2⟩
theorem bz_F {A0 : Nat → Prop} {wc : va_W} {sz : Nat} {H0 : Heap} (hD : va_D A0 wc) (hA : ∀ q, H0.size ≤ q → A0 q) (hz : H0.size ≤ sz) : ∀ q, va_A wc sz q → A0 q := fun q h => by
  rcases h with ⟨k, e, hk⟩ | h
  · exact hD.2 k (q, e) hk
  · exact hA q (Nat.le_trans hz h)
theorem bz_J {A0 : Nat → Prop} {G : va_G} {cl : List vw_C} {wc wr w1 : va_W} {H H1 : Heap} (hPr : va_P G cl wr H) (hDr : va_D A0 wr) (hap : ap wr wc) (hk : ∀ q : Nat, q < H.size → ¬ va_A wc H.size q → H1[q]? = H[q]?) (hF : ∀ q, va_A wc H.size q → A0 q) (hP1 : va_P G cl w1 H1) (hD1 : va_D (va_A wc H.size) w1) : va_P G cl (wr ++ w1) H1 ∧ va_D A0 (wr ++ w1) := by
  have apart : ∀ (k : Nat) (q : Nat × va_E), wr[k]? = some q → q.1 < H.size ∧ ¬ va_A wc H.size q.1 := by
    intro k q hq
    have hl := (hPr k q hq).lt
    refine ⟨hl, fun h => ?_⟩
    rcases h with ⟨k2, e, h⟩ | h
    · exact hap q (List.mem_of_getElem? hq) (q.1, e) (List.mem_of_getElem? h) rfl
    · omega
  refine ⟨va_P.app (fun k q hq => ?_) hP1, va_D.app hDr (hD1.weaken (fun k q _ h => hF q.1 h)) (fun i j x y hx hy hxy => ?_)⟩
  · obtain ⟨g1, g2⟩ := apart k q hq
    exact (hPr k q hq).kept (hk q.1 g1 g2)
  · exact (apart i x hx).2 (by rw [hxy]; exact hD1.2 j y hy)
theorem bm_P {G : va_G} {cl : List vw_C} {a b c d e f : va_W} {H : Heap} (h : va_P G cl ((a ++ b) ++ (c ++ (d ++ (e ++ f)))) H) : va_P G cl (a ++ (c ++ (d ++ f))) H := by
  simp only [P_app, and_assoc] at h ⊢
  obtain ⟨h0, h1, h2, h3, h4, h5⟩ := h
  repeat' (first | assumption | exact ap_sym (by assumption) | apply And.intro)
theorem bm_D {A0 : Nat → Prop} {a b c d e f : va_W} (h : va_D A0 ((a ++ b) ++ (c ++ (d ++ (e ++ f))))) : va_D A0 (a ++ (c ++ (d ++ f))) := by
  simp only [D_app, ap_l, ap_r, and_assoc] at h ⊢
  obtain ⟨h0, h1, h2, h3, h4, h5, h6, h7, h8, h9, h10, h11, h12, h13, h14, h15, h16, h17, h18, h19, h20⟩ := h
  repeat' (first | assumption | exact ap_sym (by assumption) | apply And.intro)
theorem bm_J {A0 : Nat → Prop} {G : va_G} {cl : List vw_C} {a b c d e f : va_W} {H : Heap} {H1 : Heap} {c1 d1 f1 : va_W} (hP : va_P G cl ((a ++ b) ++ (c ++ (d ++ (e ++ f)))) H) (hD : va_D A0 ((a ++ b) ++ (c ++ (d ++ (e ++ f))))) (hk : ∀ q : Nat, q < H.size → ¬ va_A (a ++ (c ++ (d ++ f))) H.size q → H1[q]? = H[q]?) (hF : ∀ q, va_A (a ++ (c ++ (d ++ f))) H.size q → A0 q) (hP1 : va_P G cl (a ++ (c1 ++ (d1 ++ f1))) H1) (hD1 : va_D (va_A (a ++ (c ++ (d ++ f))) H.size) (a ++ (c1 ++ (d1 ++ f1)))) : va_P G cl ((a ++ b) ++ (c1 ++ (d1 ++ (e ++ f1)))) H1 ∧ va_D A0 ((a ++ b) ++ (c1 ++ (d1 ++ (e ++ f1)))) := by
  have hr : va_P G cl (b ++ e) H ∧ va_D A0 (b ++ e) ∧ ap (b ++ e) (a ++ (c ++ (d ++ f))) := by
    simp only [P_app, D_app, ap_l, ap_r, and_assoc] at hP hD ⊢
    obtain ⟨h0, h1, h2, h3, h4, h5⟩ := hP
    obtain ⟨h6, h7, h8, h9, h10, h11, h12, h13, h14, h15, h16, h17, h18, h19, h20, h21, h22, h23, h24, h25, h26⟩ := hD
    repeat' (first | assumption | exact ap_sym (by assumption) | apply And.intro)
  obtain ⟨g1, g2⟩ := bz_J hr.1 hr.2.1 hr.2.2 hk hF hP1 hD1
  simp only [P_app, D_app, ap_l, ap_r, and_assoc] at g1 g2 ⊢
  obtain ⟨h0, h1, h2, h3, h4, h5⟩ := g1
  obtain ⟨h6, h7, h8, h9, h10, h11, h12, h13, h14, h15, h16, h17, h18, h19, h20, h21, h22, h23, h24, h25, h26⟩ := g2
  repeat' (first | assumption | exact ap_sym (by assumption) | apply And.intro)
theorem bt_P {G : va_G} {cl : List vw_C} {a b c d e f : va_W} {H : Heap} (h : va_P G cl ((a ++ b) ++ (c ++ (d ++ (e ++ f)))) H) : va_P G cl (a ++ (c ++ (d ++ (e ++ f)))) H := by
  simp only [P_app, and_assoc] at h ⊢
  obtain ⟨h0, h1, h2, h3, h4, h5⟩ := h
  repeat' (first | assumption | exact ap_sym (by assumption) | apply And.intro)
theorem bt_D {A0 : Nat → Prop} {a b c d e f : va_W} (h : va_D A0 ((a ++ b) ++ (c ++ (d ++ (e ++ f))))) : va_D A0 (a ++ (c ++ (d ++ (e ++ f)))) := by
  simp only [D_app, ap_l, ap_r, and_assoc] at h ⊢
  obtain ⟨h0, h1, h2, h3, h4, h5, h6, h7, h8, h9, h10, h11, h12, h13, h14, h15, h16, h17, h18, h19, h20⟩ := h
  repeat' (first | assumption | exact ap_sym (by assumption) | apply And.intro)
theorem bt_J {A0 : Nat → Prop} {G : va_G} {cl : List vw_C} {a b c d e f : va_W} {H : Heap} {H1 : Heap} {c1 d1 e1 f1 : va_W} (hP : va_P G cl ((a ++ b) ++ (c ++ (d ++ (e ++ f)))) H) (hD : va_D A0 ((a ++ b) ++ (c ++ (d ++ (e ++ f))))) (hk : ∀ q : Nat, q < H.size → ¬ va_A (a ++ (c ++ (d ++ (e ++ f)))) H.size q → H1[q]? = H[q]?) (hF : ∀ q, va_A (a ++ (c ++ (d ++ (e ++ f)))) H.size q → A0 q) (hP1 : va_P G cl (a ++ (c1 ++ (d1 ++ (e1 ++ f1)))) H1) (hD1 : va_D (va_A (a ++ (c ++ (d ++ (e ++ f)))) H.size) (a ++ (c1 ++ (d1 ++ (e1 ++ f1))))) : va_P G cl ((a ++ b) ++ (c1 ++ (d1 ++ (e1 ++ f1)))) H1 ∧ va_D A0 ((a ++ b) ++ (c1 ++ (d1 ++ (e1 ++ f1)))) := by
  have hr : va_P G cl b H ∧ va_D A0 b ∧ ap b (a ++ (c ++ (d ++ (e ++ f)))) := by
    simp only [P_app, D_app, ap_l, ap_r, and_assoc] at hP hD ⊢
    obtain ⟨h0, h1, h2, h3, h4, h5⟩ := hP
    obtain ⟨h6, h7, h8, h9, h10, h11, h12, h13, h14, h15, h16, h17, h18, h19, h20, h21, h22, h23, h24, h25, h26⟩ := hD
    repeat' (first | assumption | exact ap_sym (by assumption) | apply And.intro)
  obtain ⟨g1, g2⟩ := bz_J hr.1 hr.2.1 hr.2.2 hk hF hP1 hD1
  simp only [P_app, D_app, ap_l, ap_r, and_assoc] at g1 g2 ⊢
  obtain ⟨h0, h1, h2, h3, h4, h5⟩ := g1
  obtain ⟨h6, h7, h8, h9, h10, h11, h12, h13, h14, h15, h16, h17, h18, h19, h20, h21, h22, h23, h24, h25, h26⟩ := g2
  repeat' (first | assumption | exact ap_sym (by assumption) | apply And.intro)
theorem bs_P {G : va_G} {cl : List vw_C} {a b c d e f : va_W} {H : Heap} (h : va_P G cl ((a ++ b) ++ (c ++ (d ++ (e ++ f)))) H) : va_P G cl ((a ++ b) ++ (c ++ (d ++ f))) H := by
  simp only [P_app, and_assoc] at h ⊢
  obtain ⟨h0, h1, h2, h3, h4, h5⟩ := h
  repeat' (first | assumption | exact ap_sym (by assumption) | apply And.intro)
theorem bs_D {A0 : Nat → Prop} {a b c d e f : va_W} (h : va_D A0 ((a ++ b) ++ (c ++ (d ++ (e ++ f))))) : va_D A0 ((a ++ b) ++ (c ++ (d ++ f))) := by
  simp only [D_app, ap_l, ap_r, and_assoc] at h ⊢
  obtain ⟨h0, h1, h2, h3, h4, h5, h6, h7, h8, h9, h10, h11, h12, h13, h14, h15, h16, h17, h18, h19, h20⟩ := h
  repeat' (first | assumption | exact ap_sym (by assumption) | apply And.intro)
theorem bs_J {A0 : Nat → Prop} {G : va_G} {cl : List vw_C} {a b c d e f : va_W} {H : Heap} {H1 : Heap} {b1 c1 d1 f1 : va_W} (hP : va_P G cl ((a ++ b) ++ (c ++ (d ++ (e ++ f)))) H) (hD : va_D A0 ((a ++ b) ++ (c ++ (d ++ (e ++ f))))) (hk : ∀ q : Nat, q < H.size → ¬ va_A ((a ++ b) ++ (c ++ (d ++ f))) H.size q → H1[q]? = H[q]?) (hF : ∀ q, va_A ((a ++ b) ++ (c ++ (d ++ f))) H.size q → A0 q) (hP1 : va_P G cl ((a ++ b1) ++ (c1 ++ (d1 ++ f1))) H1) (hD1 : va_D (va_A ((a ++ b) ++ (c ++ (d ++ f))) H.size) ((a ++ b1) ++ (c1 ++ (d1 ++ f1)))) : va_P G cl ((a ++ b1) ++ (c1 ++ (d1 ++ (e ++ f1)))) H1 ∧ va_D A0 ((a ++ b1) ++ (c1 ++ (d1 ++ (e ++ f1)))) := by
  have hr : va_P G cl e H ∧ va_D A0 e ∧ ap e ((a ++ b) ++ (c ++ (d ++ f))) := by
    simp only [P_app, D_app, ap_l, ap_r, and_assoc] at hP hD ⊢
    obtain ⟨h0, h1, h2, h3, h4, h5⟩ := hP
    obtain ⟨h6, h7, h8, h9, h10, h11, h12, h13, h14, h15, h16, h17, h18, h19, h20, h21, h22, h23, h24, h25, h26⟩ := hD
    repeat' (first | assumption | exact ap_sym (by assumption) | apply And.intro)
  obtain ⟨g1, g2⟩ := bz_J hr.1 hr.2.1 hr.2.2 hk hF hP1 hD1
  simp only [P_app, D_app, ap_l, ap_r, and_assoc] at g1 g2 ⊢
  obtain ⟨h0, h1, h2, h3, h4, h5⟩ := g1
  obtain ⟨h6, h7, h8, h9, h10, h11, h12, h13, h14, h15, h16, h17, h18, h19, h20, h21, h22, h23, h24, h25, h26⟩ := g2
  repeat' (first | assumption | exact ap_sym (by assumption) | apply And.intro)
theorem bw_P {G : va_G} {cl : List vw_C} {a b c d e f : va_W} {H : Heap} (h : va_P G cl ((a ++ b) ++ (c ++ (d ++ (e ++ f)))) H) : va_P G cl (a ++ (e ++ d) ++ f) H := by
  simp only [P_app, and_assoc] at h ⊢
  obtain ⟨h0, h1, h2, h3, h4, h5⟩ := h
  repeat' (first | assumption | exact ap_sym (by assumption) | apply And.intro)
theorem bw_D {A0 : Nat → Prop} {a b c d e f : va_W} (h : va_D A0 ((a ++ b) ++ (c ++ (d ++ (e ++ f))))) : va_D A0 (a ++ (e ++ d) ++ f) := by
  simp only [D_app, ap_l, ap_r, and_assoc] at h ⊢
  obtain ⟨h0, h1, h2, h3, h4, h5, h6, h7, h8, h9, h10, h11, h12, h13, h14, h15, h16, h17, h18, h19, h20⟩ := h
  repeat' (first | assumption | exact ap_sym (by assumption) | apply And.intro)
theorem bw_J {A0 : Nat → Prop} {G : va_G} {cl : List vw_C} {a b c d e f : va_W} {H : Heap} {H1 : Heap} {e1 : va_W} (hP : va_P G cl ((a ++ b) ++ (c ++ (d ++ (e ++ f)))) H) (hD : va_D A0 ((a ++ b) ++ (c ++ (d ++ (e ++ f))))) (hk : ∀ q : Nat, q < H.size → ¬ va_A (a ++ (e ++ d) ++ f) H.size q → H1[q]? = H[q]?) (hF : ∀ q, va_A (a ++ (e ++ d) ++ f) H.size q → A0 q) (hP1 : va_P G cl (a ++ (e1 ++ d) ++ f) H1) (hD1 : va_D (va_A (a ++ (e ++ d) ++ f) H.size) (a ++ (e1 ++ d) ++ f)) : va_P G cl ((a ++ b) ++ (c ++ (d ++ (e1 ++ f)))) H1 ∧ va_D A0 ((a ++ b) ++ (c ++ (d ++ (e1 ++ f)))) := by
  have hr : va_P G cl (b ++ c) H ∧ va_D A0 (b ++ c) ∧ ap (b ++ c) (a ++ (e ++ d) ++ f) := by
    simp only [P_app, D_app, ap_l, ap_r, and_assoc] at hP hD ⊢
    obtain ⟨h0, h1, h2, h3, h4, h5⟩ := hP
    obtain ⟨h6, h7, h8, h9, h10, h11, h12, h13, h14, h15, h16, h17, h18, h19, h20, h21, h22, h23, h24, h25, h26⟩ := hD
    repeat' (first | assumption | exact ap_sym (by assumption) | apply And.intro)
  obtain ⟨g1, g2⟩ := bz_J hr.1 hr.2.1 hr.2.2 hk hF hP1 hD1
  simp only [P_app, D_app, ap_l, ap_r, and_assoc] at g1 g2 ⊢
  obtain ⟨h0, h1, h2, h3, h4, h5⟩ := g1
  obtain ⟨h6, h7, h8, h9, h10, h11, h12, h13, h14, h15, h16, h17, h18, h19, h20, h21, h22, h23, h24, h25, h26⟩ := g2
  repeat' (first | assumption | exact ap_sym (by assumption) | apply And.intro)
theorem bp_P {G : va_G} {cl : List vw_C} {a b c d e f : va_W} {H : Heap} (h : va_P G cl ((a ++ b) ++ (c ++ (d ++ (e ++ f)))) H) : va_P G cl (a ++ (c ++ d)) H := by
  simp only [P_app, and_assoc] at h ⊢
  obtain ⟨h0, h1, h2, h3, h4, h5⟩ := h
  repeat' (first | assumption | exact ap_sym (by assumption) | apply And.intro)
theorem bp_D {A0 : Nat → Prop} {a b c d e f : va_W} (h : va_D A0 ((a ++ b) ++ (c ++ (d ++ (e ++ f))))) : va_D A0 (a ++ (c ++ d)) := by
  simp only [D_app, ap_l, ap_r, and_assoc] at h ⊢
  obtain ⟨h0, h1, h2, h3, h4, h5, h6, h7, h8, h9, h10, h11, h12, h13, h14, h15, h16, h17, h18, h19, h20⟩ := h
  repeat' (first | assumption | exact ap_sym (by assumption) | apply And.intro)
theorem bp_J {A0 : Nat → Prop} {G : va_G} {cl : List vw_C} {a b c d e f : va_W} {H : Heap} {H1 : Heap} {c1 d1 : va_W} (hP : va_P G cl ((a ++ b) ++ (c ++ (d ++ (e ++ f)))) H) (hD : va_D A0 ((a ++ b) ++ (c ++ (d ++ (e ++ f))))) (hk : ∀ q : Nat, q < H.size → ¬ va_A (a ++ (c ++ d)) H.size q → H1[q]? = H[q]?) (hF : ∀ q, va_A (a ++ (c ++ d)) H.size q → A0 q) (hP1 : va_P G cl (a ++ (c1 ++ d1)) H1) (hD1 : va_D (va_A (a ++ (c ++ d)) H.size) (a ++ (c1 ++ d1))) : va_P G cl ((a ++ b) ++ (c1 ++ (d1 ++ (e ++ f)))) H1 ∧ va_D A0 ((a ++ b) ++ (c1 ++ (d1 ++ (e ++ f)))) := by
  have hr : va_P G cl (b ++ (e ++ f)) H ∧ va_D A0 (b ++ (e ++ f)) ∧ ap (b ++ (e ++ f)) (a ++ (c ++ d)) := by
    simp only [P_app, D_app, ap_l, ap_r, and_assoc] at hP hD ⊢
    obtain ⟨h0, h1, h2, h3, h4, h5⟩ := hP
    obtain ⟨h6, h7, h8, h9, h10, h11, h12, h13, h14, h15, h16, h17, h18, h19, h20, h21, h22, h23, h24, h25, h26⟩ := hD
    repeat' (first | assumption | exact ap_sym (by assumption) | apply And.intro)
  obtain ⟨g1, g2⟩ := bz_J hr.1 hr.2.1 hr.2.2 hk hF hP1 hD1
  simp only [P_app, D_app, ap_l, ap_r, and_assoc] at g1 g2 ⊢
  obtain ⟨h0, h1, h2, h3, h4, h5⟩ := g1
  obtain ⟨h6, h7, h8, h9, h10, h11, h12, h13, h14, h15, h16, h17, h18, h19, h20, h21, h22, h23, h24, h25, h26⟩ := g2
  repeat' (first | assumption | exact ap_sym (by assumption) | apply And.intro)
theorem br_P {G : va_G} {cl : List vw_C} {a b c d e f : va_W} {H : Heap} (h : va_P G cl ((a ++ b) ++ (c ++ (d ++ (e ++ f)))) H) : va_P G cl (a ++ d ++ f) H := by
  simp only [P_app, and_assoc] at h ⊢
  obtain ⟨h0, h1, h2, h3, h4, h5⟩ := h
  repeat' (first | assumption | exact ap_sym (by assumption) | apply And.intro)
theorem br_D {A0 : Nat → Prop} {a b c d e f : va_W} (h : va_D A0 ((a ++ b) ++ (c ++ (d ++ (e ++ f))))) : va_D A0 (a ++ d ++ f) := by
  simp only [D_app, ap_l, ap_r, and_assoc] at h ⊢
  obtain ⟨h0, h1, h2, h3, h4, h5, h6, h7, h8, h9, h10, h11, h12, h13, h14, h15, h16, h17, h18, h19, h20⟩ := h
  repeat' (first | assumption | exact ap_sym (by assumption) | apply And.intro)
theorem bi_P {G : va_G} {cl : List vw_C} {a b c d e f0 f1 f2 f3 f4 : va_W} {H : Heap} (h : va_P G cl (((((((a ++ b) ++ (c ++ (d ++ e))) ++ f0) ++ f1) ++ f2) ++ f3) ++ f4) H) : va_P G cl ((a ++ b) ++ (c ++ (d ++ (e ++ (f0 ++ (f1 ++ (f2 ++ (f3 ++ f4)))))))) H := by
  have e9 : ((((((a ++ b) ++ (c ++ (d ++ e))) ++ f0) ++ f1) ++ f2) ++ f3) ++ f4 = (a ++ b) ++ (c ++ (d ++ (e ++ (f0 ++ (f1 ++ (f2 ++ (f3 ++ f4))))))) := by simp only [List.append_assoc]
  rw [← e9]
  exact h
theorem bi_D {A : Nat → Prop} {a b c d e f0 f1 f2 f3 f4 : va_W} (h : va_D A (((((((a ++ b) ++ (c ++ (d ++ e))) ++ f0) ++ f1) ++ f2) ++ f3) ++ f4)) : va_D A ((a ++ b) ++ (c ++ (d ++ (e ++ (f0 ++ (f1 ++ (f2 ++ (f3 ++ f4)))))))) := by
  have e9 : ((((((a ++ b) ++ (c ++ (d ++ e))) ++ f0) ++ f1) ++ f2) ++ f3) ++ f4 = (a ++ b) ++ (c ++ (d ++ (e ++ (f0 ++ (f1 ++ (f2 ++ (f3 ++ f4))))))) := by simp only [List.append_assoc]
  rw [← e9]
  exact h
