section OKg
variable {p : Program} {l : Launch} {e : Env} {R : Room} {s : State} {m : MethodId} {args : Array Value} {below : List Frame} {meth : Method} {c : Code} {H : Heap} {locs : List Loc} {cells slots : Nat} {Q : State → Prop}
variable {pc : Nat} {ls : Array Slot} {st0 : List Value}
/-- two ways that meet again are walked once from there -/
theorem o_cut (pc' : Nat) (st' : List Value) (f : W p l e R s m args below meth c H locs cells slots Q (F0 m pc' ls st') → W p l e R s m args below meth c H locs cells slots Q (F0 m pc ls st0)) (k : W p l e R s m args below meth c H locs cells slots Q (F0 m pc' ls st')) : W p l e R s m args below meth c H locs cells slots Q (F0 m pc ls st0) := f k
end OKg
theorem kL_bits_z (l : Launch) (G : va_G) (cy : Nat → ClassId) {H0 : Heap} (sg : Bool) (ei : Nat) (h0 : sg = true → 0 < ei) (he : ei ≤ 8002) : MetI l yL_bits wsL_bits 0 0 [.int (zI sg ei)] H0 G cy (zB sg ei) := by
  cases sg with
  | false => exact kL_bits_p l G cy ei he
  | true => exact kL_bits_m l G cy ei (h0 rfl) he
