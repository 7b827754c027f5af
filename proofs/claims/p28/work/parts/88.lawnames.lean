set_option maxRecDepth 20000 in
theorem ggL_law_X7_init : GoodIn wsL_law wsX7_init := goodIn_r _ [7, 8, 9, 10, 11, 12, 13, 14, 15, 16, 17, 18, 19, 20, 21, 22, 23, 24, 25, 26, 27, 28, 29, 30, 31, 32, 33, 34, 35, 36, 37, 38, 39, 40, 3, 41, 42, 43, 44, 45, 46, 47, 48, 49, 50, 51, 52, 53, 54, 55, 56, 57, 58, 59, 60, 61, 62, 63, 64, 65, 66, 67, 68, 69, 70, 71, 72, 73, 74, 75, 76, 77, 78, 79, 80, 81, 82, 83, 84, 480, 481, 482, 483, 484, 485, 486, 487, 488, 489, 490, 491, 492, 471, 472, 473, 474, 475, 476, 477, 478, 479, 493, 494, 495, 496, 497, 498, 499, 500, 501, 502, 503, 504, 505, 506, 507, 508, 509, 510] rfl (by decide +kernel)
set_option maxRecDepth 20000 in
theorem gL_law_X7_init : GoodIn wsL_law (wsX7_init) := ggL_law_X7_init
set_option maxRecDepth 20000 in
theorem ggL_law_L_cell : GoodIn wsL_law wsL_cell := goodIn_r _ [88, 89] rfl (by decide +kernel)
set_option maxRecDepth 20000 in
theorem gL_law_L_cell : GoodIn wsL_law (va_wsS RL 107 yL_cell wsL_cell) := goodIn_app (goodIn_of _ (by decide +kernel)) ggL_law_L_cell
set_option maxRecDepth 20000 in
theorem ggL_law_L_low : GoodIn wsL_law wsL_low := goodIn_r _ [92, 93] rfl (by decide +kernel)
set_option maxRecDepth 20000 in
theorem gL_law_L_low : GoodIn wsL_law (va_wsS RL 68 yL_low wsL_low) := goodIn_app (goodIn_of _ (by decide +kernel)) ggL_law_L_low
set_option maxRecDepth 20000 in
theorem ggL_law_X7_addPerson : GoodIn wsL_law wsX7_addPerson := goodIn_r _ [97, 14, 98, 20, 99, 100, 2, 101, 102, 103, 104, 19, 105, 106, 55, 107, 108, 109, 110, 111, 112, 113, 13, 114, 115, 116, 117, 118, 119, 41, 120, 121, 122, 123, 42, 43, 44, 46, 47, 48, 49, 124, 125, 126, 127, 471, 472, 473, 474, 475, 476, 477, 478, 479, 480, 481, 482, 483, 484, 485, 486, 487, 488, 489, 490, 491, 492, 493, 494] rfl (by decide +kernel)
set_option maxRecDepth 20000 in
theorem gL_law_X7_addPerson : GoodIn wsL_law (wsV RL 100 RX7 yX7_addPerson wsX7_addPerson) := goodIn_app (goodIn_of _ (by decide +kernel)) ggL_law_X7_addPerson
set_option maxRecDepth 20000 in
theorem ggL_law_L_isStruck : GoodIn wsL_law wsL_isStruck := goodIn_r _ [130, 131, 132, 133, 134, 135, 136, 2, 137, 14, 20, 138, 139, 140, 141, 142, 13, 143, 119, 144, 145, 146, 147, 49, 102, 103, 104, 19, 105, 106, 55, 107, 108, 109, 110, 111, 112, 113, 114, 115, 116, 117, 118, 41, 120, 121, 122, 123, 42, 43, 44, 46, 47, 48, 148, 149, 150, 151, 152, 153, 154, 155, 156, 157, 158, 159, 160, 161, 162, 163, 164, 165, 166, 167, 168, 169, 170, 171, 172, 90, 91, 87, 92, 93, 471, 472, 473, 474, 475, 476, 477, 478, 479, 480, 481, 482, 483, 484, 485, 486, 487, 488, 489, 490, 491, 492, 493, 494] rfl (by decide +kernel)
set_option maxRecDepth 20000 in
theorem gL_law_L_isStruck : GoodIn wsL_law (va_wsS RL 111 yL_isStruck wsL_isStruck) := goodIn_app (goodIn_of _ (by decide +kernel)) ggL_law_L_isStruck
set_option maxRecDepth 20000 in
theorem ggL_law_L_isStormy : GoodIn wsL_law wsL_isStormy := goodIn_r _ [175, 176, 90, 91, 87, 92, 93, 177, 178, 179, 180, 181, 182, 183, 184, 185, 186, 2, 187, 20, 14, 32, 188, 189, 190, 191, 192, 193, 194, 195, 196, 197, 198, 199, 200, 201, 202, 203, 204, 205, 102, 103, 104, 19, 105, 106, 55, 107, 108, 109, 110, 111, 112, 113, 13, 114, 115, 116, 117, 118, 119, 41, 120, 121, 122, 123, 42, 43, 44, 46, 47, 48, 49, 206, 207, 208, 209, 31, 210, 75, 211, 212, 213, 214, 215, 216, 145, 146, 147, 471, 472, 473, 474, 475, 476, 477, 478, 479, 493, 494, 480, 481, 482, 483, 484, 485, 486, 487, 488, 489, 490, 491, 492, 505, 506] rfl (by decide +kernel)
set_option maxRecDepth 20000 in
theorem gL_law_L_isStormy : GoodIn wsL_law (va_wsS RL 115 yL_isStormy wsL_isStormy) := goodIn_app (goodIn_of _ (by decide +kernel)) ggL_law_L_isStormy
set_option maxRecDepth 20000 in
theorem ggL_law_L_isRanked : GoodIn wsL_law wsL_isRanked := goodIn_r _ [219, 220, 183, 90, 91, 87, 92, 93, 180, 181, 182, 221, 222, 223, 2, 224, 14, 225, 20, 226, 227, 228, 190, 229, 230, 194, 195, 196, 197, 198, 199, 200, 201, 202, 203, 204, 205, 102, 103, 104, 19, 105, 106, 55, 107, 108, 109, 110, 111, 112, 113, 13, 114, 115, 116, 117, 118, 119, 41, 120, 121, 122, 123, 42, 43, 44, 46, 47, 48, 49, 206, 231, 232, 233, 234, 36, 98, 235, 236, 237, 24, 238, 239, 240, 241, 35, 242, 80, 82, 83, 243, 244, 245, 246, 84, 247, 248, 249, 145, 146, 147, 250, 251, 252, 253, 254, 255, 256, 257, 258, 259, 260, 261, 262, 263, 264, 265, 266, 267, 268, 269, 270, 271, 272, 273, 274, 275, 276, 277, 278, 279, 280, 281, 282, 283, 284, 285, 286, 287, 288, 289, 290, 291, 292, 293, 294, 295, 296, 157, 158, 159, 160, 297, 298, 299, 300, 301, 302, 303, 304, 305, 306, 307, 308, 309, 310, 311, 312, 313, 314, 315, 316, 317, 318, 94, 95, 96, 97, 99, 100, 101, 124, 125, 126, 127, 319, 320, 321, 322, 323, 324, 325, 326, 327, 471, 472, 473, 474, 475, 476, 477, 478, 479, 480, 481, 482, 483, 484, 485, 486, 487, 488, 489, 490, 491, 492, 493, 494, 495, 496, 507, 508, 509, 510] rfl (by decide +kernel)
set_option maxRecDepth 20000 in
theorem gL_law_L_isRanked : GoodIn wsL_law (va_wsS RL 118 yL_isRanked wsL_isRanked) := goodIn_app (goodIn_of _ (by decide +kernel)) ggL_law_L_isRanked
set_option maxRecDepth 20000 in
theorem ggL_law_L_isNailed : GoodIn wsL_law wsL_isNailed := goodIn_r _ [330, 331, 220, 90, 91, 87, 92, 93, 180, 181, 182, 183, 332, 333, 334, 2, 335, 14, 20, 324, 325, 326, 13, 327, 115, 336, 337, 338, 339, 340, 190, 341, 342, 343, 194, 195, 196, 197, 198, 199, 200, 201, 202, 203, 204, 205, 344, 345, 346, 192, 193, 347, 348, 349, 350, 119, 351, 272, 273, 274, 275, 276, 277, 278, 49, 102, 103, 104, 19, 105, 106, 55, 107, 108, 109, 110, 111, 112, 113, 114, 116, 117, 118, 41, 120, 121, 122, 123, 42, 43, 44, 46, 47, 48, 206, 352, 353, 354, 355, 356, 357, 358, 359, 471, 472, 473, 474, 475, 476, 477, 478, 479, 480, 481, 482, 483, 484, 485, 486, 487, 488, 489, 490, 491, 492, 493, 494] rfl (by decide +kernel)
set_option maxRecDepth 20000 in
theorem gL_law_L_isNailed : GoodIn wsL_law (va_wsS RL 121 yL_isNailed wsL_isNailed) := goodIn_app (goodIn_of _ (by decide +kernel)) ggL_law_L_isNailed
set_option maxRecDepth 20000 in
theorem ggL_law_L_areWords : GoodIn wsL_law wsL_areWords := goodIn_r _ [362, 4, 363, 364, 87, 365, 366, 367, 368, 369, 370, 371, 372, 373, 2, 374, 36, 375, 376, 336, 337, 338, 377, 378, 379, 380, 239, 240, 241, 35, 242, 80, 82, 83, 243, 244, 245, 246, 84, 247, 248, 249, 145, 146, 13, 147, 49, 250, 251, 252, 253, 41, 42, 254, 255, 256, 257, 258, 259, 260, 261, 262, 263, 264, 265, 266, 267, 268, 269, 270, 381, 382, 383, 384, 385, 386, 387, 388, 389, 390, 391, 392, 393, 394, 14, 395, 396, 397, 398, 119, 156, 157, 158, 159, 43, 160, 148, 149, 150, 151, 152, 153, 154, 155, 399, 400, 401, 402, 293, 294, 295, 296, 297, 298, 299, 300, 301, 302, 303, 304, 305, 306, 403, 404, 405, 406, 311, 312, 313, 314, 315, 316, 317, 318, 407, 408, 409, 410, 411, 412, 413, 414, 231, 232, 233, 234, 98, 235, 236, 225, 20, 237, 24, 238, 271, 272, 273, 274, 275, 276, 277, 278, 279, 280, 281, 282, 283, 284, 285, 286, 287, 288, 289, 290, 291, 292, 307, 308, 309, 310, 471, 472, 473, 474, 475, 476, 477, 478, 479, 507, 508, 509, 510, 480, 481, 482, 483, 484, 485, 486, 487, 488, 489, 490, 491, 492, 493, 494, 495, 496] rfl (by decide +kernel)
set_option maxRecDepth 20000 in
theorem gL_law_L_areWords : GoodIn wsL_law (va_wsS RL 125 yL_areWords wsL_areWords) := goodIn_app (goodIn_of _ (by decide +kernel)) ggL_law_L_areWords
set_option maxRecDepth 20000 in
theorem ggL_law_L_areOrders : GoodIn wsL_law wsL_areOrders := goodIn_r _ [417, 4, 133, 418, 419, 420, 2, 421, 14, 422, 139, 423, 140, 141, 142, 13, 143, 119, 144, 145, 146, 147, 49, 399, 400, 401, 424, 425, 426, 427, 43, 152, 153, 154, 155, 156, 157, 158, 159, 160, 428, 429, 430, 431, 168, 169, 170, 171, 48, 172, 432, 433, 434, 435, 36, 394, 239, 240, 241, 35, 242, 80, 82, 83, 243, 244, 245, 246, 84, 247, 248, 249, 250, 251, 252, 253, 41, 42, 254, 255, 256, 257, 258, 259, 260, 261, 262, 263, 264, 265, 266, 267, 268, 269, 270, 177, 178, 87, 179, 368, 369, 370, 436, 437, 438, 439, 440, 441, 165, 377, 378, 379, 380, 442, 443, 444, 445, 446, 447, 384, 385, 386, 366, 367, 363, 364, 365, 231, 232, 233, 234, 98, 235, 236, 225, 20, 237, 24, 238, 271, 272, 273, 274, 275, 276, 277, 278, 279, 280, 281, 282, 283, 284, 285, 286, 287, 288, 289, 290, 291, 292, 293, 294, 295, 296, 297, 298, 299, 300, 301, 302, 303, 304, 305, 306, 307, 308, 309, 310, 311, 312, 313, 314, 315, 316, 317, 318, 471, 472, 473, 474, 475, 476, 477, 478, 479, 480, 481, 482, 483, 484, 485, 486, 487, 488, 489, 490, 491, 492, 507, 508, 509, 510, 493, 494, 495, 496] rfl (by decide +kernel)
set_option maxRecDepth 20000 in
theorem gL_law_L_areOrders : GoodIn wsL_law (va_wsS RL 129 yL_areOrders wsL_areOrders) := goodIn_app (goodIn_of _ (by decide +kernel)) ggL_law_L_areOrders
set_option maxRecDepth 20000 in
theorem ggL_law_L_arePersons : GoodIn wsL_law wsL_arePersons := goodIn_r _ [450, 368, 369, 87, 370, 451, 452, 453, 2, 454, 14, 323, 324, 325, 326, 13, 327, 115, 455, 456, 457, 458, 119, 42, 459, 460, 461, 462, 160, 145, 146, 147, 49, 463, 464, 465, 466, 36, 394, 422, 239, 240, 241, 35, 242, 80, 82, 83, 243, 244, 245, 246, 84, 247, 248, 249, 250, 251, 252, 253, 41, 254, 255, 256, 257, 258, 259, 260, 261, 262, 263, 264, 265, 266, 267, 268, 269, 270, 467, 468, 469, 470, 43, 471, 472, 473, 474, 475, 476, 477, 478, 479, 480, 481, 482, 483, 484, 485, 486, 487, 488, 489, 490, 491, 492, 507, 508, 509, 510] rfl (by decide +kernel)
set_option maxRecDepth 20000 in
theorem gL_law_L_arePersons : GoodIn wsL_law (va_wsS RL 132 yL_arePersons wsL_arePersons) := goodIn_app (goodIn_of _ (by decide +kernel)) ggL_law_L_arePersons
def R_law : String := "NailedOrdersLaw"
def lw_P (b : Addr) (xs : List Int32) (args : Array Value) (s : State) : Prop := args = #[.ref b] ∧ s.IntsAt b xs ∧ xs.length ≤ 260 ∧ (Jvm.Cond.and given_1 narrow_1).before args s = true
/-- what a walk over the start with the record d0 says of its end, said of the start itself -/
theorem lw_closed {s t : State} {o : Outcome} {d0 : Drawn} {L : List Loc} {k n : Nat} (hd0 : s.drawn.sameBut d0 lw_cs) (hv : ∃ v, o = .returned v) (hW : (s.setDrawn d0).WarmedH t.vm) (hs : (s.setDrawn d0).sameButNew ({ t with vm := s.vm } : State) L k n) : State.butDraws s t lw_cs (fun t1 => Framed s o t1 L k n) := by
  have h2 : t.drawn = d0 := congrArg State.drawn hs.1
  refine ⟨⟨hv, hW, State.sameButNew.setDrawn hs s.drawn⟩, ?_, by decide⟩
  rw [h2]
  exact hd0
def lw_Q (_ : Array Value) (s : State) (o : Outcome) (t : State) : Prop := o = .returned (some (.int 1)) ∧ State.butDraws s t lw_cs (fun t1 => Framed s o t1 [] 600000 7302250)
def lw_Z (below : List Frame) (a : Array Value) (s : State) : State → Prop := fun t => ∃ o, t.status = .running ∧ Ended t below o ∧ lw_Q a s o t
/-- the law's own end, with 1 on the stack, nothing written that was there before, its room as the claim has it; d0: the record of draws at this point (at the entry s.drawn: begin with 'refine W.base ?_' and 'have hd0 := Drawn.sameBut.refl s.drawn lw_cs') -/
theorem lw_ret {p : Program} {l : Launch} {e : Env} {s : State} {m : MethodId} {below : List Frame} {meth : Method} {c : Code} {b : Nat} {d0 : Drawn} (hd0 : s.drawn.sameBut d0 lw_cs) (hx : p.tables.exec = Jvm.exec) (hb : c.code = code) (hr : meth.sig.returnType = ret) (hlocks : meth.locks = false) {pc : Nat} {H : Heap} {ls : Array Slot} (hdg : decode code pc = .ok (.ireturn, 1)) : W p l e room_1 (s.setDrawn d0) m #[Value.ref b] below meth c H [] 600000 7302250 (lw_Z below #[Value.ref b] s) (F0 m pc ls [.int 1]) := by
  intro T hT X
  obtain ⟨fs, hret, hrun, hended, hW, hframe⟩ := X.leave (v := some (.int 1)) (hlocks := hlocks) (fun h => by rw [hr] at h; cases h)
  have hmeth' : T.vm.method? m = some meth := X.method'
  refine ⟨T.setFrames fs, ?_, .returned (some (.int 1)), hrun, hended, rfl, lw_closed hd0 ⟨_, rfl⟩ hW hframe⟩
  jvm_step X.here [X.here.top, hx, hb, hdg, hmeth', hr, ret, narrow_b1]
  (try refine ⟨rfl, ?_⟩); (try refine ⟨rfl, ?_⟩)
  first | (intro acts; rw [hret _ acts rfl rfl rfl]) | rw [hret _ _ rfl rfl rfl]
  exact Steps.refl _
/-- what holds at the law's entry: the machine, the code, the tables' words (any of lw_tbl by 'hts w (by decide +kernel)'), the script of L ints xs at the cell b, what the Statement gives of the start (any of its parts by flat_of_before) -/
def lw_At (p : Program) (s : State) (m : MethodId) (meth : Method) (c : Code) (b L : Nat) (xs : Nat → Int32) : Prop :=
  p.tables.exec = Jvm.exec ∧ c.code = code ∧ meth.sig.returnType = ret ∧ c.maxLocals = 10 ∧ s.vm.findClass R_law = some m.cls ∧ (∀ w ∈ lw_tbl, w.before #[Value.ref b] s = true) ∧ va_X b L xs s s.heap ∧ b < s.heap.size ∧ meth.locks = false ∧ (Jvm.Cond.and given_1 narrow_1).before #[Value.ref b] s = true
/-- the law's world: the object, the weather, the history, the door, the reckoning, the law's own rows -/
abbrev LW (cy : Nat → ClassId) (z : Nat) (q h x r y L : Nat → Nat) (ov : Nat → Nat) (kh : Nat) (d : Nat → Nat → Nat) (E : Nat → MT) (ru : Nat → Option Nat) (kn : Nat → Bool) (va : Nat → UInt32) (M : MT) : va_W := ([oSy z q h x r y] ++ wWe cy x ov) ++ (wHi cy h kh d E ++ (wDo cy q M ++ (wRe cy r (q 0) ru kn va ++ wLa cy L M)))
/-- what is wanted at a place of the law behind a step -/
def K215 (pc : Nat) (lo : List (Nat × Value)) (p : Program) (l : Launch) (e : Env) (s : State) (m : MethodId) (below : List Frame) (meth : Method) (c : Code) (G : va_G) (cy : Nat → ClassId) (b : Nat) (z : Nat) (q h x r y L : Nat → Nat) (A : Nat → Prop) (cn sn KK : Nat) : Prop :=
  ∀ (ov : Nat → Nat) (kh : Nat) (d : Nat → Nat → Nat) (E : Nat → MT) (ru : Nat → Option Nat) (kn : Nat → Bool) (va : Nat → UInt32) (M : MT) (H : Heap) (locs : List Loc) (ls : Array Slot), kh ≤ 4 → SInv KK M → va_P G vwCl (LW cy z q h x r y L ov kh d E ru kn va M) H → va_D A (LW cy z q h x r y L ov kh d E ru kn va M) → va_S A s.heap H locs → lv_has ls 10 lo → W p l e room_1 s m #[Value.ref b] below meth c H locs cn sn (lw_Z below #[Value.ref b] s) (F0 m pc ls [])
section OKl
variable {p : Program} {l : Launch} {e : Env} {R : Room} {s : State} {m : MethodId} {args : Array Value} {below : List Frame} {meth : Method} {c : Code} {H : Heap} {locs : List Loc} {cells slots : Nat} {Q : State → Prop}
variable {pc : Nat} {ls : Array Slot} {rest st0 As : List Value} {cc bytes : ByteArray} {y : MethodName} {ws : List Cond} {f lo maxL nL n index : Nat} {ret : Option FieldType} {Ts : List Cond} {own : String}
theorem o_runA {as : Array Value} (hr : va_Run p l e R s m args below meth c H locs cells slots 0 0 (F0 m pc ls st0) rest (va_Qi (fun _ (_ : Unit) => True) (fun _ t => t.heap = H) nF as) nF)
    (kk : ∀ v : Int32, W p l e R s m args below meth c H locs cells slots Q (F0 m (pc + 3) ls (.int v :: rest))) : W p l e R s m args below meth c H locs cells slots Q (F0 m pc ls st0) := by
  intro T hT X
  obtain ⟨v', st₀, t, T', L, h0, X', hL, e1, e2, ⟨⟨r, u, hv, hp, hb⟩, hz, hk⟩, st⟩ := hr T hT X
  cases hv
  have hL0 : L = [] := List.eq_nil_iff_forall_not_mem.mpr (fun q hq => hL q hq)
  subst hL0
  rw [List.append_nil] at X'
  obtain ⟨t2, a1, b1⟩ := kk r T' (e1.trans hb) X'
  exact ⟨t2, st t2 a1, b1⟩
end OKl
/-- cell: some number of the script -/
theorem kL_cell (l : Launch) {H0 : Heap} {b Ln : Nat} {xs : Nat → Int32} (k : Nat) (hk : k < 2 ^ 31) (hLn : Ln < 2 ^ 31) (hbl : b < H0.size) : Met l yL_cell wsL_cell (oR 0 0) (va_Pc [.ref b, .int (nI k)] (fun U => U.heap = H0 ∧ va_X b Ln xs U U.heap)) (va_Qi (fun _ (_ : Unit) => True) (fun _ t => t.heap = H0) nF) 0 0 nF := by
  refine Met.ofW (cc := cL_cell) (maxL := 2) (ret := (some .int)) (by decide) rfl ?_
  intro p e s m args below meth c s₁ B hml hv
  obtain ⟨rfl, hH, hX⟩ := hv
  subst hH
  have hx := B.exec
  have hb := B.bytes
  have hr := B.returns
  have hts := atoms_spec (ws := wsL_cell) B.pre
  have hown : s.vm.findClass RL = some m.cls := findClass_of_methodNamed B.named
  have hlocks := B.notSynchronized
  have hl := lv_entry ([.ref b, .int (nI k)]) (n := 2) (Nat.le_of_ble_eq_true rfl)
  rw [lg_entry_eq]
  generalize (lg_sl ([.ref b, .int (nI k)]) ++ List.replicate (2 - (lg_sl ([.ref b, .int (nI k)])).length) Slot.unset).toArray = ls at hl ⊢
  have hl : lv_has ls 2 [(0, .ref b), (1, .int (nI k))] := hl
  have hS : va_S nF s.heap s.heap [] := va_S.rf
  refine lv_iload_n hx hb dL_cell_0 rfl (lv_at hl 1 rfl) ?_
  refine lv_aload_n hx hb dL_cell_1 rfl (lv_at hl 0 rfl) ?_
  refine va_slen hx hb hX hbl (fun z => z) hS dL_cell_2 ?_
  refine o_icmp_ge (x := k) (y := Ln) (tgt := 12) hx hb dL_cell_3 (by decide) hk hLn (fun c3 => ?_) (fun c3 => ?_)
  · refine lv_ldc (v := (1013904223)) hx hb hown (hts (.constant RL 7 (1013904223)) (by decide +kernel)) dL_cell_12 ?_
    refine lv_iload_n hx hb dL_cell_14 rfl (lv_at hl 1 rfl) ?_
    refine lv_iconst (v := nI 1) hx hb dL_cell_15 (by decide +kernel) ?_
    refine lv_iadd hx hb dL_cell_16 ?_
    refine lv_imul hx hb dL_cell_17 ?_
    exact W.iret hx hb hr (fun t ht hW => ⟨⟨_, (), rfl, trivial, ht⟩, (va_S.rf (A := nF) (H0 := s.heap)).F ht⟩) (fun q hq => absurd hq List.not_mem_nil) dL_cell_18 hlocks
  · refine lv_aload_n hx hb dL_cell_6 rfl (lv_at hl 0 rfl) ?_
    refine lv_iload_n hx hb dL_cell_7 rfl (lv_at hl 1 rfl) ?_
    refine va_sld hx hb hX hbl (fun z => z) hS (vp_in_nI c3 hLn) dL_cell_8 ?_
    refine lv_goto (tgt := 18) hx hb dL_cell_9 (by decide) ?_
    exact W.iret hx hb hr (fun t ht hW => ⟨⟨_, (), rfl, trivial, ht⟩, (va_S.rf (A := nF) (H0 := s.heap)).F ht⟩) (fun q hq => absurd hq List.not_mem_nil) dL_cell_18 hlocks
theorem cell_blind {av : List Value} {H0 : Heap} {b Ln : Nat} {xs : Nat → Int32} : FrameBlind (va_Pc av (fun U => U.heap = H0 ∧ va_X b Ln xs U U.heap)) := fun a U g mk q => by
  obtain ⟨q0, q1, q2⟩ := q
  exact ⟨q0, q1, va_X.moved (u := U) (U := U.calling g mk a) (Vm.Alike.refl U.vm) q2⟩
theorem cell_at {av : List Value} {s : State} {H : Heap} {b Ln : Nat} {xs : Nat → Int32} (h : va_X b Ln xs s H) : ∀ U : State, U.heap = H → s.WarmedH U.vm → va_Pc av (fun U => U.heap = H ∧ va_X b Ln xs U U.heap) av.toArray U := fun U hU hW => ⟨rfl, hU, by rw [hU]; exact va_X.moved hW.alike h⟩
theorem zI_sub (a b : Nat) (ha : a < 2 ^ 30) (hb : b < 2 ^ 30) : ∃ s e, nI a - nI b = zI s e ∧ (s = true → 0 < e) ∧ e = (a - b) + (b - a) := by
  by_cases q : b ≤ a
  · exact ⟨false, a - b, pk_sub q, fun z => (by cases z), by omega⟩
  · refine ⟨true, b - a, ?_, fun _ => by omega, by omega⟩
    show nI a - nI b = -(nI (b - a))
    rw [← pk_sub (a := b) (b := a) (by omega), Int32.neg_sub]
theorem fac_z (t a : Nat) : ∃ s e, nI (a % (if t = 0 then 16001 else 33)) - nI (if t = 0 then 8000 else 16) = zI s e ∧ (s = true → 0 < e) ∧ e ≤ 8000 := by
  by_cases q : t = 0
  · rw [if_pos q, if_pos q]
    have h := Nat.mod_lt a (show 0 < 16001 by decide)
    obtain ⟨s, e, h1, h2, h3⟩ := zI_sub (a % 16001) 8000 (by omega) (by decide)
    exact ⟨s, e, h1, h2, by omega⟩
  · rw [if_neg q, if_neg q]
    have h := Nat.mod_lt a (show 0 < 33 by decide)
    obtain ⟨s, e, h1, h2, h3⟩ := zI_sub (a % 33) 16 (by omega) (by decide)
    exact ⟨s, e, h1, h2, by omega⟩
theorem num_z (t a : Nat) : ∃ s e, nI (a % (if t = 0 then 8001 else 41)) - nI 20 = zI s e ∧ (s = true → 0 < e) ∧ e ≤ 8000 := by
  by_cases q : t = 0
  · rw [if_pos q]
    have h := Nat.mod_lt a (show 0 < 8001 by decide)
    obtain ⟨s, e, h1, h2, h3⟩ := zI_sub (a % 8001) 20 (by omega) (by decide)
    exact ⟨s, e, h1, h2, by omega⟩
  · rw [if_neg q]
    have h := Nat.mod_lt a (show 0 < 41 by decide)
    obtain ⟨s, e, h1, h2, h3⟩ := zI_sub (a % 41) 20 (by omega) (by decide)
    exact ⟨s, e, h1, h2, by omega⟩
