section
-- ===== PART A: goes FIRST, ahead of the names: the tables' words, and 'selects' of the private methods out of them =====
/-- a private method of a class that the tables say can be made, by its rows of tables_1 -/
def lw_okq (q : MethodName × Nat) : Prop := (q.1.cls ≠ "java/lang/invoke/MethodHandle" ∧ q.1.cls ≠ "java/lang/invoke/VarHandle") ∧ Cond.instantiable q.1.cls q.2 ∈ tables_1 ∧ Cond.privateMethod q.1 ∈ tables_1 ∧ Cond.instanceMethod q.1 ∈ tables_1
theorem lw_p0 : lw_okq (⟨"NailedOrders$History", "dropOldest", "()V"⟩, 2) := ⟨⟨by decide +kernel, by decide +kernel⟩, List.mem_of_getElem? (i := 92) (by decide +kernel), List.mem_of_getElem? (i := 228) (by decide +kernel), List.mem_of_getElem? (i := 229) (by decide +kernel)⟩
theorem lw_p1 : lw_okq (⟨"NailedOrders$Reckoning", "findRulers", "(I)V"⟩, 4) := ⟨⟨by decide +kernel, by decide +kernel⟩, List.mem_of_getElem? (i := 166) (by decide +kernel), List.mem_of_getElem? (i := 277) (by decide +kernel), List.mem_of_getElem? (i := 278) (by decide +kernel)⟩
theorem lw_p2 : lw_okq (⟨"NailedOrders$Reckoning", "findValues", "()V"⟩, 4) := ⟨⟨by decide +kernel, by decide +kernel⟩, List.mem_of_getElem? (i := 166) (by decide +kernel), List.mem_of_getElem? (i := 289) (by decide +kernel), List.mem_of_getElem? (i := 290) (by decide +kernel)⟩
theorem lw_p3 : lw_okq (⟨"NailedOrders$Door", "hangingBetween", "(III)I"⟩, 13) := ⟨⟨by decide +kernel, by decide +kernel⟩, List.mem_of_getElem? (i := 19) (by decide +kernel), List.mem_of_getElem? (i := 329) (by decide +kernel), List.mem_of_getElem? (i := 330) (by decide +kernel)⟩
theorem lw_p4 : lw_okq (⟨"NailedOrders$Reckoning", "areRivals", "(II)Z"⟩, 4) := ⟨⟨by decide +kernel, by decide +kernel⟩, List.mem_of_getElem? (i := 166) (by decide +kernel), List.mem_of_getElem? (i := 341) (by decide +kernel), List.mem_of_getElem? (i := 342) (by decide +kernel)⟩
theorem lw_p5 : lw_okq (⟨"NailedOrders$Reckoning", "areFar", "(FF)Z"⟩, 4) := ⟨⟨by decide +kernel, by decide +kernel⟩, List.mem_of_getElem? (i := 166) (by decide +kernel), List.mem_of_getElem? (i := 345) (by decide +kernel), List.mem_of_getElem? (i := 346) (by decide +kernel)⟩
theorem lw_p6 : lw_okq (⟨"NailedOrders$Reckoning", "comesTo", "(II)Z"⟩, 4) := ⟨⟨by decide +kernel, by decide +kernel⟩, List.mem_of_getElem? (i := 166) (by decide +kernel), List.mem_of_getElem? (i := 353) (by decide +kernel), List.mem_of_getElem? (i := 354) (by decide +kernel)⟩
theorem lw_p7 : lw_okq (⟨"NailedOrders$Reckoning", "linkFrom", "(I)I"⟩, 4) := ⟨⟨by decide +kernel, by decide +kernel⟩, List.mem_of_getElem? (i := 166) (by decide +kernel), List.mem_of_getElem? (i := 357) (by decide +kernel), List.mem_of_getElem? (i := 358) (by decide +kernel)⟩
theorem lw_p8 : lw_okq (⟨"NailedOrders", "rules", "(I)Z"⟩, 9) := ⟨⟨by decide +kernel, by decide +kernel⟩, List.mem_of_getElem? (i := 11) (by decide +kernel), List.mem_of_getElem? (i := 425) (by decide +kernel), List.mem_of_getElem? (i := 426) (by decide +kernel)⟩
theorem lw_p9 : lw_okq (⟨"NailedOrders", "wordsRuledBy", "(I)I"⟩, 9) := ⟨⟨by decide +kernel, by decide +kernel⟩, List.mem_of_getElem? (i := 11) (by decide +kernel), List.mem_of_getElem? (i := 462) (by decide +kernel), List.mem_of_getElem? (i := 463) (by decide +kernel)⟩
def lw_privs_1 : List (MethodName × Nat) := [(⟨"NailedOrders$History", "dropOldest", "()V"⟩, 2), (⟨"NailedOrders$Reckoning", "findRulers", "(I)V"⟩, 4), (⟨"NailedOrders$Reckoning", "findValues", "()V"⟩, 4), (⟨"NailedOrders$Door", "hangingBetween", "(III)I"⟩, 13), (⟨"NailedOrders$Reckoning", "areRivals", "(II)Z"⟩, 4), (⟨"NailedOrders$Reckoning", "areFar", "(FF)Z"⟩, 4), (⟨"NailedOrders$Reckoning", "comesTo", "(II)Z"⟩, 4), (⟨"NailedOrders$Reckoning", "linkFrom", "(I)I"⟩, 4), (⟨"NailedOrders", "rules", "(I)Z"⟩, 9), (⟨"NailedOrders", "wordsRuledBy", "(I)I"⟩, 9)]
theorem lw_r1 : ∀ q ∈ lw_privs_1, lw_okq q := List.forall_mem_cons.mpr ⟨lw_p0, List.forall_mem_cons.mpr ⟨lw_p1, List.forall_mem_cons.mpr ⟨lw_p2, List.forall_mem_cons.mpr ⟨lw_p3, List.forall_mem_cons.mpr ⟨lw_p4, List.forall_mem_cons.mpr ⟨lw_p5, List.forall_mem_cons.mpr ⟨lw_p6, List.forall_mem_cons.mpr ⟨lw_p7, List.forall_mem_cons.mpr ⟨lw_p8, List.forall_mem_cons.mpr ⟨lw_p9, fun _ h => absurd h List.not_mem_nil⟩⟩⟩⟩⟩⟩⟩⟩⟩⟩
def lw_privs : List (MethodName × Nat) := lw_privs_1
def lw_tbl : List Cond := k2_sels lw_privs ++ tables_1
theorem lw_privs_ok : ∀ q ∈ lw_privs, lw_okq q := lw_r1
/-- the streams that the claim lets the run draw from -/
abbrev lw_cs : List Choice := [Jvm.Choice.named "NaN.bits"]
theorem lw_bits : nanBits ∈ lw_cs := by first | decide | exact List.mem_cons_self | simp [lw_cs, nanBits]
/-! ===== BEGIN words of one list among another's, by their places ===== -/
theorem goodIn_r {big : List Cond} (ws : List Cond) (ps : List Nat) (hp : ws = ps.filterMap (fun i => big[i]?)) (h : ws.all goodWord = true) : GoodIn big ws := by
  intro w hw
  have h1 := List.all_eq_true.mp h w hw
  rw [hp] at hw
  obtain ⟨i, -, hi⟩ := List.mem_filterMap.mp hw
  have hm : w ∈ big := by first | exact List.mem_of_getElem? hi | exact List.getElem?_mem hi
  exact ⟨hm, good_of_word h1⟩
theorem goodIn_app {big a b : List Cond} (ha : GoodIn big a) (hb : GoodIn big b) : GoodIn big (a ++ b) := fun w h => (List.mem_append.mp h).elim (ha w) (hb w)
theorem goodIn_ca {big a b : List Cond} {c : Cond} (ha : GoodIn big (c :: a)) (hb : GoodIn big b) : GoodIn big (c :: (a ++ b)) := fun w h => (List.mem_cons.mp h).elim (fun e => ha w (List.mem_cons.mpr (Or.inl e))) (fun h => (List.mem_append.mp h).elim (fun h => ha w (List.mem_cons.mpr (Or.inr h))) (hb w))
theorem goodIn_sub {big ws : List Cond} (hm : ∀ w ∈ ws, w ∈ big) (h : ws.all goodWord = true) : GoodIn big ws := fun w hw => ⟨hm w hw, good_of_word (List.all_eq_true.mp h w hw)⟩
/-! ===== END ===== -/

/-! ===== BEGIN printed: names, fields, word lists, decode rows ===== -/
def RX0 : String := "NailedOrders$Bits"
def TX0 : u_T := fun k => match k with
  | _ => ("", "", "", false)
def tyX0 : Nat → FieldType := fun k => match k with
  | _ => .int
abbrev wsX00 : List Cond := u_ws RX0 TX0 0
theorem nmX0 : ∀ a, a < 0 → ∀ b, b < 0 → a ≠ b → (TX0 a).2.1 ≠ (TX0 b).2.1 := by decide +kernel
theorem tyX0_ok : ∀ k, k < 0 → parseFieldDescriptor (TX0 k).2.2.1 = some (tyX0 k) := by decide +kernel
abbrev cX0_areNumber : ByteArray := prog_2_method_2_code
def yX0_areNumber : MethodName := ⟨RX0, "areNumber", "(I)Z"⟩
abbrev cX0_areStrength : ByteArray := prog_2_method_3_code
def yX0_areStrength : MethodName := ⟨RX0, "areStrength", "(I)Z"⟩
abbrev cX0_areForce : ByteArray := prog_2_method_4_code
def yX0_areForce : MethodName := ⟨RX0, "areForce", "(I)Z"⟩
abbrev cX0_areTolerance : ByteArray := prog_2_method_5_code
def yX0_areTolerance : MethodName := ⟨RX0, "areTolerance", "(I)Z"⟩
abbrev cX0_areFrom : ByteArray := prog_2_method_6_code
def yX0_areFrom : MethodName := ⟨RX0, "areFrom", "(IFF)Z"⟩
abbrev cX0_exponent : ByteArray := prog_2_method_7_code
def yX0_exponent : MethodName := ⟨RX0, "exponent", "(I)I"⟩
abbrev cX0_toFloat : ByteArray := prog_2_method_8_code
def yX0_toFloat : MethodName := ⟨RX0, "toFloat", "(I)F"⟩
def RX1 : String := "NailedOrders$Door"
def TX1 : u_T := fun k => match k with
  | 0 => ("NailedOrders$Door", "persons", "I", false)
  | 1 => ("NailedOrders$Door", "ranks", "[I", true)
  | 2 => ("NailedOrders$Door", "toleranceBits", "I", false)
  | 3 => ("NailedOrders$Door", "tolerance", "F", false)
  | 4 => ("NailedOrders$Door", "storms", "I", false)
  | 5 => ("NailedOrders$Door", "orders", "I", false)
  | 6 => ("NailedOrders$Door", "owners", "[I", true)
  | 7 => ("NailedOrders$Door", "words", "[I", true)
  | 8 => ("NailedOrders$Door", "links", "[I", true)
  | 9 => ("NailedOrders$Door", "factors", "[F", true)
  | 10 => ("NailedOrders$Door", "numbers", "[F", true)
  | 11 => ("NailedOrders$Door", "strengths", "[F", true)
  | _ => ("NailedOrders$Door", "fates", "[I", true)
def tyX1 : Nat → FieldType := fun k => match k with
  | 0 => .int
  | 1 => .array .int
  | 2 => .int
  | 3 => .float
  | 4 => .int
  | 5 => .int
  | 6 => .array .int
  | 7 => .array .int
  | 8 => .array .int
  | 9 => .array .float
  | 10 => .array .float
  | 11 => .array .float
  | _ => .array .int
abbrev wsX10 : List Cond := u_ws RX1 TX1 13
theorem nmX1 : ∀ a, a < 13 → ∀ b, b < 13 → a ≠ b → (TX1 a).2.1 ≠ (TX1 b).2.1 := by decide +kernel
theorem tyX1_ok : ∀ k, k < 13 → parseFieldDescriptor (TX1 k).2.2.1 = some (tyX1 k) := by decide +kernel
abbrev cX1_init : ByteArray := prog_3_method_1_code
def yX1_init : MethodName := ⟨RX1, "<init>", "()V"⟩
abbrev cX1_become : ByteArray := prog_3_method_2_code
def yX1_become : MethodName := ⟨RX1, "become", "(LNailedOrders$Door;)V"⟩
abbrev cX1_isPerson : ByteArray := prog_3_method_3_code
def yX1_isPerson : MethodName := ⟨RX1, "isPerson", "(I)Z"⟩
abbrev cX1_isOrder : ByteArray := prog_3_method_4_code
def yX1_isOrder : MethodName := ⟨RX1, "isOrder", "(I)Z"⟩
abbrev cX1_admit : ByteArray := prog_3_method_5_code
def yX1_admit : MethodName := ⟨RX1, "admit", "(I)I"⟩
abbrev cX1_hasRoomAfter : ByteArray := prog_3_method_6_code
def yX1_hasRoomAfter : MethodName := ⟨RX1, "hasRoomAfter", "(I)Z"⟩
abbrev cX1_hang : ByteArray := prog_3_method_7_code
def yX1_hang : MethodName := ⟨RX1, "hang", "(IIIFFF)I"⟩
abbrev cX1_hangs : ByteArray := prog_3_method_8_code
def yX1_hangs : MethodName := ⟨RX1, "hangs", "(I)Z"⟩
abbrev cX1_hangsFor : ByteArray := prog_3_method_9_code
def yX1_hangsFor : MethodName := ⟨RX1, "hangsFor", "(II)Z"⟩
abbrev cX1_rankOf : ByteArray := prog_3_method_10_code
def yX1_rankOf : MethodName := ⟨RX1, "rankOf", "(I)I"⟩
abbrev cX1_hundredthsOfStrength : ByteArray := prog_3_method_11_code
def yX1_hundredthsOfStrength : MethodName := ⟨RX1, "hundredthsOfStrength", "(I)I"⟩
abbrev cX1_over : ByteArray := prog_3_method_12_code
def yX1_over : MethodName := ⟨RX1, "over", "(I)I"⟩
abbrev cX1_beneath : ByteArray := prog_3_method_13_code
def yX1_beneath : MethodName := ⟨RX1, "beneath", "(I)I"⟩
abbrev cX1_hangingFor : ByteArray := prog_3_method_14_code
def yX1_hangingFor : MethodName := ⟨RX1, "hangingFor", "(I)I"⟩
abbrev cX1_hangingBetween : ByteArray := prog_3_method_15_code
def yX1_hangingBetween : MethodName := ⟨RX1, "hangingBetween", "(III)I"⟩
abbrev cX1_hangingAt : ByteArray := prog_3_method_16_code
def yX1_hangingAt : MethodName := ⟨RX1, "hangingAt", "(II)I"⟩
abbrev cX1_hanging : ByteArray := prog_3_method_17_code
def yX1_hanging : MethodName := ⟨RX1, "hanging", "()I"⟩
abbrev cX1_withFate : ByteArray := prog_3_method_18_code
def yX1_withFate : MethodName := ⟨RX1, "withFate", "(I)I"⟩
abbrev cX1_nailedBy : ByteArray := prog_3_method_19_code
def yX1_nailedBy : MethodName := ⟨RX1, "nailedBy", "(I)I"⟩
abbrev cX1_hangingBy : ByteArray := prog_3_method_20_code
def yX1_hangingBy : MethodName := ⟨RX1, "hangingBy", "(I)I"⟩
abbrev cX1_wordsOf : ByteArray := prog_3_method_21_code
def yX1_wordsOf : MethodName := ⟨RX1, "wordsOf", "(I)I"⟩
def RX2 : String := "NailedOrders$History"
def TX2 : u_T := fun k => match k with
  | 0 => ("NailedOrders$History", "doors", "[LNailedOrders$Door;", true)
  | _ => ("NailedOrders$History", "states", "I", false)
def tyX2 : Nat → FieldType := fun k => match k with
  | 0 => .array (.object "NailedOrders$Door")
  | _ => .int
abbrev wsX20 : List Cond := u_ws RX2 TX2 2
theorem nmX2 : ∀ a, a < 2 → ∀ b, b < 2 → a ≠ b → (TX2 a).2.1 ≠ (TX2 b).2.1 := by decide +kernel
theorem tyX2_ok : ∀ k, k < 2 → parseFieldDescriptor (TX2 k).2.2.1 = some (tyX2 k) := by decide +kernel
abbrev cX2_init : ByteArray := prog_4_method_1_code
def yX2_init : MethodName := ⟨RX2, "<init>", "()V"⟩
abbrev cX2_record : ByteArray := prog_4_method_2_code
def yX2_record : MethodName := ⟨RX2, "record", "(LNailedOrders$Door;)V"⟩
abbrev cX2_dropOldest : ByteArray := prog_4_method_3_code
def yX2_dropOldest : MethodName := ⟨RX2, "dropOldest", "()V"⟩
def RX3 : String := "NailedOrders$Reader"
def TX3 : u_T := fun k => match k with
  | 0 => ("NailedOrders$Reader", "text", "LNailedOrders$Text;", true)
  | 1 => ("NailedOrders$Reader", "at", "I", false)
  | 2 => ("NailedOrders$Reader", "found", "I", false)
  | 3 => ("NailedOrders$Reader", "words", "[I", true)
  | 4 => ("NailedOrders$Reader", "others", "[I", true)
  | 5 => ("NailedOrders$Reader", "factors", "[F", true)
  | 6 => ("NailedOrders$Reader", "numbers", "[F", true)
  | _ => ("NailedOrders$Reader", "tenths", "I", false)
def tyX3 : Nat → FieldType := fun k => match k with
  | 0 => .object "NailedOrders$Text"
  | 1 => .int
  | 2 => .int
  | 3 => .array .int
  | 4 => .array .int
  | 5 => .array .float
  | 6 => .array .float
  | _ => .int
abbrev wsX30 : List Cond := u_ws RX3 TX3 8
theorem nmX3 : ∀ a, a < 8 → ∀ b, b < 8 → a ≠ b → (TX3 a).2.1 ≠ (TX3 b).2.1 := by decide +kernel
theorem tyX3_ok : ∀ k, k < 8 → parseFieldDescriptor (TX3 k).2.2.1 = some (tyX3 k) := by decide +kernel
abbrev cX3_init : ByteArray := prog_5_method_1_code
def yX3_init : MethodName := ⟨RX3, "<init>", "(LNailedOrders$Text;)V"⟩
def RX4 : String := "NailedOrders$Reckoning"
def TX4 : u_T := fun k => match k with
  | 0 => ("NailedOrders$Reckoning", "door", "LNailedOrders$Door;", true)
  | 1 => ("NailedOrders$Reckoning", "rulers", "[I", true)
  | 2 => ("NailedOrders$Reckoning", "known", "[Z", true)
  | _ => ("NailedOrders$Reckoning", "values", "[F", true)
def tyX4 : Nat → FieldType := fun k => match k with
  | 0 => .object "NailedOrders$Door"
  | 1 => .array .int
  | 2 => .array .boolean
  | _ => .array .float
abbrev wsX40 : List Cond := u_ws RX4 TX4 4
theorem nmX4 : ∀ a, a < 4 → ∀ b, b < 4 → a ≠ b → (TX4 a).2.1 ≠ (TX4 b).2.1 := by decide +kernel
theorem tyX4_ok : ∀ k, k < 4 → parseFieldDescriptor (TX4 k).2.2.1 = some (tyX4 k) := by decide +kernel
abbrev cX4_init : ByteArray := prog_6_method_1_code
def yX4_init : MethodName := ⟨RX4, "<init>", "(LNailedOrders$Door;)V"⟩
abbrev cX4_settle : ByteArray := prog_6_method_2_code
def yX4_settle : MethodName := ⟨RX4, "settle", "(I)V"⟩
abbrev cX4_findRulers : ByteArray := prog_6_method_3_code
def yX4_findRulers : MethodName := ⟨RX4, "findRulers", "(I)V"⟩
abbrev cX4_findValues : ByteArray := prog_6_method_4_code
def yX4_findValues : MethodName := ⟨RX4, "findValues", "()V"⟩
abbrev cX4_orderHasValue : ByteArray := prog_6_method_5_code
def yX4_orderHasValue : MethodName := ⟨RX4, "orderHasValue", "(I)Z"⟩
abbrev cX4_orderValue : ByteArray := prog_6_method_6_code
def yX4_orderValue : MethodName := ⟨RX4, "orderValue", "(I)F"⟩
abbrev cX4_linkFrom : ByteArray := prog_6_method_7_code
def yX4_linkFrom : MethodName := ⟨RX4, "linkFrom", "(I)I"⟩
abbrev cX4_linksToEnd : ByteArray := prog_6_method_9_code
def yX4_linksToEnd : MethodName := ⟨RX4, "linksToEnd", "(I)I"⟩
abbrev cX4_comesTo : ByteArray := prog_6_method_10_code
def yX4_comesTo : MethodName := ⟨RX4, "comesTo", "(II)Z"⟩
abbrev cX4_dependents : ByteArray := prog_6_method_11_code
def yX4_dependents : MethodName := ⟨RX4, "dependents", "(I)I"⟩
abbrev cX4_topmostRival : ByteArray := prog_6_method_12_code
def yX4_topmostRival : MethodName := ⟨RX4, "topmostRival", "(I)I"⟩
abbrev cX4_areRivals : ByteArray := prog_6_method_13_code
def yX4_areRivals : MethodName := ⟨RX4, "areRivals", "(II)Z"⟩
abbrev cX4_areFar : ByteArray := prog_6_method_14_code
def yX4_areFar : MethodName := ⟨RX4, "areFar", "(FF)Z"⟩
abbrev cX4_wordsWithValue : ByteArray := prog_6_method_16_code
def yX4_wordsWithValue : MethodName := ⟨RX4, "wordsWithValue", "()I"⟩
abbrev cX4_wordsRuledWithoutValue : ByteArray := prog_6_method_17_code
def yX4_wordsRuledWithoutValue : MethodName := ⟨RX4, "wordsRuledWithoutValue", "()I"⟩
abbrev cX4_wordsInConflict : ByteArray := prog_6_method_18_code
def yX4_wordsInConflict : MethodName := ⟨RX4, "wordsInConflict", "()I"⟩
abbrev cX4_wordsInRings : ByteArray := prog_6_method_19_code
def yX4_wordsInRings : MethodName := ⟨RX4, "wordsInRings", "()I"⟩
def RX5 : String := "NailedOrders$Text"
def TX5 : u_T := fun k => match k with
  | 0 => ("NailedOrders$Text", "signs", "[C", true)
  | _ => ("NailedOrders$Text", "length", "I", false)
def tyX5 : Nat → FieldType := fun k => match k with
  | 0 => .array .char
  | _ => .int
abbrev wsX50 : List Cond := u_ws RX5 TX5 2
theorem nmX5 : ∀ a, a < 2 → ∀ b, b < 2 → a ≠ b → (TX5 a).2.1 ≠ (TX5 b).2.1 := by decide +kernel
theorem tyX5_ok : ∀ k, k < 2 → parseFieldDescriptor (TX5 k).2.2.1 = some (tyX5 k) := by decide +kernel
abbrev cX5_init : ByteArray := prog_7_method_1_code
def yX5_init : MethodName := ⟨RX5, "<init>", "()V"⟩
def RX6 : String := "NailedOrders$Weather"
def TX6 : u_T := fun k => match k with
  | 0 => ("NailedOrders$Weather", "trial", "LNailedOrders$Door;", true)
  | _ => ("NailedOrders$Weather", "over", "[I", true)
def tyX6 : Nat → FieldType := fun k => match k with
  | 0 => .object "NailedOrders$Door"
  | _ => .array .int
abbrev wsX60 : List Cond := u_ws RX6 TX6 2
theorem nmX6 : ∀ a, a < 2 → ∀ b, b < 2 → a ≠ b → (TX6 a).2.1 ≠ (TX6 b).2.1 := by decide +kernel
theorem tyX6_ok : ∀ k, k < 2 → parseFieldDescriptor (TX6 k).2.2.1 = some (tyX6 k) := by decide +kernel
abbrev cX6_init : ByteArray := prog_8_method_1_code
def yX6_init : MethodName := ⟨RX6, "<init>", "()V"⟩
abbrev cX6_blow : ByteArray := prog_8_method_2_code
def yX6_blow : MethodName := ⟨RX6, "blow", "(LNailedOrders$Door;F)I"⟩
def RX7 : String := "NailedOrders"
def TX7 : u_T := fun k => match k with
  | 0 => ("NailedOrders", "door", "LNailedOrders$Door;", true)
  | 1 => ("NailedOrders", "kept", "LNailedOrders$Door;", true)
  | 2 => ("NailedOrders", "hasKept", "Z", false)
  | 3 => ("NailedOrders", "history", "LNailedOrders$History;", true)
  | 4 => ("NailedOrders", "text", "LNailedOrders$Text;", true)
  | 5 => ("NailedOrders", "reader", "LNailedOrders$Reader;", true)
  | 6 => ("NailedOrders", "weather", "LNailedOrders$Weather;", true)
  | 7 => ("NailedOrders", "now", "LNailedOrders$Reckoning;", true)
  | _ => ("NailedOrders", "without", "LNailedOrders$Reckoning;", true)
def tyX7 : Nat → FieldType := fun k => match k with
  | 0 => .object "NailedOrders$Door"
  | 1 => .object "NailedOrders$Door"
  | 2 => .boolean
  | 3 => .object "NailedOrders$History"
  | 4 => .object "NailedOrders$Text"
  | 5 => .object "NailedOrders$Reader"
  | 6 => .object "NailedOrders$Weather"
  | 7 => .object "NailedOrders$Reckoning"
  | _ => .object "NailedOrders$Reckoning"
abbrev wsX70 : List Cond := u_ws RX7 TX7 9
theorem nmX7 : ∀ a, a < 9 → ∀ b, b < 9 → a ≠ b → (TX7 a).2.1 ≠ (TX7 b).2.1 := by decide +kernel
theorem tyX7_ok : ∀ k, k < 9 → parseFieldDescriptor (TX7 k).2.2.1 = some (tyX7 k) := by decide +kernel
abbrev cX7_init : ByteArray := prog_1_method_1_code
def yX7_init : MethodName := ⟨RX7, "<init>", "()V"⟩
abbrev cX7_addPerson : ByteArray := prog_1_method_2_code
def yX7_addPerson : MethodName := ⟨RX7, "addPerson", "(I)I"⟩
abbrev cX7_setRank : ByteArray := prog_1_method_3_code
def yX7_setRank : MethodName := ⟨RX7, "setRank", "(II)I"⟩
abbrev cX7_setTolerance : ByteArray := prog_1_method_4_code
def yX7_setTolerance : MethodName := ⟨RX7, "setTolerance", "(I)I"⟩
abbrev cX7_nail : ByteArray := prog_1_method_5_code
def yX7_nail : MethodName := ⟨RX7, "nail", "(IIII)I"⟩
abbrev cX7_nailLink : ByteArray := prog_1_method_6_code
def yX7_nailLink : MethodName := ⟨RX7, "nailLink", "(IIIIII)I"⟩
abbrev cX7_tear : ByteArray := prog_1_method_7_code
def yX7_tear : MethodName := ⟨RX7, "tear", "(I)I"⟩
abbrev cX7_hammer : ByteArray := prog_1_method_8_code
def yX7_hammer : MethodName := ⟨RX7, "hammer", "(I)I"⟩
abbrev cX7_storm : ByteArray := prog_1_method_9_code
def yX7_storm : MethodName := ⟨RX7, "storm", "(I)I"⟩
abbrev cX7_value : ByteArray := prog_1_method_16_code
def yX7_value : MethodName := ⟨RX7, "value", "(I)F"⟩
abbrev cX7_valueOf : ByteArray := prog_1_method_17_code
def yX7_valueOf : MethodName := ⟨RX7, "valueOf", "(I)F"⟩
abbrev cX7_word : ByteArray := prog_1_method_18_code
def yX7_word : MethodName := ⟨RX7, "word", "(II)I"⟩
abbrev cX7_hangsAt : ByteArray := prog_1_method_19_code
def yX7_hangsAt : MethodName := ⟨RX7, "hangsAt", "(II)I"⟩
abbrev cX7_order : ByteArray := prog_1_method_20_code
def yX7_order : MethodName := ⟨RX7, "order", "(II)I"⟩
abbrev cX7_real : ByteArray := prog_1_method_21_code
def yX7_real : MethodName := ⟨RX7, "real", "(II)F"⟩
abbrev cX7_person : ByteArray := prog_1_method_25_code
def yX7_person : MethodName := ⟨RX7, "person", "(II)I"⟩
abbrev cX7_count : ByteArray := prog_1_method_26_code
def yX7_count : MethodName := ⟨RX7, "count", "(I)I"⟩
abbrev cX7_isRank : ByteArray := prog_1_method_27_code
def yX7_isRank : MethodName := ⟨RX7, "isRank", "(I)Z"⟩
abbrev cX7_isWord : ByteArray := prog_1_method_28_code
def yX7_isWord : MethodName := ⟨RX7, "isWord", "(I)Z"⟩
abbrev cX7_oneIf : ByteArray := prog_1_method_29_code
def yX7_oneIf : MethodName := ⟨RX7, "oneIf", "(Z)I"⟩
abbrev cX7_noFloat : ByteArray := prog_1_method_30_code
def yX7_noFloat : MethodName := ⟨RX7, "noFloat", "()F"⟩
abbrev cX7_rules : ByteArray := prog_1_method_31_code
def yX7_rules : MethodName := ⟨RX7, "rules", "(I)Z"⟩
abbrev cX7_wordsRuledBy : ByteArray := prog_1_method_32_code
def yX7_wordsRuledBy : MethodName := ⟨RX7, "wordsRuledBy", "(I)I"⟩
def RX8 : String := "NailedOrdersModel"
def TX8 : u_T := fun k => match k with
  | _ => ("", "", "", false)
def tyX8 : Nat → FieldType := fun k => match k with
  | _ => .int
abbrev wsX80 : List Cond := u_ws RX8 TX8 0
theorem nmX8 : ∀ a, a < 0 → ∀ b, b < 0 → a ≠ b → (TX8 a).2.1 ≠ (TX8 b).2.1 := by decide +kernel
theorem tyX8_ok : ∀ k, k < 0 → parseFieldDescriptor (TX8 k).2.2.1 = some (tyX8 k) := by decide +kernel
def RJ10 : String := "java/lang/System"
def TJ10 : u_T := fun k => match k with
  | _ => ("", "", "", false)
def tyJ10 : Nat → FieldType := fun k => match k with
  | _ => .int
abbrev wsJ100 : List Cond := u_ws RJ10 TJ10 0
theorem nmJ10 : ∀ a, a < 0 → ∀ b, b < 0 → a ≠ b → (TJ10 a).2.1 ≠ (TJ10 b).2.1 := by decide +kernel
theorem tyJ10_ok : ∀ k, k < 0 → parseFieldDescriptor (TJ10 k).2.2.1 = some (tyJ10 k) := by decide +kernel
def RL : String := "NailedOrdersLaw"
abbrev cL_cell : ByteArray := method_2_code
def yL_cell : MethodName := ⟨RL, "cell", "([II)I"⟩
abbrev cL_low : ByteArray := method_3_code
def yL_low : MethodName := ⟨RL, "low", "(II)I"⟩
abbrev cL_bits : ByteArray := method_4_code
def yL_bits : MethodName := ⟨RL, "bits", "(I)I"⟩
abbrev cL_ruling : ByteArray := method_5_code
def yL_ruling : MethodName := ⟨RL, "ruling", "([I[I[II)I"⟩
abbrev cL_has : ByteArray := method_6_code
def yL_has : MethodName := ⟨RL, "has", "([I[I[I[DI[D)Z"⟩
abbrev cL_hasOf : ByteArray := method_7_code
def yL_hasOf : MethodName := ⟨RL, "hasOf", "([I[I[I[DI[D)Z"⟩
abbrev cL_differ : ByteArray := method_8_code
def yL_differ : MethodName := ⟨RL, "differ", "(ZDZDD)Z"⟩
abbrev cL_conflict : ByteArray := method_9_code
def yL_conflict : MethodName := ⟨RL, "conflict", "([I[I[I[D[DI[D)I"⟩
abbrev cL_over : ByteArray := method_10_code
def yL_over : MethodName := ⟨RL, "over", "([I[II)I"⟩
abbrev cL_areWords : ByteArray := method_11_code
def yL_areWords : MethodName := ⟨RL, "areWords", "(LNailedOrders;[I[I[I[D[D)Z"⟩
abbrev cL_areOrders : ByteArray := method_12_code
def yL_areOrders : MethodName := ⟨RL, "areOrders", "(LNailedOrders;[I[I[I[D[D)Z"⟩
abbrev cL_arePersons : ByteArray := method_13_code
def yL_arePersons : MethodName := ⟨RL, "arePersons", "(LNailedOrders;[I[I[I)Z"⟩
abbrev cL_isNailed : ByteArray := method_14_code
def yL_isNailed : MethodName := ⟨RL, "isNailed", "(LNailedOrders;[I[I[D[DII)Z"⟩
abbrev cL_isStruck : ByteArray := method_15_code
def yL_isStruck : MethodName := ⟨RL, "isStruck", "(LNailedOrders;[I[I[DI)Z"⟩
abbrev cL_isStormy : ByteArray := method_16_code
def yL_isStormy : MethodName := ⟨RL, "isStormy", "(LNailedOrders;[I[I[DI)Z"⟩
abbrev cL_isRanked : ByteArray := method_17_code
def yL_isRanked : MethodName := ⟨RL, "isRanked", "(LNailedOrders;[I[I[DI)Z"⟩
abbrev cL_law : ByteArray := code
def yL_law : MethodName := ⟨RL, "law", "([I)Z"⟩
def wsX0_exponent : List Cond := .code yX0_exponent cX0_exponent 1 (some .int) :: ([])
def wsX0_toFloat : List Cond := .code yX0_toFloat cX0_toFloat 5 (some .float) :: ([.constant RX0 26 (8388607), .constant RX0 27 (8388608), .constantFloat RX0 28 (1056964608), .methodLink RX0 18 yX0_exponent, .static yX0_exponent, .initialized RX0, .code yX0_exponent cX0_exponent 1 (some .int)])
def wsX0_areFrom : List Cond := .code yX0_areFrom cX0_areFrom 4 (some .boolean) :: ([.methodLink RX0 18 yX0_exponent, .static yX0_exponent, .initialized RX0, .code yX0_exponent cX0_exponent 1 (some .int), .methodLink RX0 22 yX0_toFloat, .static yX0_toFloat, .code yX0_toFloat cX0_toFloat 5 (some .float), .constant RX0 26 (8388607), .constant RX0 27 (8388608), .constantFloat RX0 28 (1056964608)])
def wsX0_areNumber : List Cond := .code yX0_areNumber cX0_areNumber 1 (some .boolean) :: ([.constantFloat RX0 7 (3296329728), .constantFloat RX0 8 (1148846080), .methodLink RX0 9 yX0_areFrom, .static yX0_areFrom, .initialized RX0, .code yX0_areFrom cX0_areFrom 4 (some .boolean), .methodLink RX0 18 yX0_exponent, .static yX0_exponent, .code yX0_exponent cX0_exponent 1 (some .int), .methodLink RX0 22 yX0_toFloat, .static yX0_toFloat, .code yX0_toFloat cX0_toFloat 5 (some .float), .constant RX0 26 (8388607), .constant RX0 27 (8388608), .constantFloat RX0 28 (1056964608)])
def wsX0_areStrength : List Cond := .code yX0_areStrength cX0_areStrength 1 (some .boolean) :: ([.constantFloat RX0 15 (1036831949), .constantFloat RX0 16 (1092616192), .methodLink RX0 9 yX0_areFrom, .static yX0_areFrom, .initialized RX0, .code yX0_areFrom cX0_areFrom 4 (some .boolean), .methodLink RX0 18 yX0_exponent, .static yX0_exponent, .code yX0_exponent cX0_exponent 1 (some .int), .methodLink RX0 22 yX0_toFloat, .static yX0_toFloat, .code yX0_toFloat cX0_toFloat 5 (some .float), .constant RX0 26 (8388607), .constant RX0 27 (8388608), .constantFloat RX0 28 (1056964608)])
def wsX0_areForce : List Cond := .code yX0_areForce cX0_areForce 1 (some .boolean) :: ([.constantFloat RX0 15 (1036831949), .constantFloat RX0 16 (1092616192), .methodLink RX0 9 yX0_areFrom, .static yX0_areFrom, .initialized RX0, .code yX0_areFrom cX0_areFrom 4 (some .boolean), .methodLink RX0 18 yX0_exponent, .static yX0_exponent, .code yX0_exponent cX0_exponent 1 (some .int), .methodLink RX0 22 yX0_toFloat, .static yX0_toFloat, .code yX0_toFloat cX0_toFloat 5 (some .float), .constant RX0 26 (8388607), .constant RX0 27 (8388608), .constantFloat RX0 28 (1056964608)])
def wsX0_areTolerance : List Cond := .code yX0_areTolerance cX0_areTolerance 1 (some .boolean) :: ([.constantFloat RX0 17 (1120403456), .methodLink RX0 9 yX0_areFrom, .static yX0_areFrom, .initialized RX0, .code yX0_areFrom cX0_areFrom 4 (some .boolean), .methodLink RX0 18 yX0_exponent, .static yX0_exponent, .code yX0_exponent cX0_exponent 1 (some .int), .methodLink RX0 22 yX0_toFloat, .static yX0_toFloat, .code yX0_toFloat cX0_toFloat 5 (some .float), .constant RX0 26 (8388607), .constant RX0 27 (8388608), .constantFloat RX0 28 (1056964608)])
def wsX1_init : List Cond := .code yX1_init cX1_init 1 none :: ([.methodLink RX1 3 objectInit, .instanceMethod objectInit, .code objectInit ⟨#[0xb1]⟩ 1 none, .arrayClass .int, .fieldLink RX1 9 "NailedOrders$Door" "ranks" "[I", .fieldLink RX1 15 "NailedOrders$Door" "owners" "[I", .fieldLink RX1 18 "NailedOrders$Door" "words" "[I", .fieldLink RX1 21 "NailedOrders$Door" "links" "[I", .arrayClass .float, .fieldLink RX1 24 "NailedOrders$Door" "factors" "[F", .fieldLink RX1 28 "NailedOrders$Door" "numbers" "[F", .fieldLink RX1 31 "NailedOrders$Door" "strengths" "[F", .fieldLink RX1 34 "NailedOrders$Door" "fates" "[I"] ++ wsX10)
def wsX1_become : List Cond := .code yX1_become cX1_become 2 none :: ([.fieldLink RX1 37 "NailedOrders$Door" "persons" "I", .fieldLink RX1 41 "NailedOrders$Door" "toleranceBits" "I", .fieldLink RX1 44 "NailedOrders$Door" "tolerance" "F", .fieldLink RX1 48 "NailedOrders$Door" "storms" "I", .fieldLink RX1 51 "NailedOrders$Door" "orders" "I", .fieldLink RX1 9 "NailedOrders$Door" "ranks" "[I", .methodLink RX1 54 arraycopyName, .native arraycopyName, .static arraycopyName, .initialized "java/lang/System", .fieldLink RX1 15 "NailedOrders$Door" "owners" "[I", .fieldLink RX1 18 "NailedOrders$Door" "words" "[I", .fieldLink RX1 21 "NailedOrders$Door" "links" "[I", .fieldLink RX1 24 "NailedOrders$Door" "factors" "[F", .fieldLink RX1 28 "NailedOrders$Door" "numbers" "[F", .fieldLink RX1 31 "NailedOrders$Door" "strengths" "[F", .fieldLink RX1 34 "NailedOrders$Door" "fates" "[I"] ++ wsX10)
def wsX1_isPerson : List Cond := .code yX1_isPerson cX1_isPerson 2 (some .boolean) :: ([.fieldLink RX1 37 "NailedOrders$Door" "persons" "I"] ++ wsX10)
def wsX1_isOrder : List Cond := .code yX1_isOrder cX1_isOrder 2 (some .boolean) :: ([.fieldLink RX1 51 "NailedOrders$Door" "orders" "I"] ++ wsX10)
def wsX1_admit : List Cond := .code yX1_admit cX1_admit 3 (some .int) :: ([.fieldLink RX1 37 "NailedOrders$Door" "persons" "I", .fieldLink RX1 9 "NailedOrders$Door" "ranks" "[I"] ++ wsX10)
def wsX1_withFate : List Cond := .code yX1_withFate cX1_withFate 4 (some .int) :: ([.fieldLink RX1 51 "NailedOrders$Door" "orders" "I", .fieldLink RX1 34 "NailedOrders$Door" "fates" "[I"] ++ wsX10)
def wsX1_hanging : List Cond := .code yX1_hanging cX1_hanging 1 (some .int) :: ([.methodLink RX1 77 yX1_withFate, .instanceMethod yX1_withFate, .selects RX1 yX1_withFate yX1_withFate, .initialized RX1, .code yX1_withFate cX1_withFate 4 (some .int), .fieldLink RX1 51 "NailedOrders$Door" "orders" "I", .fieldLink RX1 34 "NailedOrders$Door" "fates" "[I"] ++ wsX10)
def wsX1_hasRoomAfter : List Cond := .code yX1_hasRoomAfter cX1_hasRoomAfter 2 (some .boolean) :: ([.fieldLink RX1 51 "NailedOrders$Door" "orders" "I", .methodLink RX1 60 yX1_hanging, .instanceMethod yX1_hanging, .selects RX1 yX1_hanging yX1_hanging, .initialized RX1, .code yX1_hanging cX1_hanging 1 (some .int), .methodLink RX1 77 yX1_withFate, .instanceMethod yX1_withFate, .selects RX1 yX1_withFate yX1_withFate, .code yX1_withFate cX1_withFate 4 (some .int), .fieldLink RX1 34 "NailedOrders$Door" "fates" "[I"] ++ wsX10)
def wsX1_hang : List Cond := .code yX1_hang cX1_hang 8 (some .int) :: ([.fieldLink RX1 51 "NailedOrders$Door" "orders" "I", .fieldLink RX1 15 "NailedOrders$Door" "owners" "[I", .fieldLink RX1 18 "NailedOrders$Door" "words" "[I", .fieldLink RX1 21 "NailedOrders$Door" "links" "[I", .fieldLink RX1 24 "NailedOrders$Door" "factors" "[F", .fieldLink RX1 28 "NailedOrders$Door" "numbers" "[F", .fieldLink RX1 31 "NailedOrders$Door" "strengths" "[F", .fieldLink RX1 34 "NailedOrders$Door" "fates" "[I"] ++ wsX10)
def wsX1_hangs : List Cond := .code yX1_hangs cX1_hangs 2 (some .boolean) :: ([.fieldLink RX1 34 "NailedOrders$Door" "fates" "[I"] ++ wsX10)
def wsX1_hangsFor : List Cond := .code yX1_hangsFor cX1_hangsFor 3 (some .boolean) :: ([.fieldLink RX1 18 "NailedOrders$Door" "words" "[I", .methodLink RX1 64 yX1_hangs, .instanceMethod yX1_hangs, .selects RX1 yX1_hangs yX1_hangs, .initialized RX1, .code yX1_hangs cX1_hangs 2 (some .boolean), .fieldLink RX1 34 "NailedOrders$Door" "fates" "[I"] ++ wsX10)
def wsX1_rankOf : List Cond := .code yX1_rankOf cX1_rankOf 2 (some .int) :: ([.fieldLink RX1 9 "NailedOrders$Door" "ranks" "[I", .fieldLink RX1 15 "NailedOrders$Door" "owners" "[I"] ++ wsX10)
def wsX1_hundredthsOfStrength : List Cond := .code yX1_hundredthsOfStrength cX1_hundredthsOfStrength 2 (some .int) :: ([.fieldLink RX1 31 "NailedOrders$Door" "strengths" "[F", .constantFloat RX1 68 (1120403456)] ++ wsX10)
def wsX1_hangingBetween : List Cond := .code yX1_hangingBetween cX1_hangingBetween 6 (some .int) :: ([.methodLink RX1 73 yX1_hangsFor, .instanceMethod yX1_hangsFor, .selects RX1 yX1_hangsFor yX1_hangsFor, .initialized RX1, .code yX1_hangsFor cX1_hangsFor 3 (some .boolean), .fieldLink RX1 18 "NailedOrders$Door" "words" "[I", .methodLink RX1 64 yX1_hangs, .instanceMethod yX1_hangs, .selects RX1 yX1_hangs yX1_hangs, .code yX1_hangs cX1_hangs 2 (some .boolean), .fieldLink RX1 34 "NailedOrders$Door" "fates" "[I"] ++ wsX10)
def wsX1_over : List Cond := .code yX1_over cX1_over 2 (some .int) :: ([.fieldLink RX1 51 "NailedOrders$Door" "orders" "I", .fieldLink RX1 18 "NailedOrders$Door" "words" "[I", .methodLink RX1 69 yX1_hangingBetween, .instanceMethod yX1_hangingBetween, .selects RX1 yX1_hangingBetween yX1_hangingBetween, .initialized RX1, .code yX1_hangingBetween cX1_hangingBetween 6 (some .int), .methodLink RX1 73 yX1_hangsFor, .instanceMethod yX1_hangsFor, .selects RX1 yX1_hangsFor yX1_hangsFor, .code yX1_hangsFor cX1_hangsFor 3 (some .boolean), .methodLink RX1 64 yX1_hangs, .instanceMethod yX1_hangs, .selects RX1 yX1_hangs yX1_hangs, .code yX1_hangs cX1_hangs 2 (some .boolean), .fieldLink RX1 34 "NailedOrders$Door" "fates" "[I"] ++ wsX10)
def wsX1_beneath : List Cond := .code yX1_beneath cX1_beneath 2 (some .int) :: ([.fieldLink RX1 18 "NailedOrders$Door" "words" "[I", .methodLink RX1 69 yX1_hangingBetween, .instanceMethod yX1_hangingBetween, .selects RX1 yX1_hangingBetween yX1_hangingBetween, .initialized RX1, .code yX1_hangingBetween cX1_hangingBetween 6 (some .int), .methodLink RX1 73 yX1_hangsFor, .instanceMethod yX1_hangsFor, .selects RX1 yX1_hangsFor yX1_hangsFor, .code yX1_hangsFor cX1_hangsFor 3 (some .boolean), .methodLink RX1 64 yX1_hangs, .instanceMethod yX1_hangs, .selects RX1 yX1_hangs yX1_hangs, .code yX1_hangs cX1_hangs 2 (some .boolean), .fieldLink RX1 34 "NailedOrders$Door" "fates" "[I"] ++ wsX10)
def wsX1_hangingFor : List Cond := .code yX1_hangingFor cX1_hangingFor 2 (some .int) :: ([.fieldLink RX1 51 "NailedOrders$Door" "orders" "I", .methodLink RX1 69 yX1_hangingBetween, .instanceMethod yX1_hangingBetween, .selects RX1 yX1_hangingBetween yX1_hangingBetween, .initialized RX1, .code yX1_hangingBetween cX1_hangingBetween 6 (some .int), .methodLink RX1 73 yX1_hangsFor, .instanceMethod yX1_hangsFor, .selects RX1 yX1_hangsFor yX1_hangsFor, .code yX1_hangsFor cX1_hangsFor 3 (some .boolean), .fieldLink RX1 18 "NailedOrders$Door" "words" "[I", .methodLink RX1 64 yX1_hangs, .instanceMethod yX1_hangs, .selects RX1 yX1_hangs yX1_hangs, .code yX1_hangs cX1_hangs 2 (some .boolean), .fieldLink RX1 34 "NailedOrders$Door" "fates" "[I"] ++ wsX10)
def wsX1_hangingAt : List Cond := .code yX1_hangingAt cX1_hangingAt 5 (some .int) :: ([.fieldLink RX1 51 "NailedOrders$Door" "orders" "I", .methodLink RX1 73 yX1_hangsFor, .instanceMethod yX1_hangsFor, .selects RX1 yX1_hangsFor yX1_hangsFor, .initialized RX1, .code yX1_hangsFor cX1_hangsFor 3 (some .boolean), .fieldLink RX1 18 "NailedOrders$Door" "words" "[I", .methodLink RX1 64 yX1_hangs, .instanceMethod yX1_hangs, .selects RX1 yX1_hangs yX1_hangs, .code yX1_hangs cX1_hangs 2 (some .boolean), .fieldLink RX1 34 "NailedOrders$Door" "fates" "[I"] ++ wsX10)
def wsX1_nailedBy : List Cond := .code yX1_nailedBy cX1_nailedBy 4 (some .int) :: ([.fieldLink RX1 51 "NailedOrders$Door" "orders" "I", .fieldLink RX1 15 "NailedOrders$Door" "owners" "[I"] ++ wsX10)
def wsX1_hangingBy : List Cond := .code yX1_hangingBy cX1_hangingBy 4 (some .int) :: ([.fieldLink RX1 51 "NailedOrders$Door" "orders" "I", .fieldLink RX1 15 "NailedOrders$Door" "owners" "[I", .methodLink RX1 64 yX1_hangs, .instanceMethod yX1_hangs, .selects RX1 yX1_hangs yX1_hangs, .initialized RX1, .code yX1_hangs cX1_hangs 2 (some .boolean), .fieldLink RX1 34 "NailedOrders$Door" "fates" "[I"] ++ wsX10)
def wsX1_wordsOf : List Cond := .code yX1_wordsOf cX1_wordsOf 4 (some .int) :: ([.fieldLink RX1 51 "NailedOrders$Door" "orders" "I", .fieldLink RX1 15 "NailedOrders$Door" "owners" "[I", .fieldLink RX1 18 "NailedOrders$Door" "words" "[I", .methodLink RX1 64 yX1_hangs, .instanceMethod yX1_hangs, .selects RX1 yX1_hangs yX1_hangs, .initialized RX1, .code yX1_hangs cX1_hangs 2 (some .boolean), .fieldLink RX1 34 "NailedOrders$Door" "fates" "[I"] ++ wsX10)
def wsX2_init : List Cond := .code yX2_init cX2_init 2 none :: ([.methodLink RX2 3 objectInit, .instanceMethod objectInit, .code objectInit ⟨#[0xb1]⟩ 1 none, .classLink RX2 9 RX1, .fieldLink RX2 11 "NailedOrders$History" "doors" "[LNailedOrders$Door;", .instantiable RX1 13, .initialized RX1, .instanceMethod yX1_init, .code yX1_init cX1_init 1 none, .methodLink RX1 3 objectInit, .arrayClass .int, .fieldLink RX1 9 "NailedOrders$Door" "ranks" "[I", .fieldLink RX1 15 "NailedOrders$Door" "owners" "[I", .fieldLink RX1 18 "NailedOrders$Door" "words" "[I", .fieldLink RX1 21 "NailedOrders$Door" "links" "[I", .arrayClass .float, .fieldLink RX1 24 "NailedOrders$Door" "factors" "[F", .fieldLink RX1 28 "NailedOrders$Door" "numbers" "[F", .fieldLink RX1 31 "NailedOrders$Door" "strengths" "[F", .fieldLink RX1 34 "NailedOrders$Door" "fates" "[I"] ++ wsX20 ++ wsX10)
def wsX2_dropOldest : List Cond := .code yX2_dropOldest cX2_dropOldest 3 none :: ([.fieldLink RX2 11 "NailedOrders$History" "doors" "[LNailedOrders$Door;", .fieldLink RX2 18 "NailedOrders$History" "states" "I"] ++ wsX20)
def wsX2_record_r1 : List Cond := [Cond.fieldLink RX2 18 "NailedOrders$History" "states" "I", Cond.fieldLink RX2 11 "NailedOrders$History" "doors" "[LNailedOrders$Door;", Cond.methodLink RX2 22 yX2_dropOldest, Cond.instanceMethod yX2_dropOldest, Cond.selects RX2 yX2_dropOldest yX2_dropOldest, Cond.initialized RX2, Cond.code yX2_dropOldest cX2_dropOldest 3 none, Cond.methodLink RX2 25 yX1_become, Cond.instanceMethod yX1_become, Cond.selects RX1 yX1_become yX1_become, Cond.initialized RX1, Cond.code yX1_become cX1_become 2 none, Cond.fieldLink RX1 37 "NailedOrders$Door" "persons" "I", Cond.fieldLink RX1 41 "NailedOrders$Door" "toleranceBits" "I", Cond.fieldLink RX1 44 "NailedOrders$Door" "tolerance" "F", Cond.fieldLink RX1 48 "NailedOrders$Door" "storms" "I", Cond.fieldLink RX1 51 "NailedOrders$Door" "orders" "I", Cond.fieldLink RX1 9 "NailedOrders$Door" "ranks" "[I", Cond.methodLink RX1 54 arraycopyName, Cond.native arraycopyName, Cond.static arraycopyName, Cond.initialized "java/lang/System", Cond.fieldLink RX1 15 "NailedOrders$Door" "owners" "[I", Cond.fieldLink RX1 18 "NailedOrders$Door" "words" "[I"]
def wsX2_record_r2 : List Cond := [Cond.fieldLink RX1 21 "NailedOrders$Door" "links" "[I", Cond.fieldLink RX1 24 "NailedOrders$Door" "factors" "[F", Cond.fieldLink RX1 28 "NailedOrders$Door" "numbers" "[F", Cond.fieldLink RX1 31 "NailedOrders$Door" "strengths" "[F", Cond.fieldLink RX1 34 "NailedOrders$Door" "fates" "[I"]
def wsX2_record : List Cond := .code yX2_record cX2_record 2 none :: ((wsX2_record_r1 ++ wsX2_record_r2) ++ wsX20 ++ wsX10)
def wsX3_init : List Cond := .code yX3_init cX3_init 2 none :: ([.methodLink RX3 3 objectInit, .instanceMethod objectInit, .code objectInit ⟨#[0xb1]⟩ 1 none, .arrayClass .int, .fieldLink RX3 11 "NailedOrders$Reader" "words" "[I", .fieldLink RX3 15 "NailedOrders$Reader" "others" "[I", .arrayClass .float, .fieldLink RX3 18 "NailedOrders$Reader" "factors" "[F", .fieldLink RX3 22 "NailedOrders$Reader" "numbers" "[F", .fieldLink RX3 25 "NailedOrders$Reader" "text" "LNailedOrders$Text;"] ++ wsX30)
def wsX4_init : List Cond := .code yX4_init cX4_init 2 none :: ([.methodLink RX4 3 objectInit, .instanceMethod objectInit, .code objectInit ⟨#[0xb1]⟩ 1 none, .arrayClass .int, .fieldLink RX4 9 "NailedOrders$Reckoning" "rulers" "[I", .arrayClass .boolean, .fieldLink RX4 15 "NailedOrders$Reckoning" "known" "[Z", .arrayClass .float, .fieldLink RX4 19 "NailedOrders$Reckoning" "values" "[F", .fieldLink RX4 23 "NailedOrders$Reckoning" "door" "LNailedOrders$Door;"] ++ wsX40)
def wsX4_findRulers : List Cond := .code yX4_findRulers cX4_findRulers 5 none :: ([.fieldLink RX4 23 "NailedOrders$Reckoning" "door" "LNailedOrders$Door;", .fieldLink RX4 34 "NailedOrders$Door" "orders" "I", .fieldLink RX4 44 "NailedOrders$Door" "words" "[I", .fieldLink RX4 9 "NailedOrders$Reckoning" "rulers" "[I", .methodLink RX4 40 yX1_hangs, .instanceMethod yX1_hangs, .selects RX1 yX1_hangs yX1_hangs, .initialized RX1, .code yX1_hangs cX1_hangs 2 (some .boolean), .fieldLink RX1 34 "NailedOrders$Door" "fates" "[I", .methodLink RX4 47 yX1_rankOf, .instanceMethod yX1_rankOf, .selects RX1 yX1_rankOf yX1_rankOf, .code yX1_rankOf cX1_rankOf 2 (some .int), .fieldLink RX1 9 "NailedOrders$Door" "ranks" "[I", .fieldLink RX1 15 "NailedOrders$Door" "owners" "[I"] ++ wsX40 ++ wsX10)
def wsX4_orderValue : List Cond := .code yX4_orderValue cX4_orderValue 3 (some .float) :: ([.fieldLink RX4 23 "NailedOrders$Reckoning" "door" "LNailedOrders$Door;", .fieldLink RX4 58 "NailedOrders$Door" "links" "[I", .fieldLink RX4 63 "NailedOrders$Door" "numbers" "[F", .fieldLink RX4 19 "NailedOrders$Reckoning" "values" "[F", .fieldLink RX4 66 "NailedOrders$Door" "factors" "[F"] ++ wsX40 ++ wsX10)
def wsX4_orderHasValue : List Cond := .code yX4_orderHasValue cX4_orderHasValue 4 (some .boolean) :: ([.fieldLink RX4 23 "NailedOrders$Reckoning" "door" "LNailedOrders$Door;", .fieldLink RX4 58 "NailedOrders$Door" "links" "[I", .fieldLink RX4 15 "NailedOrders$Reckoning" "known" "[Z", .constantFloat RX4 61 (3463342888), .constantFloat RX4 62 (1315859240), .methodLink RX4 54 yX4_orderValue, .instanceMethod yX4_orderValue, .selects RX4 yX4_orderValue yX4_orderValue, .initialized RX4, .code yX4_orderValue cX4_orderValue 3 (some .float), .fieldLink RX4 63 "NailedOrders$Door" "numbers" "[F", .fieldLink RX4 19 "NailedOrders$Reckoning" "values" "[F", .fieldLink RX4 66 "NailedOrders$Door" "factors" "[F"] ++ wsX40 ++ wsX10)
def wsX4_findValues : List Cond := .code yX4_findValues cX4_findValues 5 none :: ([.fieldLink RX4 9 "NailedOrders$Reckoning" "rulers" "[I", .fieldLink RX4 15 "NailedOrders$Reckoning" "known" "[Z", .fieldLink RX4 19 "NailedOrders$Reckoning" "values" "[F", .methodLink RX4 51 yX4_orderHasValue, .instanceMethod yX4_orderHasValue, .selects RX4 yX4_orderHasValue yX4_orderHasValue, .initialized RX4, .code yX4_orderHasValue cX4_orderHasValue 4 (some .boolean), .fieldLink RX4 23 "NailedOrders$Reckoning" "door" "LNailedOrders$Door;", .fieldLink RX4 58 "NailedOrders$Door" "links" "[I", .constantFloat RX4 61 (3463342888), .constantFloat RX4 62 (1315859240), .methodLink RX4 54 yX4_orderValue, .instanceMethod yX4_orderValue, .selects RX4 yX4_orderValue yX4_orderValue, .code yX4_orderValue cX4_orderValue 3 (some .float), .fieldLink RX4 63 "NailedOrders$Door" "numbers" "[F", .fieldLink RX4 66 "NailedOrders$Door" "factors" "[F"] ++ wsX40 ++ wsX10)
def wsX4_settle_r1 : List Cond := [Cond.fieldLink RX4 9 "NailedOrders$Reckoning" "rulers" "[I", Cond.fieldLink RX4 15 "NailedOrders$Reckoning" "known" "[Z", Cond.fieldLink RX4 19 "NailedOrders$Reckoning" "values" "[F", Cond.methodLink RX4 27 yX4_findRulers, Cond.instanceMethod yX4_findRulers, Cond.selects RX4 yX4_findRulers yX4_findRulers, Cond.initialized RX4, Cond.code yX4_findRulers cX4_findRulers 5 none, Cond.fieldLink RX4 23 "NailedOrders$Reckoning" "door" "LNailedOrders$Door;", Cond.fieldLink RX4 34 "NailedOrders$Door" "orders" "I", Cond.fieldLink RX4 44 "NailedOrders$Door" "words" "[I", Cond.methodLink RX4 40 yX1_hangs, Cond.instanceMethod yX1_hangs, Cond.selects RX1 yX1_hangs yX1_hangs, Cond.initialized RX1, Cond.code yX1_hangs cX1_hangs 2 (some .boolean), Cond.fieldLink RX1 34 "NailedOrders$Door" "fates" "[I", Cond.methodLink RX4 47 yX1_rankOf, Cond.instanceMethod yX1_rankOf, Cond.selects RX1 yX1_rankOf yX1_rankOf, Cond.code yX1_rankOf cX1_rankOf 2 (some .int), Cond.fieldLink RX1 9 "NailedOrders$Door" "ranks" "[I", Cond.fieldLink RX1 15 "NailedOrders$Door" "owners" "[I", Cond.methodLink RX4 31 yX4_findValues]
def wsX4_settle_r2 : List Cond := [Cond.instanceMethod yX4_findValues, Cond.selects RX4 yX4_findValues yX4_findValues, Cond.code yX4_findValues cX4_findValues 5 none, Cond.methodLink RX4 51 yX4_orderHasValue, Cond.instanceMethod yX4_orderHasValue, Cond.selects RX4 yX4_orderHasValue yX4_orderHasValue, Cond.code yX4_orderHasValue cX4_orderHasValue 4 (some .boolean), Cond.fieldLink RX4 58 "NailedOrders$Door" "links" "[I", Cond.constantFloat RX4 61 (3463342888), Cond.constantFloat RX4 62 (1315859240), Cond.methodLink RX4 54 yX4_orderValue, Cond.instanceMethod yX4_orderValue, Cond.selects RX4 yX4_orderValue yX4_orderValue, Cond.code yX4_orderValue cX4_orderValue 3 (some .float), Cond.fieldLink RX4 63 "NailedOrders$Door" "numbers" "[F", Cond.fieldLink RX4 66 "NailedOrders$Door" "factors" "[F"]
def wsX4_settle : List Cond := .code yX4_settle cX4_settle 3 none :: ((wsX4_settle_r1 ++ wsX4_settle_r2) ++ wsX40 ++ wsX10)
def wsX4_linkFrom : List Cond := .code yX4_linkFrom cX4_linkFrom 3 (some .int) :: ([.fieldLink RX4 9 "NailedOrders$Reckoning" "rulers" "[I", .fieldLink RX4 23 "NailedOrders$Reckoning" "door" "LNailedOrders$Door;", .fieldLink RX4 58 "NailedOrders$Door" "links" "[I"] ++ wsX40 ++ wsX10)
def wsX4_linksToEnd : List Cond := .code yX4_linksToEnd cX4_linksToEnd 4 (some .int) :: ([.methodLink RX4 69 yX4_linkFrom, .instanceMethod yX4_linkFrom, .selects RX4 yX4_linkFrom yX4_linkFrom, .initialized RX4, .code yX4_linkFrom cX4_linkFrom 3 (some .int), .fieldLink RX4 9 "NailedOrders$Reckoning" "rulers" "[I", .fieldLink RX4 23 "NailedOrders$Reckoning" "door" "LNailedOrders$Door;", .fieldLink RX4 58 "NailedOrders$Door" "links" "[I"] ++ wsX40 ++ wsX10)
def wsX4_comesTo : List Cond := .code yX4_comesTo cX4_comesTo 5 (some .boolean) :: ([.methodLink RX4 69 yX4_linkFrom, .instanceMethod yX4_linkFrom, .selects RX4 yX4_linkFrom yX4_linkFrom, .initialized RX4, .code yX4_linkFrom cX4_linkFrom 3 (some .int), .fieldLink RX4 9 "NailedOrders$Reckoning" "rulers" "[I", .fieldLink RX4 23 "NailedOrders$Reckoning" "door" "LNailedOrders$Door;", .fieldLink RX4 58 "NailedOrders$Door" "links" "[I"] ++ wsX40 ++ wsX10)
def wsX4_dependents : List Cond := .code yX4_dependents cX4_dependents 4 (some .int) :: ([.methodLink RX4 72 yX4_comesTo, .instanceMethod yX4_comesTo, .selects RX4 yX4_comesTo yX4_comesTo, .initialized RX4, .code yX4_comesTo cX4_comesTo 5 (some .boolean), .methodLink RX4 69 yX4_linkFrom, .instanceMethod yX4_linkFrom, .selects RX4 yX4_linkFrom yX4_linkFrom, .code yX4_linkFrom cX4_linkFrom 3 (some .int), .fieldLink RX4 9 "NailedOrders$Reckoning" "rulers" "[I", .fieldLink RX4 23 "NailedOrders$Reckoning" "door" "LNailedOrders$Door;", .fieldLink RX4 58 "NailedOrders$Door" "links" "[I"] ++ wsX40 ++ wsX10)
def wsX4_areFar : List Cond := .code yX4_areFar cX4_areFar 4 (some .boolean) :: ([.fieldLink RX4 23 "NailedOrders$Reckoning" "door" "LNailedOrders$Door;", .fieldLink RX4 89 "NailedOrders$Door" "tolerance" "F"] ++ wsX40 ++ wsX10)
def wsX4_areRivals_r1 : List Cond := [Cond.fieldLink RX4 23 "NailedOrders$Reckoning" "door" "LNailedOrders$Door;", Cond.fieldLink RX4 82 "NailedOrders$Door" "owners" "[I", Cond.methodLink RX4 47 yX1_rankOf, Cond.instanceMethod yX1_rankOf, Cond.selects RX1 yX1_rankOf yX1_rankOf, Cond.initialized RX1, Cond.code yX1_rankOf cX1_rankOf 2 (some .int), Cond.fieldLink RX1 9 "NailedOrders$Door" "ranks" "[I", Cond.fieldLink RX1 15 "NailedOrders$Door" "owners" "[I", Cond.methodLink RX4 51 yX4_orderHasValue, Cond.instanceMethod yX4_orderHasValue, Cond.selects RX4 yX4_orderHasValue yX4_orderHasValue, Cond.initialized RX4, Cond.code yX4_orderHasValue cX4_orderHasValue 4 (some .boolean), Cond.fieldLink RX4 58 "NailedOrders$Door" "links" "[I", Cond.fieldLink RX4 15 "NailedOrders$Reckoning" "known" "[Z", Cond.constantFloat RX4 61 (3463342888), Cond.constantFloat RX4 62 (1315859240), Cond.methodLink RX4 54 yX4_orderValue, Cond.instanceMethod yX4_orderValue, Cond.selects RX4 yX4_orderValue yX4_orderValue, Cond.code yX4_orderValue cX4_orderValue 3 (some .float), Cond.fieldLink RX4 63 "NailedOrders$Door" "numbers" "[F", Cond.fieldLink RX4 19 "NailedOrders$Reckoning" "values" "[F"]
def wsX4_areRivals_r2 : List Cond := [Cond.fieldLink RX4 66 "NailedOrders$Door" "factors" "[F", Cond.methodLink RX4 85 yX4_areFar, Cond.instanceMethod yX4_areFar, Cond.selects RX4 yX4_areFar yX4_areFar, Cond.code yX4_areFar cX4_areFar 4 (some .boolean), Cond.fieldLink RX4 89 "NailedOrders$Door" "tolerance" "F"]
def wsX4_areRivals : List Cond := .code yX4_areRivals cX4_areRivals 4 (some .boolean) :: ((wsX4_areRivals_r1 ++ wsX4_areRivals_r2) ++ wsX40 ++ wsX10)
def wsX4_topmostRival_r1 : List Cond := [Cond.fieldLink RX4 9 "NailedOrders$Reckoning" "rulers" "[I", Cond.fieldLink RX4 23 "NailedOrders$Reckoning" "door" "LNailedOrders$Door;", Cond.fieldLink RX4 34 "NailedOrders$Door" "orders" "I", Cond.methodLink RX4 76 yX1_hangsFor, Cond.instanceMethod yX1_hangsFor, Cond.selects RX1 yX1_hangsFor yX1_hangsFor, Cond.initialized RX1, Cond.code yX1_hangsFor cX1_hangsFor 3 (some .boolean), Cond.fieldLink RX1 18 "NailedOrders$Door" "words" "[I", Cond.methodLink RX1 64 yX1_hangs, Cond.instanceMethod yX1_hangs, Cond.selects RX1 yX1_hangs yX1_hangs, Cond.code yX1_hangs cX1_hangs 2 (some .boolean), Cond.fieldLink RX1 34 "NailedOrders$Door" "fates" "[I", Cond.methodLink RX4 79 yX4_areRivals, Cond.instanceMethod yX4_areRivals, Cond.selects RX4 yX4_areRivals yX4_areRivals, Cond.initialized RX4, Cond.code yX4_areRivals cX4_areRivals 4 (some .boolean), Cond.fieldLink RX4 82 "NailedOrders$Door" "owners" "[I", Cond.methodLink RX4 47 yX1_rankOf, Cond.instanceMethod yX1_rankOf, Cond.selects RX1 yX1_rankOf yX1_rankOf, Cond.code yX1_rankOf cX1_rankOf 2 (some .int)]
def wsX4_topmostRival_r2 : List Cond := [Cond.fieldLink RX1 9 "NailedOrders$Door" "ranks" "[I", Cond.fieldLink RX1 15 "NailedOrders$Door" "owners" "[I", Cond.methodLink RX4 51 yX4_orderHasValue, Cond.instanceMethod yX4_orderHasValue, Cond.selects RX4 yX4_orderHasValue yX4_orderHasValue, Cond.code yX4_orderHasValue cX4_orderHasValue 4 (some .boolean), Cond.fieldLink RX4 58 "NailedOrders$Door" "links" "[I", Cond.fieldLink RX4 15 "NailedOrders$Reckoning" "known" "[Z", Cond.constantFloat RX4 61 (3463342888), Cond.constantFloat RX4 62 (1315859240), Cond.methodLink RX4 54 yX4_orderValue, Cond.instanceMethod yX4_orderValue, Cond.selects RX4 yX4_orderValue yX4_orderValue, Cond.code yX4_orderValue cX4_orderValue 3 (some .float), Cond.fieldLink RX4 63 "NailedOrders$Door" "numbers" "[F", Cond.fieldLink RX4 19 "NailedOrders$Reckoning" "values" "[F", Cond.fieldLink RX4 66 "NailedOrders$Door" "factors" "[F", Cond.methodLink RX4 85 yX4_areFar, Cond.instanceMethod yX4_areFar, Cond.selects RX4 yX4_areFar yX4_areFar, Cond.code yX4_areFar cX4_areFar 4 (some .boolean), Cond.fieldLink RX4 89 "NailedOrders$Door" "tolerance" "F"]
def wsX4_topmostRival : List Cond := .code yX4_topmostRival cX4_topmostRival 4 (some .int) :: ((wsX4_topmostRival_r1 ++ wsX4_topmostRival_r2) ++ wsX40 ++ wsX10)
def wsX4_wordsWithValue : List Cond := .code yX4_wordsWithValue cX4_wordsWithValue 3 (some .int) :: ([.fieldLink RX4 15 "NailedOrders$Reckoning" "known" "[Z"] ++ wsX40)
def wsX4_wordsRuledWithoutValue : List Cond := .code yX4_wordsRuledWithoutValue cX4_wordsRuledWithoutValue 3 (some .int) :: ([.fieldLink RX4 9 "NailedOrders$Reckoning" "rulers" "[I", .fieldLink RX4 15 "NailedOrders$Reckoning" "known" "[Z"] ++ wsX40)
def wsX4_wordsInConflict_r1 : List Cond := [Cond.methodLink RX4 93 yX4_topmostRival, Cond.instanceMethod yX4_topmostRival, Cond.selects RX4 yX4_topmostRival yX4_topmostRival, Cond.initialized RX4, Cond.code yX4_topmostRival cX4_topmostRival 4 (some .int), Cond.fieldLink RX4 9 "NailedOrders$Reckoning" "rulers" "[I", Cond.fieldLink RX4 23 "NailedOrders$Reckoning" "door" "LNailedOrders$Door;", Cond.fieldLink RX4 34 "NailedOrders$Door" "orders" "I", Cond.methodLink RX4 76 yX1_hangsFor, Cond.instanceMethod yX1_hangsFor, Cond.selects RX1 yX1_hangsFor yX1_hangsFor, Cond.initialized RX1, Cond.code yX1_hangsFor cX1_hangsFor 3 (some .boolean), Cond.fieldLink RX1 18 "NailedOrders$Door" "words" "[I", Cond.methodLink RX1 64 yX1_hangs, Cond.instanceMethod yX1_hangs, Cond.selects RX1 yX1_hangs yX1_hangs, Cond.code yX1_hangs cX1_hangs 2 (some .boolean), Cond.fieldLink RX1 34 "NailedOrders$Door" "fates" "[I", Cond.methodLink RX4 79 yX4_areRivals, Cond.instanceMethod yX4_areRivals, Cond.selects RX4 yX4_areRivals yX4_areRivals, Cond.code yX4_areRivals cX4_areRivals 4 (some .boolean), Cond.fieldLink RX4 82 "NailedOrders$Door" "owners" "[I"]
def wsX4_wordsInConflict_r2 : List Cond := [Cond.methodLink RX4 47 yX1_rankOf, Cond.instanceMethod yX1_rankOf, Cond.selects RX1 yX1_rankOf yX1_rankOf, Cond.code yX1_rankOf cX1_rankOf 2 (some .int), Cond.fieldLink RX1 9 "NailedOrders$Door" "ranks" "[I", Cond.fieldLink RX1 15 "NailedOrders$Door" "owners" "[I", Cond.methodLink RX4 51 yX4_orderHasValue, Cond.instanceMethod yX4_orderHasValue, Cond.selects RX4 yX4_orderHasValue yX4_orderHasValue, Cond.code yX4_orderHasValue cX4_orderHasValue 4 (some .boolean), Cond.fieldLink RX4 58 "NailedOrders$Door" "links" "[I", Cond.fieldLink RX4 15 "NailedOrders$Reckoning" "known" "[Z", Cond.constantFloat RX4 61 (3463342888), Cond.constantFloat RX4 62 (1315859240), Cond.methodLink RX4 54 yX4_orderValue, Cond.instanceMethod yX4_orderValue, Cond.selects RX4 yX4_orderValue yX4_orderValue, Cond.code yX4_orderValue cX4_orderValue 3 (some .float), Cond.fieldLink RX4 63 "NailedOrders$Door" "numbers" "[F", Cond.fieldLink RX4 19 "NailedOrders$Reckoning" "values" "[F", Cond.fieldLink RX4 66 "NailedOrders$Door" "factors" "[F", Cond.methodLink RX4 85 yX4_areFar, Cond.instanceMethod yX4_areFar, Cond.selects RX4 yX4_areFar yX4_areFar]
def wsX4_wordsInConflict_r3 : List Cond := [Cond.code yX4_areFar cX4_areFar 4 (some .boolean), Cond.fieldLink RX4 89 "NailedOrders$Door" "tolerance" "F"]
def wsX4_wordsInConflict : List Cond := .code yX4_wordsInConflict cX4_wordsInConflict 3 (some .int) :: ((wsX4_wordsInConflict_r1 ++ (wsX4_wordsInConflict_r2 ++ wsX4_wordsInConflict_r3)) ++ wsX40 ++ wsX10)
def wsX4_wordsInRings : List Cond := .code yX4_wordsInRings cX4_wordsInRings 3 (some .int) :: ([.methodLink RX4 72 yX4_comesTo, .instanceMethod yX4_comesTo, .selects RX4 yX4_comesTo yX4_comesTo, .initialized RX4, .code yX4_comesTo cX4_comesTo 5 (some .boolean), .methodLink RX4 69 yX4_linkFrom, .instanceMethod yX4_linkFrom, .selects RX4 yX4_linkFrom yX4_linkFrom, .code yX4_linkFrom cX4_linkFrom 3 (some .int), .fieldLink RX4 9 "NailedOrders$Reckoning" "rulers" "[I", .fieldLink RX4 23 "NailedOrders$Reckoning" "door" "LNailedOrders$Door;", .fieldLink RX4 58 "NailedOrders$Door" "links" "[I"] ++ wsX40 ++ wsX10)
def wsX5_init : List Cond := .code yX5_init cX5_init 1 none :: ([.methodLink RX5 3 objectInit, .instanceMethod objectInit, .code objectInit ⟨#[0xb1]⟩ 1 none, .arrayClass .char, .fieldLink RX5 9 "NailedOrders$Text" "signs" "[C"] ++ wsX50)
def wsX6_init : List Cond := .code yX6_init cX6_init 1 none :: ([.methodLink RX6 3 objectInit, .instanceMethod objectInit, .code objectInit ⟨#[0xb1]⟩ 1 none, .classLink RX6 9 RX1, .instantiable RX1 13, .initialized RX1, .fieldLink RX6 12 "NailedOrders$Weather" "trial" "LNailedOrders$Door;", .arrayClass .int, .fieldLink RX6 18 "NailedOrders$Weather" "over" "[I", .instanceMethod yX1_init, .code yX1_init cX1_init 1 none, .methodLink RX1 3 objectInit, .fieldLink RX1 9 "NailedOrders$Door" "ranks" "[I", .fieldLink RX1 15 "NailedOrders$Door" "owners" "[I", .fieldLink RX1 18 "NailedOrders$Door" "words" "[I", .fieldLink RX1 21 "NailedOrders$Door" "links" "[I", .arrayClass .float, .fieldLink RX1 24 "NailedOrders$Door" "factors" "[F", .fieldLink RX1 28 "NailedOrders$Door" "numbers" "[F", .fieldLink RX1 31 "NailedOrders$Door" "strengths" "[F", .fieldLink RX1 34 "NailedOrders$Door" "fates" "[I"] ++ wsX10 ++ wsX60)
def wsX6_blow : List Cond := .code yX6_blow cX6_blow 6 (some .int) :: ([.fieldLink RX6 18 "NailedOrders$Weather" "over" "[I", .fieldLink RX6 22 "NailedOrders$Door" "orders" "I", .fieldLink RX6 30 "NailedOrders$Door" "words" "[I", .fieldLink RX6 33 "NailedOrders$Door" "strengths" "[F", .fieldLink RX6 37 "NailedOrders$Door" "fates" "[I", .fieldLink RX6 40 "NailedOrders$Door" "storms" "I", .methodLink RX6 26 yX1_hangs, .instanceMethod yX1_hangs, .selects RX1 yX1_hangs yX1_hangs, .initialized RX1, .code yX1_hangs cX1_hangs 2 (some .boolean), .fieldLink RX1 34 "NailedOrders$Door" "fates" "[I"] ++ wsX60 ++ wsX10)
def wsX7_init_r1 : List Cond := [Cond.methodLink RX7 1 objectInit, Cond.instanceMethod objectInit, Cond.code objectInit ⟨#[0xb1]⟩ 1 none, Cond.classLink RX7 7 RX1, Cond.instantiable RX1 13, Cond.initialized RX1, Cond.fieldLink RX7 10 "NailedOrders" "door" "LNailedOrders$Door;", Cond.fieldLink RX7 16 "NailedOrders" "kept" "LNailedOrders$Door;", Cond.fieldLink RX7 19 "NailedOrders" "hasKept" "Z", Cond.classLink RX7 23 RX2, Cond.instantiable RX2 2, Cond.initialized RX2, Cond.fieldLink RX7 26 "NailedOrders" "history" "LNailedOrders$History;", Cond.classLink RX7 30 RX5, Cond.instantiable RX5 2, Cond.initialized RX5, Cond.fieldLink RX7 33 "NailedOrders" "text" "LNailedOrders$Text;", Cond.classLink RX7 37 RX3, Cond.instantiable RX3 8, Cond.initialized RX3, Cond.fieldLink RX7 42 "NailedOrders" "reader" "LNailedOrders$Reader;", Cond.classLink RX7 46 RX6, Cond.instantiable RX6 2, Cond.initialized RX6]
def wsX7_init_r2 : List Cond := [Cond.fieldLink RX7 49 "NailedOrders" "weather" "LNailedOrders$Weather;", Cond.classLink RX7 53 RX4, Cond.instantiable RX4 4, Cond.initialized RX4, Cond.fieldLink RX7 58 "NailedOrders" "now" "LNailedOrders$Reckoning;", Cond.fieldLink RX7 62 "NailedOrders" "without" "LNailedOrders$Reckoning;", Cond.instanceMethod yX1_init, Cond.code yX1_init cX1_init 1 none, Cond.methodLink RX1 3 objectInit, Cond.arrayClass .int, Cond.fieldLink RX1 9 "NailedOrders$Door" "ranks" "[I", Cond.fieldLink RX1 15 "NailedOrders$Door" "owners" "[I", Cond.fieldLink RX1 18 "NailedOrders$Door" "words" "[I", Cond.fieldLink RX1 21 "NailedOrders$Door" "links" "[I", Cond.arrayClass .float, Cond.fieldLink RX1 24 "NailedOrders$Door" "factors" "[F", Cond.fieldLink RX1 28 "NailedOrders$Door" "numbers" "[F", Cond.fieldLink RX1 31 "NailedOrders$Door" "strengths" "[F", Cond.fieldLink RX1 34 "NailedOrders$Door" "fates" "[I", Cond.methodLink RX7 25 yX2_init, Cond.instanceMethod yX2_init, Cond.code yX2_init cX2_init 2 none, Cond.methodLink RX2 3 objectInit, Cond.classLink RX2 9 RX1]
def wsX7_init_r3 : List Cond := [Cond.fieldLink RX2 11 "NailedOrders$History" "doors" "[LNailedOrders$Door;", Cond.instanceMethod yX5_init, Cond.code yX5_init cX5_init 1 none, Cond.methodLink RX5 3 objectInit, Cond.arrayClass .char, Cond.fieldLink RX5 9 "NailedOrders$Text" "signs" "[C", Cond.methodLink RX7 39 yX3_init, Cond.instanceMethod yX3_init, Cond.code yX3_init cX3_init 2 none, Cond.methodLink RX3 3 objectInit, Cond.fieldLink RX3 11 "NailedOrders$Reader" "words" "[I", Cond.fieldLink RX3 15 "NailedOrders$Reader" "others" "[I", Cond.fieldLink RX3 18 "NailedOrders$Reader" "factors" "[F", Cond.fieldLink RX3 22 "NailedOrders$Reader" "numbers" "[F", Cond.fieldLink RX3 25 "NailedOrders$Reader" "text" "LNailedOrders$Text;", Cond.instanceMethod yX6_init, Cond.code yX6_init cX6_init 1 none, Cond.methodLink RX6 3 objectInit, Cond.classLink RX6 9 RX1, Cond.fieldLink RX6 12 "NailedOrders$Weather" "trial" "LNailedOrders$Door;", Cond.fieldLink RX6 18 "NailedOrders$Weather" "over" "[I", Cond.methodLink RX7 55 yX4_init, Cond.instanceMethod yX4_init, Cond.code yX4_init cX4_init 2 none]
def wsX7_init_r4 : List Cond := [Cond.methodLink RX4 3 objectInit, Cond.fieldLink RX4 9 "NailedOrders$Reckoning" "rulers" "[I", Cond.arrayClass .boolean, Cond.fieldLink RX4 15 "NailedOrders$Reckoning" "known" "[Z", Cond.fieldLink RX4 19 "NailedOrders$Reckoning" "values" "[F", Cond.fieldLink RX4 23 "NailedOrders$Reckoning" "door" "LNailedOrders$Door;"]
def wsX7_init : List Cond := .code yX7_init cX7_init 1 none :: ((wsX7_init_r1 ++ (wsX7_init_r2 ++ (wsX7_init_r3 ++ wsX7_init_r4))) ++ wsX10 ++ wsX70 ++ wsX20 ++ wsX50 ++ wsX30 ++ wsX60 ++ wsX40)
def wsX7_isRank : List Cond := .code yX7_isRank cX7_isRank 1 (some .boolean) :: ([])
def wsX7_addPerson_r1 : List Cond := [Cond.fieldLink RX7 10 "NailedOrders" "door" "LNailedOrders$Door;", Cond.fieldLink RX7 69 "NailedOrders$Door" "persons" "I", Cond.fieldLink RX7 26 "NailedOrders" "history" "LNailedOrders$History;", Cond.methodLink RX7 65 yX7_isRank, Cond.static yX7_isRank, Cond.initialized RX7, Cond.code yX7_isRank cX7_isRank 1 (some .boolean), Cond.methodLink RX7 73 yX2_record, Cond.instanceMethod yX2_record, Cond.selects RX2 yX2_record yX2_record, Cond.initialized RX2, Cond.code yX2_record cX2_record 2 none, Cond.fieldLink RX2 18 "NailedOrders$History" "states" "I", Cond.fieldLink RX2 11 "NailedOrders$History" "doors" "[LNailedOrders$Door;", Cond.methodLink RX2 22 yX2_dropOldest, Cond.instanceMethod yX2_dropOldest, Cond.selects RX2 yX2_dropOldest yX2_dropOldest, Cond.code yX2_dropOldest cX2_dropOldest 3 none, Cond.methodLink RX2 25 yX1_become, Cond.instanceMethod yX1_become, Cond.selects RX1 yX1_become yX1_become, Cond.initialized RX1, Cond.code yX1_become cX1_become 2 none, Cond.fieldLink RX1 37 "NailedOrders$Door" "persons" "I"]
def wsX7_addPerson_r2 : List Cond := [Cond.fieldLink RX1 41 "NailedOrders$Door" "toleranceBits" "I", Cond.fieldLink RX1 44 "NailedOrders$Door" "tolerance" "F", Cond.fieldLink RX1 48 "NailedOrders$Door" "storms" "I", Cond.fieldLink RX1 51 "NailedOrders$Door" "orders" "I", Cond.fieldLink RX1 9 "NailedOrders$Door" "ranks" "[I", Cond.methodLink RX1 54 arraycopyName, Cond.native arraycopyName, Cond.static arraycopyName, Cond.initialized "java/lang/System", Cond.fieldLink RX1 15 "NailedOrders$Door" "owners" "[I", Cond.fieldLink RX1 18 "NailedOrders$Door" "words" "[I", Cond.fieldLink RX1 21 "NailedOrders$Door" "links" "[I", Cond.fieldLink RX1 24 "NailedOrders$Door" "factors" "[F", Cond.fieldLink RX1 28 "NailedOrders$Door" "numbers" "[F", Cond.fieldLink RX1 31 "NailedOrders$Door" "strengths" "[F", Cond.fieldLink RX1 34 "NailedOrders$Door" "fates" "[I", Cond.methodLink RX7 76 yX1_admit, Cond.instanceMethod yX1_admit, Cond.selects RX1 yX1_admit yX1_admit, Cond.code yX1_admit cX1_admit 3 (some .int)]
def wsX7_addPerson : List Cond := .code yX7_addPerson cX7_addPerson 2 (some .int) :: ((wsX7_addPerson_r1 ++ wsX7_addPerson_r2) ++ wsX70 ++ wsX10 ++ wsX20)
def wsX7_setRank_r1 : List Cond := [Cond.fieldLink RX7 10 "NailedOrders" "door" "LNailedOrders$Door;", Cond.fieldLink RX7 83 "NailedOrders$Door" "ranks" "[I", Cond.fieldLink RX7 26 "NailedOrders" "history" "LNailedOrders$History;", Cond.methodLink RX7 80 yX1_isPerson, Cond.instanceMethod yX1_isPerson, Cond.selects RX1 yX1_isPerson yX1_isPerson, Cond.initialized RX1, Cond.code yX1_isPerson cX1_isPerson 2 (some .boolean), Cond.fieldLink RX1 37 "NailedOrders$Door" "persons" "I", Cond.methodLink RX7 65 yX7_isRank, Cond.static yX7_isRank, Cond.initialized RX7, Cond.code yX7_isRank cX7_isRank 1 (some .boolean), Cond.methodLink RX7 73 yX2_record, Cond.instanceMethod yX2_record, Cond.selects RX2 yX2_record yX2_record, Cond.initialized RX2, Cond.code yX2_record cX2_record 2 none, Cond.fieldLink RX2 18 "NailedOrders$History" "states" "I", Cond.fieldLink RX2 11 "NailedOrders$History" "doors" "[LNailedOrders$Door;", Cond.methodLink RX2 22 yX2_dropOldest, Cond.instanceMethod yX2_dropOldest, Cond.selects RX2 yX2_dropOldest yX2_dropOldest, Cond.code yX2_dropOldest cX2_dropOldest 3 none]
def wsX7_setRank_r2 : List Cond := [Cond.methodLink RX2 25 yX1_become, Cond.instanceMethod yX1_become, Cond.selects RX1 yX1_become yX1_become, Cond.code yX1_become cX1_become 2 none, Cond.fieldLink RX1 41 "NailedOrders$Door" "toleranceBits" "I", Cond.fieldLink RX1 44 "NailedOrders$Door" "tolerance" "F", Cond.fieldLink RX1 48 "NailedOrders$Door" "storms" "I", Cond.fieldLink RX1 51 "NailedOrders$Door" "orders" "I", Cond.fieldLink RX1 9 "NailedOrders$Door" "ranks" "[I", Cond.methodLink RX1 54 arraycopyName, Cond.native arraycopyName, Cond.static arraycopyName, Cond.initialized "java/lang/System", Cond.fieldLink RX1 15 "NailedOrders$Door" "owners" "[I", Cond.fieldLink RX1 18 "NailedOrders$Door" "words" "[I", Cond.fieldLink RX1 21 "NailedOrders$Door" "links" "[I", Cond.fieldLink RX1 24 "NailedOrders$Door" "factors" "[F", Cond.fieldLink RX1 28 "NailedOrders$Door" "numbers" "[F", Cond.fieldLink RX1 31 "NailedOrders$Door" "strengths" "[F", Cond.fieldLink RX1 34 "NailedOrders$Door" "fates" "[I"]
def wsX7_setRank : List Cond := .code yX7_setRank cX7_setRank 4 (some .int) :: ((wsX7_setRank_r1 ++ wsX7_setRank_r2) ++ wsX70 ++ wsX10 ++ wsX20)
def wsX7_setTolerance_r1 : List Cond := [Cond.fieldLink RX7 10 "NailedOrders" "door" "LNailedOrders$Door;", Cond.fieldLink RX7 92 "NailedOrders$Door" "toleranceBits" "I", Cond.fieldLink RX7 26 "NailedOrders" "history" "LNailedOrders$History;", Cond.fieldLink RX7 99 "NailedOrders$Door" "tolerance" "F", Cond.methodLink RX7 87 yX0_areTolerance, Cond.static yX0_areTolerance, Cond.initialized RX0, Cond.code yX0_areTolerance cX0_areTolerance 1 (some .boolean), Cond.constantFloat RX0 17 (1120403456), Cond.methodLink RX0 9 yX0_areFrom, Cond.static yX0_areFrom, Cond.code yX0_areFrom cX0_areFrom 4 (some .boolean), Cond.methodLink RX0 18 yX0_exponent, Cond.static yX0_exponent, Cond.code yX0_exponent cX0_exponent 1 (some .int), Cond.methodLink RX0 22 yX0_toFloat, Cond.static yX0_toFloat, Cond.code yX0_toFloat cX0_toFloat 5 (some .float), Cond.constant RX0 26 (8388607), Cond.constant RX0 27 (8388608), Cond.constantFloat RX0 28 (1056964608), Cond.methodLink RX7 73 yX2_record, Cond.instanceMethod yX2_record, Cond.selects RX2 yX2_record yX2_record]
def wsX7_setTolerance_r2 : List Cond := [Cond.initialized RX2, Cond.code yX2_record cX2_record 2 none, Cond.fieldLink RX2 18 "NailedOrders$History" "states" "I", Cond.fieldLink RX2 11 "NailedOrders$History" "doors" "[LNailedOrders$Door;", Cond.methodLink RX2 22 yX2_dropOldest, Cond.instanceMethod yX2_dropOldest, Cond.selects RX2 yX2_dropOldest yX2_dropOldest, Cond.code yX2_dropOldest cX2_dropOldest 3 none, Cond.methodLink RX2 25 yX1_become, Cond.instanceMethod yX1_become, Cond.selects RX1 yX1_become yX1_become, Cond.initialized RX1, Cond.code yX1_become cX1_become 2 none, Cond.fieldLink RX1 37 "NailedOrders$Door" "persons" "I", Cond.fieldLink RX1 41 "NailedOrders$Door" "toleranceBits" "I", Cond.fieldLink RX1 44 "NailedOrders$Door" "tolerance" "F", Cond.fieldLink RX1 48 "NailedOrders$Door" "storms" "I", Cond.fieldLink RX1 51 "NailedOrders$Door" "orders" "I", Cond.fieldLink RX1 9 "NailedOrders$Door" "ranks" "[I", Cond.methodLink RX1 54 arraycopyName, Cond.native arraycopyName, Cond.static arraycopyName, Cond.initialized "java/lang/System", Cond.fieldLink RX1 15 "NailedOrders$Door" "owners" "[I"]
def wsX7_setTolerance_r3 : List Cond := [Cond.fieldLink RX1 18 "NailedOrders$Door" "words" "[I", Cond.fieldLink RX1 21 "NailedOrders$Door" "links" "[I", Cond.fieldLink RX1 24 "NailedOrders$Door" "factors" "[F", Cond.fieldLink RX1 28 "NailedOrders$Door" "numbers" "[F", Cond.fieldLink RX1 31 "NailedOrders$Door" "strengths" "[F", Cond.fieldLink RX1 34 "NailedOrders$Door" "fates" "[I", Cond.methodLink RX7 95 yX0_toFloat]
def wsX7_setTolerance : List Cond := .code yX7_setTolerance cX7_setTolerance 2 (some .int) :: ((wsX7_setTolerance_r1 ++ (wsX7_setTolerance_r2 ++ wsX7_setTolerance_r3)) ++ wsX70 ++ wsX10 ++ wsX20)
def wsX7_isWord : List Cond := .code yX7_isWord cX7_isWord 1 (some .boolean) :: ([])
def wsX7_nail_r1 : List Cond := [Cond.fieldLink RX7 10 "NailedOrders" "door" "LNailedOrders$Door;", Cond.fieldLink RX7 26 "NailedOrders" "history" "LNailedOrders$History;", Cond.methodLink RX7 80 yX1_isPerson, Cond.instanceMethod yX1_isPerson, Cond.selects RX1 yX1_isPerson yX1_isPerson, Cond.initialized RX1, Cond.code yX1_isPerson cX1_isPerson 2 (some .boolean), Cond.fieldLink RX1 37 "NailedOrders$Door" "persons" "I", Cond.methodLink RX7 103 yX7_isWord, Cond.static yX7_isWord, Cond.initialized RX7, Cond.code yX7_isWord cX7_isWord 1 (some .boolean), Cond.methodLink RX7 106 yX0_areNumber, Cond.static yX0_areNumber, Cond.initialized RX0, Cond.code yX0_areNumber cX0_areNumber 1 (some .boolean), Cond.constantFloat RX0 7 (3296329728), Cond.constantFloat RX0 8 (1148846080), Cond.methodLink RX0 9 yX0_areFrom, Cond.static yX0_areFrom, Cond.code yX0_areFrom cX0_areFrom 4 (some .boolean), Cond.methodLink RX0 18 yX0_exponent, Cond.static yX0_exponent, Cond.code yX0_exponent cX0_exponent 1 (some .int)]
def wsX7_nail_r2 : List Cond := [Cond.methodLink RX0 22 yX0_toFloat, Cond.static yX0_toFloat, Cond.code yX0_toFloat cX0_toFloat 5 (some .float), Cond.constant RX0 26 (8388607), Cond.constant RX0 27 (8388608), Cond.constantFloat RX0 28 (1056964608), Cond.methodLink RX7 109 yX0_areStrength, Cond.static yX0_areStrength, Cond.code yX0_areStrength cX0_areStrength 1 (some .boolean), Cond.constantFloat RX0 15 (1036831949), Cond.constantFloat RX0 16 (1092616192), Cond.methodLink RX7 112 yX1_hasRoomAfter, Cond.instanceMethod yX1_hasRoomAfter, Cond.selects RX1 yX1_hasRoomAfter yX1_hasRoomAfter, Cond.code yX1_hasRoomAfter cX1_hasRoomAfter 2 (some .boolean), Cond.fieldLink RX1 51 "NailedOrders$Door" "orders" "I", Cond.methodLink RX1 60 yX1_hanging, Cond.instanceMethod yX1_hanging, Cond.selects RX1 yX1_hanging yX1_hanging, Cond.code yX1_hanging cX1_hanging 1 (some .int), Cond.methodLink RX1 77 yX1_withFate, Cond.instanceMethod yX1_withFate, Cond.selects RX1 yX1_withFate yX1_withFate, Cond.code yX1_withFate cX1_withFate 4 (some .int)]
def wsX7_nail_r3 : List Cond := [Cond.fieldLink RX1 34 "NailedOrders$Door" "fates" "[I", Cond.methodLink RX7 73 yX2_record, Cond.instanceMethod yX2_record, Cond.selects RX2 yX2_record yX2_record, Cond.initialized RX2, Cond.code yX2_record cX2_record 2 none, Cond.fieldLink RX2 18 "NailedOrders$History" "states" "I", Cond.fieldLink RX2 11 "NailedOrders$History" "doors" "[LNailedOrders$Door;", Cond.methodLink RX2 22 yX2_dropOldest, Cond.instanceMethod yX2_dropOldest, Cond.selects RX2 yX2_dropOldest yX2_dropOldest, Cond.code yX2_dropOldest cX2_dropOldest 3 none, Cond.methodLink RX2 25 yX1_become, Cond.instanceMethod yX1_become, Cond.selects RX1 yX1_become yX1_become, Cond.code yX1_become cX1_become 2 none, Cond.fieldLink RX1 41 "NailedOrders$Door" "toleranceBits" "I", Cond.fieldLink RX1 44 "NailedOrders$Door" "tolerance" "F", Cond.fieldLink RX1 48 "NailedOrders$Door" "storms" "I", Cond.fieldLink RX1 9 "NailedOrders$Door" "ranks" "[I", Cond.methodLink RX1 54 arraycopyName, Cond.native arraycopyName, Cond.static arraycopyName, Cond.initialized "java/lang/System"]
def wsX7_nail_r4 : List Cond := [Cond.fieldLink RX1 15 "NailedOrders$Door" "owners" "[I", Cond.fieldLink RX1 18 "NailedOrders$Door" "words" "[I", Cond.fieldLink RX1 21 "NailedOrders$Door" "links" "[I", Cond.fieldLink RX1 24 "NailedOrders$Door" "factors" "[F", Cond.fieldLink RX1 28 "NailedOrders$Door" "numbers" "[F", Cond.fieldLink RX1 31 "NailedOrders$Door" "strengths" "[F", Cond.methodLink RX7 95 yX0_toFloat, Cond.methodLink RX7 115 yX1_hang, Cond.instanceMethod yX1_hang, Cond.selects RX1 yX1_hang yX1_hang, Cond.code yX1_hang cX1_hang 8 (some .int)]
def wsX7_nail : List Cond := .code yX7_nail cX7_nail 5 (some .int) :: ((wsX7_nail_r1 ++ (wsX7_nail_r2 ++ (wsX7_nail_r3 ++ wsX7_nail_r4))) ++ wsX70 ++ wsX10 ++ wsX20)
def wsX7_nailLink_r1 : List Cond := [Cond.fieldLink RX7 10 "NailedOrders" "door" "LNailedOrders$Door;", Cond.fieldLink RX7 26 "NailedOrders" "history" "LNailedOrders$History;", Cond.methodLink RX7 80 yX1_isPerson, Cond.instanceMethod yX1_isPerson, Cond.selects RX1 yX1_isPerson yX1_isPerson, Cond.initialized RX1, Cond.code yX1_isPerson cX1_isPerson 2 (some .boolean), Cond.fieldLink RX1 37 "NailedOrders$Door" "persons" "I", Cond.methodLink RX7 103 yX7_isWord, Cond.static yX7_isWord, Cond.initialized RX7, Cond.code yX7_isWord cX7_isWord 1 (some .boolean), Cond.methodLink RX7 106 yX0_areNumber, Cond.static yX0_areNumber, Cond.initialized RX0, Cond.code yX0_areNumber cX0_areNumber 1 (some .boolean), Cond.constantFloat RX0 7 (3296329728), Cond.constantFloat RX0 8 (1148846080), Cond.methodLink RX0 9 yX0_areFrom, Cond.static yX0_areFrom, Cond.code yX0_areFrom cX0_areFrom 4 (some .boolean), Cond.methodLink RX0 18 yX0_exponent, Cond.static yX0_exponent, Cond.code yX0_exponent cX0_exponent 1 (some .int)]
def wsX7_nailLink_r2 : List Cond := [Cond.methodLink RX0 22 yX0_toFloat, Cond.static yX0_toFloat, Cond.code yX0_toFloat cX0_toFloat 5 (some .float), Cond.constant RX0 26 (8388607), Cond.constant RX0 27 (8388608), Cond.constantFloat RX0 28 (1056964608), Cond.methodLink RX7 109 yX0_areStrength, Cond.static yX0_areStrength, Cond.code yX0_areStrength cX0_areStrength 1 (some .boolean), Cond.constantFloat RX0 15 (1036831949), Cond.constantFloat RX0 16 (1092616192), Cond.methodLink RX7 112 yX1_hasRoomAfter, Cond.instanceMethod yX1_hasRoomAfter, Cond.selects RX1 yX1_hasRoomAfter yX1_hasRoomAfter, Cond.code yX1_hasRoomAfter cX1_hasRoomAfter 2 (some .boolean), Cond.fieldLink RX1 51 "NailedOrders$Door" "orders" "I", Cond.methodLink RX1 60 yX1_hanging, Cond.instanceMethod yX1_hanging, Cond.selects RX1 yX1_hanging yX1_hanging, Cond.code yX1_hanging cX1_hanging 1 (some .int), Cond.methodLink RX1 77 yX1_withFate, Cond.instanceMethod yX1_withFate, Cond.selects RX1 yX1_withFate yX1_withFate, Cond.code yX1_withFate cX1_withFate 4 (some .int)]
def wsX7_nailLink_r3 : List Cond := [Cond.fieldLink RX1 34 "NailedOrders$Door" "fates" "[I", Cond.methodLink RX7 73 yX2_record, Cond.instanceMethod yX2_record, Cond.selects RX2 yX2_record yX2_record, Cond.initialized RX2, Cond.code yX2_record cX2_record 2 none, Cond.fieldLink RX2 18 "NailedOrders$History" "states" "I", Cond.fieldLink RX2 11 "NailedOrders$History" "doors" "[LNailedOrders$Door;", Cond.methodLink RX2 22 yX2_dropOldest, Cond.instanceMethod yX2_dropOldest, Cond.selects RX2 yX2_dropOldest yX2_dropOldest, Cond.code yX2_dropOldest cX2_dropOldest 3 none, Cond.methodLink RX2 25 yX1_become, Cond.instanceMethod yX1_become, Cond.selects RX1 yX1_become yX1_become, Cond.code yX1_become cX1_become 2 none, Cond.fieldLink RX1 41 "NailedOrders$Door" "toleranceBits" "I", Cond.fieldLink RX1 44 "NailedOrders$Door" "tolerance" "F", Cond.fieldLink RX1 48 "NailedOrders$Door" "storms" "I", Cond.fieldLink RX1 9 "NailedOrders$Door" "ranks" "[I", Cond.methodLink RX1 54 arraycopyName, Cond.native arraycopyName, Cond.static arraycopyName, Cond.initialized "java/lang/System"]
def wsX7_nailLink_r4 : List Cond := [Cond.fieldLink RX1 15 "NailedOrders$Door" "owners" "[I", Cond.fieldLink RX1 18 "NailedOrders$Door" "words" "[I", Cond.fieldLink RX1 21 "NailedOrders$Door" "links" "[I", Cond.fieldLink RX1 24 "NailedOrders$Door" "factors" "[F", Cond.fieldLink RX1 28 "NailedOrders$Door" "numbers" "[F", Cond.fieldLink RX1 31 "NailedOrders$Door" "strengths" "[F", Cond.methodLink RX7 95 yX0_toFloat, Cond.methodLink RX7 115 yX1_hang, Cond.instanceMethod yX1_hang, Cond.selects RX1 yX1_hang yX1_hang, Cond.code yX1_hang cX1_hang 8 (some .int)]
def wsX7_nailLink : List Cond := .code yX7_nailLink cX7_nailLink 7 (some .int) :: ((wsX7_nailLink_r1 ++ (wsX7_nailLink_r2 ++ (wsX7_nailLink_r3 ++ wsX7_nailLink_r4))) ++ wsX70 ++ wsX10 ++ wsX20)
def wsX7_tear_r1 : List Cond := [Cond.fieldLink RX7 10 "NailedOrders" "door" "LNailedOrders$Door;", Cond.fieldLink RX7 26 "NailedOrders" "history" "LNailedOrders$History;", Cond.fieldLink RX7 125 "NailedOrders$Door" "fates" "[I", Cond.fieldLink RX7 128 "NailedOrders$Door" "words" "[I", Cond.methodLink RX7 119 yX1_isOrder, Cond.instanceMethod yX1_isOrder, Cond.selects RX1 yX1_isOrder yX1_isOrder, Cond.initialized RX1, Cond.code yX1_isOrder cX1_isOrder 2 (some .boolean), Cond.fieldLink RX1 51 "NailedOrders$Door" "orders" "I", Cond.methodLink RX7 122 yX1_hangs, Cond.instanceMethod yX1_hangs, Cond.selects RX1 yX1_hangs yX1_hangs, Cond.code yX1_hangs cX1_hangs 2 (some .boolean), Cond.fieldLink RX1 34 "NailedOrders$Door" "fates" "[I", Cond.methodLink RX7 73 yX2_record, Cond.instanceMethod yX2_record, Cond.selects RX2 yX2_record yX2_record, Cond.initialized RX2, Cond.code yX2_record cX2_record 2 none, Cond.fieldLink RX2 18 "NailedOrders$History" "states" "I", Cond.fieldLink RX2 11 "NailedOrders$History" "doors" "[LNailedOrders$Door;", Cond.methodLink RX2 22 yX2_dropOldest, Cond.instanceMethod yX2_dropOldest]
def wsX7_tear_r2 : List Cond := [Cond.selects RX2 yX2_dropOldest yX2_dropOldest, Cond.code yX2_dropOldest cX2_dropOldest 3 none, Cond.methodLink RX2 25 yX1_become, Cond.instanceMethod yX1_become, Cond.selects RX1 yX1_become yX1_become, Cond.code yX1_become cX1_become 2 none, Cond.fieldLink RX1 37 "NailedOrders$Door" "persons" "I", Cond.fieldLink RX1 41 "NailedOrders$Door" "toleranceBits" "I", Cond.fieldLink RX1 44 "NailedOrders$Door" "tolerance" "F", Cond.fieldLink RX1 48 "NailedOrders$Door" "storms" "I", Cond.fieldLink RX1 9 "NailedOrders$Door" "ranks" "[I", Cond.methodLink RX1 54 arraycopyName, Cond.native arraycopyName, Cond.static arraycopyName, Cond.initialized "java/lang/System", Cond.fieldLink RX1 15 "NailedOrders$Door" "owners" "[I", Cond.fieldLink RX1 18 "NailedOrders$Door" "words" "[I", Cond.fieldLink RX1 21 "NailedOrders$Door" "links" "[I", Cond.fieldLink RX1 24 "NailedOrders$Door" "factors" "[F", Cond.fieldLink RX1 28 "NailedOrders$Door" "numbers" "[F", Cond.fieldLink RX1 31 "NailedOrders$Door" "strengths" "[F", Cond.methodLink RX7 131 yX1_hangingFor, Cond.instanceMethod yX1_hangingFor, Cond.selects RX1 yX1_hangingFor yX1_hangingFor]
def wsX7_tear_r3 : List Cond := [Cond.code yX1_hangingFor cX1_hangingFor 2 (some .int), Cond.methodLink RX1 69 yX1_hangingBetween, Cond.instanceMethod yX1_hangingBetween, Cond.selects RX1 yX1_hangingBetween yX1_hangingBetween, Cond.code yX1_hangingBetween cX1_hangingBetween 6 (some .int), Cond.methodLink RX1 73 yX1_hangsFor, Cond.instanceMethod yX1_hangsFor, Cond.selects RX1 yX1_hangsFor yX1_hangsFor, Cond.code yX1_hangsFor cX1_hangsFor 3 (some .boolean), Cond.methodLink RX1 64 yX1_hangs]
def wsX7_tear : List Cond := .code yX7_tear cX7_tear 2 (some .int) :: ((wsX7_tear_r1 ++ (wsX7_tear_r2 ++ wsX7_tear_r3)) ++ wsX70 ++ wsX10 ++ wsX20)
def wsX7_hammer_r1 : List Cond := [Cond.fieldLink RX7 10 "NailedOrders" "door" "LNailedOrders$Door;", Cond.fieldLink RX7 26 "NailedOrders" "history" "LNailedOrders$History;", Cond.fieldLink RX7 134 "NailedOrders$Door" "strengths" "[F", Cond.constantFloat RX7 138 (1092616192), Cond.constantFloat RX7 139 (1056964608), Cond.methodLink RX7 119 yX1_isOrder, Cond.instanceMethod yX1_isOrder, Cond.selects RX1 yX1_isOrder yX1_isOrder, Cond.initialized RX1, Cond.code yX1_isOrder cX1_isOrder 2 (some .boolean), Cond.fieldLink RX1 51 "NailedOrders$Door" "orders" "I", Cond.methodLink RX7 122 yX1_hangs, Cond.instanceMethod yX1_hangs, Cond.selects RX1 yX1_hangs yX1_hangs, Cond.code yX1_hangs cX1_hangs 2 (some .boolean), Cond.fieldLink RX1 34 "NailedOrders$Door" "fates" "[I", Cond.methodLink RX7 73 yX2_record, Cond.instanceMethod yX2_record, Cond.selects RX2 yX2_record yX2_record, Cond.initialized RX2, Cond.code yX2_record cX2_record 2 none, Cond.fieldLink RX2 18 "NailedOrders$History" "states" "I", Cond.fieldLink RX2 11 "NailedOrders$History" "doors" "[LNailedOrders$Door;", Cond.methodLink RX2 22 yX2_dropOldest]
def wsX7_hammer_r2 : List Cond := [Cond.instanceMethod yX2_dropOldest, Cond.selects RX2 yX2_dropOldest yX2_dropOldest, Cond.code yX2_dropOldest cX2_dropOldest 3 none, Cond.methodLink RX2 25 yX1_become, Cond.instanceMethod yX1_become, Cond.selects RX1 yX1_become yX1_become, Cond.code yX1_become cX1_become 2 none, Cond.fieldLink RX1 37 "NailedOrders$Door" "persons" "I", Cond.fieldLink RX1 41 "NailedOrders$Door" "toleranceBits" "I", Cond.fieldLink RX1 44 "NailedOrders$Door" "tolerance" "F", Cond.fieldLink RX1 48 "NailedOrders$Door" "storms" "I", Cond.fieldLink RX1 9 "NailedOrders$Door" "ranks" "[I", Cond.methodLink RX1 54 arraycopyName, Cond.native arraycopyName, Cond.static arraycopyName, Cond.initialized "java/lang/System", Cond.fieldLink RX1 15 "NailedOrders$Door" "owners" "[I", Cond.fieldLink RX1 18 "NailedOrders$Door" "words" "[I", Cond.fieldLink RX1 21 "NailedOrders$Door" "links" "[I", Cond.fieldLink RX1 24 "NailedOrders$Door" "factors" "[F", Cond.fieldLink RX1 28 "NailedOrders$Door" "numbers" "[F", Cond.fieldLink RX1 31 "NailedOrders$Door" "strengths" "[F", Cond.methodLink RX7 140 yX1_hundredthsOfStrength, Cond.instanceMethod yX1_hundredthsOfStrength]
def wsX7_hammer_r3 : List Cond := [Cond.selects RX1 yX1_hundredthsOfStrength yX1_hundredthsOfStrength, Cond.code yX1_hundredthsOfStrength cX1_hundredthsOfStrength 2 (some .int), Cond.constantFloat RX1 68 (1120403456)]
def wsX7_hammer : List Cond := .code yX7_hammer cX7_hammer 3 (some .int) :: ((wsX7_hammer_r1 ++ (wsX7_hammer_r2 ++ wsX7_hammer_r3)) ++ wsX70 ++ wsX10 ++ wsX20)
def wsX7_storm_r1 : List Cond := [Cond.fieldLink RX7 26 "NailedOrders" "history" "LNailedOrders$History;", Cond.fieldLink RX7 10 "NailedOrders" "door" "LNailedOrders$Door;", Cond.fieldLink RX7 49 "NailedOrders" "weather" "LNailedOrders$Weather;", Cond.methodLink RX7 143 yX0_areForce, Cond.static yX0_areForce, Cond.initialized RX0, Cond.code yX0_areForce cX0_areForce 1 (some .boolean), Cond.constantFloat RX0 15 (1036831949), Cond.constantFloat RX0 16 (1092616192), Cond.methodLink RX0 9 yX0_areFrom, Cond.static yX0_areFrom, Cond.code yX0_areFrom cX0_areFrom 4 (some .boolean), Cond.methodLink RX0 18 yX0_exponent, Cond.static yX0_exponent, Cond.code yX0_exponent cX0_exponent 1 (some .int), Cond.methodLink RX0 22 yX0_toFloat, Cond.static yX0_toFloat, Cond.code yX0_toFloat cX0_toFloat 5 (some .float), Cond.constant RX0 26 (8388607), Cond.constant RX0 27 (8388608), Cond.constantFloat RX0 28 (1056964608), Cond.methodLink RX7 73 yX2_record, Cond.instanceMethod yX2_record, Cond.selects RX2 yX2_record yX2_record]
def wsX7_storm_r2 : List Cond := [Cond.initialized RX2, Cond.code yX2_record cX2_record 2 none, Cond.fieldLink RX2 18 "NailedOrders$History" "states" "I", Cond.fieldLink RX2 11 "NailedOrders$History" "doors" "[LNailedOrders$Door;", Cond.methodLink RX2 22 yX2_dropOldest, Cond.instanceMethod yX2_dropOldest, Cond.selects RX2 yX2_dropOldest yX2_dropOldest, Cond.code yX2_dropOldest cX2_dropOldest 3 none, Cond.methodLink RX2 25 yX1_become, Cond.instanceMethod yX1_become, Cond.selects RX1 yX1_become yX1_become, Cond.initialized RX1, Cond.code yX1_become cX1_become 2 none, Cond.fieldLink RX1 37 "NailedOrders$Door" "persons" "I", Cond.fieldLink RX1 41 "NailedOrders$Door" "toleranceBits" "I", Cond.fieldLink RX1 44 "NailedOrders$Door" "tolerance" "F", Cond.fieldLink RX1 48 "NailedOrders$Door" "storms" "I", Cond.fieldLink RX1 51 "NailedOrders$Door" "orders" "I", Cond.fieldLink RX1 9 "NailedOrders$Door" "ranks" "[I", Cond.methodLink RX1 54 arraycopyName, Cond.native arraycopyName, Cond.static arraycopyName, Cond.initialized "java/lang/System", Cond.fieldLink RX1 15 "NailedOrders$Door" "owners" "[I"]
def wsX7_storm_r3 : List Cond := [Cond.fieldLink RX1 18 "NailedOrders$Door" "words" "[I", Cond.fieldLink RX1 21 "NailedOrders$Door" "links" "[I", Cond.fieldLink RX1 24 "NailedOrders$Door" "factors" "[F", Cond.fieldLink RX1 28 "NailedOrders$Door" "numbers" "[F", Cond.fieldLink RX1 31 "NailedOrders$Door" "strengths" "[F", Cond.fieldLink RX1 34 "NailedOrders$Door" "fates" "[I", Cond.methodLink RX7 95 yX0_toFloat, Cond.methodLink RX7 146 yX6_blow, Cond.instanceMethod yX6_blow, Cond.selects RX6 yX6_blow yX6_blow, Cond.initialized RX6, Cond.code yX6_blow cX6_blow 6 (some .int), Cond.fieldLink RX6 18 "NailedOrders$Weather" "over" "[I", Cond.fieldLink RX6 22 "NailedOrders$Door" "orders" "I", Cond.fieldLink RX6 30 "NailedOrders$Door" "words" "[I", Cond.fieldLink RX6 33 "NailedOrders$Door" "strengths" "[F", Cond.fieldLink RX6 37 "NailedOrders$Door" "fates" "[I", Cond.fieldLink RX6 40 "NailedOrders$Door" "storms" "I", Cond.methodLink RX6 26 yX1_hangs, Cond.instanceMethod yX1_hangs, Cond.selects RX1 yX1_hangs yX1_hangs, Cond.code yX1_hangs cX1_hangs 2 (some .boolean)]
def wsX7_storm : List Cond := .code yX7_storm cX7_storm 2 (some .int) :: ((wsX7_storm_r1 ++ (wsX7_storm_r2 ++ wsX7_storm_r3)) ++ wsX70 ++ wsX20 ++ wsX10 ++ wsX60)
def wsX7_noFloat : List Cond := .code yX7_noFloat cX7_noFloat 0 (some .float) :: ([.constantFloat RX7 293 (2143289344)])
def wsX7_value_r1 : List Cond := [Cond.fieldLink RX7 58 "NailedOrders" "now" "LNailedOrders$Reckoning;", Cond.fieldLink RX7 195 "NailedOrders$Reckoning" "known" "[Z", Cond.fieldLink RX7 199 "NailedOrders$Reckoning" "values" "[F", Cond.methodLink RX7 103 yX7_isWord, Cond.static yX7_isWord, Cond.initialized RX7, Cond.code yX7_isWord cX7_isWord 1 (some .boolean), Cond.methodLink RX7 187 yX7_noFloat, Cond.static yX7_noFloat, Cond.code yX7_noFloat cX7_noFloat 0 (some .float), Cond.constantFloat RX7 293 (2143289344), Cond.methodLink RX7 191 yX4_settle, Cond.instanceMethod yX4_settle, Cond.selects RX4 yX4_settle yX4_settle, Cond.initialized RX4, Cond.code yX4_settle cX4_settle 3 none, Cond.fieldLink RX4 9 "NailedOrders$Reckoning" "rulers" "[I", Cond.fieldLink RX4 15 "NailedOrders$Reckoning" "known" "[Z", Cond.fieldLink RX4 19 "NailedOrders$Reckoning" "values" "[F", Cond.methodLink RX4 27 yX4_findRulers, Cond.instanceMethod yX4_findRulers, Cond.selects RX4 yX4_findRulers yX4_findRulers, Cond.code yX4_findRulers cX4_findRulers 5 none, Cond.fieldLink RX4 23 "NailedOrders$Reckoning" "door" "LNailedOrders$Door;"]
def wsX7_value_r2 : List Cond := [Cond.fieldLink RX4 34 "NailedOrders$Door" "orders" "I", Cond.fieldLink RX4 44 "NailedOrders$Door" "words" "[I", Cond.methodLink RX4 40 yX1_hangs, Cond.instanceMethod yX1_hangs, Cond.selects RX1 yX1_hangs yX1_hangs, Cond.initialized RX1, Cond.code yX1_hangs cX1_hangs 2 (some .boolean), Cond.fieldLink RX1 34 "NailedOrders$Door" "fates" "[I", Cond.methodLink RX4 47 yX1_rankOf, Cond.instanceMethod yX1_rankOf, Cond.selects RX1 yX1_rankOf yX1_rankOf, Cond.code yX1_rankOf cX1_rankOf 2 (some .int), Cond.fieldLink RX1 9 "NailedOrders$Door" "ranks" "[I", Cond.fieldLink RX1 15 "NailedOrders$Door" "owners" "[I", Cond.methodLink RX4 31 yX4_findValues, Cond.instanceMethod yX4_findValues, Cond.selects RX4 yX4_findValues yX4_findValues, Cond.code yX4_findValues cX4_findValues 5 none, Cond.methodLink RX4 51 yX4_orderHasValue, Cond.instanceMethod yX4_orderHasValue, Cond.selects RX4 yX4_orderHasValue yX4_orderHasValue, Cond.code yX4_orderHasValue cX4_orderHasValue 4 (some .boolean), Cond.fieldLink RX4 58 "NailedOrders$Door" "links" "[I", Cond.constantFloat RX4 61 (3463342888)]
def wsX7_value_r3 : List Cond := [Cond.constantFloat RX4 62 (1315859240), Cond.methodLink RX4 54 yX4_orderValue, Cond.instanceMethod yX4_orderValue, Cond.selects RX4 yX4_orderValue yX4_orderValue, Cond.code yX4_orderValue cX4_orderValue 3 (some .float), Cond.fieldLink RX4 63 "NailedOrders$Door" "numbers" "[F", Cond.fieldLink RX4 66 "NailedOrders$Door" "factors" "[F"]
def wsX7_value : List Cond := .code yX7_value cX7_value 2 (some .float) :: ((wsX7_value_r1 ++ (wsX7_value_r2 ++ wsX7_value_r3)) ++ wsX70 ++ wsX40 ++ wsX10)
def wsX7_valueOf_r1 : List Cond := [Cond.fieldLink RX7 10 "NailedOrders" "door" "LNailedOrders$Door;", Cond.fieldLink RX7 58 "NailedOrders" "now" "LNailedOrders$Reckoning;", Cond.methodLink RX7 119 yX1_isOrder, Cond.instanceMethod yX1_isOrder, Cond.selects RX1 yX1_isOrder yX1_isOrder, Cond.initialized RX1, Cond.code yX1_isOrder cX1_isOrder 2 (some .boolean), Cond.fieldLink RX1 51 "NailedOrders$Door" "orders" "I", Cond.methodLink RX7 187 yX7_noFloat, Cond.static yX7_noFloat, Cond.initialized RX7, Cond.code yX7_noFloat cX7_noFloat 0 (some .float), Cond.constantFloat RX7 293 (2143289344), Cond.methodLink RX7 191 yX4_settle, Cond.instanceMethod yX4_settle, Cond.selects RX4 yX4_settle yX4_settle, Cond.initialized RX4, Cond.code yX4_settle cX4_settle 3 none, Cond.fieldLink RX4 9 "NailedOrders$Reckoning" "rulers" "[I", Cond.fieldLink RX4 15 "NailedOrders$Reckoning" "known" "[Z", Cond.fieldLink RX4 19 "NailedOrders$Reckoning" "values" "[F", Cond.methodLink RX4 27 yX4_findRulers, Cond.instanceMethod yX4_findRulers, Cond.selects RX4 yX4_findRulers yX4_findRulers]
def wsX7_valueOf_r2 : List Cond := [Cond.code yX4_findRulers cX4_findRulers 5 none, Cond.fieldLink RX4 23 "NailedOrders$Reckoning" "door" "LNailedOrders$Door;", Cond.fieldLink RX4 34 "NailedOrders$Door" "orders" "I", Cond.fieldLink RX4 44 "NailedOrders$Door" "words" "[I", Cond.methodLink RX4 40 yX1_hangs, Cond.instanceMethod yX1_hangs, Cond.selects RX1 yX1_hangs yX1_hangs, Cond.code yX1_hangs cX1_hangs 2 (some .boolean), Cond.fieldLink RX1 34 "NailedOrders$Door" "fates" "[I", Cond.methodLink RX4 47 yX1_rankOf, Cond.instanceMethod yX1_rankOf, Cond.selects RX1 yX1_rankOf yX1_rankOf, Cond.code yX1_rankOf cX1_rankOf 2 (some .int), Cond.fieldLink RX1 9 "NailedOrders$Door" "ranks" "[I", Cond.fieldLink RX1 15 "NailedOrders$Door" "owners" "[I", Cond.methodLink RX4 31 yX4_findValues, Cond.instanceMethod yX4_findValues, Cond.selects RX4 yX4_findValues yX4_findValues, Cond.code yX4_findValues cX4_findValues 5 none, Cond.methodLink RX4 51 yX4_orderHasValue, Cond.instanceMethod yX4_orderHasValue, Cond.selects RX4 yX4_orderHasValue yX4_orderHasValue, Cond.code yX4_orderHasValue cX4_orderHasValue 4 (some .boolean), Cond.fieldLink RX4 58 "NailedOrders$Door" "links" "[I"]
def wsX7_valueOf_r3 : List Cond := [Cond.constantFloat RX4 61 (3463342888), Cond.constantFloat RX4 62 (1315859240), Cond.methodLink RX4 54 yX4_orderValue, Cond.instanceMethod yX4_orderValue, Cond.selects RX4 yX4_orderValue yX4_orderValue, Cond.code yX4_orderValue cX4_orderValue 3 (some .float), Cond.fieldLink RX4 63 "NailedOrders$Door" "numbers" "[F", Cond.fieldLink RX4 66 "NailedOrders$Door" "factors" "[F", Cond.methodLink RX7 202 yX4_orderHasValue, Cond.methodLink RX7 205 yX4_orderValue]
def wsX7_valueOf : List Cond := .code yX7_valueOf cX7_valueOf 2 (some .float) :: ((wsX7_valueOf_r1 ++ (wsX7_valueOf_r2 ++ wsX7_valueOf_r3)) ++ wsX70 ++ wsX10 ++ wsX40)
def wsX7_oneIf : List Cond := .code yX7_oneIf cX7_oneIf 1 (some .int) :: ([])
def wsX7_word_r1 : List Cond := [Cond.fieldLink RX7 58 "NailedOrders" "now" "LNailedOrders$Reckoning;", Cond.fieldLink RX7 208 "NailedOrders$Reckoning" "rulers" "[I", Cond.fieldLink RX7 10 "NailedOrders" "door" "LNailedOrders$Door;", Cond.fieldLink RX7 195 "NailedOrders$Reckoning" "known" "[Z", Cond.methodLink RX7 103 yX7_isWord, Cond.static yX7_isWord, Cond.initialized RX7, Cond.code yX7_isWord cX7_isWord 1 (some .boolean), Cond.methodLink RX7 191 yX4_settle, Cond.instanceMethod yX4_settle, Cond.selects RX4 yX4_settle yX4_settle, Cond.initialized RX4, Cond.code yX4_settle cX4_settle 3 none, Cond.fieldLink RX4 9 "NailedOrders$Reckoning" "rulers" "[I", Cond.fieldLink RX4 15 "NailedOrders$Reckoning" "known" "[Z", Cond.fieldLink RX4 19 "NailedOrders$Reckoning" "values" "[F", Cond.methodLink RX4 27 yX4_findRulers, Cond.instanceMethod yX4_findRulers, Cond.selects RX4 yX4_findRulers yX4_findRulers, Cond.code yX4_findRulers cX4_findRulers 5 none, Cond.fieldLink RX4 23 "NailedOrders$Reckoning" "door" "LNailedOrders$Door;", Cond.fieldLink RX4 34 "NailedOrders$Door" "orders" "I", Cond.fieldLink RX4 44 "NailedOrders$Door" "words" "[I", Cond.methodLink RX4 40 yX1_hangs]
def wsX7_word_r2 : List Cond := [Cond.instanceMethod yX1_hangs, Cond.selects RX1 yX1_hangs yX1_hangs, Cond.initialized RX1, Cond.code yX1_hangs cX1_hangs 2 (some .boolean), Cond.fieldLink RX1 34 "NailedOrders$Door" "fates" "[I", Cond.methodLink RX4 47 yX1_rankOf, Cond.instanceMethod yX1_rankOf, Cond.selects RX1 yX1_rankOf yX1_rankOf, Cond.code yX1_rankOf cX1_rankOf 2 (some .int), Cond.fieldLink RX1 9 "NailedOrders$Door" "ranks" "[I", Cond.fieldLink RX1 15 "NailedOrders$Door" "owners" "[I", Cond.methodLink RX4 31 yX4_findValues, Cond.instanceMethod yX4_findValues, Cond.selects RX4 yX4_findValues yX4_findValues, Cond.code yX4_findValues cX4_findValues 5 none, Cond.methodLink RX4 51 yX4_orderHasValue, Cond.instanceMethod yX4_orderHasValue, Cond.selects RX4 yX4_orderHasValue yX4_orderHasValue, Cond.code yX4_orderHasValue cX4_orderHasValue 4 (some .boolean), Cond.fieldLink RX4 58 "NailedOrders$Door" "links" "[I", Cond.constantFloat RX4 61 (3463342888), Cond.constantFloat RX4 62 (1315859240), Cond.methodLink RX4 54 yX4_orderValue, Cond.instanceMethod yX4_orderValue]
def wsX7_word_r3 : List Cond := [Cond.selects RX4 yX4_orderValue yX4_orderValue, Cond.code yX4_orderValue cX4_orderValue 3 (some .float), Cond.fieldLink RX4 63 "NailedOrders$Door" "numbers" "[F", Cond.fieldLink RX4 66 "NailedOrders$Door" "factors" "[F", Cond.methodLink RX7 211 yX1_hangingAt, Cond.instanceMethod yX1_hangingAt, Cond.selects RX1 yX1_hangingAt yX1_hangingAt, Cond.code yX1_hangingAt cX1_hangingAt 5 (some .int), Cond.fieldLink RX1 51 "NailedOrders$Door" "orders" "I", Cond.methodLink RX1 73 yX1_hangsFor, Cond.instanceMethod yX1_hangsFor, Cond.selects RX1 yX1_hangsFor yX1_hangsFor, Cond.code yX1_hangsFor cX1_hangsFor 3 (some .boolean), Cond.fieldLink RX1 18 "NailedOrders$Door" "words" "[I", Cond.methodLink RX1 64 yX1_hangs, Cond.methodLink RX7 131 yX1_hangingFor, Cond.instanceMethod yX1_hangingFor, Cond.selects RX1 yX1_hangingFor yX1_hangingFor, Cond.code yX1_hangingFor cX1_hangingFor 2 (some .int), Cond.methodLink RX1 69 yX1_hangingBetween, Cond.instanceMethod yX1_hangingBetween, Cond.selects RX1 yX1_hangingBetween yX1_hangingBetween, Cond.code yX1_hangingBetween cX1_hangingBetween 6 (some .int), Cond.methodLink RX7 215 yX7_oneIf]
def wsX7_word_r4 : List Cond := [Cond.static yX7_oneIf, Cond.code yX7_oneIf cX7_oneIf 1 (some .int), Cond.methodLink RX7 219 yX4_topmostRival, Cond.instanceMethod yX4_topmostRival, Cond.selects RX4 yX4_topmostRival yX4_topmostRival, Cond.code yX4_topmostRival cX4_topmostRival 4 (some .int), Cond.methodLink RX4 76 yX1_hangsFor, Cond.methodLink RX4 79 yX4_areRivals, Cond.instanceMethod yX4_areRivals, Cond.selects RX4 yX4_areRivals yX4_areRivals, Cond.code yX4_areRivals cX4_areRivals 4 (some .boolean), Cond.fieldLink RX4 82 "NailedOrders$Door" "owners" "[I", Cond.methodLink RX4 85 yX4_areFar, Cond.instanceMethod yX4_areFar, Cond.selects RX4 yX4_areFar yX4_areFar, Cond.code yX4_areFar cX4_areFar 4 (some .boolean), Cond.fieldLink RX4 89 "NailedOrders$Door" "tolerance" "F", Cond.methodLink RX7 222 yX4_dependents, Cond.instanceMethod yX4_dependents, Cond.selects RX4 yX4_dependents yX4_dependents, Cond.code yX4_dependents cX4_dependents 4 (some .int), Cond.methodLink RX4 72 yX4_comesTo, Cond.instanceMethod yX4_comesTo, Cond.selects RX4 yX4_comesTo yX4_comesTo]
def wsX7_word_r5 : List Cond := [Cond.code yX4_comesTo cX4_comesTo 5 (some .boolean), Cond.methodLink RX4 69 yX4_linkFrom, Cond.instanceMethod yX4_linkFrom, Cond.selects RX4 yX4_linkFrom yX4_linkFrom, Cond.code yX4_linkFrom cX4_linkFrom 3 (some .int), Cond.methodLink RX7 225 yX4_linksToEnd, Cond.instanceMethod yX4_linksToEnd, Cond.selects RX4 yX4_linksToEnd yX4_linksToEnd, Cond.code yX4_linksToEnd cX4_linksToEnd 4 (some .int)]
def wsX7_word : List Cond := .code yX7_word cX7_word 3 (some .int) :: ((wsX7_word_r1 ++ (wsX7_word_r2 ++ (wsX7_word_r3 ++ (wsX7_word_r4 ++ wsX7_word_r5)))) ++ wsX70 ++ wsX40 ++ wsX10)
def wsX7_hangsAt : List Cond := .code yX7_hangsAt cX7_hangsAt 3 (some .int) :: ([.fieldLink RX7 10 "NailedOrders" "door" "LNailedOrders$Door;", .methodLink RX7 103 yX7_isWord, .static yX7_isWord, .initialized RX7, .code yX7_isWord cX7_isWord 1 (some .boolean), .methodLink RX7 211 yX1_hangingAt, .instanceMethod yX1_hangingAt, .selects RX1 yX1_hangingAt yX1_hangingAt, .initialized RX1, .code yX1_hangingAt cX1_hangingAt 5 (some .int), .fieldLink RX1 51 "NailedOrders$Door" "orders" "I", .methodLink RX1 73 yX1_hangsFor, .instanceMethod yX1_hangsFor, .selects RX1 yX1_hangsFor yX1_hangsFor, .code yX1_hangsFor cX1_hangsFor 3 (some .boolean), .fieldLink RX1 18 "NailedOrders$Door" "words" "[I", .methodLink RX1 64 yX1_hangs, .instanceMethod yX1_hangs, .selects RX1 yX1_hangs yX1_hangs, .code yX1_hangs cX1_hangs 2 (some .boolean), .fieldLink RX1 34 "NailedOrders$Door" "fates" "[I"] ++ wsX70 ++ wsX10)
def wsX7_rules_r1 : List Cond := [Cond.fieldLink RX7 58 "NailedOrders" "now" "LNailedOrders$Reckoning;", Cond.fieldLink RX7 208 "NailedOrders$Reckoning" "rulers" "[I", Cond.fieldLink RX7 10 "NailedOrders" "door" "LNailedOrders$Door;", Cond.fieldLink RX7 128 "NailedOrders$Door" "words" "[I", Cond.methodLink RX7 191 yX4_settle, Cond.instanceMethod yX4_settle, Cond.selects RX4 yX4_settle yX4_settle, Cond.initialized RX4, Cond.code yX4_settle cX4_settle 3 none, Cond.fieldLink RX4 9 "NailedOrders$Reckoning" "rulers" "[I", Cond.fieldLink RX4 15 "NailedOrders$Reckoning" "known" "[Z", Cond.fieldLink RX4 19 "NailedOrders$Reckoning" "values" "[F", Cond.methodLink RX4 27 yX4_findRulers, Cond.instanceMethod yX4_findRulers, Cond.selects RX4 yX4_findRulers yX4_findRulers, Cond.code yX4_findRulers cX4_findRulers 5 none, Cond.fieldLink RX4 23 "NailedOrders$Reckoning" "door" "LNailedOrders$Door;", Cond.fieldLink RX4 34 "NailedOrders$Door" "orders" "I", Cond.fieldLink RX4 44 "NailedOrders$Door" "words" "[I", Cond.methodLink RX4 40 yX1_hangs, Cond.instanceMethod yX1_hangs, Cond.selects RX1 yX1_hangs yX1_hangs, Cond.initialized RX1, Cond.code yX1_hangs cX1_hangs 2 (some .boolean)]
def wsX7_rules_r2 : List Cond := [Cond.fieldLink RX1 34 "NailedOrders$Door" "fates" "[I", Cond.methodLink RX4 47 yX1_rankOf, Cond.instanceMethod yX1_rankOf, Cond.selects RX1 yX1_rankOf yX1_rankOf, Cond.code yX1_rankOf cX1_rankOf 2 (some .int), Cond.fieldLink RX1 9 "NailedOrders$Door" "ranks" "[I", Cond.fieldLink RX1 15 "NailedOrders$Door" "owners" "[I", Cond.methodLink RX4 31 yX4_findValues, Cond.instanceMethod yX4_findValues, Cond.selects RX4 yX4_findValues yX4_findValues, Cond.code yX4_findValues cX4_findValues 5 none, Cond.methodLink RX4 51 yX4_orderHasValue, Cond.instanceMethod yX4_orderHasValue, Cond.selects RX4 yX4_orderHasValue yX4_orderHasValue, Cond.code yX4_orderHasValue cX4_orderHasValue 4 (some .boolean), Cond.fieldLink RX4 58 "NailedOrders$Door" "links" "[I", Cond.constantFloat RX4 61 (3463342888), Cond.constantFloat RX4 62 (1315859240), Cond.methodLink RX4 54 yX4_orderValue, Cond.instanceMethod yX4_orderValue, Cond.selects RX4 yX4_orderValue yX4_orderValue, Cond.code yX4_orderValue cX4_orderValue 3 (some .float), Cond.fieldLink RX4 63 "NailedOrders$Door" "numbers" "[F", Cond.fieldLink RX4 66 "NailedOrders$Door" "factors" "[F"]
def wsX7_rules : List Cond := .code yX7_rules cX7_rules 2 (some .boolean) :: ((wsX7_rules_r1 ++ wsX7_rules_r2) ++ wsX70 ++ wsX40 ++ wsX10)
def wsX7_order_r1 : List Cond := [Cond.fieldLink RX7 10 "NailedOrders" "door" "LNailedOrders$Door;", Cond.fieldLink RX7 228 "NailedOrders$Door" "owners" "[I", Cond.fieldLink RX7 128 "NailedOrders$Door" "words" "[I", Cond.fieldLink RX7 231 "NailedOrders$Door" "links" "[I", Cond.methodLink RX7 119 yX1_isOrder, Cond.instanceMethod yX1_isOrder, Cond.selects RX1 yX1_isOrder yX1_isOrder, Cond.initialized RX1, Cond.code yX1_isOrder cX1_isOrder 2 (some .boolean), Cond.fieldLink RX1 51 "NailedOrders$Door" "orders" "I", Cond.methodLink RX7 122 yX1_hangs, Cond.instanceMethod yX1_hangs, Cond.selects RX1 yX1_hangs yX1_hangs, Cond.code yX1_hangs cX1_hangs 2 (some .boolean), Cond.fieldLink RX1 34 "NailedOrders$Door" "fates" "[I", Cond.methodLink RX7 215 yX7_oneIf, Cond.static yX7_oneIf, Cond.initialized RX7, Cond.code yX7_oneIf cX7_oneIf 1 (some .int), Cond.methodLink RX7 234 yX1_over, Cond.instanceMethod yX1_over, Cond.selects RX1 yX1_over yX1_over, Cond.code yX1_over cX1_over 2 (some .int), Cond.fieldLink RX1 18 "NailedOrders$Door" "words" "[I"]
def wsX7_order_r2 : List Cond := [Cond.methodLink RX1 69 yX1_hangingBetween, Cond.instanceMethod yX1_hangingBetween, Cond.selects RX1 yX1_hangingBetween yX1_hangingBetween, Cond.code yX1_hangingBetween cX1_hangingBetween 6 (some .int), Cond.methodLink RX1 73 yX1_hangsFor, Cond.instanceMethod yX1_hangsFor, Cond.selects RX1 yX1_hangsFor yX1_hangsFor, Cond.code yX1_hangsFor cX1_hangsFor 3 (some .boolean), Cond.methodLink RX1 64 yX1_hangs, Cond.methodLink RX7 237 yX1_beneath, Cond.instanceMethod yX1_beneath, Cond.selects RX1 yX1_beneath yX1_beneath, Cond.code yX1_beneath cX1_beneath 2 (some .int), Cond.methodLink RX7 140 yX1_hundredthsOfStrength, Cond.instanceMethod yX1_hundredthsOfStrength, Cond.selects RX1 yX1_hundredthsOfStrength yX1_hundredthsOfStrength, Cond.code yX1_hundredthsOfStrength cX1_hundredthsOfStrength 2 (some .int), Cond.fieldLink RX1 31 "NailedOrders$Door" "strengths" "[F", Cond.constantFloat RX1 68 (1120403456), Cond.methodLink RX7 240 yX7_rules, Cond.instanceMethod yX7_rules, Cond.selects RX7 yX7_rules yX7_rules, Cond.code yX7_rules cX7_rules 2 (some .boolean), Cond.fieldLink RX7 58 "NailedOrders" "now" "LNailedOrders$Reckoning;"]
def wsX7_order_r3 : List Cond := [Cond.fieldLink RX7 208 "NailedOrders$Reckoning" "rulers" "[I", Cond.methodLink RX7 191 yX4_settle, Cond.instanceMethod yX4_settle, Cond.selects RX4 yX4_settle yX4_settle, Cond.initialized RX4, Cond.code yX4_settle cX4_settle 3 none, Cond.fieldLink RX4 9 "NailedOrders$Reckoning" "rulers" "[I", Cond.fieldLink RX4 15 "NailedOrders$Reckoning" "known" "[Z", Cond.fieldLink RX4 19 "NailedOrders$Reckoning" "values" "[F", Cond.methodLink RX4 27 yX4_findRulers, Cond.instanceMethod yX4_findRulers, Cond.selects RX4 yX4_findRulers yX4_findRulers, Cond.code yX4_findRulers cX4_findRulers 5 none, Cond.fieldLink RX4 23 "NailedOrders$Reckoning" "door" "LNailedOrders$Door;", Cond.fieldLink RX4 34 "NailedOrders$Door" "orders" "I", Cond.fieldLink RX4 44 "NailedOrders$Door" "words" "[I", Cond.methodLink RX4 40 yX1_hangs, Cond.methodLink RX4 47 yX1_rankOf, Cond.instanceMethod yX1_rankOf, Cond.selects RX1 yX1_rankOf yX1_rankOf, Cond.code yX1_rankOf cX1_rankOf 2 (some .int), Cond.fieldLink RX1 9 "NailedOrders$Door" "ranks" "[I", Cond.fieldLink RX1 15 "NailedOrders$Door" "owners" "[I", Cond.methodLink RX4 31 yX4_findValues]
def wsX7_order_r4 : List Cond := [Cond.instanceMethod yX4_findValues, Cond.selects RX4 yX4_findValues yX4_findValues, Cond.code yX4_findValues cX4_findValues 5 none, Cond.methodLink RX4 51 yX4_orderHasValue, Cond.instanceMethod yX4_orderHasValue, Cond.selects RX4 yX4_orderHasValue yX4_orderHasValue, Cond.code yX4_orderHasValue cX4_orderHasValue 4 (some .boolean), Cond.fieldLink RX4 58 "NailedOrders$Door" "links" "[I", Cond.constantFloat RX4 61 (3463342888), Cond.constantFloat RX4 62 (1315859240), Cond.methodLink RX4 54 yX4_orderValue, Cond.instanceMethod yX4_orderValue, Cond.selects RX4 yX4_orderValue yX4_orderValue, Cond.code yX4_orderValue cX4_orderValue 3 (some .float), Cond.fieldLink RX4 63 "NailedOrders$Door" "numbers" "[F", Cond.fieldLink RX4 66 "NailedOrders$Door" "factors" "[F"]
def wsX7_order : List Cond := .code yX7_order cX7_order 3 (some .int) :: ((wsX7_order_r1 ++ (wsX7_order_r2 ++ (wsX7_order_r3 ++ wsX7_order_r4))) ++ wsX70 ++ wsX10 ++ wsX40)
def wsX7_real : List Cond := .code yX7_real cX7_real 3 (some .float) :: ([.fieldLink RX7 10 "NailedOrders" "door" "LNailedOrders$Door;", .fieldLink RX7 243 "NailedOrders$Door" "numbers" "[F", .fieldLink RX7 246 "NailedOrders$Door" "factors" "[F", .fieldLink RX7 134 "NailedOrders$Door" "strengths" "[F", .methodLink RX7 119 yX1_isOrder, .instanceMethod yX1_isOrder, .selects RX1 yX1_isOrder yX1_isOrder, .initialized RX1, .code yX1_isOrder cX1_isOrder 2 (some .boolean), .fieldLink RX1 51 "NailedOrders$Door" "orders" "I", .methodLink RX7 187 yX7_noFloat, .static yX7_noFloat, .initialized RX7, .code yX7_noFloat cX7_noFloat 0 (some .float), .constantFloat RX7 293 (2143289344)] ++ wsX70 ++ wsX10)
def wsX7_wordsRuledBy_r1 : List Cond := [Cond.fieldLink RX7 58 "NailedOrders" "now" "LNailedOrders$Reckoning;", Cond.fieldLink RX7 208 "NailedOrders$Reckoning" "rulers" "[I", Cond.fieldLink RX7 10 "NailedOrders" "door" "LNailedOrders$Door;", Cond.fieldLink RX7 228 "NailedOrders$Door" "owners" "[I", Cond.methodLink RX7 191 yX4_settle, Cond.instanceMethod yX4_settle, Cond.selects RX4 yX4_settle yX4_settle, Cond.initialized RX4, Cond.code yX4_settle cX4_settle 3 none, Cond.fieldLink RX4 9 "NailedOrders$Reckoning" "rulers" "[I", Cond.fieldLink RX4 15 "NailedOrders$Reckoning" "known" "[Z", Cond.fieldLink RX4 19 "NailedOrders$Reckoning" "values" "[F", Cond.methodLink RX4 27 yX4_findRulers, Cond.instanceMethod yX4_findRulers, Cond.selects RX4 yX4_findRulers yX4_findRulers, Cond.code yX4_findRulers cX4_findRulers 5 none, Cond.fieldLink RX4 23 "NailedOrders$Reckoning" "door" "LNailedOrders$Door;", Cond.fieldLink RX4 34 "NailedOrders$Door" "orders" "I", Cond.fieldLink RX4 44 "NailedOrders$Door" "words" "[I", Cond.methodLink RX4 40 yX1_hangs, Cond.instanceMethod yX1_hangs, Cond.selects RX1 yX1_hangs yX1_hangs, Cond.initialized RX1, Cond.code yX1_hangs cX1_hangs 2 (some .boolean)]
def wsX7_wordsRuledBy_r2 : List Cond := [Cond.fieldLink RX1 34 "NailedOrders$Door" "fates" "[I", Cond.methodLink RX4 47 yX1_rankOf, Cond.instanceMethod yX1_rankOf, Cond.selects RX1 yX1_rankOf yX1_rankOf, Cond.code yX1_rankOf cX1_rankOf 2 (some .int), Cond.fieldLink RX1 9 "NailedOrders$Door" "ranks" "[I", Cond.fieldLink RX1 15 "NailedOrders$Door" "owners" "[I", Cond.methodLink RX4 31 yX4_findValues, Cond.instanceMethod yX4_findValues, Cond.selects RX4 yX4_findValues yX4_findValues, Cond.code yX4_findValues cX4_findValues 5 none, Cond.methodLink RX4 51 yX4_orderHasValue, Cond.instanceMethod yX4_orderHasValue, Cond.selects RX4 yX4_orderHasValue yX4_orderHasValue, Cond.code yX4_orderHasValue cX4_orderHasValue 4 (some .boolean), Cond.fieldLink RX4 58 "NailedOrders$Door" "links" "[I", Cond.constantFloat RX4 61 (3463342888), Cond.constantFloat RX4 62 (1315859240), Cond.methodLink RX4 54 yX4_orderValue, Cond.instanceMethod yX4_orderValue, Cond.selects RX4 yX4_orderValue yX4_orderValue, Cond.code yX4_orderValue cX4_orderValue 3 (some .float), Cond.fieldLink RX4 63 "NailedOrders$Door" "numbers" "[F", Cond.fieldLink RX4 66 "NailedOrders$Door" "factors" "[F"]
def wsX7_wordsRuledBy : List Cond := .code yX7_wordsRuledBy cX7_wordsRuledBy 5 (some .int) :: ((wsX7_wordsRuledBy_r1 ++ wsX7_wordsRuledBy_r2) ++ wsX70 ++ wsX40 ++ wsX10)
def wsX7_person_r1 : List Cond := [Cond.fieldLink RX7 10 "NailedOrders" "door" "LNailedOrders$Door;", Cond.fieldLink RX7 83 "NailedOrders$Door" "ranks" "[I", Cond.methodLink RX7 80 yX1_isPerson, Cond.instanceMethod yX1_isPerson, Cond.selects RX1 yX1_isPerson yX1_isPerson, Cond.initialized RX1, Cond.code yX1_isPerson cX1_isPerson 2 (some .boolean), Cond.fieldLink RX1 37 "NailedOrders$Door" "persons" "I", Cond.methodLink RX7 260 yX1_nailedBy, Cond.instanceMethod yX1_nailedBy, Cond.selects RX1 yX1_nailedBy yX1_nailedBy, Cond.code yX1_nailedBy cX1_nailedBy 4 (some .int), Cond.fieldLink RX1 51 "NailedOrders$Door" "orders" "I", Cond.fieldLink RX1 15 "NailedOrders$Door" "owners" "[I", Cond.methodLink RX7 263 yX1_hangingBy, Cond.instanceMethod yX1_hangingBy, Cond.selects RX1 yX1_hangingBy yX1_hangingBy, Cond.code yX1_hangingBy cX1_hangingBy 4 (some .int), Cond.methodLink RX1 64 yX1_hangs, Cond.instanceMethod yX1_hangs, Cond.selects RX1 yX1_hangs yX1_hangs, Cond.code yX1_hangs cX1_hangs 2 (some .boolean), Cond.fieldLink RX1 34 "NailedOrders$Door" "fates" "[I", Cond.methodLink RX7 266 yX7_wordsRuledBy]
def wsX7_person_r2 : List Cond := [Cond.instanceMethod yX7_wordsRuledBy, Cond.selects RX7 yX7_wordsRuledBy yX7_wordsRuledBy, Cond.initialized RX7, Cond.code yX7_wordsRuledBy cX7_wordsRuledBy 5 (some .int), Cond.fieldLink RX7 58 "NailedOrders" "now" "LNailedOrders$Reckoning;", Cond.fieldLink RX7 208 "NailedOrders$Reckoning" "rulers" "[I", Cond.fieldLink RX7 228 "NailedOrders$Door" "owners" "[I", Cond.methodLink RX7 191 yX4_settle, Cond.instanceMethod yX4_settle, Cond.selects RX4 yX4_settle yX4_settle, Cond.initialized RX4, Cond.code yX4_settle cX4_settle 3 none, Cond.fieldLink RX4 9 "NailedOrders$Reckoning" "rulers" "[I", Cond.fieldLink RX4 15 "NailedOrders$Reckoning" "known" "[Z", Cond.fieldLink RX4 19 "NailedOrders$Reckoning" "values" "[F", Cond.methodLink RX4 27 yX4_findRulers, Cond.instanceMethod yX4_findRulers, Cond.selects RX4 yX4_findRulers yX4_findRulers, Cond.code yX4_findRulers cX4_findRulers 5 none, Cond.fieldLink RX4 23 "NailedOrders$Reckoning" "door" "LNailedOrders$Door;", Cond.fieldLink RX4 34 "NailedOrders$Door" "orders" "I", Cond.fieldLink RX4 44 "NailedOrders$Door" "words" "[I", Cond.methodLink RX4 40 yX1_hangs, Cond.methodLink RX4 47 yX1_rankOf]
def wsX7_person_r3 : List Cond := [Cond.instanceMethod yX1_rankOf, Cond.selects RX1 yX1_rankOf yX1_rankOf, Cond.code yX1_rankOf cX1_rankOf 2 (some .int), Cond.fieldLink RX1 9 "NailedOrders$Door" "ranks" "[I", Cond.methodLink RX4 31 yX4_findValues, Cond.instanceMethod yX4_findValues, Cond.selects RX4 yX4_findValues yX4_findValues, Cond.code yX4_findValues cX4_findValues 5 none, Cond.methodLink RX4 51 yX4_orderHasValue, Cond.instanceMethod yX4_orderHasValue, Cond.selects RX4 yX4_orderHasValue yX4_orderHasValue, Cond.code yX4_orderHasValue cX4_orderHasValue 4 (some .boolean), Cond.fieldLink RX4 58 "NailedOrders$Door" "links" "[I", Cond.constantFloat RX4 61 (3463342888), Cond.constantFloat RX4 62 (1315859240), Cond.methodLink RX4 54 yX4_orderValue, Cond.instanceMethod yX4_orderValue, Cond.selects RX4 yX4_orderValue yX4_orderValue, Cond.code yX4_orderValue cX4_orderValue 3 (some .float), Cond.fieldLink RX4 63 "NailedOrders$Door" "numbers" "[F", Cond.fieldLink RX4 66 "NailedOrders$Door" "factors" "[F", Cond.methodLink RX7 269 yX1_wordsOf, Cond.instanceMethod yX1_wordsOf, Cond.selects RX1 yX1_wordsOf yX1_wordsOf]
def wsX7_person_r4 : List Cond := [Cond.code yX1_wordsOf cX1_wordsOf 4 (some .int), Cond.fieldLink RX1 18 "NailedOrders$Door" "words" "[I"]
def wsX7_person : List Cond := .code yX7_person cX7_person 3 (some .int) :: ((wsX7_person_r1 ++ (wsX7_person_r2 ++ (wsX7_person_r3 ++ wsX7_person_r4))) ++ wsX70 ++ wsX10 ++ wsX40)
def wsX7_count_r1 : List Cond := [Cond.fieldLink RX7 58 "NailedOrders" "now" "LNailedOrders$Reckoning;", Cond.fieldLink RX7 10 "NailedOrders" "door" "LNailedOrders$Door;", Cond.fieldLink RX7 69 "NailedOrders$Door" "persons" "I", Cond.fieldLink RX7 272 "NailedOrders$Door" "orders" "I", Cond.fieldLink RX7 290 "NailedOrders$Door" "storms" "I", Cond.fieldLink RX7 92 "NailedOrders$Door" "toleranceBits" "I", Cond.fieldLink RX7 26 "NailedOrders" "history" "LNailedOrders$History;", Cond.fieldLink RX7 175 "NailedOrders$History" "states" "I", Cond.fieldLink RX7 33 "NailedOrders" "text" "LNailedOrders$Text;", Cond.fieldLink RX7 150 "NailedOrders$Text" "length" "I", Cond.methodLink RX7 191 yX4_settle, Cond.instanceMethod yX4_settle, Cond.selects RX4 yX4_settle yX4_settle, Cond.initialized RX4, Cond.code yX4_settle cX4_settle 3 none, Cond.fieldLink RX4 9 "NailedOrders$Reckoning" "rulers" "[I", Cond.fieldLink RX4 15 "NailedOrders$Reckoning" "known" "[Z", Cond.fieldLink RX4 19 "NailedOrders$Reckoning" "values" "[F", Cond.methodLink RX4 27 yX4_findRulers, Cond.instanceMethod yX4_findRulers, Cond.selects RX4 yX4_findRulers yX4_findRulers, Cond.code yX4_findRulers cX4_findRulers 5 none, Cond.fieldLink RX4 23 "NailedOrders$Reckoning" "door" "LNailedOrders$Door;", Cond.fieldLink RX4 34 "NailedOrders$Door" "orders" "I"]
def wsX7_count_r2 : List Cond := [Cond.fieldLink RX4 44 "NailedOrders$Door" "words" "[I", Cond.methodLink RX4 40 yX1_hangs, Cond.instanceMethod yX1_hangs, Cond.selects RX1 yX1_hangs yX1_hangs, Cond.initialized RX1, Cond.code yX1_hangs cX1_hangs 2 (some .boolean), Cond.fieldLink RX1 34 "NailedOrders$Door" "fates" "[I", Cond.methodLink RX4 47 yX1_rankOf, Cond.instanceMethod yX1_rankOf, Cond.selects RX1 yX1_rankOf yX1_rankOf, Cond.code yX1_rankOf cX1_rankOf 2 (some .int), Cond.fieldLink RX1 9 "NailedOrders$Door" "ranks" "[I", Cond.fieldLink RX1 15 "NailedOrders$Door" "owners" "[I", Cond.methodLink RX4 31 yX4_findValues, Cond.instanceMethod yX4_findValues, Cond.selects RX4 yX4_findValues yX4_findValues, Cond.code yX4_findValues cX4_findValues 5 none, Cond.methodLink RX4 51 yX4_orderHasValue, Cond.instanceMethod yX4_orderHasValue, Cond.selects RX4 yX4_orderHasValue yX4_orderHasValue, Cond.code yX4_orderHasValue cX4_orderHasValue 4 (some .boolean), Cond.fieldLink RX4 58 "NailedOrders$Door" "links" "[I", Cond.constantFloat RX4 61 (3463342888), Cond.constantFloat RX4 62 (1315859240)]
def wsX7_count_r3 : List Cond := [Cond.methodLink RX4 54 yX4_orderValue, Cond.instanceMethod yX4_orderValue, Cond.selects RX4 yX4_orderValue yX4_orderValue, Cond.code yX4_orderValue cX4_orderValue 3 (some .float), Cond.fieldLink RX4 63 "NailedOrders$Door" "numbers" "[F", Cond.fieldLink RX4 66 "NailedOrders$Door" "factors" "[F", Cond.methodLink RX7 184 yX1_hanging, Cond.instanceMethod yX1_hanging, Cond.selects RX1 yX1_hanging yX1_hanging, Cond.code yX1_hanging cX1_hanging 1 (some .int), Cond.methodLink RX1 77 yX1_withFate, Cond.instanceMethod yX1_withFate, Cond.selects RX1 yX1_withFate yX1_withFate, Cond.code yX1_withFate cX1_withFate 4 (some .int), Cond.fieldLink RX1 51 "NailedOrders$Door" "orders" "I", Cond.methodLink RX7 275 yX1_withFate, Cond.methodLink RX7 278 yX4_wordsWithValue, Cond.instanceMethod yX4_wordsWithValue, Cond.selects RX4 yX4_wordsWithValue yX4_wordsWithValue, Cond.code yX4_wordsWithValue cX4_wordsWithValue 3 (some .int), Cond.methodLink RX7 281 yX4_wordsRuledWithoutValue, Cond.instanceMethod yX4_wordsRuledWithoutValue, Cond.selects RX4 yX4_wordsRuledWithoutValue yX4_wordsRuledWithoutValue, Cond.code yX4_wordsRuledWithoutValue cX4_wordsRuledWithoutValue 3 (some .int)]
def wsX7_count_r4 : List Cond := [Cond.methodLink RX7 284 yX4_wordsInConflict, Cond.instanceMethod yX4_wordsInConflict, Cond.selects RX4 yX4_wordsInConflict yX4_wordsInConflict, Cond.code yX4_wordsInConflict cX4_wordsInConflict 3 (some .int), Cond.methodLink RX4 93 yX4_topmostRival, Cond.instanceMethod yX4_topmostRival, Cond.selects RX4 yX4_topmostRival yX4_topmostRival, Cond.code yX4_topmostRival cX4_topmostRival 4 (some .int), Cond.methodLink RX4 76 yX1_hangsFor, Cond.instanceMethod yX1_hangsFor, Cond.selects RX1 yX1_hangsFor yX1_hangsFor, Cond.code yX1_hangsFor cX1_hangsFor 3 (some .boolean), Cond.fieldLink RX1 18 "NailedOrders$Door" "words" "[I", Cond.methodLink RX1 64 yX1_hangs, Cond.methodLink RX4 79 yX4_areRivals, Cond.instanceMethod yX4_areRivals, Cond.selects RX4 yX4_areRivals yX4_areRivals, Cond.code yX4_areRivals cX4_areRivals 4 (some .boolean), Cond.fieldLink RX4 82 "NailedOrders$Door" "owners" "[I", Cond.methodLink RX4 85 yX4_areFar, Cond.instanceMethod yX4_areFar, Cond.selects RX4 yX4_areFar yX4_areFar, Cond.code yX4_areFar cX4_areFar 4 (some .boolean), Cond.fieldLink RX4 89 "NailedOrders$Door" "tolerance" "F"]
def wsX7_count_r5 : List Cond := [Cond.methodLink RX7 287 yX4_wordsInRings, Cond.instanceMethod yX4_wordsInRings, Cond.selects RX4 yX4_wordsInRings yX4_wordsInRings, Cond.code yX4_wordsInRings cX4_wordsInRings 3 (some .int), Cond.methodLink RX4 72 yX4_comesTo, Cond.instanceMethod yX4_comesTo, Cond.selects RX4 yX4_comesTo yX4_comesTo, Cond.code yX4_comesTo cX4_comesTo 5 (some .boolean), Cond.methodLink RX4 69 yX4_linkFrom, Cond.instanceMethod yX4_linkFrom, Cond.selects RX4 yX4_linkFrom yX4_linkFrom, Cond.code yX4_linkFrom cX4_linkFrom 3 (some .int)]
def wsX7_count : List Cond := .code yX7_count cX7_count 2 (some .int) :: ((wsX7_count_r1 ++ (wsX7_count_r2 ++ (wsX7_count_r3 ++ (wsX7_count_r4 ++ wsX7_count_r5)))) ++ wsX70 ++ wsX10 ++ wsX20 ++ wsX50 ++ wsX40)
def wsL_cell : List Cond := .code yL_cell cL_cell 2 (some .int) :: ([.constant RL 7 (1013904223)])
def wsL_low : List Cond := .code yL_low cL_low 2 (some .int) :: ([.constant RL 8 (2147483647)])
def wsL_bits : List Cond := .code yL_bits cL_bits 4 (some .int) :: ([.constant RL 9 (-2147483648)])
def wsL_ruling : List Cond := .code yL_ruling cL_ruling 7 (some .int) :: ([])
def wsL_has : List Cond := .code yL_has cL_has 13 (some .boolean) :: ([.constantFloat RL 16 (3463342888), .constantFloat RL 17 (1315859240), .methodLink RL 12 yL_ruling, .static yL_ruling, .initialized RL, .code yL_ruling cL_ruling 7 (some .int)])
def wsL_hasOf : List Cond := .code yL_hasOf cL_hasOf 7 (some .boolean) :: ([.constantFloat RL 16 (3463342888), .constantFloat RL 17 (1315859240), .methodLink RL 18 yL_has, .static yL_has, .initialized RL, .code yL_has cL_has 13 (some .boolean), .methodLink RL 12 yL_ruling, .static yL_ruling, .code yL_ruling cL_ruling 7 (some .int)])
def wsL_differ : List Cond := .code yL_differ cL_differ 9 (some .boolean) :: ([])
def wsL_conflict : List Cond := .code yL_conflict cL_conflict 13 (some .int) :: ([.methodLink RL 12 yL_ruling, .static yL_ruling, .initialized RL, .code yL_ruling cL_ruling 7 (some .int), .methodLink RL 22 yL_hasOf, .static yL_hasOf, .code yL_hasOf cL_hasOf 7 (some .boolean), .constantFloat RL 16 (3463342888), .constantFloat RL 17 (1315859240), .methodLink RL 18 yL_has, .static yL_has, .code yL_has cL_has 13 (some .boolean), .methodLink RL 25 yL_differ, .static yL_differ, .code yL_differ cL_differ 9 (some .boolean)])
def wsL_over : List Cond := .code yL_over cL_over 5 (some .int) :: ([])
def wsL_areWords_r1 : List Cond := [Cond.arrayClass .double, Cond.methodLink RL 18 yL_has, Cond.static yL_has, Cond.initialized RL, Cond.code yL_has cL_has 13 (some .boolean), Cond.constantFloat RL 16 (3463342888), Cond.constantFloat RL 17 (1315859240), Cond.methodLink RL 12 yL_ruling, Cond.static yL_ruling, Cond.code yL_ruling cL_ruling 7 (some .int), Cond.methodLink RL 29 yX7_value, Cond.instanceMethod yX7_value, Cond.selects RX7 yX7_value yX7_value, Cond.initialized RX7, Cond.code yX7_value cX7_value 2 (some .float), Cond.fieldLink RX7 58 "NailedOrders" "now" "LNailedOrders$Reckoning;", Cond.fieldLink RX7 195 "NailedOrders$Reckoning" "known" "[Z", Cond.fieldLink RX7 199 "NailedOrders$Reckoning" "values" "[F", Cond.methodLink RX7 103 yX7_isWord, Cond.static yX7_isWord, Cond.code yX7_isWord cX7_isWord 1 (some .boolean), Cond.methodLink RX7 187 yX7_noFloat, Cond.static yX7_noFloat, Cond.code yX7_noFloat cX7_noFloat 0 (some .float)]
def wsL_areWords_r2 : List Cond := [Cond.constantFloat RX7 293 (2143289344), Cond.methodLink RX7 191 yX4_settle, Cond.instanceMethod yX4_settle, Cond.selects RX4 yX4_settle yX4_settle, Cond.initialized RX4, Cond.code yX4_settle cX4_settle 3 none, Cond.fieldLink RX4 9 "NailedOrders$Reckoning" "rulers" "[I", Cond.fieldLink RX4 15 "NailedOrders$Reckoning" "known" "[Z", Cond.fieldLink RX4 19 "NailedOrders$Reckoning" "values" "[F", Cond.methodLink RX4 27 yX4_findRulers, Cond.instanceMethod yX4_findRulers, Cond.selects RX4 yX4_findRulers yX4_findRulers, Cond.code yX4_findRulers cX4_findRulers 5 none, Cond.fieldLink RX4 23 "NailedOrders$Reckoning" "door" "LNailedOrders$Door;", Cond.fieldLink RX4 34 "NailedOrders$Door" "orders" "I", Cond.fieldLink RX4 44 "NailedOrders$Door" "words" "[I", Cond.methodLink RX4 40 yX1_hangs, Cond.instanceMethod yX1_hangs, Cond.selects RX1 yX1_hangs yX1_hangs, Cond.initialized RX1, Cond.code yX1_hangs cX1_hangs 2 (some .boolean), Cond.fieldLink RX1 34 "NailedOrders$Door" "fates" "[I", Cond.methodLink RX4 47 yX1_rankOf, Cond.instanceMethod yX1_rankOf]
def wsL_areWords_r3 : List Cond := [Cond.selects RX1 yX1_rankOf yX1_rankOf, Cond.code yX1_rankOf cX1_rankOf 2 (some .int), Cond.fieldLink RX1 9 "NailedOrders$Door" "ranks" "[I", Cond.fieldLink RX1 15 "NailedOrders$Door" "owners" "[I", Cond.methodLink RX4 31 yX4_findValues, Cond.instanceMethod yX4_findValues, Cond.selects RX4 yX4_findValues yX4_findValues, Cond.code yX4_findValues cX4_findValues 5 none, Cond.methodLink RX4 51 yX4_orderHasValue, Cond.instanceMethod yX4_orderHasValue, Cond.selects RX4 yX4_orderHasValue yX4_orderHasValue, Cond.code yX4_orderHasValue cX4_orderHasValue 4 (some .boolean), Cond.fieldLink RX4 58 "NailedOrders$Door" "links" "[I", Cond.constantFloat RX4 61 (3463342888), Cond.constantFloat RX4 62 (1315859240), Cond.methodLink RX4 54 yX4_orderValue, Cond.instanceMethod yX4_orderValue, Cond.selects RX4 yX4_orderValue yX4_orderValue, Cond.code yX4_orderValue cX4_orderValue 3 (some .float), Cond.fieldLink RX4 63 "NailedOrders$Door" "numbers" "[F", Cond.fieldLink RX4 66 "NailedOrders$Door" "factors" "[F", Cond.methodLink RL 35 yL_conflict, Cond.static yL_conflict, Cond.code yL_conflict cL_conflict 13 (some .int)]
def wsL_areWords_r4 : List Cond := [Cond.methodLink RL 22 yL_hasOf, Cond.static yL_hasOf, Cond.code yL_hasOf cL_hasOf 7 (some .boolean), Cond.methodLink RL 25 yL_differ, Cond.static yL_differ, Cond.code yL_differ cL_differ 9 (some .boolean), Cond.methodLink RL 39 yX7_word, Cond.instanceMethod yX7_word, Cond.selects RX7 yX7_word yX7_word, Cond.code yX7_word cX7_word 3 (some .int), Cond.fieldLink RX7 208 "NailedOrders$Reckoning" "rulers" "[I", Cond.fieldLink RX7 10 "NailedOrders" "door" "LNailedOrders$Door;", Cond.methodLink RX7 211 yX1_hangingAt, Cond.instanceMethod yX1_hangingAt, Cond.selects RX1 yX1_hangingAt yX1_hangingAt, Cond.code yX1_hangingAt cX1_hangingAt 5 (some .int), Cond.fieldLink RX1 51 "NailedOrders$Door" "orders" "I", Cond.methodLink RX1 73 yX1_hangsFor, Cond.instanceMethod yX1_hangsFor, Cond.selects RX1 yX1_hangsFor yX1_hangsFor, Cond.code yX1_hangsFor cX1_hangsFor 3 (some .boolean), Cond.fieldLink RX1 18 "NailedOrders$Door" "words" "[I", Cond.methodLink RX1 64 yX1_hangs, Cond.methodLink RX7 131 yX1_hangingFor]
def wsL_areWords_r5 : List Cond := [Cond.instanceMethod yX1_hangingFor, Cond.selects RX1 yX1_hangingFor yX1_hangingFor, Cond.code yX1_hangingFor cX1_hangingFor 2 (some .int), Cond.methodLink RX1 69 yX1_hangingBetween, Cond.instanceMethod yX1_hangingBetween, Cond.selects RX1 yX1_hangingBetween yX1_hangingBetween, Cond.code yX1_hangingBetween cX1_hangingBetween 6 (some .int), Cond.methodLink RX7 215 yX7_oneIf, Cond.static yX7_oneIf, Cond.code yX7_oneIf cX7_oneIf 1 (some .int), Cond.methodLink RX7 219 yX4_topmostRival, Cond.instanceMethod yX4_topmostRival, Cond.selects RX4 yX4_topmostRival yX4_topmostRival, Cond.code yX4_topmostRival cX4_topmostRival 4 (some .int), Cond.methodLink RX4 76 yX1_hangsFor, Cond.methodLink RX4 79 yX4_areRivals, Cond.instanceMethod yX4_areRivals, Cond.selects RX4 yX4_areRivals yX4_areRivals, Cond.code yX4_areRivals cX4_areRivals 4 (some .boolean), Cond.fieldLink RX4 82 "NailedOrders$Door" "owners" "[I", Cond.methodLink RX4 85 yX4_areFar, Cond.instanceMethod yX4_areFar, Cond.selects RX4 yX4_areFar yX4_areFar, Cond.code yX4_areFar cX4_areFar 4 (some .boolean)]
def wsL_areWords_r6 : List Cond := [Cond.fieldLink RX4 89 "NailedOrders$Door" "tolerance" "F", Cond.methodLink RX7 222 yX4_dependents, Cond.instanceMethod yX4_dependents, Cond.selects RX4 yX4_dependents yX4_dependents, Cond.code yX4_dependents cX4_dependents 4 (some .int), Cond.methodLink RX4 72 yX4_comesTo, Cond.instanceMethod yX4_comesTo, Cond.selects RX4 yX4_comesTo yX4_comesTo, Cond.code yX4_comesTo cX4_comesTo 5 (some .boolean), Cond.methodLink RX4 69 yX4_linkFrom, Cond.instanceMethod yX4_linkFrom, Cond.selects RX4 yX4_linkFrom yX4_linkFrom, Cond.code yX4_linkFrom cX4_linkFrom 3 (some .int), Cond.methodLink RX7 225 yX4_linksToEnd, Cond.instanceMethod yX4_linksToEnd, Cond.selects RX4 yX4_linksToEnd yX4_linksToEnd, Cond.code yX4_linksToEnd cX4_linksToEnd 4 (some .int), Cond.methodLink RL 43 yX7_hangsAt, Cond.instanceMethod yX7_hangsAt, Cond.selects RX7 yX7_hangsAt yX7_hangsAt, Cond.code yX7_hangsAt cX7_hangsAt 3 (some .int), Cond.methodLink RL 46 yX7_count, Cond.instanceMethod yX7_count, Cond.selects RX7 yX7_count yX7_count]
def wsL_areWords_r7 : List Cond := [Cond.code yX7_count cX7_count 2 (some .int), Cond.fieldLink RX7 69 "NailedOrders$Door" "persons" "I", Cond.fieldLink RX7 272 "NailedOrders$Door" "orders" "I", Cond.fieldLink RX7 290 "NailedOrders$Door" "storms" "I", Cond.fieldLink RX7 92 "NailedOrders$Door" "toleranceBits" "I", Cond.fieldLink RX7 26 "NailedOrders" "history" "LNailedOrders$History;", Cond.fieldLink RX7 175 "NailedOrders$History" "states" "I", Cond.fieldLink RX7 33 "NailedOrders" "text" "LNailedOrders$Text;", Cond.fieldLink RX7 150 "NailedOrders$Text" "length" "I", Cond.methodLink RX7 184 yX1_hanging, Cond.instanceMethod yX1_hanging, Cond.selects RX1 yX1_hanging yX1_hanging, Cond.code yX1_hanging cX1_hanging 1 (some .int), Cond.methodLink RX1 77 yX1_withFate, Cond.instanceMethod yX1_withFate, Cond.selects RX1 yX1_withFate yX1_withFate, Cond.code yX1_withFate cX1_withFate 4 (some .int), Cond.methodLink RX7 275 yX1_withFate, Cond.methodLink RX7 278 yX4_wordsWithValue, Cond.instanceMethod yX4_wordsWithValue, Cond.selects RX4 yX4_wordsWithValue yX4_wordsWithValue, Cond.code yX4_wordsWithValue cX4_wordsWithValue 3 (some .int), Cond.methodLink RX7 281 yX4_wordsRuledWithoutValue, Cond.instanceMethod yX4_wordsRuledWithoutValue]
def wsL_areWords_r8 : List Cond := [Cond.selects RX4 yX4_wordsRuledWithoutValue yX4_wordsRuledWithoutValue, Cond.code yX4_wordsRuledWithoutValue cX4_wordsRuledWithoutValue 3 (some .int), Cond.methodLink RX7 284 yX4_wordsInConflict, Cond.instanceMethod yX4_wordsInConflict, Cond.selects RX4 yX4_wordsInConflict yX4_wordsInConflict, Cond.code yX4_wordsInConflict cX4_wordsInConflict 3 (some .int), Cond.methodLink RX4 93 yX4_topmostRival, Cond.methodLink RX7 287 yX4_wordsInRings, Cond.instanceMethod yX4_wordsInRings, Cond.selects RX4 yX4_wordsInRings yX4_wordsInRings, Cond.code yX4_wordsInRings cX4_wordsInRings 3 (some .int)]
def wsL_areWords : List Cond := .code yL_areWords cL_areWords 16 (some .boolean) :: ((wsL_areWords_r1 ++ (wsL_areWords_r2 ++ (wsL_areWords_r3 ++ (wsL_areWords_r4 ++ (wsL_areWords_r5 ++ (wsL_areWords_r6 ++ (wsL_areWords_r7 ++ wsL_areWords_r8))))))) ++ wsX70 ++ wsX40 ++ wsX10 ++ wsX20 ++ wsX50)
def wsL_areOrders_r1 : List Cond := [Cond.arrayClass .double, Cond.constantFloat RL 57 (1120403456), Cond.methodLink RL 50 yX7_order, Cond.instanceMethod yX7_order, Cond.selects RX7 yX7_order yX7_order, Cond.initialized RX7, Cond.code yX7_order cX7_order 3 (some .int), Cond.fieldLink RX7 10 "NailedOrders" "door" "LNailedOrders$Door;", Cond.fieldLink RX7 228 "NailedOrders$Door" "owners" "[I", Cond.fieldLink RX7 128 "NailedOrders$Door" "words" "[I", Cond.fieldLink RX7 231 "NailedOrders$Door" "links" "[I", Cond.methodLink RX7 119 yX1_isOrder, Cond.instanceMethod yX1_isOrder, Cond.selects RX1 yX1_isOrder yX1_isOrder, Cond.initialized RX1, Cond.code yX1_isOrder cX1_isOrder 2 (some .boolean), Cond.fieldLink RX1 51 "NailedOrders$Door" "orders" "I", Cond.methodLink RX7 122 yX1_hangs, Cond.instanceMethod yX1_hangs, Cond.selects RX1 yX1_hangs yX1_hangs, Cond.code yX1_hangs cX1_hangs 2 (some .boolean), Cond.fieldLink RX1 34 "NailedOrders$Door" "fates" "[I", Cond.methodLink RX7 215 yX7_oneIf, Cond.static yX7_oneIf]
def wsL_areOrders_r2 : List Cond := [Cond.code yX7_oneIf cX7_oneIf 1 (some .int), Cond.methodLink RX7 234 yX1_over, Cond.instanceMethod yX1_over, Cond.selects RX1 yX1_over yX1_over, Cond.code yX1_over cX1_over 2 (some .int), Cond.fieldLink RX1 18 "NailedOrders$Door" "words" "[I", Cond.methodLink RX1 69 yX1_hangingBetween, Cond.instanceMethod yX1_hangingBetween, Cond.selects RX1 yX1_hangingBetween yX1_hangingBetween, Cond.code yX1_hangingBetween cX1_hangingBetween 6 (some .int), Cond.methodLink RX1 73 yX1_hangsFor, Cond.instanceMethod yX1_hangsFor, Cond.selects RX1 yX1_hangsFor yX1_hangsFor, Cond.code yX1_hangsFor cX1_hangsFor 3 (some .boolean), Cond.methodLink RX1 64 yX1_hangs, Cond.methodLink RX7 237 yX1_beneath, Cond.instanceMethod yX1_beneath, Cond.selects RX1 yX1_beneath yX1_beneath, Cond.code yX1_beneath cX1_beneath 2 (some .int), Cond.methodLink RX7 140 yX1_hundredthsOfStrength, Cond.instanceMethod yX1_hundredthsOfStrength, Cond.selects RX1 yX1_hundredthsOfStrength yX1_hundredthsOfStrength, Cond.code yX1_hundredthsOfStrength cX1_hundredthsOfStrength 2 (some .int), Cond.fieldLink RX1 31 "NailedOrders$Door" "strengths" "[F"]
def wsL_areOrders_r3 : List Cond := [Cond.constantFloat RX1 68 (1120403456), Cond.methodLink RX7 240 yX7_rules, Cond.instanceMethod yX7_rules, Cond.selects RX7 yX7_rules yX7_rules, Cond.code yX7_rules cX7_rules 2 (some .boolean), Cond.fieldLink RX7 58 "NailedOrders" "now" "LNailedOrders$Reckoning;", Cond.fieldLink RX7 208 "NailedOrders$Reckoning" "rulers" "[I", Cond.methodLink RX7 191 yX4_settle, Cond.instanceMethod yX4_settle, Cond.selects RX4 yX4_settle yX4_settle, Cond.initialized RX4, Cond.code yX4_settle cX4_settle 3 none, Cond.fieldLink RX4 9 "NailedOrders$Reckoning" "rulers" "[I", Cond.fieldLink RX4 15 "NailedOrders$Reckoning" "known" "[Z", Cond.fieldLink RX4 19 "NailedOrders$Reckoning" "values" "[F", Cond.methodLink RX4 27 yX4_findRulers, Cond.instanceMethod yX4_findRulers, Cond.selects RX4 yX4_findRulers yX4_findRulers, Cond.code yX4_findRulers cX4_findRulers 5 none, Cond.fieldLink RX4 23 "NailedOrders$Reckoning" "door" "LNailedOrders$Door;", Cond.fieldLink RX4 34 "NailedOrders$Door" "orders" "I", Cond.fieldLink RX4 44 "NailedOrders$Door" "words" "[I", Cond.methodLink RX4 40 yX1_hangs, Cond.methodLink RX4 47 yX1_rankOf]
def wsL_areOrders_r4 : List Cond := [Cond.instanceMethod yX1_rankOf, Cond.selects RX1 yX1_rankOf yX1_rankOf, Cond.code yX1_rankOf cX1_rankOf 2 (some .int), Cond.fieldLink RX1 9 "NailedOrders$Door" "ranks" "[I", Cond.fieldLink RX1 15 "NailedOrders$Door" "owners" "[I", Cond.methodLink RX4 31 yX4_findValues, Cond.instanceMethod yX4_findValues, Cond.selects RX4 yX4_findValues yX4_findValues, Cond.code yX4_findValues cX4_findValues 5 none, Cond.methodLink RX4 51 yX4_orderHasValue, Cond.instanceMethod yX4_orderHasValue, Cond.selects RX4 yX4_orderHasValue yX4_orderHasValue, Cond.code yX4_orderHasValue cX4_orderHasValue 4 (some .boolean), Cond.fieldLink RX4 58 "NailedOrders$Door" "links" "[I", Cond.constantFloat RX4 61 (3463342888), Cond.constantFloat RX4 62 (1315859240), Cond.methodLink RX4 54 yX4_orderValue, Cond.instanceMethod yX4_orderValue, Cond.selects RX4 yX4_orderValue yX4_orderValue, Cond.code yX4_orderValue cX4_orderValue 3 (some .float), Cond.fieldLink RX4 63 "NailedOrders$Door" "numbers" "[F", Cond.fieldLink RX4 66 "NailedOrders$Door" "factors" "[F", Cond.methodLink RL 53 yL_over, Cond.static yL_over]
def wsL_areOrders_r5 : List Cond := [Cond.initialized RL, Cond.code yL_over cL_over 5 (some .int), Cond.methodLink RL 12 yL_ruling, Cond.static yL_ruling, Cond.code yL_ruling cL_ruling 7 (some .int), Cond.methodLink RL 58 yX7_real, Cond.instanceMethod yX7_real, Cond.selects RX7 yX7_real yX7_real, Cond.code yX7_real cX7_real 3 (some .float), Cond.fieldLink RX7 243 "NailedOrders$Door" "numbers" "[F", Cond.fieldLink RX7 246 "NailedOrders$Door" "factors" "[F", Cond.fieldLink RX7 134 "NailedOrders$Door" "strengths" "[F", Cond.methodLink RX7 187 yX7_noFloat, Cond.static yX7_noFloat, Cond.code yX7_noFloat cX7_noFloat 0 (some .float), Cond.constantFloat RX7 293 (2143289344), Cond.methodLink RL 62 yX7_valueOf, Cond.instanceMethod yX7_valueOf, Cond.selects RX7 yX7_valueOf yX7_valueOf, Cond.code yX7_valueOf cX7_valueOf 2 (some .float), Cond.methodLink RX7 202 yX4_orderHasValue, Cond.methodLink RX7 205 yX4_orderValue, Cond.methodLink RL 22 yL_hasOf, Cond.static yL_hasOf]
def wsL_areOrders_r6 : List Cond := [Cond.code yL_hasOf cL_hasOf 7 (some .boolean), Cond.constantFloat RL 16 (3463342888), Cond.constantFloat RL 17 (1315859240), Cond.methodLink RL 18 yL_has, Cond.static yL_has, Cond.code yL_has cL_has 13 (some .boolean), Cond.methodLink RL 46 yX7_count, Cond.instanceMethod yX7_count, Cond.selects RX7 yX7_count yX7_count, Cond.code yX7_count cX7_count 2 (some .int), Cond.fieldLink RX7 69 "NailedOrders$Door" "persons" "I", Cond.fieldLink RX7 272 "NailedOrders$Door" "orders" "I", Cond.fieldLink RX7 290 "NailedOrders$Door" "storms" "I", Cond.fieldLink RX7 92 "NailedOrders$Door" "toleranceBits" "I", Cond.fieldLink RX7 26 "NailedOrders" "history" "LNailedOrders$History;", Cond.fieldLink RX7 175 "NailedOrders$History" "states" "I", Cond.fieldLink RX7 33 "NailedOrders" "text" "LNailedOrders$Text;", Cond.fieldLink RX7 150 "NailedOrders$Text" "length" "I", Cond.methodLink RX7 184 yX1_hanging, Cond.instanceMethod yX1_hanging, Cond.selects RX1 yX1_hanging yX1_hanging, Cond.code yX1_hanging cX1_hanging 1 (some .int), Cond.methodLink RX1 77 yX1_withFate, Cond.instanceMethod yX1_withFate]
def wsL_areOrders_r7 : List Cond := [Cond.selects RX1 yX1_withFate yX1_withFate, Cond.code yX1_withFate cX1_withFate 4 (some .int), Cond.methodLink RX7 275 yX1_withFate, Cond.methodLink RX7 278 yX4_wordsWithValue, Cond.instanceMethod yX4_wordsWithValue, Cond.selects RX4 yX4_wordsWithValue yX4_wordsWithValue, Cond.code yX4_wordsWithValue cX4_wordsWithValue 3 (some .int), Cond.methodLink RX7 281 yX4_wordsRuledWithoutValue, Cond.instanceMethod yX4_wordsRuledWithoutValue, Cond.selects RX4 yX4_wordsRuledWithoutValue yX4_wordsRuledWithoutValue, Cond.code yX4_wordsRuledWithoutValue cX4_wordsRuledWithoutValue 3 (some .int), Cond.methodLink RX7 284 yX4_wordsInConflict, Cond.instanceMethod yX4_wordsInConflict, Cond.selects RX4 yX4_wordsInConflict yX4_wordsInConflict, Cond.code yX4_wordsInConflict cX4_wordsInConflict 3 (some .int), Cond.methodLink RX4 93 yX4_topmostRival, Cond.instanceMethod yX4_topmostRival, Cond.selects RX4 yX4_topmostRival yX4_topmostRival, Cond.code yX4_topmostRival cX4_topmostRival 4 (some .int), Cond.methodLink RX4 76 yX1_hangsFor, Cond.methodLink RX4 79 yX4_areRivals, Cond.instanceMethod yX4_areRivals, Cond.selects RX4 yX4_areRivals yX4_areRivals, Cond.code yX4_areRivals cX4_areRivals 4 (some .boolean)]
def wsL_areOrders_r8 : List Cond := [Cond.fieldLink RX4 82 "NailedOrders$Door" "owners" "[I", Cond.methodLink RX4 85 yX4_areFar, Cond.instanceMethod yX4_areFar, Cond.selects RX4 yX4_areFar yX4_areFar, Cond.code yX4_areFar cX4_areFar 4 (some .boolean), Cond.fieldLink RX4 89 "NailedOrders$Door" "tolerance" "F", Cond.methodLink RX7 287 yX4_wordsInRings, Cond.instanceMethod yX4_wordsInRings, Cond.selects RX4 yX4_wordsInRings yX4_wordsInRings, Cond.code yX4_wordsInRings cX4_wordsInRings 3 (some .int), Cond.methodLink RX4 72 yX4_comesTo, Cond.instanceMethod yX4_comesTo, Cond.selects RX4 yX4_comesTo yX4_comesTo, Cond.code yX4_comesTo cX4_comesTo 5 (some .boolean), Cond.methodLink RX4 69 yX4_linkFrom, Cond.instanceMethod yX4_linkFrom, Cond.selects RX4 yX4_linkFrom yX4_linkFrom, Cond.code yX4_linkFrom cX4_linkFrom 3 (some .int)]
def wsL_areOrders : List Cond := .code yL_areOrders cL_areOrders 13 (some .boolean) :: ((wsL_areOrders_r1 ++ (wsL_areOrders_r2 ++ (wsL_areOrders_r3 ++ (wsL_areOrders_r4 ++ (wsL_areOrders_r5 ++ (wsL_areOrders_r6 ++ (wsL_areOrders_r7 ++ wsL_areOrders_r8))))))) ++ wsX70 ++ wsX10 ++ wsX40 ++ wsX20 ++ wsX50)
def wsL_arePersons_r1 : List Cond := [Cond.methodLink RL 12 yL_ruling, Cond.static yL_ruling, Cond.initialized RL, Cond.code yL_ruling cL_ruling 7 (some .int), Cond.methodLink RL 65 yX7_person, Cond.instanceMethod yX7_person, Cond.selects RX7 yX7_person yX7_person, Cond.initialized RX7, Cond.code yX7_person cX7_person 3 (some .int), Cond.fieldLink RX7 10 "NailedOrders" "door" "LNailedOrders$Door;", Cond.fieldLink RX7 83 "NailedOrders$Door" "ranks" "[I", Cond.methodLink RX7 80 yX1_isPerson, Cond.instanceMethod yX1_isPerson, Cond.selects RX1 yX1_isPerson yX1_isPerson, Cond.initialized RX1, Cond.code yX1_isPerson cX1_isPerson 2 (some .boolean), Cond.fieldLink RX1 37 "NailedOrders$Door" "persons" "I", Cond.methodLink RX7 260 yX1_nailedBy, Cond.instanceMethod yX1_nailedBy, Cond.selects RX1 yX1_nailedBy yX1_nailedBy, Cond.code yX1_nailedBy cX1_nailedBy 4 (some .int), Cond.fieldLink RX1 51 "NailedOrders$Door" "orders" "I", Cond.fieldLink RX1 15 "NailedOrders$Door" "owners" "[I", Cond.methodLink RX7 263 yX1_hangingBy]
def wsL_arePersons_r2 : List Cond := [Cond.instanceMethod yX1_hangingBy, Cond.selects RX1 yX1_hangingBy yX1_hangingBy, Cond.code yX1_hangingBy cX1_hangingBy 4 (some .int), Cond.methodLink RX1 64 yX1_hangs, Cond.instanceMethod yX1_hangs, Cond.selects RX1 yX1_hangs yX1_hangs, Cond.code yX1_hangs cX1_hangs 2 (some .boolean), Cond.fieldLink RX1 34 "NailedOrders$Door" "fates" "[I", Cond.methodLink RX7 266 yX7_wordsRuledBy, Cond.instanceMethod yX7_wordsRuledBy, Cond.selects RX7 yX7_wordsRuledBy yX7_wordsRuledBy, Cond.code yX7_wordsRuledBy cX7_wordsRuledBy 5 (some .int), Cond.fieldLink RX7 58 "NailedOrders" "now" "LNailedOrders$Reckoning;", Cond.fieldLink RX7 208 "NailedOrders$Reckoning" "rulers" "[I", Cond.fieldLink RX7 228 "NailedOrders$Door" "owners" "[I", Cond.methodLink RX7 191 yX4_settle, Cond.instanceMethod yX4_settle, Cond.selects RX4 yX4_settle yX4_settle, Cond.initialized RX4, Cond.code yX4_settle cX4_settle 3 none, Cond.fieldLink RX4 9 "NailedOrders$Reckoning" "rulers" "[I", Cond.fieldLink RX4 15 "NailedOrders$Reckoning" "known" "[Z", Cond.fieldLink RX4 19 "NailedOrders$Reckoning" "values" "[F", Cond.methodLink RX4 27 yX4_findRulers]
def wsL_arePersons_r3 : List Cond := [Cond.instanceMethod yX4_findRulers, Cond.selects RX4 yX4_findRulers yX4_findRulers, Cond.code yX4_findRulers cX4_findRulers 5 none, Cond.fieldLink RX4 23 "NailedOrders$Reckoning" "door" "LNailedOrders$Door;", Cond.fieldLink RX4 34 "NailedOrders$Door" "orders" "I", Cond.fieldLink RX4 44 "NailedOrders$Door" "words" "[I", Cond.methodLink RX4 40 yX1_hangs, Cond.methodLink RX4 47 yX1_rankOf, Cond.instanceMethod yX1_rankOf, Cond.selects RX1 yX1_rankOf yX1_rankOf, Cond.code yX1_rankOf cX1_rankOf 2 (some .int), Cond.fieldLink RX1 9 "NailedOrders$Door" "ranks" "[I", Cond.methodLink RX4 31 yX4_findValues, Cond.instanceMethod yX4_findValues, Cond.selects RX4 yX4_findValues yX4_findValues, Cond.code yX4_findValues cX4_findValues 5 none, Cond.methodLink RX4 51 yX4_orderHasValue, Cond.instanceMethod yX4_orderHasValue, Cond.selects RX4 yX4_orderHasValue yX4_orderHasValue, Cond.code yX4_orderHasValue cX4_orderHasValue 4 (some .boolean), Cond.fieldLink RX4 58 "NailedOrders$Door" "links" "[I", Cond.constantFloat RX4 61 (3463342888), Cond.constantFloat RX4 62 (1315859240), Cond.methodLink RX4 54 yX4_orderValue]
def wsL_arePersons_r4 : List Cond := [Cond.instanceMethod yX4_orderValue, Cond.selects RX4 yX4_orderValue yX4_orderValue, Cond.code yX4_orderValue cX4_orderValue 3 (some .float), Cond.fieldLink RX4 63 "NailedOrders$Door" "numbers" "[F", Cond.fieldLink RX4 66 "NailedOrders$Door" "factors" "[F", Cond.methodLink RX7 269 yX1_wordsOf, Cond.instanceMethod yX1_wordsOf, Cond.selects RX1 yX1_wordsOf yX1_wordsOf, Cond.code yX1_wordsOf cX1_wordsOf 4 (some .int), Cond.fieldLink RX1 18 "NailedOrders$Door" "words" "[I"]
def wsL_arePersons : List Cond := .code yL_arePersons cL_arePersons 11 (some .boolean) :: ((wsL_arePersons_r1 ++ (wsL_arePersons_r2 ++ (wsL_arePersons_r3 ++ wsL_arePersons_r4))) ++ wsX70 ++ wsX10 ++ wsX40)
def wsL_isNailed_r1 : List Cond := [Cond.constant RL 82 (2143289344), Cond.constantDouble RL 83 (4593671619917905920), Cond.methodLink RL 68 yL_low, Cond.static yL_low, Cond.initialized RL, Cond.code yL_low cL_low 2 (some .int), Cond.constant RL 8 (2147483647), Cond.methodLink RL 71 yL_bits, Cond.static yL_bits, Cond.code yL_bits cL_bits 4 (some .int), Cond.constant RL 9 (-2147483648), Cond.methodLink RL 74 yX7_nail, Cond.instanceMethod yX7_nail, Cond.selects RX7 yX7_nail yX7_nail, Cond.initialized RX7, Cond.code yX7_nail cX7_nail 5 (some .int), Cond.fieldLink RX7 10 "NailedOrders" "door" "LNailedOrders$Door;", Cond.fieldLink RX7 26 "NailedOrders" "history" "LNailedOrders$History;", Cond.methodLink RX7 80 yX1_isPerson, Cond.instanceMethod yX1_isPerson, Cond.selects RX1 yX1_isPerson yX1_isPerson, Cond.initialized RX1, Cond.code yX1_isPerson cX1_isPerson 2 (some .boolean), Cond.fieldLink RX1 37 "NailedOrders$Door" "persons" "I"]
def wsL_isNailed_r2 : List Cond := [Cond.methodLink RX7 103 yX7_isWord, Cond.static yX7_isWord, Cond.code yX7_isWord cX7_isWord 1 (some .boolean), Cond.methodLink RX7 106 yX0_areNumber, Cond.static yX0_areNumber, Cond.initialized RX0, Cond.code yX0_areNumber cX0_areNumber 1 (some .boolean), Cond.constantFloat RX0 7 (3296329728), Cond.constantFloat RX0 8 (1148846080), Cond.methodLink RX0 9 yX0_areFrom, Cond.static yX0_areFrom, Cond.code yX0_areFrom cX0_areFrom 4 (some .boolean), Cond.methodLink RX0 18 yX0_exponent, Cond.static yX0_exponent, Cond.code yX0_exponent cX0_exponent 1 (some .int), Cond.methodLink RX0 22 yX0_toFloat, Cond.static yX0_toFloat, Cond.code yX0_toFloat cX0_toFloat 5 (some .float), Cond.constant RX0 26 (8388607), Cond.constant RX0 27 (8388608), Cond.constantFloat RX0 28 (1056964608), Cond.methodLink RX7 109 yX0_areStrength, Cond.static yX0_areStrength, Cond.code yX0_areStrength cX0_areStrength 1 (some .boolean)]
def wsL_isNailed_r3 : List Cond := [Cond.constantFloat RX0 15 (1036831949), Cond.constantFloat RX0 16 (1092616192), Cond.methodLink RX7 112 yX1_hasRoomAfter, Cond.instanceMethod yX1_hasRoomAfter, Cond.selects RX1 yX1_hasRoomAfter yX1_hasRoomAfter, Cond.code yX1_hasRoomAfter cX1_hasRoomAfter 2 (some .boolean), Cond.fieldLink RX1 51 "NailedOrders$Door" "orders" "I", Cond.methodLink RX1 60 yX1_hanging, Cond.instanceMethod yX1_hanging, Cond.selects RX1 yX1_hanging yX1_hanging, Cond.code yX1_hanging cX1_hanging 1 (some .int), Cond.methodLink RX1 77 yX1_withFate, Cond.instanceMethod yX1_withFate, Cond.selects RX1 yX1_withFate yX1_withFate, Cond.code yX1_withFate cX1_withFate 4 (some .int), Cond.fieldLink RX1 34 "NailedOrders$Door" "fates" "[I", Cond.methodLink RX7 73 yX2_record, Cond.instanceMethod yX2_record, Cond.selects RX2 yX2_record yX2_record, Cond.initialized RX2, Cond.code yX2_record cX2_record 2 none, Cond.fieldLink RX2 18 "NailedOrders$History" "states" "I", Cond.fieldLink RX2 11 "NailedOrders$History" "doors" "[LNailedOrders$Door;", Cond.methodLink RX2 22 yX2_dropOldest]
def wsL_isNailed_r4 : List Cond := [Cond.instanceMethod yX2_dropOldest, Cond.selects RX2 yX2_dropOldest yX2_dropOldest, Cond.code yX2_dropOldest cX2_dropOldest 3 none, Cond.methodLink RX2 25 yX1_become, Cond.instanceMethod yX1_become, Cond.selects RX1 yX1_become yX1_become, Cond.code yX1_become cX1_become 2 none, Cond.fieldLink RX1 41 "NailedOrders$Door" "toleranceBits" "I", Cond.fieldLink RX1 44 "NailedOrders$Door" "tolerance" "F", Cond.fieldLink RX1 48 "NailedOrders$Door" "storms" "I", Cond.fieldLink RX1 9 "NailedOrders$Door" "ranks" "[I", Cond.methodLink RX1 54 arraycopyName, Cond.native arraycopyName, Cond.static arraycopyName, Cond.initialized "java/lang/System", Cond.fieldLink RX1 15 "NailedOrders$Door" "owners" "[I", Cond.fieldLink RX1 18 "NailedOrders$Door" "words" "[I", Cond.fieldLink RX1 21 "NailedOrders$Door" "links" "[I", Cond.fieldLink RX1 24 "NailedOrders$Door" "factors" "[F", Cond.fieldLink RX1 28 "NailedOrders$Door" "numbers" "[F", Cond.fieldLink RX1 31 "NailedOrders$Door" "strengths" "[F", Cond.methodLink RX7 95 yX0_toFloat, Cond.methodLink RX7 115 yX1_hang, Cond.instanceMethod yX1_hang]
def wsL_isNailed_r5 : List Cond := [Cond.selects RX1 yX1_hang yX1_hang, Cond.code yX1_hang cX1_hang 8 (some .int), Cond.methodLink RL 78 yX7_nailLink, Cond.instanceMethod yX7_nailLink, Cond.selects RX7 yX7_nailLink yX7_nailLink, Cond.code yX7_nailLink cX7_nailLink 7 (some .int)]
def wsL_isNailed : List Cond := .code yL_isNailed cL_isNailed 15 (some .boolean) :: ((wsL_isNailed_r1 ++ (wsL_isNailed_r2 ++ (wsL_isNailed_r3 ++ (wsL_isNailed_r4 ++ wsL_isNailed_r5)))) ++ wsX70 ++ wsX10 ++ wsX20)
def wsL_isStruck_r1 : List Cond := [Cond.constantFloat RL 91 (1092616192), Cond.constantFloat RL 92 (1056964608), Cond.constantFloat RL 57 (1120403456), Cond.methodLink RL 85 yX7_tear, Cond.instanceMethod yX7_tear, Cond.selects RX7 yX7_tear yX7_tear, Cond.initialized RX7, Cond.code yX7_tear cX7_tear 2 (some .int), Cond.fieldLink RX7 10 "NailedOrders" "door" "LNailedOrders$Door;", Cond.fieldLink RX7 26 "NailedOrders" "history" "LNailedOrders$History;", Cond.fieldLink RX7 125 "NailedOrders$Door" "fates" "[I", Cond.fieldLink RX7 128 "NailedOrders$Door" "words" "[I", Cond.methodLink RX7 119 yX1_isOrder, Cond.instanceMethod yX1_isOrder, Cond.selects RX1 yX1_isOrder yX1_isOrder, Cond.initialized RX1, Cond.code yX1_isOrder cX1_isOrder 2 (some .boolean), Cond.fieldLink RX1 51 "NailedOrders$Door" "orders" "I", Cond.methodLink RX7 122 yX1_hangs, Cond.instanceMethod yX1_hangs, Cond.selects RX1 yX1_hangs yX1_hangs, Cond.code yX1_hangs cX1_hangs 2 (some .boolean), Cond.fieldLink RX1 34 "NailedOrders$Door" "fates" "[I", Cond.methodLink RX7 73 yX2_record]
def wsL_isStruck_r2 : List Cond := [Cond.instanceMethod yX2_record, Cond.selects RX2 yX2_record yX2_record, Cond.initialized RX2, Cond.code yX2_record cX2_record 2 none, Cond.fieldLink RX2 18 "NailedOrders$History" "states" "I", Cond.fieldLink RX2 11 "NailedOrders$History" "doors" "[LNailedOrders$Door;", Cond.methodLink RX2 22 yX2_dropOldest, Cond.instanceMethod yX2_dropOldest, Cond.selects RX2 yX2_dropOldest yX2_dropOldest, Cond.code yX2_dropOldest cX2_dropOldest 3 none, Cond.methodLink RX2 25 yX1_become, Cond.instanceMethod yX1_become, Cond.selects RX1 yX1_become yX1_become, Cond.code yX1_become cX1_become 2 none, Cond.fieldLink RX1 37 "NailedOrders$Door" "persons" "I", Cond.fieldLink RX1 41 "NailedOrders$Door" "toleranceBits" "I", Cond.fieldLink RX1 44 "NailedOrders$Door" "tolerance" "F", Cond.fieldLink RX1 48 "NailedOrders$Door" "storms" "I", Cond.fieldLink RX1 9 "NailedOrders$Door" "ranks" "[I", Cond.methodLink RX1 54 arraycopyName, Cond.native arraycopyName, Cond.static arraycopyName, Cond.initialized "java/lang/System", Cond.fieldLink RX1 15 "NailedOrders$Door" "owners" "[I"]
def wsL_isStruck_r3 : List Cond := [Cond.fieldLink RX1 18 "NailedOrders$Door" "words" "[I", Cond.fieldLink RX1 21 "NailedOrders$Door" "links" "[I", Cond.fieldLink RX1 24 "NailedOrders$Door" "factors" "[F", Cond.fieldLink RX1 28 "NailedOrders$Door" "numbers" "[F", Cond.fieldLink RX1 31 "NailedOrders$Door" "strengths" "[F", Cond.methodLink RX7 131 yX1_hangingFor, Cond.instanceMethod yX1_hangingFor, Cond.selects RX1 yX1_hangingFor yX1_hangingFor, Cond.code yX1_hangingFor cX1_hangingFor 2 (some .int), Cond.methodLink RX1 69 yX1_hangingBetween, Cond.instanceMethod yX1_hangingBetween, Cond.selects RX1 yX1_hangingBetween yX1_hangingBetween, Cond.code yX1_hangingBetween cX1_hangingBetween 6 (some .int), Cond.methodLink RX1 73 yX1_hangsFor, Cond.instanceMethod yX1_hangsFor, Cond.selects RX1 yX1_hangsFor yX1_hangsFor, Cond.code yX1_hangsFor cX1_hangsFor 3 (some .boolean), Cond.methodLink RX1 64 yX1_hangs, Cond.methodLink RL 88 yX7_hammer, Cond.instanceMethod yX7_hammer, Cond.selects RX7 yX7_hammer yX7_hammer, Cond.code yX7_hammer cX7_hammer 3 (some .int), Cond.fieldLink RX7 134 "NailedOrders$Door" "strengths" "[F", Cond.constantFloat RX7 138 (1092616192)]
def wsL_isStruck_r4 : List Cond := [Cond.constantFloat RX7 139 (1056964608), Cond.methodLink RX7 140 yX1_hundredthsOfStrength, Cond.instanceMethod yX1_hundredthsOfStrength, Cond.selects RX1 yX1_hundredthsOfStrength yX1_hundredthsOfStrength, Cond.code yX1_hundredthsOfStrength cX1_hundredthsOfStrength 2 (some .int), Cond.constantFloat RX1 68 (1120403456), Cond.methodLink RL 68 yL_low, Cond.static yL_low, Cond.initialized RL, Cond.code yL_low cL_low 2 (some .int), Cond.constant RL 8 (2147483647)]
def wsL_isStruck : List Cond := .code yL_isStruck cL_isStruck 8 (some .boolean) :: ((wsL_isStruck_r1 ++ (wsL_isStruck_r2 ++ (wsL_isStruck_r3 ++ wsL_isStruck_r4))) ++ wsX70 ++ wsX10 ++ wsX20)
def wsL_isStormy_r1 : List Cond := [Cond.constantFloat RL 93 (1040187392), Cond.methodLink RL 68 yL_low, Cond.static yL_low, Cond.initialized RL, Cond.code yL_low cL_low 2 (some .int), Cond.constant RL 8 (2147483647), Cond.methodLink RL 53 yL_over, Cond.static yL_over, Cond.code yL_over cL_over 5 (some .int), Cond.methodLink RL 71 yL_bits, Cond.static yL_bits, Cond.code yL_bits cL_bits 4 (some .int), Cond.constant RL 9 (-2147483648), Cond.methodLink RL 94 yX7_storm, Cond.instanceMethod yX7_storm, Cond.selects RX7 yX7_storm yX7_storm, Cond.initialized RX7, Cond.code yX7_storm cX7_storm 2 (some .int), Cond.fieldLink RX7 26 "NailedOrders" "history" "LNailedOrders$History;", Cond.fieldLink RX7 10 "NailedOrders" "door" "LNailedOrders$Door;", Cond.fieldLink RX7 49 "NailedOrders" "weather" "LNailedOrders$Weather;", Cond.methodLink RX7 143 yX0_areForce, Cond.static yX0_areForce, Cond.initialized RX0]
def wsL_isStormy_r2 : List Cond := [Cond.code yX0_areForce cX0_areForce 1 (some .boolean), Cond.constantFloat RX0 15 (1036831949), Cond.constantFloat RX0 16 (1092616192), Cond.methodLink RX0 9 yX0_areFrom, Cond.static yX0_areFrom, Cond.code yX0_areFrom cX0_areFrom 4 (some .boolean), Cond.methodLink RX0 18 yX0_exponent, Cond.static yX0_exponent, Cond.code yX0_exponent cX0_exponent 1 (some .int), Cond.methodLink RX0 22 yX0_toFloat, Cond.static yX0_toFloat, Cond.code yX0_toFloat cX0_toFloat 5 (some .float), Cond.constant RX0 26 (8388607), Cond.constant RX0 27 (8388608), Cond.constantFloat RX0 28 (1056964608), Cond.methodLink RX7 73 yX2_record, Cond.instanceMethod yX2_record, Cond.selects RX2 yX2_record yX2_record, Cond.initialized RX2, Cond.code yX2_record cX2_record 2 none, Cond.fieldLink RX2 18 "NailedOrders$History" "states" "I", Cond.fieldLink RX2 11 "NailedOrders$History" "doors" "[LNailedOrders$Door;", Cond.methodLink RX2 22 yX2_dropOldest, Cond.instanceMethod yX2_dropOldest]
def wsL_isStormy_r3 : List Cond := [Cond.selects RX2 yX2_dropOldest yX2_dropOldest, Cond.code yX2_dropOldest cX2_dropOldest 3 none, Cond.methodLink RX2 25 yX1_become, Cond.instanceMethod yX1_become, Cond.selects RX1 yX1_become yX1_become, Cond.initialized RX1, Cond.code yX1_become cX1_become 2 none, Cond.fieldLink RX1 37 "NailedOrders$Door" "persons" "I", Cond.fieldLink RX1 41 "NailedOrders$Door" "toleranceBits" "I", Cond.fieldLink RX1 44 "NailedOrders$Door" "tolerance" "F", Cond.fieldLink RX1 48 "NailedOrders$Door" "storms" "I", Cond.fieldLink RX1 51 "NailedOrders$Door" "orders" "I", Cond.fieldLink RX1 9 "NailedOrders$Door" "ranks" "[I", Cond.methodLink RX1 54 arraycopyName, Cond.native arraycopyName, Cond.static arraycopyName, Cond.initialized "java/lang/System", Cond.fieldLink RX1 15 "NailedOrders$Door" "owners" "[I", Cond.fieldLink RX1 18 "NailedOrders$Door" "words" "[I", Cond.fieldLink RX1 21 "NailedOrders$Door" "links" "[I", Cond.fieldLink RX1 24 "NailedOrders$Door" "factors" "[F", Cond.fieldLink RX1 28 "NailedOrders$Door" "numbers" "[F", Cond.fieldLink RX1 31 "NailedOrders$Door" "strengths" "[F", Cond.fieldLink RX1 34 "NailedOrders$Door" "fates" "[I"]
def wsL_isStormy_r4 : List Cond := [Cond.methodLink RX7 95 yX0_toFloat, Cond.methodLink RX7 146 yX6_blow, Cond.instanceMethod yX6_blow, Cond.selects RX6 yX6_blow yX6_blow, Cond.initialized RX6, Cond.code yX6_blow cX6_blow 6 (some .int), Cond.fieldLink RX6 18 "NailedOrders$Weather" "over" "[I", Cond.fieldLink RX6 22 "NailedOrders$Door" "orders" "I", Cond.fieldLink RX6 30 "NailedOrders$Door" "words" "[I", Cond.fieldLink RX6 33 "NailedOrders$Door" "strengths" "[F", Cond.fieldLink RX6 37 "NailedOrders$Door" "fates" "[I", Cond.fieldLink RX6 40 "NailedOrders$Door" "storms" "I", Cond.methodLink RX6 26 yX1_hangs, Cond.instanceMethod yX1_hangs, Cond.selects RX1 yX1_hangs yX1_hangs, Cond.code yX1_hangs cX1_hangs 2 (some .boolean)]
def wsL_isStormy : List Cond := .code yL_isStormy cL_isStormy 9 (some .boolean) :: ((wsL_isStormy_r1 ++ (wsL_isStormy_r2 ++ (wsL_isStormy_r3 ++ wsL_isStormy_r4))) ++ wsX70 ++ wsX20 ++ wsX10 ++ wsX60)
def wsL_isRanked_r1 : List Cond := [Cond.constantDouble RL 83 (4593671619917905920), Cond.constant RL 9 (-2147483648), Cond.methodLink RL 68 yL_low, Cond.static yL_low, Cond.initialized RL, Cond.code yL_low cL_low 2 (some .int), Cond.constant RL 8 (2147483647), Cond.methodLink RL 71 yL_bits, Cond.static yL_bits, Cond.code yL_bits cL_bits 4 (some .int), Cond.methodLink RL 97 yX7_setTolerance, Cond.instanceMethod yX7_setTolerance, Cond.selects RX7 yX7_setTolerance yX7_setTolerance, Cond.initialized RX7, Cond.code yX7_setTolerance cX7_setTolerance 2 (some .int), Cond.fieldLink RX7 10 "NailedOrders" "door" "LNailedOrders$Door;", Cond.fieldLink RX7 92 "NailedOrders$Door" "toleranceBits" "I", Cond.fieldLink RX7 26 "NailedOrders" "history" "LNailedOrders$History;", Cond.fieldLink RX7 99 "NailedOrders$Door" "tolerance" "F", Cond.methodLink RX7 87 yX0_areTolerance, Cond.static yX0_areTolerance, Cond.initialized RX0, Cond.code yX0_areTolerance cX0_areTolerance 1 (some .boolean), Cond.constantFloat RX0 17 (1120403456)]
def wsL_isRanked_r2 : List Cond := [Cond.methodLink RX0 9 yX0_areFrom, Cond.static yX0_areFrom, Cond.code yX0_areFrom cX0_areFrom 4 (some .boolean), Cond.methodLink RX0 18 yX0_exponent, Cond.static yX0_exponent, Cond.code yX0_exponent cX0_exponent 1 (some .int), Cond.methodLink RX0 22 yX0_toFloat, Cond.static yX0_toFloat, Cond.code yX0_toFloat cX0_toFloat 5 (some .float), Cond.constant RX0 26 (8388607), Cond.constant RX0 27 (8388608), Cond.constantFloat RX0 28 (1056964608), Cond.methodLink RX7 73 yX2_record, Cond.instanceMethod yX2_record, Cond.selects RX2 yX2_record yX2_record, Cond.initialized RX2, Cond.code yX2_record cX2_record 2 none, Cond.fieldLink RX2 18 "NailedOrders$History" "states" "I", Cond.fieldLink RX2 11 "NailedOrders$History" "doors" "[LNailedOrders$Door;", Cond.methodLink RX2 22 yX2_dropOldest, Cond.instanceMethod yX2_dropOldest, Cond.selects RX2 yX2_dropOldest yX2_dropOldest, Cond.code yX2_dropOldest cX2_dropOldest 3 none, Cond.methodLink RX2 25 yX1_become]
def wsL_isRanked_r3 : List Cond := [Cond.instanceMethod yX1_become, Cond.selects RX1 yX1_become yX1_become, Cond.initialized RX1, Cond.code yX1_become cX1_become 2 none, Cond.fieldLink RX1 37 "NailedOrders$Door" "persons" "I", Cond.fieldLink RX1 41 "NailedOrders$Door" "toleranceBits" "I", Cond.fieldLink RX1 44 "NailedOrders$Door" "tolerance" "F", Cond.fieldLink RX1 48 "NailedOrders$Door" "storms" "I", Cond.fieldLink RX1 51 "NailedOrders$Door" "orders" "I", Cond.fieldLink RX1 9 "NailedOrders$Door" "ranks" "[I", Cond.methodLink RX1 54 arraycopyName, Cond.native arraycopyName, Cond.static arraycopyName, Cond.initialized "java/lang/System", Cond.fieldLink RX1 15 "NailedOrders$Door" "owners" "[I", Cond.fieldLink RX1 18 "NailedOrders$Door" "words" "[I", Cond.fieldLink RX1 21 "NailedOrders$Door" "links" "[I", Cond.fieldLink RX1 24 "NailedOrders$Door" "factors" "[F", Cond.fieldLink RX1 28 "NailedOrders$Door" "numbers" "[F", Cond.fieldLink RX1 31 "NailedOrders$Door" "strengths" "[F", Cond.fieldLink RX1 34 "NailedOrders$Door" "fates" "[I", Cond.methodLink RX7 95 yX0_toFloat, Cond.methodLink RL 46 yX7_count, Cond.instanceMethod yX7_count]
def wsL_isRanked_r4 : List Cond := [Cond.selects RX7 yX7_count yX7_count, Cond.code yX7_count cX7_count 2 (some .int), Cond.fieldLink RX7 58 "NailedOrders" "now" "LNailedOrders$Reckoning;", Cond.fieldLink RX7 69 "NailedOrders$Door" "persons" "I", Cond.fieldLink RX7 272 "NailedOrders$Door" "orders" "I", Cond.fieldLink RX7 290 "NailedOrders$Door" "storms" "I", Cond.fieldLink RX7 175 "NailedOrders$History" "states" "I", Cond.fieldLink RX7 33 "NailedOrders" "text" "LNailedOrders$Text;", Cond.fieldLink RX7 150 "NailedOrders$Text" "length" "I", Cond.methodLink RX7 191 yX4_settle, Cond.instanceMethod yX4_settle, Cond.selects RX4 yX4_settle yX4_settle, Cond.initialized RX4, Cond.code yX4_settle cX4_settle 3 none, Cond.fieldLink RX4 9 "NailedOrders$Reckoning" "rulers" "[I", Cond.fieldLink RX4 15 "NailedOrders$Reckoning" "known" "[Z", Cond.fieldLink RX4 19 "NailedOrders$Reckoning" "values" "[F", Cond.methodLink RX4 27 yX4_findRulers, Cond.instanceMethod yX4_findRulers, Cond.selects RX4 yX4_findRulers yX4_findRulers, Cond.code yX4_findRulers cX4_findRulers 5 none, Cond.fieldLink RX4 23 "NailedOrders$Reckoning" "door" "LNailedOrders$Door;", Cond.fieldLink RX4 34 "NailedOrders$Door" "orders" "I", Cond.fieldLink RX4 44 "NailedOrders$Door" "words" "[I"]
def wsL_isRanked_r5 : List Cond := [Cond.methodLink RX4 40 yX1_hangs, Cond.instanceMethod yX1_hangs, Cond.selects RX1 yX1_hangs yX1_hangs, Cond.code yX1_hangs cX1_hangs 2 (some .boolean), Cond.methodLink RX4 47 yX1_rankOf, Cond.instanceMethod yX1_rankOf, Cond.selects RX1 yX1_rankOf yX1_rankOf, Cond.code yX1_rankOf cX1_rankOf 2 (some .int), Cond.methodLink RX4 31 yX4_findValues, Cond.instanceMethod yX4_findValues, Cond.selects RX4 yX4_findValues yX4_findValues, Cond.code yX4_findValues cX4_findValues 5 none, Cond.methodLink RX4 51 yX4_orderHasValue, Cond.instanceMethod yX4_orderHasValue, Cond.selects RX4 yX4_orderHasValue yX4_orderHasValue, Cond.code yX4_orderHasValue cX4_orderHasValue 4 (some .boolean), Cond.fieldLink RX4 58 "NailedOrders$Door" "links" "[I", Cond.constantFloat RX4 61 (3463342888), Cond.constantFloat RX4 62 (1315859240), Cond.methodLink RX4 54 yX4_orderValue, Cond.instanceMethod yX4_orderValue, Cond.selects RX4 yX4_orderValue yX4_orderValue, Cond.code yX4_orderValue cX4_orderValue 3 (some .float), Cond.fieldLink RX4 63 "NailedOrders$Door" "numbers" "[F"]
def wsL_isRanked_r6 : List Cond := [Cond.fieldLink RX4 66 "NailedOrders$Door" "factors" "[F", Cond.methodLink RX7 184 yX1_hanging, Cond.instanceMethod yX1_hanging, Cond.selects RX1 yX1_hanging yX1_hanging, Cond.code yX1_hanging cX1_hanging 1 (some .int), Cond.methodLink RX1 77 yX1_withFate, Cond.instanceMethod yX1_withFate, Cond.selects RX1 yX1_withFate yX1_withFate, Cond.code yX1_withFate cX1_withFate 4 (some .int), Cond.methodLink RX7 275 yX1_withFate, Cond.methodLink RX7 278 yX4_wordsWithValue, Cond.instanceMethod yX4_wordsWithValue, Cond.selects RX4 yX4_wordsWithValue yX4_wordsWithValue, Cond.code yX4_wordsWithValue cX4_wordsWithValue 3 (some .int), Cond.methodLink RX7 281 yX4_wordsRuledWithoutValue, Cond.instanceMethod yX4_wordsRuledWithoutValue, Cond.selects RX4 yX4_wordsRuledWithoutValue yX4_wordsRuledWithoutValue, Cond.code yX4_wordsRuledWithoutValue cX4_wordsRuledWithoutValue 3 (some .int), Cond.methodLink RX7 284 yX4_wordsInConflict, Cond.instanceMethod yX4_wordsInConflict, Cond.selects RX4 yX4_wordsInConflict yX4_wordsInConflict, Cond.code yX4_wordsInConflict cX4_wordsInConflict 3 (some .int), Cond.methodLink RX4 93 yX4_topmostRival, Cond.instanceMethod yX4_topmostRival]
def wsL_isRanked_r7 : List Cond := [Cond.selects RX4 yX4_topmostRival yX4_topmostRival, Cond.code yX4_topmostRival cX4_topmostRival 4 (some .int), Cond.methodLink RX4 76 yX1_hangsFor, Cond.instanceMethod yX1_hangsFor, Cond.selects RX1 yX1_hangsFor yX1_hangsFor, Cond.code yX1_hangsFor cX1_hangsFor 3 (some .boolean), Cond.methodLink RX1 64 yX1_hangs, Cond.methodLink RX4 79 yX4_areRivals, Cond.instanceMethod yX4_areRivals, Cond.selects RX4 yX4_areRivals yX4_areRivals, Cond.code yX4_areRivals cX4_areRivals 4 (some .boolean), Cond.fieldLink RX4 82 "NailedOrders$Door" "owners" "[I", Cond.methodLink RX4 85 yX4_areFar, Cond.instanceMethod yX4_areFar, Cond.selects RX4 yX4_areFar yX4_areFar, Cond.code yX4_areFar cX4_areFar 4 (some .boolean), Cond.fieldLink RX4 89 "NailedOrders$Door" "tolerance" "F", Cond.methodLink RX7 287 yX4_wordsInRings, Cond.instanceMethod yX4_wordsInRings, Cond.selects RX4 yX4_wordsInRings yX4_wordsInRings, Cond.code yX4_wordsInRings cX4_wordsInRings 3 (some .int), Cond.methodLink RX4 72 yX4_comesTo, Cond.instanceMethod yX4_comesTo, Cond.selects RX4 yX4_comesTo yX4_comesTo]
def wsL_isRanked_r8 : List Cond := [Cond.code yX4_comesTo cX4_comesTo 5 (some .boolean), Cond.methodLink RX4 69 yX4_linkFrom, Cond.instanceMethod yX4_linkFrom, Cond.selects RX4 yX4_linkFrom yX4_linkFrom, Cond.code yX4_linkFrom cX4_linkFrom 3 (some .int), Cond.methodLink RL 100 yX7_addPerson, Cond.instanceMethod yX7_addPerson, Cond.selects RX7 yX7_addPerson yX7_addPerson, Cond.code yX7_addPerson cX7_addPerson 2 (some .int), Cond.methodLink RX7 65 yX7_isRank, Cond.static yX7_isRank, Cond.code yX7_isRank cX7_isRank 1 (some .boolean), Cond.methodLink RX7 76 yX1_admit, Cond.instanceMethod yX1_admit, Cond.selects RX1 yX1_admit yX1_admit, Cond.code yX1_admit cX1_admit 3 (some .int), Cond.methodLink RL 103 yX7_setRank, Cond.instanceMethod yX7_setRank, Cond.selects RX7 yX7_setRank yX7_setRank, Cond.code yX7_setRank cX7_setRank 4 (some .int), Cond.fieldLink RX7 83 "NailedOrders$Door" "ranks" "[I", Cond.methodLink RX7 80 yX1_isPerson, Cond.instanceMethod yX1_isPerson, Cond.selects RX1 yX1_isPerson yX1_isPerson]
def wsL_isRanked_r9 : List Cond := [Cond.code yX1_isPerson cX1_isPerson 2 (some .boolean)]
def wsL_isRanked : List Cond := .code yL_isRanked cL_isRanked 8 (some .boolean) :: ((wsL_isRanked_r1 ++ (wsL_isRanked_r2 ++ (wsL_isRanked_r3 ++ (wsL_isRanked_r4 ++ (wsL_isRanked_r5 ++ (wsL_isRanked_r6 ++ (wsL_isRanked_r7 ++ (wsL_isRanked_r8 ++ wsL_isRanked_r9)))))))) ++ wsX70 ++ wsX10 ++ wsX20 ++ wsX50 ++ wsX40)
def wsL_law_r1 : List Cond := [Cond.classLink RL 30 RX7, Cond.instantiable RX7 9, Cond.initialized RX7, Cond.arrayClass .int, Cond.arrayClass .double, Cond.methodLink RL 106 yX7_init, Cond.instanceMethod yX7_init, Cond.code yX7_init cX7_init 1 none, Cond.methodLink RX7 1 objectInit, Cond.instanceMethod objectInit, Cond.code objectInit ⟨#[0xb1]⟩ 1 none, Cond.classLink RX7 7 RX1, Cond.instantiable RX1 13, Cond.initialized RX1, Cond.fieldLink RX7 10 "NailedOrders" "door" "LNailedOrders$Door;", Cond.fieldLink RX7 16 "NailedOrders" "kept" "LNailedOrders$Door;", Cond.fieldLink RX7 19 "NailedOrders" "hasKept" "Z", Cond.classLink RX7 23 RX2, Cond.instantiable RX2 2, Cond.initialized RX2, Cond.fieldLink RX7 26 "NailedOrders" "history" "LNailedOrders$History;", Cond.classLink RX7 30 RX5, Cond.instantiable RX5 2, Cond.initialized RX5]
def wsL_law_r2 : List Cond := [Cond.fieldLink RX7 33 "NailedOrders" "text" "LNailedOrders$Text;", Cond.classLink RX7 37 RX3, Cond.instantiable RX3 8, Cond.initialized RX3, Cond.fieldLink RX7 42 "NailedOrders" "reader" "LNailedOrders$Reader;", Cond.classLink RX7 46 RX6, Cond.instantiable RX6 2, Cond.initialized RX6, Cond.fieldLink RX7 49 "NailedOrders" "weather" "LNailedOrders$Weather;", Cond.classLink RX7 53 RX4, Cond.instantiable RX4 4, Cond.initialized RX4, Cond.fieldLink RX7 58 "NailedOrders" "now" "LNailedOrders$Reckoning;", Cond.fieldLink RX7 62 "NailedOrders" "without" "LNailedOrders$Reckoning;", Cond.instanceMethod yX1_init, Cond.code yX1_init cX1_init 1 none, Cond.methodLink RX1 3 objectInit, Cond.fieldLink RX1 9 "NailedOrders$Door" "ranks" "[I", Cond.fieldLink RX1 15 "NailedOrders$Door" "owners" "[I", Cond.fieldLink RX1 18 "NailedOrders$Door" "words" "[I", Cond.fieldLink RX1 21 "NailedOrders$Door" "links" "[I", Cond.arrayClass .float, Cond.fieldLink RX1 24 "NailedOrders$Door" "factors" "[F", Cond.fieldLink RX1 28 "NailedOrders$Door" "numbers" "[F"]
def wsL_law_r3 : List Cond := [Cond.fieldLink RX1 31 "NailedOrders$Door" "strengths" "[F", Cond.fieldLink RX1 34 "NailedOrders$Door" "fates" "[I", Cond.methodLink RX7 25 yX2_init, Cond.instanceMethod yX2_init, Cond.code yX2_init cX2_init 2 none, Cond.methodLink RX2 3 objectInit, Cond.classLink RX2 9 RX1, Cond.fieldLink RX2 11 "NailedOrders$History" "doors" "[LNailedOrders$Door;", Cond.instanceMethod yX5_init, Cond.code yX5_init cX5_init 1 none, Cond.methodLink RX5 3 objectInit, Cond.arrayClass .char, Cond.fieldLink RX5 9 "NailedOrders$Text" "signs" "[C", Cond.methodLink RX7 39 yX3_init, Cond.instanceMethod yX3_init, Cond.code yX3_init cX3_init 2 none, Cond.methodLink RX3 3 objectInit, Cond.fieldLink RX3 11 "NailedOrders$Reader" "words" "[I", Cond.fieldLink RX3 15 "NailedOrders$Reader" "others" "[I", Cond.fieldLink RX3 18 "NailedOrders$Reader" "factors" "[F", Cond.fieldLink RX3 22 "NailedOrders$Reader" "numbers" "[F", Cond.fieldLink RX3 25 "NailedOrders$Reader" "text" "LNailedOrders$Text;", Cond.instanceMethod yX6_init, Cond.code yX6_init cX6_init 1 none]
def wsL_law_r4 : List Cond := [Cond.methodLink RX6 3 objectInit, Cond.classLink RX6 9 RX1, Cond.fieldLink RX6 12 "NailedOrders$Weather" "trial" "LNailedOrders$Door;", Cond.fieldLink RX6 18 "NailedOrders$Weather" "over" "[I", Cond.methodLink RX7 55 yX4_init, Cond.instanceMethod yX4_init, Cond.code yX4_init cX4_init 2 none, Cond.methodLink RX4 3 objectInit, Cond.fieldLink RX4 9 "NailedOrders$Reckoning" "rulers" "[I", Cond.arrayClass .boolean, Cond.fieldLink RX4 15 "NailedOrders$Reckoning" "known" "[Z", Cond.fieldLink RX4 19 "NailedOrders$Reckoning" "values" "[F", Cond.fieldLink RX4 23 "NailedOrders$Reckoning" "door" "LNailedOrders$Door;", Cond.methodLink RL 107 yL_cell, Cond.static yL_cell, Cond.initialized RL, Cond.code yL_cell cL_cell 2 (some .int), Cond.constant RL 7 (1013904223), Cond.methodLink RL 68 yL_low, Cond.static yL_low, Cond.code yL_low cL_low 2 (some .int), Cond.constant RL 8 (2147483647), Cond.methodLink RL 100 yX7_addPerson, Cond.instanceMethod yX7_addPerson]
def wsL_law_r5 : List Cond := [Cond.selects RX7 yX7_addPerson yX7_addPerson, Cond.code yX7_addPerson cX7_addPerson 2 (some .int), Cond.fieldLink RX7 69 "NailedOrders$Door" "persons" "I", Cond.methodLink RX7 65 yX7_isRank, Cond.static yX7_isRank, Cond.code yX7_isRank cX7_isRank 1 (some .boolean), Cond.methodLink RX7 73 yX2_record, Cond.instanceMethod yX2_record, Cond.selects RX2 yX2_record yX2_record, Cond.code yX2_record cX2_record 2 none, Cond.fieldLink RX2 18 "NailedOrders$History" "states" "I", Cond.methodLink RX2 22 yX2_dropOldest, Cond.instanceMethod yX2_dropOldest, Cond.selects RX2 yX2_dropOldest yX2_dropOldest, Cond.code yX2_dropOldest cX2_dropOldest 3 none, Cond.methodLink RX2 25 yX1_become, Cond.instanceMethod yX1_become, Cond.selects RX1 yX1_become yX1_become, Cond.code yX1_become cX1_become 2 none, Cond.fieldLink RX1 37 "NailedOrders$Door" "persons" "I", Cond.fieldLink RX1 41 "NailedOrders$Door" "toleranceBits" "I", Cond.fieldLink RX1 44 "NailedOrders$Door" "tolerance" "F", Cond.fieldLink RX1 48 "NailedOrders$Door" "storms" "I", Cond.fieldLink RX1 51 "NailedOrders$Door" "orders" "I"]
def wsL_law_r6 : List Cond := [Cond.methodLink RX1 54 arraycopyName, Cond.native arraycopyName, Cond.static arraycopyName, Cond.initialized "java/lang/System", Cond.methodLink RX7 76 yX1_admit, Cond.instanceMethod yX1_admit, Cond.selects RX1 yX1_admit yX1_admit, Cond.code yX1_admit cX1_admit 3 (some .int), Cond.methodLink RL 111 yL_isStruck, Cond.static yL_isStruck, Cond.code yL_isStruck cL_isStruck 8 (some .boolean), Cond.constantFloat RL 91 (1092616192), Cond.constantFloat RL 92 (1056964608), Cond.constantFloat RL 57 (1120403456), Cond.methodLink RL 85 yX7_tear, Cond.instanceMethod yX7_tear, Cond.selects RX7 yX7_tear yX7_tear, Cond.code yX7_tear cX7_tear 2 (some .int), Cond.fieldLink RX7 125 "NailedOrders$Door" "fates" "[I", Cond.fieldLink RX7 128 "NailedOrders$Door" "words" "[I", Cond.methodLink RX7 119 yX1_isOrder, Cond.instanceMethod yX1_isOrder, Cond.selects RX1 yX1_isOrder yX1_isOrder, Cond.code yX1_isOrder cX1_isOrder 2 (some .boolean)]
def wsL_law_r7 : List Cond := [Cond.methodLink RX7 122 yX1_hangs, Cond.instanceMethod yX1_hangs, Cond.selects RX1 yX1_hangs yX1_hangs, Cond.code yX1_hangs cX1_hangs 2 (some .boolean), Cond.methodLink RX7 131 yX1_hangingFor, Cond.instanceMethod yX1_hangingFor, Cond.selects RX1 yX1_hangingFor yX1_hangingFor, Cond.code yX1_hangingFor cX1_hangingFor 2 (some .int), Cond.methodLink RX1 69 yX1_hangingBetween, Cond.instanceMethod yX1_hangingBetween, Cond.selects RX1 yX1_hangingBetween yX1_hangingBetween, Cond.code yX1_hangingBetween cX1_hangingBetween 6 (some .int), Cond.methodLink RX1 73 yX1_hangsFor, Cond.instanceMethod yX1_hangsFor, Cond.selects RX1 yX1_hangsFor yX1_hangsFor, Cond.code yX1_hangsFor cX1_hangsFor 3 (some .boolean), Cond.methodLink RX1 64 yX1_hangs, Cond.methodLink RL 88 yX7_hammer, Cond.instanceMethod yX7_hammer, Cond.selects RX7 yX7_hammer yX7_hammer, Cond.code yX7_hammer cX7_hammer 3 (some .int), Cond.fieldLink RX7 134 "NailedOrders$Door" "strengths" "[F", Cond.constantFloat RX7 138 (1092616192), Cond.constantFloat RX7 139 (1056964608)]
def wsL_law_r8 : List Cond := [Cond.methodLink RX7 140 yX1_hundredthsOfStrength, Cond.instanceMethod yX1_hundredthsOfStrength, Cond.selects RX1 yX1_hundredthsOfStrength yX1_hundredthsOfStrength, Cond.code yX1_hundredthsOfStrength cX1_hundredthsOfStrength 2 (some .int), Cond.constantFloat RX1 68 (1120403456), Cond.methodLink RL 115 yL_isStormy, Cond.static yL_isStormy, Cond.code yL_isStormy cL_isStormy 9 (some .boolean), Cond.constantFloat RL 93 (1040187392), Cond.methodLink RL 53 yL_over, Cond.static yL_over, Cond.code yL_over cL_over 5 (some .int), Cond.methodLink RL 71 yL_bits, Cond.static yL_bits, Cond.code yL_bits cL_bits 4 (some .int), Cond.constant RL 9 (-2147483648), Cond.methodLink RL 94 yX7_storm, Cond.instanceMethod yX7_storm, Cond.selects RX7 yX7_storm yX7_storm, Cond.code yX7_storm cX7_storm 2 (some .int), Cond.methodLink RX7 143 yX0_areForce, Cond.static yX0_areForce, Cond.initialized RX0, Cond.code yX0_areForce cX0_areForce 1 (some .boolean)]
def wsL_law_r9 : List Cond := [Cond.constantFloat RX0 15 (1036831949), Cond.constantFloat RX0 16 (1092616192), Cond.methodLink RX0 9 yX0_areFrom, Cond.static yX0_areFrom, Cond.code yX0_areFrom cX0_areFrom 4 (some .boolean), Cond.methodLink RX0 18 yX0_exponent, Cond.static yX0_exponent, Cond.code yX0_exponent cX0_exponent 1 (some .int), Cond.methodLink RX0 22 yX0_toFloat, Cond.static yX0_toFloat, Cond.code yX0_toFloat cX0_toFloat 5 (some .float), Cond.constant RX0 26 (8388607), Cond.constant RX0 27 (8388608), Cond.constantFloat RX0 28 (1056964608), Cond.methodLink RX7 95 yX0_toFloat, Cond.methodLink RX7 146 yX6_blow, Cond.instanceMethod yX6_blow, Cond.selects RX6 yX6_blow yX6_blow, Cond.code yX6_blow cX6_blow 6 (some .int), Cond.fieldLink RX6 22 "NailedOrders$Door" "orders" "I", Cond.fieldLink RX6 30 "NailedOrders$Door" "words" "[I", Cond.fieldLink RX6 33 "NailedOrders$Door" "strengths" "[F", Cond.fieldLink RX6 37 "NailedOrders$Door" "fates" "[I", Cond.fieldLink RX6 40 "NailedOrders$Door" "storms" "I"]
def wsL_law_r10 : List Cond := [Cond.methodLink RX6 26 yX1_hangs, Cond.methodLink RL 118 yL_isRanked, Cond.static yL_isRanked, Cond.code yL_isRanked cL_isRanked 8 (some .boolean), Cond.constantDouble RL 83 (4593671619917905920), Cond.methodLink RL 97 yX7_setTolerance, Cond.instanceMethod yX7_setTolerance, Cond.selects RX7 yX7_setTolerance yX7_setTolerance, Cond.code yX7_setTolerance cX7_setTolerance 2 (some .int), Cond.fieldLink RX7 92 "NailedOrders$Door" "toleranceBits" "I", Cond.fieldLink RX7 99 "NailedOrders$Door" "tolerance" "F", Cond.methodLink RX7 87 yX0_areTolerance, Cond.static yX0_areTolerance, Cond.code yX0_areTolerance cX0_areTolerance 1 (some .boolean), Cond.constantFloat RX0 17 (1120403456), Cond.methodLink RL 46 yX7_count, Cond.instanceMethod yX7_count, Cond.selects RX7 yX7_count yX7_count, Cond.code yX7_count cX7_count 2 (some .int), Cond.fieldLink RX7 272 "NailedOrders$Door" "orders" "I", Cond.fieldLink RX7 290 "NailedOrders$Door" "storms" "I", Cond.fieldLink RX7 175 "NailedOrders$History" "states" "I", Cond.fieldLink RX7 150 "NailedOrders$Text" "length" "I", Cond.methodLink RX7 191 yX4_settle]
def wsL_law_r11 : List Cond := [Cond.instanceMethod yX4_settle, Cond.selects RX4 yX4_settle yX4_settle, Cond.code yX4_settle cX4_settle 3 none, Cond.methodLink RX4 27 yX4_findRulers, Cond.instanceMethod yX4_findRulers, Cond.selects RX4 yX4_findRulers yX4_findRulers, Cond.code yX4_findRulers cX4_findRulers 5 none, Cond.fieldLink RX4 34 "NailedOrders$Door" "orders" "I", Cond.fieldLink RX4 44 "NailedOrders$Door" "words" "[I", Cond.methodLink RX4 40 yX1_hangs, Cond.methodLink RX4 47 yX1_rankOf, Cond.instanceMethod yX1_rankOf, Cond.selects RX1 yX1_rankOf yX1_rankOf, Cond.code yX1_rankOf cX1_rankOf 2 (some .int), Cond.methodLink RX4 31 yX4_findValues, Cond.instanceMethod yX4_findValues, Cond.selects RX4 yX4_findValues yX4_findValues, Cond.code yX4_findValues cX4_findValues 5 none, Cond.methodLink RX4 51 yX4_orderHasValue, Cond.instanceMethod yX4_orderHasValue, Cond.selects RX4 yX4_orderHasValue yX4_orderHasValue, Cond.code yX4_orderHasValue cX4_orderHasValue 4 (some .boolean), Cond.fieldLink RX4 58 "NailedOrders$Door" "links" "[I", Cond.constantFloat RX4 61 (3463342888)]
def wsL_law_r12 : List Cond := [Cond.constantFloat RX4 62 (1315859240), Cond.methodLink RX4 54 yX4_orderValue, Cond.instanceMethod yX4_orderValue, Cond.selects RX4 yX4_orderValue yX4_orderValue, Cond.code yX4_orderValue cX4_orderValue 3 (some .float), Cond.fieldLink RX4 63 "NailedOrders$Door" "numbers" "[F", Cond.fieldLink RX4 66 "NailedOrders$Door" "factors" "[F", Cond.methodLink RX7 184 yX1_hanging, Cond.instanceMethod yX1_hanging, Cond.selects RX1 yX1_hanging yX1_hanging, Cond.code yX1_hanging cX1_hanging 1 (some .int), Cond.methodLink RX1 77 yX1_withFate, Cond.instanceMethod yX1_withFate, Cond.selects RX1 yX1_withFate yX1_withFate, Cond.code yX1_withFate cX1_withFate 4 (some .int), Cond.methodLink RX7 275 yX1_withFate, Cond.methodLink RX7 278 yX4_wordsWithValue, Cond.instanceMethod yX4_wordsWithValue, Cond.selects RX4 yX4_wordsWithValue yX4_wordsWithValue, Cond.code yX4_wordsWithValue cX4_wordsWithValue 3 (some .int), Cond.methodLink RX7 281 yX4_wordsRuledWithoutValue, Cond.instanceMethod yX4_wordsRuledWithoutValue, Cond.selects RX4 yX4_wordsRuledWithoutValue yX4_wordsRuledWithoutValue, Cond.code yX4_wordsRuledWithoutValue cX4_wordsRuledWithoutValue 3 (some .int)]
def wsL_law_r13 : List Cond := [Cond.methodLink RX7 284 yX4_wordsInConflict, Cond.instanceMethod yX4_wordsInConflict, Cond.selects RX4 yX4_wordsInConflict yX4_wordsInConflict, Cond.code yX4_wordsInConflict cX4_wordsInConflict 3 (some .int), Cond.methodLink RX4 93 yX4_topmostRival, Cond.instanceMethod yX4_topmostRival, Cond.selects RX4 yX4_topmostRival yX4_topmostRival, Cond.code yX4_topmostRival cX4_topmostRival 4 (some .int), Cond.methodLink RX4 76 yX1_hangsFor, Cond.methodLink RX4 79 yX4_areRivals, Cond.instanceMethod yX4_areRivals, Cond.selects RX4 yX4_areRivals yX4_areRivals, Cond.code yX4_areRivals cX4_areRivals 4 (some .boolean), Cond.fieldLink RX4 82 "NailedOrders$Door" "owners" "[I", Cond.methodLink RX4 85 yX4_areFar, Cond.instanceMethod yX4_areFar, Cond.selects RX4 yX4_areFar yX4_areFar, Cond.code yX4_areFar cX4_areFar 4 (some .boolean), Cond.fieldLink RX4 89 "NailedOrders$Door" "tolerance" "F", Cond.methodLink RX7 287 yX4_wordsInRings, Cond.instanceMethod yX4_wordsInRings, Cond.selects RX4 yX4_wordsInRings yX4_wordsInRings, Cond.code yX4_wordsInRings cX4_wordsInRings 3 (some .int), Cond.methodLink RX4 72 yX4_comesTo]
def wsL_law_r14 : List Cond := [Cond.instanceMethod yX4_comesTo, Cond.selects RX4 yX4_comesTo yX4_comesTo, Cond.code yX4_comesTo cX4_comesTo 5 (some .boolean), Cond.methodLink RX4 69 yX4_linkFrom, Cond.instanceMethod yX4_linkFrom, Cond.selects RX4 yX4_linkFrom yX4_linkFrom, Cond.code yX4_linkFrom cX4_linkFrom 3 (some .int), Cond.methodLink RL 103 yX7_setRank, Cond.instanceMethod yX7_setRank, Cond.selects RX7 yX7_setRank yX7_setRank, Cond.code yX7_setRank cX7_setRank 4 (some .int), Cond.fieldLink RX7 83 "NailedOrders$Door" "ranks" "[I", Cond.methodLink RX7 80 yX1_isPerson, Cond.instanceMethod yX1_isPerson, Cond.selects RX1 yX1_isPerson yX1_isPerson, Cond.code yX1_isPerson cX1_isPerson 2 (some .boolean), Cond.methodLink RL 121 yL_isNailed, Cond.static yL_isNailed, Cond.code yL_isNailed cL_isNailed 15 (some .boolean), Cond.constant RL 82 (2143289344), Cond.methodLink RL 74 yX7_nail, Cond.instanceMethod yX7_nail, Cond.selects RX7 yX7_nail yX7_nail, Cond.code yX7_nail cX7_nail 5 (some .int)]
def wsL_law_r15 : List Cond := [Cond.methodLink RX7 103 yX7_isWord, Cond.static yX7_isWord, Cond.code yX7_isWord cX7_isWord 1 (some .boolean), Cond.methodLink RX7 106 yX0_areNumber, Cond.static yX0_areNumber, Cond.code yX0_areNumber cX0_areNumber 1 (some .boolean), Cond.constantFloat RX0 7 (3296329728), Cond.constantFloat RX0 8 (1148846080), Cond.methodLink RX7 109 yX0_areStrength, Cond.static yX0_areStrength, Cond.code yX0_areStrength cX0_areStrength 1 (some .boolean), Cond.methodLink RX7 112 yX1_hasRoomAfter, Cond.instanceMethod yX1_hasRoomAfter, Cond.selects RX1 yX1_hasRoomAfter yX1_hasRoomAfter, Cond.code yX1_hasRoomAfter cX1_hasRoomAfter 2 (some .boolean), Cond.methodLink RX1 60 yX1_hanging, Cond.methodLink RX7 115 yX1_hang, Cond.instanceMethod yX1_hang, Cond.selects RX1 yX1_hang yX1_hang, Cond.code yX1_hang cX1_hang 8 (some .int), Cond.methodLink RL 78 yX7_nailLink, Cond.instanceMethod yX7_nailLink, Cond.selects RX7 yX7_nailLink yX7_nailLink, Cond.code yX7_nailLink cX7_nailLink 7 (some .int)]
def wsL_law_r16 : List Cond := [Cond.methodLink RL 125 yL_areWords, Cond.static yL_areWords, Cond.code yL_areWords cL_areWords 16 (some .boolean), Cond.methodLink RL 18 yL_has, Cond.static yL_has, Cond.code yL_has cL_has 13 (some .boolean), Cond.constantFloat RL 16 (3463342888), Cond.constantFloat RL 17 (1315859240), Cond.methodLink RL 12 yL_ruling, Cond.static yL_ruling, Cond.code yL_ruling cL_ruling 7 (some .int), Cond.methodLink RL 29 yX7_value, Cond.instanceMethod yX7_value, Cond.selects RX7 yX7_value yX7_value, Cond.code yX7_value cX7_value 2 (some .float), Cond.fieldLink RX7 195 "NailedOrders$Reckoning" "known" "[Z", Cond.fieldLink RX7 199 "NailedOrders$Reckoning" "values" "[F", Cond.methodLink RX7 187 yX7_noFloat, Cond.static yX7_noFloat, Cond.code yX7_noFloat cX7_noFloat 0 (some .float), Cond.constantFloat RX7 293 (2143289344), Cond.methodLink RL 35 yL_conflict, Cond.static yL_conflict, Cond.code yL_conflict cL_conflict 13 (some .int)]
def wsL_law_r17 : List Cond := [Cond.methodLink RL 22 yL_hasOf, Cond.static yL_hasOf, Cond.code yL_hasOf cL_hasOf 7 (some .boolean), Cond.methodLink RL 25 yL_differ, Cond.static yL_differ, Cond.code yL_differ cL_differ 9 (some .boolean), Cond.methodLink RL 39 yX7_word, Cond.instanceMethod yX7_word, Cond.selects RX7 yX7_word yX7_word, Cond.code yX7_word cX7_word 3 (some .int), Cond.fieldLink RX7 208 "NailedOrders$Reckoning" "rulers" "[I", Cond.methodLink RX7 211 yX1_hangingAt, Cond.instanceMethod yX1_hangingAt, Cond.selects RX1 yX1_hangingAt yX1_hangingAt, Cond.code yX1_hangingAt cX1_hangingAt 5 (some .int), Cond.methodLink RX7 215 yX7_oneIf, Cond.static yX7_oneIf, Cond.code yX7_oneIf cX7_oneIf 1 (some .int), Cond.methodLink RX7 219 yX4_topmostRival, Cond.methodLink RX7 222 yX4_dependents, Cond.instanceMethod yX4_dependents, Cond.selects RX4 yX4_dependents yX4_dependents, Cond.code yX4_dependents cX4_dependents 4 (some .int), Cond.methodLink RX7 225 yX4_linksToEnd]
def wsL_law_r18 : List Cond := [Cond.instanceMethod yX4_linksToEnd, Cond.selects RX4 yX4_linksToEnd yX4_linksToEnd, Cond.code yX4_linksToEnd cX4_linksToEnd 4 (some .int), Cond.methodLink RL 43 yX7_hangsAt, Cond.instanceMethod yX7_hangsAt, Cond.selects RX7 yX7_hangsAt yX7_hangsAt, Cond.code yX7_hangsAt cX7_hangsAt 3 (some .int), Cond.methodLink RL 129 yL_areOrders, Cond.static yL_areOrders, Cond.code yL_areOrders cL_areOrders 13 (some .boolean), Cond.methodLink RL 50 yX7_order, Cond.instanceMethod yX7_order, Cond.selects RX7 yX7_order yX7_order, Cond.code yX7_order cX7_order 3 (some .int), Cond.fieldLink RX7 228 "NailedOrders$Door" "owners" "[I", Cond.fieldLink RX7 231 "NailedOrders$Door" "links" "[I", Cond.methodLink RX7 234 yX1_over, Cond.instanceMethod yX1_over, Cond.selects RX1 yX1_over yX1_over, Cond.code yX1_over cX1_over 2 (some .int), Cond.methodLink RX7 237 yX1_beneath, Cond.instanceMethod yX1_beneath, Cond.selects RX1 yX1_beneath yX1_beneath, Cond.code yX1_beneath cX1_beneath 2 (some .int)]
def wsL_law_r19 : List Cond := [Cond.methodLink RX7 240 yX7_rules, Cond.instanceMethod yX7_rules, Cond.selects RX7 yX7_rules yX7_rules, Cond.code yX7_rules cX7_rules 2 (some .boolean), Cond.methodLink RL 58 yX7_real, Cond.instanceMethod yX7_real, Cond.selects RX7 yX7_real yX7_real, Cond.code yX7_real cX7_real 3 (some .float), Cond.fieldLink RX7 243 "NailedOrders$Door" "numbers" "[F", Cond.fieldLink RX7 246 "NailedOrders$Door" "factors" "[F", Cond.methodLink RL 62 yX7_valueOf, Cond.instanceMethod yX7_valueOf, Cond.selects RX7 yX7_valueOf yX7_valueOf, Cond.code yX7_valueOf cX7_valueOf 2 (some .float), Cond.methodLink RX7 202 yX4_orderHasValue, Cond.methodLink RX7 205 yX4_orderValue, Cond.methodLink RL 132 yL_arePersons, Cond.static yL_arePersons, Cond.code yL_arePersons cL_arePersons 11 (some .boolean), Cond.methodLink RL 65 yX7_person, Cond.instanceMethod yX7_person, Cond.selects RX7 yX7_person yX7_person, Cond.code yX7_person cX7_person 3 (some .int), Cond.methodLink RX7 260 yX1_nailedBy]
def wsL_law_r20 : List Cond := [Cond.instanceMethod yX1_nailedBy, Cond.selects RX1 yX1_nailedBy yX1_nailedBy, Cond.code yX1_nailedBy cX1_nailedBy 4 (some .int), Cond.methodLink RX7 263 yX1_hangingBy, Cond.instanceMethod yX1_hangingBy, Cond.selects RX1 yX1_hangingBy yX1_hangingBy, Cond.code yX1_hangingBy cX1_hangingBy 4 (some .int), Cond.methodLink RX7 266 yX7_wordsRuledBy, Cond.instanceMethod yX7_wordsRuledBy, Cond.selects RX7 yX7_wordsRuledBy yX7_wordsRuledBy, Cond.code yX7_wordsRuledBy cX7_wordsRuledBy 5 (some .int), Cond.methodLink RX7 269 yX1_wordsOf, Cond.instanceMethod yX1_wordsOf, Cond.selects RX1 yX1_wordsOf yX1_wordsOf, Cond.code yX1_wordsOf cX1_wordsOf 4 (some .int)]
def wsL_law : List Cond := (wsL_law_r1 ++ (wsL_law_r2 ++ (wsL_law_r3 ++ (wsL_law_r4 ++ (wsL_law_r5 ++ (wsL_law_r6 ++ (wsL_law_r7 ++ (wsL_law_r8 ++ (wsL_law_r9 ++ (wsL_law_r10 ++ (wsL_law_r11 ++ (wsL_law_r12 ++ (wsL_law_r13 ++ (wsL_law_r14 ++ (wsL_law_r15 ++ (wsL_law_r16 ++ (wsL_law_r17 ++ (wsL_law_r18 ++ (wsL_law_r19 ++ wsL_law_r20))))))))))))))))))) ++ wsX70 ++ wsX10 ++ wsX20 ++ wsX50 ++ wsX30 ++ wsX60 ++ wsX40 ++ ([] : List Cond)
set_option maxRecDepth 20000 in
theorem inlX1 : ∀ w ∈ wsX10, w ∈ wsL_law := fun _ h => List.mem_append_left _ (List.mem_append_left _ (List.mem_append_left _ (List.mem_append_left _ (List.mem_append_left _ (List.mem_append_left _ (List.mem_append_right _ h))))))
theorem inlX2 : ∀ w ∈ wsX20, w ∈ wsL_law := fun _ h => List.mem_append_left _ (List.mem_append_left _ (List.mem_append_left _ (List.mem_append_left _ (List.mem_append_left _ (List.mem_append_right _ h)))))
theorem inlX3 : ∀ w ∈ wsX30, w ∈ wsL_law := fun _ h => List.mem_append_left _ (List.mem_append_left _ (List.mem_append_left _ (List.mem_append_right _ h)))
theorem inlX4 : ∀ w ∈ wsX40, w ∈ wsL_law := fun _ h => List.mem_append_left _ (List.mem_append_right _ h)
theorem inlX5 : ∀ w ∈ wsX50, w ∈ wsL_law := fun _ h => List.mem_append_left _ (List.mem_append_left _ (List.mem_append_left _ (List.mem_append_left _ (List.mem_append_right _ h))))
theorem inlX6 : ∀ w ∈ wsX60, w ∈ wsL_law := fun _ h => List.mem_append_left _ (List.mem_append_left _ (List.mem_append_right _ h))
theorem inlX7 : ∀ w ∈ wsX70, w ∈ wsL_law := fun _ h => List.mem_append_left _ (List.mem_append_left _ (List.mem_append_left _ (List.mem_append_left _ (List.mem_append_left _ (List.mem_append_left _ (List.mem_append_left _ (List.mem_append_right _ h)))))))
abbrev vwCl : List vw_C := [(RX1, TX1, 13), (RX2, TX2, 2), (RX3, TX3, 8), (RX4, TX4, 4), (RX5, TX5, 2), (RX6, TX6, 2), (RX7, TX7, 9)]
end
section
set_option maxRecDepth 20000 in
theorem ggX0_areNumber_X0_areFrom : GoodIn wsX0_areNumber wsX0_areFrom := goodIn_r _ [6, 7, 8, 5, 9, 10, 11, 12, 13, 14, 15] (by decide +kernel) (by decide +kernel)
set_option maxRecDepth 20000 in
theorem gX0_areNumber_X0_areFrom : GoodIn wsX0_areNumber (va_wsS RX0 9 yX0_areFrom wsX0_areFrom) := goodIn_app (goodIn_of _ (by decide +kernel)) ggX0_areNumber_X0_areFrom
theorem dX0_areNumber_0 : decode cX0_areNumber 0 = .ok (.iload_n 0, 1) := by decide +kernel
theorem dX0_areNumber_1 : decode cX0_areNumber 1 = .ok (.ldc 7, 2) := by decide +kernel
theorem dX0_areNumber_3 : decode cX0_areNumber 3 = .ok (.ldc 8, 2) := by decide +kernel
theorem dX0_areNumber_5 : decode cX0_areNumber 5 = .ok (.invokestatic 9, 3) := by decide +kernel
theorem dX0_areNumber_8 : decode cX0_areNumber 8 = .ok (.ireturn, 1) := by decide +kernel
set_option maxRecDepth 20000 in
theorem ggX0_areStrength_X0_areFrom : GoodIn wsX0_areStrength wsX0_areFrom := goodIn_r _ [6, 7, 8, 5, 9, 10, 11, 12, 13, 14, 15] (by decide +kernel) (by decide +kernel)
set_option maxRecDepth 20000 in
theorem gX0_areStrength_X0_areFrom : GoodIn wsX0_areStrength (va_wsS RX0 9 yX0_areFrom wsX0_areFrom) := goodIn_app (goodIn_of _ (by decide +kernel)) ggX0_areStrength_X0_areFrom
theorem dX0_areStrength_0 : decode cX0_areStrength 0 = .ok (.iload_n 0, 1) := by decide +kernel
theorem dX0_areStrength_1 : decode cX0_areStrength 1 = .ok (.ldc 15, 2) := by decide +kernel
theorem dX0_areStrength_3 : decode cX0_areStrength 3 = .ok (.ldc 16, 2) := by decide +kernel
theorem dX0_areStrength_5 : decode cX0_areStrength 5 = .ok (.invokestatic 9, 3) := by decide +kernel
theorem dX0_areStrength_8 : decode cX0_areStrength 8 = .ok (.ireturn, 1) := by decide +kernel
set_option maxRecDepth 20000 in
theorem ggX0_areForce_X0_areFrom : GoodIn wsX0_areForce wsX0_areFrom := goodIn_r _ [6, 7, 8, 5, 9, 10, 11, 12, 13, 14, 15] (by decide +kernel) (by decide +kernel)
set_option maxRecDepth 20000 in
theorem gX0_areForce_X0_areFrom : GoodIn wsX0_areForce (va_wsS RX0 9 yX0_areFrom wsX0_areFrom) := goodIn_app (goodIn_of _ (by decide +kernel)) ggX0_areForce_X0_areFrom
theorem dX0_areForce_0 : decode cX0_areForce 0 = .ok (.iload_n 0, 1) := by decide +kernel
theorem dX0_areForce_1 : decode cX0_areForce 1 = .ok (.ldc 15, 2) := by decide +kernel
theorem dX0_areForce_3 : decode cX0_areForce 3 = .ok (.ldc 16, 2) := by decide +kernel
theorem dX0_areForce_5 : decode cX0_areForce 5 = .ok (.invokestatic 9, 3) := by decide +kernel
theorem dX0_areForce_8 : decode cX0_areForce 8 = .ok (.ireturn, 1) := by decide +kernel
set_option maxRecDepth 20000 in
theorem ggX0_areTolerance_X0_areFrom : GoodIn wsX0_areTolerance wsX0_areFrom := goodIn_r _ [5, 6, 7, 4, 8, 9, 10, 11, 12, 13, 14] (by decide +kernel) (by decide +kernel)
set_option maxRecDepth 20000 in
theorem gX0_areTolerance_X0_areFrom : GoodIn wsX0_areTolerance (va_wsS RX0 9 yX0_areFrom wsX0_areFrom) := goodIn_app (goodIn_of _ (by decide +kernel)) ggX0_areTolerance_X0_areFrom
theorem dX0_areTolerance_0 : decode cX0_areTolerance 0 = .ok (.iload_n 0, 1) := by decide +kernel
theorem dX0_areTolerance_1 : decode cX0_areTolerance 1 = .ok (.ifCond .lt 17, 3) := by decide +kernel
theorem dX0_areTolerance_4 : decode cX0_areTolerance 4 = .ok (.iload_n 0, 1) := by decide +kernel
theorem dX0_areTolerance_5 : decode cX0_areTolerance 5 = .ok (.fconst 0, 1) := by decide +kernel
theorem dX0_areTolerance_6 : decode cX0_areTolerance 6 = .ok (.ldc 17, 2) := by decide +kernel
theorem dX0_areTolerance_8 : decode cX0_areTolerance 8 = .ok (.invokestatic 9, 3) := by decide +kernel
theorem dX0_areTolerance_11 : decode cX0_areTolerance 11 = .ok (.ifCond .eq 7, 3) := by decide +kernel
theorem dX0_areTolerance_14 : decode cX0_areTolerance 14 = .ok (.iconst 1, 1) := by decide +kernel
theorem dX0_areTolerance_15 : decode cX0_areTolerance 15 = .ok (.goto 4, 3) := by decide +kernel
theorem dX0_areTolerance_18 : decode cX0_areTolerance 18 = .ok (.iconst 0, 1) := by decide +kernel
theorem dX0_areTolerance_19 : decode cX0_areTolerance 19 = .ok (.ireturn, 1) := by decide +kernel
set_option maxRecDepth 20000 in
theorem ggX0_areFrom_X0_exponent : GoodIn wsX0_areFrom wsX0_exponent := goodIn_r _ [4] (by decide +kernel) (by decide +kernel)
set_option maxRecDepth 20000 in
theorem gX0_areFrom_X0_exponent : GoodIn wsX0_areFrom (va_wsS RX0 18 yX0_exponent wsX0_exponent) := goodIn_app (goodIn_of _ (by decide +kernel)) ggX0_areFrom_X0_exponent
set_option maxRecDepth 20000 in
theorem ggX0_areFrom_X0_toFloat : GoodIn wsX0_areFrom wsX0_toFloat := goodIn_r _ [7, 8, 9, 10, 1, 2, 3, 4] (by decide +kernel) (by decide +kernel)
set_option maxRecDepth 20000 in
theorem gX0_areFrom_X0_toFloat : GoodIn wsX0_areFrom (va_wsS RX0 22 yX0_toFloat wsX0_toFloat) := goodIn_app (goodIn_of _ (by decide +kernel)) ggX0_areFrom_X0_toFloat
theorem dX0_areFrom_0 : decode cX0_areFrom 0 = .ok (.iload_n 0, 1) := by decide +kernel
theorem dX0_areFrom_1 : decode cX0_areFrom 1 = .ok (.invokestatic 18, 3) := by decide +kernel
theorem dX0_areFrom_4 : decode cX0_areFrom 4 = .ok (.sipush 150, 3) := by decide +kernel
theorem dX0_areFrom_7 : decode cX0_areFrom 7 = .ok (.if_icmp .le 5, 3) := by decide +kernel
theorem dX0_areFrom_10 : decode cX0_areFrom 10 = .ok (.iconst 0, 1) := by decide +kernel
theorem dX0_areFrom_11 : decode cX0_areFrom 11 = .ok (.ireturn, 1) := by decide +kernel
theorem dX0_areFrom_12 : decode cX0_areFrom 12 = .ok (.iload_n 0, 1) := by decide +kernel
theorem dX0_areFrom_13 : decode cX0_areFrom 13 = .ok (.invokestatic 22, 3) := by decide +kernel
theorem dX0_areFrom_16 : decode cX0_areFrom 16 = .ok (.fstore_n 3, 1) := by decide +kernel
theorem dX0_areFrom_17 : decode cX0_areFrom 17 = .ok (.fload_n 3, 1) := by decide +kernel
theorem dX0_areFrom_18 : decode cX0_areFrom 18 = .ok (.fload_n 1, 1) := by decide +kernel
theorem dX0_areFrom_19 : decode cX0_areFrom 19 = .ok (.fcmp .l, 1) := by decide +kernel
theorem dX0_areFrom_20 : decode cX0_areFrom 20 = .ok (.ifCond .lt 13, 3) := by decide +kernel
theorem dX0_areFrom_23 : decode cX0_areFrom 23 = .ok (.fload_n 3, 1) := by decide +kernel
theorem dX0_areFrom_24 : decode cX0_areFrom 24 = .ok (.fload_n 2, 1) := by decide +kernel
theorem dX0_areFrom_25 : decode cX0_areFrom 25 = .ok (.fcmp .g, 1) := by decide +kernel
theorem dX0_areFrom_26 : decode cX0_areFrom 26 = .ok (.ifCond .gt 7, 3) := by decide +kernel
theorem dX0_areFrom_29 : decode cX0_areFrom 29 = .ok (.iconst 1, 1) := by decide +kernel
theorem dX0_areFrom_30 : decode cX0_areFrom 30 = .ok (.goto 4, 3) := by decide +kernel
theorem dX0_areFrom_33 : decode cX0_areFrom 33 = .ok (.iconst 0, 1) := by decide +kernel
theorem dX0_areFrom_34 : decode cX0_areFrom 34 = .ok (.ireturn, 1) := by decide +kernel
theorem dX0_exponent_0 : decode cX0_exponent 0 = .ok (.iload_n 0, 1) := by decide +kernel
theorem dX0_exponent_1 : decode cX0_exponent 1 = .ok (.bipush 23, 2) := by decide +kernel
theorem dX0_exponent_3 : decode cX0_exponent 3 = .ok (.iushr, 1) := by decide +kernel
theorem dX0_exponent_4 : decode cX0_exponent 4 = .ok (.sipush 255, 3) := by decide +kernel
theorem dX0_exponent_7 : decode cX0_exponent 7 = .ok (.iand, 1) := by decide +kernel
theorem dX0_exponent_8 : decode cX0_exponent 8 = .ok (.ireturn, 1) := by decide +kernel
set_option maxRecDepth 20000 in
theorem ggX0_toFloat_X0_exponent : GoodIn wsX0_toFloat wsX0_exponent := goodIn_r _ [7] (by decide +kernel) (by decide +kernel)
set_option maxRecDepth 20000 in
theorem gX0_toFloat_X0_exponent : GoodIn wsX0_toFloat (va_wsS RX0 18 yX0_exponent wsX0_exponent) := goodIn_app (goodIn_of _ (by decide +kernel)) ggX0_toFloat_X0_exponent
theorem dX0_toFloat_0 : decode cX0_toFloat 0 = .ok (.iload_n 0, 1) := by decide +kernel
theorem dX0_toFloat_1 : decode cX0_toFloat 1 = .ok (.invokestatic 18, 3) := by decide +kernel
theorem dX0_toFloat_4 : decode cX0_toFloat 4 = .ok (.istore_n 1, 1) := by decide +kernel
theorem dX0_toFloat_5 : decode cX0_toFloat 5 = .ok (.iload_n 0, 1) := by decide +kernel
theorem dX0_toFloat_6 : decode cX0_toFloat 6 = .ok (.ldc 26, 2) := by decide +kernel
theorem dX0_toFloat_8 : decode cX0_toFloat 8 = .ok (.iand, 1) := by decide +kernel
theorem dX0_toFloat_9 : decode cX0_toFloat 9 = .ok (.istore_n 2, 1) := by decide +kernel
theorem dX0_toFloat_10 : decode cX0_toFloat 10 = .ok (.iload_n 1, 1) := by decide +kernel
theorem dX0_toFloat_11 : decode cX0_toFloat 11 = .ok (.ifCond .le 11, 3) := by decide +kernel
theorem dX0_toFloat_14 : decode cX0_toFloat 14 = .ok (.iload_n 2, 1) := by decide +kernel
theorem dX0_toFloat_15 : decode cX0_toFloat 15 = .ok (.ldc 27, 2) := by decide +kernel
theorem dX0_toFloat_17 : decode cX0_toFloat 17 = .ok (.iadd, 1) := by decide +kernel
theorem dX0_toFloat_18 : decode cX0_toFloat 18 = .ok (.istore_n 2, 1) := by decide +kernel
theorem dX0_toFloat_19 : decode cX0_toFloat 19 = .ok (.goto 5, 3) := by decide +kernel
theorem dX0_toFloat_22 : decode cX0_toFloat 22 = .ok (.iconst 1, 1) := by decide +kernel
theorem dX0_toFloat_23 : decode cX0_toFloat 23 = .ok (.istore_n 1, 1) := by decide +kernel
theorem dX0_toFloat_24 : decode cX0_toFloat 24 = .ok (.iload_n 2, 1) := by decide +kernel
theorem dX0_toFloat_25 : decode cX0_toFloat 25 = .ok (.i2f, 1) := by decide +kernel
theorem dX0_toFloat_26 : decode cX0_toFloat 26 = .ok (.fstore_n 3, 1) := by decide +kernel
theorem dX0_toFloat_27 : decode cX0_toFloat 27 = .ok (.iload_n 1, 1) := by decide +kernel
theorem dX0_toFloat_28 : decode cX0_toFloat 28 = .ok (.istore 4, 2) := by decide +kernel
theorem dX0_toFloat_30 : decode cX0_toFloat 30 = .ok (.iload 4, 2) := by decide +kernel
theorem dX0_toFloat_32 : decode cX0_toFloat 32 = .ok (.sipush 150, 3) := by decide +kernel
theorem dX0_toFloat_35 : decode cX0_toFloat 35 = .ok (.if_icmp .ge 14, 3) := by decide +kernel
theorem dX0_toFloat_38 : decode cX0_toFloat 38 = .ok (.fload_n 3, 1) := by decide +kernel
theorem dX0_toFloat_39 : decode cX0_toFloat 39 = .ok (.ldc 28, 2) := by decide +kernel
theorem dX0_toFloat_41 : decode cX0_toFloat 41 = .ok (.fmul, 1) := by decide +kernel
theorem dX0_toFloat_42 : decode cX0_toFloat 42 = .ok (.fstore_n 3, 1) := by decide +kernel
theorem dX0_toFloat_43 : decode cX0_toFloat 43 = .ok (.iinc 4 1, 3) := by decide +kernel
theorem dX0_toFloat_46 : decode cX0_toFloat 46 = .ok (.goto (-16), 3) := by decide +kernel
theorem dX0_toFloat_49 : decode cX0_toFloat 49 = .ok (.iload_n 0, 1) := by decide +kernel
theorem dX0_toFloat_50 : decode cX0_toFloat 50 = .ok (.ifCond .ge 8, 3) := by decide +kernel
theorem dX0_toFloat_53 : decode cX0_toFloat 53 = .ok (.fload_n 3, 1) := by decide +kernel
theorem dX0_toFloat_54 : decode cX0_toFloat 54 = .ok (.fneg, 1) := by decide +kernel
theorem dX0_toFloat_55 : decode cX0_toFloat 55 = .ok (.goto 4, 3) := by decide +kernel
theorem dX0_toFloat_58 : decode cX0_toFloat 58 = .ok (.fload_n 3, 1) := by decide +kernel
theorem dX0_toFloat_59 : decode cX0_toFloat 59 = .ok (.freturn, 1) := by decide +kernel
theorem dX1_init_0 : decode cX1_init 0 = .ok (.aload_n 0, 1) := by decide +kernel
theorem dX1_init_1 : decode cX1_init 1 = .ok (.invokespecial 3, 3) := by decide +kernel
theorem dX1_init_4 : decode cX1_init 4 = .ok (.aload_n 0, 1) := by decide +kernel
theorem dX1_init_5 : decode cX1_init 5 = .ok (.bipush 6, 2) := by decide +kernel
theorem dX1_init_7 : decode cX1_init 7 = .ok (.newarray .int, 2) := by decide +kernel
theorem dX1_init_9 : decode cX1_init 9 = .ok (.putfield 9, 3) := by decide +kernel
theorem dX1_init_12 : decode cX1_init 12 = .ok (.aload_n 0, 1) := by decide +kernel
theorem dX1_init_13 : decode cX1_init 13 = .ok (.bipush 40, 2) := by decide +kernel
theorem dX1_init_15 : decode cX1_init 15 = .ok (.newarray .int, 2) := by decide +kernel
theorem dX1_init_17 : decode cX1_init 17 = .ok (.putfield 15, 3) := by decide +kernel
theorem dX1_init_20 : decode cX1_init 20 = .ok (.aload_n 0, 1) := by decide +kernel
theorem dX1_init_21 : decode cX1_init 21 = .ok (.bipush 40, 2) := by decide +kernel
theorem dX1_init_23 : decode cX1_init 23 = .ok (.newarray .int, 2) := by decide +kernel
theorem dX1_init_25 : decode cX1_init 25 = .ok (.putfield 18, 3) := by decide +kernel
theorem dX1_init_28 : decode cX1_init 28 = .ok (.aload_n 0, 1) := by decide +kernel
theorem dX1_init_29 : decode cX1_init 29 = .ok (.bipush 40, 2) := by decide +kernel
theorem dX1_init_31 : decode cX1_init 31 = .ok (.newarray .int, 2) := by decide +kernel
theorem dX1_init_33 : decode cX1_init 33 = .ok (.putfield 21, 3) := by decide +kernel
theorem dX1_init_36 : decode cX1_init 36 = .ok (.aload_n 0, 1) := by decide +kernel
theorem dX1_init_37 : decode cX1_init 37 = .ok (.bipush 40, 2) := by decide +kernel
theorem dX1_init_39 : decode cX1_init 39 = .ok (.newarray .float, 2) := by decide +kernel
theorem dX1_init_41 : decode cX1_init 41 = .ok (.putfield 24, 3) := by decide +kernel
theorem dX1_init_44 : decode cX1_init 44 = .ok (.aload_n 0, 1) := by decide +kernel
theorem dX1_init_45 : decode cX1_init 45 = .ok (.bipush 40, 2) := by decide +kernel
theorem dX1_init_47 : decode cX1_init 47 = .ok (.newarray .float, 2) := by decide +kernel
theorem dX1_init_49 : decode cX1_init 49 = .ok (.putfield 28, 3) := by decide +kernel
theorem dX1_init_52 : decode cX1_init 52 = .ok (.aload_n 0, 1) := by decide +kernel
theorem dX1_init_53 : decode cX1_init 53 = .ok (.bipush 40, 2) := by decide +kernel
theorem dX1_init_55 : decode cX1_init 55 = .ok (.newarray .float, 2) := by decide +kernel
theorem dX1_init_57 : decode cX1_init 57 = .ok (.putfield 31, 3) := by decide +kernel
theorem dX1_init_60 : decode cX1_init 60 = .ok (.aload_n 0, 1) := by decide +kernel
theorem dX1_init_61 : decode cX1_init 61 = .ok (.bipush 40, 2) := by decide +kernel
theorem dX1_init_63 : decode cX1_init 63 = .ok (.newarray .int, 2) := by decide +kernel
theorem dX1_init_65 : decode cX1_init 65 = .ok (.putfield 34, 3) := by decide +kernel
theorem dX1_init_68 : decode cX1_init 68 = .ok (.return_, 1) := by decide +kernel
theorem dX1_become_0 : decode cX1_become 0 = .ok (.aload_n 0, 1) := by decide +kernel
theorem dX1_become_1 : decode cX1_become 1 = .ok (.aload_n 1, 1) := by decide +kernel
theorem dX1_become_2 : decode cX1_become 2 = .ok (.getfield 37, 3) := by decide +kernel
theorem dX1_become_5 : decode cX1_become 5 = .ok (.putfield 37, 3) := by decide +kernel
theorem dX1_become_8 : decode cX1_become 8 = .ok (.aload_n 0, 1) := by decide +kernel
theorem dX1_become_9 : decode cX1_become 9 = .ok (.aload_n 1, 1) := by decide +kernel
theorem dX1_become_10 : decode cX1_become 10 = .ok (.getfield 41, 3) := by decide +kernel
theorem dX1_become_13 : decode cX1_become 13 = .ok (.putfield 41, 3) := by decide +kernel
theorem dX1_become_16 : decode cX1_become 16 = .ok (.aload_n 0, 1) := by decide +kernel
theorem dX1_become_17 : decode cX1_become 17 = .ok (.aload_n 1, 1) := by decide +kernel
theorem dX1_become_18 : decode cX1_become 18 = .ok (.getfield 44, 3) := by decide +kernel
theorem dX1_become_21 : decode cX1_become 21 = .ok (.putfield 44, 3) := by decide +kernel
theorem dX1_become_24 : decode cX1_become 24 = .ok (.aload_n 0, 1) := by decide +kernel
theorem dX1_become_25 : decode cX1_become 25 = .ok (.aload_n 1, 1) := by decide +kernel
theorem dX1_become_26 : decode cX1_become 26 = .ok (.getfield 48, 3) := by decide +kernel
theorem dX1_become_29 : decode cX1_become 29 = .ok (.putfield 48, 3) := by decide +kernel
theorem dX1_become_32 : decode cX1_become 32 = .ok (.aload_n 0, 1) := by decide +kernel
theorem dX1_become_33 : decode cX1_become 33 = .ok (.aload_n 1, 1) := by decide +kernel
theorem dX1_become_34 : decode cX1_become 34 = .ok (.getfield 51, 3) := by decide +kernel
theorem dX1_become_37 : decode cX1_become 37 = .ok (.putfield 51, 3) := by decide +kernel
theorem dX1_become_40 : decode cX1_become 40 = .ok (.aload_n 1, 1) := by decide +kernel
theorem dX1_become_41 : decode cX1_become 41 = .ok (.getfield 9, 3) := by decide +kernel
theorem dX1_become_44 : decode cX1_become 44 = .ok (.iconst 0, 1) := by decide +kernel
theorem dX1_become_45 : decode cX1_become 45 = .ok (.aload_n 0, 1) := by decide +kernel
theorem dX1_become_46 : decode cX1_become 46 = .ok (.getfield 9, 3) := by decide +kernel
theorem dX1_become_49 : decode cX1_become 49 = .ok (.iconst 0, 1) := by decide +kernel
theorem dX1_become_50 : decode cX1_become 50 = .ok (.bipush 6, 2) := by decide +kernel
theorem dX1_become_52 : decode cX1_become 52 = .ok (.invokestatic 54, 3) := by decide +kernel
theorem dX1_become_55 : decode cX1_become 55 = .ok (.aload_n 1, 1) := by decide +kernel
theorem dX1_become_56 : decode cX1_become 56 = .ok (.getfield 15, 3) := by decide +kernel
theorem dX1_become_59 : decode cX1_become 59 = .ok (.iconst 0, 1) := by decide +kernel
theorem dX1_become_60 : decode cX1_become 60 = .ok (.aload_n 0, 1) := by decide +kernel
theorem dX1_become_61 : decode cX1_become 61 = .ok (.getfield 15, 3) := by decide +kernel
theorem dX1_become_64 : decode cX1_become 64 = .ok (.iconst 0, 1) := by decide +kernel
theorem dX1_become_65 : decode cX1_become 65 = .ok (.bipush 40, 2) := by decide +kernel
theorem dX1_become_67 : decode cX1_become 67 = .ok (.invokestatic 54, 3) := by decide +kernel
theorem dX1_become_70 : decode cX1_become 70 = .ok (.aload_n 1, 1) := by decide +kernel
theorem dX1_become_71 : decode cX1_become 71 = .ok (.getfield 18, 3) := by decide +kernel
theorem dX1_become_74 : decode cX1_become 74 = .ok (.iconst 0, 1) := by decide +kernel
theorem dX1_become_75 : decode cX1_become 75 = .ok (.aload_n 0, 1) := by decide +kernel
theorem dX1_become_76 : decode cX1_become 76 = .ok (.getfield 18, 3) := by decide +kernel
theorem dX1_become_79 : decode cX1_become 79 = .ok (.iconst 0, 1) := by decide +kernel
theorem dX1_become_80 : decode cX1_become 80 = .ok (.bipush 40, 2) := by decide +kernel
theorem dX1_become_82 : decode cX1_become 82 = .ok (.invokestatic 54, 3) := by decide +kernel
theorem dX1_become_85 : decode cX1_become 85 = .ok (.aload_n 1, 1) := by decide +kernel
theorem dX1_become_86 : decode cX1_become 86 = .ok (.getfield 21, 3) := by decide +kernel
theorem dX1_become_89 : decode cX1_become 89 = .ok (.iconst 0, 1) := by decide +kernel
theorem dX1_become_90 : decode cX1_become 90 = .ok (.aload_n 0, 1) := by decide +kernel
theorem dX1_become_91 : decode cX1_become 91 = .ok (.getfield 21, 3) := by decide +kernel
theorem dX1_become_94 : decode cX1_become 94 = .ok (.iconst 0, 1) := by decide +kernel
theorem dX1_become_95 : decode cX1_become 95 = .ok (.bipush 40, 2) := by decide +kernel
theorem dX1_become_97 : decode cX1_become 97 = .ok (.invokestatic 54, 3) := by decide +kernel
theorem dX1_become_100 : decode cX1_become 100 = .ok (.aload_n 1, 1) := by decide +kernel
theorem dX1_become_101 : decode cX1_become 101 = .ok (.getfield 24, 3) := by decide +kernel
theorem dX1_become_104 : decode cX1_become 104 = .ok (.iconst 0, 1) := by decide +kernel
theorem dX1_become_105 : decode cX1_become 105 = .ok (.aload_n 0, 1) := by decide +kernel
theorem dX1_become_106 : decode cX1_become 106 = .ok (.getfield 24, 3) := by decide +kernel
theorem dX1_become_109 : decode cX1_become 109 = .ok (.iconst 0, 1) := by decide +kernel
theorem dX1_become_110 : decode cX1_become 110 = .ok (.bipush 40, 2) := by decide +kernel
theorem dX1_become_112 : decode cX1_become 112 = .ok (.invokestatic 54, 3) := by decide +kernel
theorem dX1_become_115 : decode cX1_become 115 = .ok (.aload_n 1, 1) := by decide +kernel
theorem dX1_become_116 : decode cX1_become 116 = .ok (.getfield 28, 3) := by decide +kernel
theorem dX1_become_119 : decode cX1_become 119 = .ok (.iconst 0, 1) := by decide +kernel
theorem dX1_become_120 : decode cX1_become 120 = .ok (.aload_n 0, 1) := by decide +kernel
theorem dX1_become_121 : decode cX1_become 121 = .ok (.getfield 28, 3) := by decide +kernel
theorem dX1_become_124 : decode cX1_become 124 = .ok (.iconst 0, 1) := by decide +kernel
theorem dX1_become_125 : decode cX1_become 125 = .ok (.bipush 40, 2) := by decide +kernel
theorem dX1_become_127 : decode cX1_become 127 = .ok (.invokestatic 54, 3) := by decide +kernel
theorem dX1_become_130 : decode cX1_become 130 = .ok (.aload_n 1, 1) := by decide +kernel
theorem dX1_become_131 : decode cX1_become 131 = .ok (.getfield 31, 3) := by decide +kernel
theorem dX1_become_134 : decode cX1_become 134 = .ok (.iconst 0, 1) := by decide +kernel
theorem dX1_become_135 : decode cX1_become 135 = .ok (.aload_n 0, 1) := by decide +kernel
theorem dX1_become_136 : decode cX1_become 136 = .ok (.getfield 31, 3) := by decide +kernel
theorem dX1_become_139 : decode cX1_become 139 = .ok (.iconst 0, 1) := by decide +kernel
theorem dX1_become_140 : decode cX1_become 140 = .ok (.bipush 40, 2) := by decide +kernel
theorem dX1_become_142 : decode cX1_become 142 = .ok (.invokestatic 54, 3) := by decide +kernel
theorem dX1_become_145 : decode cX1_become 145 = .ok (.aload_n 1, 1) := by decide +kernel
theorem dX1_become_146 : decode cX1_become 146 = .ok (.getfield 34, 3) := by decide +kernel
theorem dX1_become_149 : decode cX1_become 149 = .ok (.iconst 0, 1) := by decide +kernel
theorem dX1_become_150 : decode cX1_become 150 = .ok (.aload_n 0, 1) := by decide +kernel
theorem dX1_become_151 : decode cX1_become 151 = .ok (.getfield 34, 3) := by decide +kernel
theorem dX1_become_154 : decode cX1_become 154 = .ok (.iconst 0, 1) := by decide +kernel
theorem dX1_become_155 : decode cX1_become 155 = .ok (.bipush 40, 2) := by decide +kernel
theorem dX1_become_157 : decode cX1_become 157 = .ok (.invokestatic 54, 3) := by decide +kernel
theorem dX1_become_160 : decode cX1_become 160 = .ok (.return_, 1) := by decide +kernel
theorem dX1_isPerson_0 : decode cX1_isPerson 0 = .ok (.iload_n 1, 1) := by decide +kernel
theorem dX1_isPerson_1 : decode cX1_isPerson 1 = .ok (.ifCond .lt 15, 3) := by decide +kernel
theorem dX1_isPerson_4 : decode cX1_isPerson 4 = .ok (.iload_n 1, 1) := by decide +kernel
theorem dX1_isPerson_5 : decode cX1_isPerson 5 = .ok (.aload_n 0, 1) := by decide +kernel
theorem dX1_isPerson_6 : decode cX1_isPerson 6 = .ok (.getfield 37, 3) := by decide +kernel
theorem dX1_isPerson_9 : decode cX1_isPerson 9 = .ok (.if_icmp .ge 7, 3) := by decide +kernel
theorem dX1_isPerson_12 : decode cX1_isPerson 12 = .ok (.iconst 1, 1) := by decide +kernel
theorem dX1_isPerson_13 : decode cX1_isPerson 13 = .ok (.goto 4, 3) := by decide +kernel
theorem dX1_isPerson_16 : decode cX1_isPerson 16 = .ok (.iconst 0, 1) := by decide +kernel
theorem dX1_isPerson_17 : decode cX1_isPerson 17 = .ok (.ireturn, 1) := by decide +kernel
theorem dX1_isOrder_0 : decode cX1_isOrder 0 = .ok (.iload_n 1, 1) := by decide +kernel
theorem dX1_isOrder_1 : decode cX1_isOrder 1 = .ok (.ifCond .lt 15, 3) := by decide +kernel
theorem dX1_isOrder_4 : decode cX1_isOrder 4 = .ok (.iload_n 1, 1) := by decide +kernel
theorem dX1_isOrder_5 : decode cX1_isOrder 5 = .ok (.aload_n 0, 1) := by decide +kernel
theorem dX1_isOrder_6 : decode cX1_isOrder 6 = .ok (.getfield 51, 3) := by decide +kernel
theorem dX1_isOrder_9 : decode cX1_isOrder 9 = .ok (.if_icmp .ge 7, 3) := by decide +kernel
theorem dX1_isOrder_12 : decode cX1_isOrder 12 = .ok (.iconst 1, 1) := by decide +kernel
theorem dX1_isOrder_13 : decode cX1_isOrder 13 = .ok (.goto 4, 3) := by decide +kernel
theorem dX1_isOrder_16 : decode cX1_isOrder 16 = .ok (.iconst 0, 1) := by decide +kernel
theorem dX1_isOrder_17 : decode cX1_isOrder 17 = .ok (.ireturn, 1) := by decide +kernel
theorem dX1_admit_0 : decode cX1_admit 0 = .ok (.aload_n 0, 1) := by decide +kernel
theorem dX1_admit_1 : decode cX1_admit 1 = .ok (.getfield 37, 3) := by decide +kernel
theorem dX1_admit_4 : decode cX1_admit 4 = .ok (.istore_n 2, 1) := by decide +kernel
theorem dX1_admit_5 : decode cX1_admit 5 = .ok (.aload_n 0, 1) := by decide +kernel
theorem dX1_admit_6 : decode cX1_admit 6 = .ok (.getfield 9, 3) := by decide +kernel
theorem dX1_admit_9 : decode cX1_admit 9 = .ok (.iload_n 2, 1) := by decide +kernel
theorem dX1_admit_10 : decode cX1_admit 10 = .ok (.iload_n 1, 1) := by decide +kernel
theorem dX1_admit_11 : decode cX1_admit 11 = .ok (.iastore, 1) := by decide +kernel
theorem dX1_admit_12 : decode cX1_admit 12 = .ok (.aload_n 0, 1) := by decide +kernel
theorem dX1_admit_13 : decode cX1_admit 13 = .ok (.dup, 1) := by decide +kernel
theorem dX1_admit_14 : decode cX1_admit 14 = .ok (.getfield 37, 3) := by decide +kernel
theorem dX1_admit_17 : decode cX1_admit 17 = .ok (.iconst 1, 1) := by decide +kernel
theorem dX1_admit_18 : decode cX1_admit 18 = .ok (.iadd, 1) := by decide +kernel
theorem dX1_admit_19 : decode cX1_admit 19 = .ok (.putfield 37, 3) := by decide +kernel
theorem dX1_admit_22 : decode cX1_admit 22 = .ok (.iload_n 2, 1) := by decide +kernel
theorem dX1_admit_23 : decode cX1_admit 23 = .ok (.ireturn, 1) := by decide +kernel
set_option maxRecDepth 20000 in
theorem ggX1_hasRoomAfter_X1_hanging : GoodIn wsX1_hasRoomAfter wsX1_hanging := goodIn_r _ [6, 7, 8, 9, 5, 10, 1, 11, 12, 13, 14, 15, 16, 17, 18, 19, 20, 21, 22, 23, 24] (by decide +kernel) (by decide +kernel)
set_option maxRecDepth 20000 in
theorem gX1_hasRoomAfter_X1_hanging : GoodIn wsX1_hasRoomAfter (wsV RX1 60 RX1 yX1_hanging wsX1_hanging) := goodIn_app (goodIn_of _ (by decide +kernel)) ggX1_hasRoomAfter_X1_hanging
theorem dX1_hasRoomAfter_0 : decode cX1_hasRoomAfter 0 = .ok (.aload_n 0, 1) := by decide +kernel
theorem dX1_hasRoomAfter_1 : decode cX1_hasRoomAfter 1 = .ok (.invokevirtual 60, 3) := by decide +kernel
theorem dX1_hasRoomAfter_4 : decode cX1_hasRoomAfter 4 = .ok (.iload_n 1, 1) := by decide +kernel
theorem dX1_hasRoomAfter_5 : decode cX1_hasRoomAfter 5 = .ok (.iadd, 1) := by decide +kernel
theorem dX1_hasRoomAfter_6 : decode cX1_hasRoomAfter 6 = .ok (.bipush 24, 2) := by decide +kernel
theorem dX1_hasRoomAfter_8 : decode cX1_hasRoomAfter 8 = .ok (.if_icmp .ge 18, 3) := by decide +kernel
theorem dX1_hasRoomAfter_11 : decode cX1_hasRoomAfter 11 = .ok (.aload_n 0, 1) := by decide +kernel
theorem dX1_hasRoomAfter_12 : decode cX1_hasRoomAfter 12 = .ok (.getfield 51, 3) := by decide +kernel
theorem dX1_hasRoomAfter_15 : decode cX1_hasRoomAfter 15 = .ok (.iload_n 1, 1) := by decide +kernel
theorem dX1_hasRoomAfter_16 : decode cX1_hasRoomAfter 16 = .ok (.iadd, 1) := by decide +kernel
theorem dX1_hasRoomAfter_17 : decode cX1_hasRoomAfter 17 = .ok (.bipush 40, 2) := by decide +kernel
theorem dX1_hasRoomAfter_19 : decode cX1_hasRoomAfter 19 = .ok (.if_icmp .ge 7, 3) := by decide +kernel
theorem dX1_hasRoomAfter_22 : decode cX1_hasRoomAfter 22 = .ok (.iconst 1, 1) := by decide +kernel
theorem dX1_hasRoomAfter_23 : decode cX1_hasRoomAfter 23 = .ok (.goto 4, 3) := by decide +kernel
theorem dX1_hasRoomAfter_26 : decode cX1_hasRoomAfter 26 = .ok (.iconst 0, 1) := by decide +kernel
theorem dX1_hasRoomAfter_27 : decode cX1_hasRoomAfter 27 = .ok (.ireturn, 1) := by decide +kernel
theorem dX1_hang_0 : decode cX1_hang 0 = .ok (.aload_n 0, 1) := by decide +kernel
theorem dX1_hang_1 : decode cX1_hang 1 = .ok (.getfield 51, 3) := by decide +kernel
theorem dX1_hang_4 : decode cX1_hang 4 = .ok (.istore 7, 2) := by decide +kernel
theorem dX1_hang_6 : decode cX1_hang 6 = .ok (.aload_n 0, 1) := by decide +kernel
theorem dX1_hang_7 : decode cX1_hang 7 = .ok (.getfield 15, 3) := by decide +kernel
theorem dX1_hang_10 : decode cX1_hang 10 = .ok (.iload 7, 2) := by decide +kernel
theorem dX1_hang_12 : decode cX1_hang 12 = .ok (.iload_n 1, 1) := by decide +kernel
theorem dX1_hang_13 : decode cX1_hang 13 = .ok (.iastore, 1) := by decide +kernel
theorem dX1_hang_14 : decode cX1_hang 14 = .ok (.aload_n 0, 1) := by decide +kernel
theorem dX1_hang_15 : decode cX1_hang 15 = .ok (.getfield 18, 3) := by decide +kernel
theorem dX1_hang_18 : decode cX1_hang 18 = .ok (.iload 7, 2) := by decide +kernel
theorem dX1_hang_20 : decode cX1_hang 20 = .ok (.iload_n 2, 1) := by decide +kernel
theorem dX1_hang_21 : decode cX1_hang 21 = .ok (.iastore, 1) := by decide +kernel
theorem dX1_hang_22 : decode cX1_hang 22 = .ok (.aload_n 0, 1) := by decide +kernel
theorem dX1_hang_23 : decode cX1_hang 23 = .ok (.getfield 21, 3) := by decide +kernel
theorem dX1_hang_26 : decode cX1_hang 26 = .ok (.iload 7, 2) := by decide +kernel
theorem dX1_hang_28 : decode cX1_hang 28 = .ok (.iload_n 3, 1) := by decide +kernel
theorem dX1_hang_29 : decode cX1_hang 29 = .ok (.iastore, 1) := by decide +kernel
theorem dX1_hang_30 : decode cX1_hang 30 = .ok (.aload_n 0, 1) := by decide +kernel
theorem dX1_hang_31 : decode cX1_hang 31 = .ok (.getfield 24, 3) := by decide +kernel
theorem dX1_hang_34 : decode cX1_hang 34 = .ok (.iload 7, 2) := by decide +kernel
theorem dX1_hang_36 : decode cX1_hang 36 = .ok (.fload 4, 2) := by decide +kernel
theorem dX1_hang_38 : decode cX1_hang 38 = .ok (.fastore, 1) := by decide +kernel
theorem dX1_hang_39 : decode cX1_hang 39 = .ok (.aload_n 0, 1) := by decide +kernel
theorem dX1_hang_40 : decode cX1_hang 40 = .ok (.getfield 28, 3) := by decide +kernel
theorem dX1_hang_43 : decode cX1_hang 43 = .ok (.iload 7, 2) := by decide +kernel
theorem dX1_hang_45 : decode cX1_hang 45 = .ok (.fload 5, 2) := by decide +kernel
theorem dX1_hang_47 : decode cX1_hang 47 = .ok (.fastore, 1) := by decide +kernel
theorem dX1_hang_48 : decode cX1_hang 48 = .ok (.aload_n 0, 1) := by decide +kernel
theorem dX1_hang_49 : decode cX1_hang 49 = .ok (.getfield 31, 3) := by decide +kernel
theorem dX1_hang_52 : decode cX1_hang 52 = .ok (.iload 7, 2) := by decide +kernel
theorem dX1_hang_54 : decode cX1_hang 54 = .ok (.fload 6, 2) := by decide +kernel
theorem dX1_hang_56 : decode cX1_hang 56 = .ok (.fastore, 1) := by decide +kernel
theorem dX1_hang_57 : decode cX1_hang 57 = .ok (.aload_n 0, 1) := by decide +kernel
theorem dX1_hang_58 : decode cX1_hang 58 = .ok (.getfield 34, 3) := by decide +kernel
theorem dX1_hang_61 : decode cX1_hang 61 = .ok (.iload 7, 2) := by decide +kernel
theorem dX1_hang_63 : decode cX1_hang 63 = .ok (.iconst 1, 1) := by decide +kernel
theorem dX1_hang_64 : decode cX1_hang 64 = .ok (.iastore, 1) := by decide +kernel
theorem dX1_hang_65 : decode cX1_hang 65 = .ok (.aload_n 0, 1) := by decide +kernel
theorem dX1_hang_66 : decode cX1_hang 66 = .ok (.dup, 1) := by decide +kernel
theorem dX1_hang_67 : decode cX1_hang 67 = .ok (.getfield 51, 3) := by decide +kernel
theorem dX1_hang_70 : decode cX1_hang 70 = .ok (.iconst 1, 1) := by decide +kernel
theorem dX1_hang_71 : decode cX1_hang 71 = .ok (.iadd, 1) := by decide +kernel
theorem dX1_hang_72 : decode cX1_hang 72 = .ok (.putfield 51, 3) := by decide +kernel
theorem dX1_hang_75 : decode cX1_hang 75 = .ok (.iload 7, 2) := by decide +kernel
theorem dX1_hang_77 : decode cX1_hang 77 = .ok (.ireturn, 1) := by decide +kernel
theorem dX1_hangs_0 : decode cX1_hangs 0 = .ok (.aload_n 0, 1) := by decide +kernel
theorem dX1_hangs_1 : decode cX1_hangs 1 = .ok (.getfield 34, 3) := by decide +kernel
theorem dX1_hangs_4 : decode cX1_hangs 4 = .ok (.iload_n 1, 1) := by decide +kernel
theorem dX1_hangs_5 : decode cX1_hangs 5 = .ok (.iaload, 1) := by decide +kernel
theorem dX1_hangs_6 : decode cX1_hangs 6 = .ok (.iconst 1, 1) := by decide +kernel
theorem dX1_hangs_7 : decode cX1_hangs 7 = .ok (.if_icmp .ne 7, 3) := by decide +kernel
theorem dX1_hangs_10 : decode cX1_hangs 10 = .ok (.iconst 1, 1) := by decide +kernel
theorem dX1_hangs_11 : decode cX1_hangs 11 = .ok (.goto 4, 3) := by decide +kernel
theorem dX1_hangs_14 : decode cX1_hangs 14 = .ok (.iconst 0, 1) := by decide +kernel
theorem dX1_hangs_15 : decode cX1_hangs 15 = .ok (.ireturn, 1) := by decide +kernel
set_option maxRecDepth 20000 in
theorem ggX1_hangsFor_X1_hangs : GoodIn wsX1_hangsFor wsX1_hangs := goodIn_r _ [6, 7, 8, 9, 10, 11, 12, 13, 14, 15, 16, 17, 18, 19, 20] (by decide +kernel) (by decide +kernel)
set_option maxRecDepth 20000 in
theorem gX1_hangsFor_X1_hangs : GoodIn wsX1_hangsFor (wsV RX1 64 RX1 yX1_hangs wsX1_hangs) := goodIn_app (goodIn_of _ (by decide +kernel)) ggX1_hangsFor_X1_hangs
theorem dX1_hangsFor_0 : decode cX1_hangsFor 0 = .ok (.aload_n 0, 1) := by decide +kernel
theorem dX1_hangsFor_1 : decode cX1_hangsFor 1 = .ok (.iload_n 1, 1) := by decide +kernel
theorem dX1_hangsFor_2 : decode cX1_hangsFor 2 = .ok (.invokevirtual 64, 3) := by decide +kernel
theorem dX1_hangsFor_5 : decode cX1_hangsFor 5 = .ok (.ifCond .eq 17, 3) := by decide +kernel
theorem dX1_hangsFor_8 : decode cX1_hangsFor 8 = .ok (.aload_n 0, 1) := by decide +kernel
theorem dX1_hangsFor_9 : decode cX1_hangsFor 9 = .ok (.getfield 18, 3) := by decide +kernel
theorem dX1_hangsFor_12 : decode cX1_hangsFor 12 = .ok (.iload_n 1, 1) := by decide +kernel
theorem dX1_hangsFor_13 : decode cX1_hangsFor 13 = .ok (.iaload, 1) := by decide +kernel
theorem dX1_hangsFor_14 : decode cX1_hangsFor 14 = .ok (.iload_n 2, 1) := by decide +kernel
theorem dX1_hangsFor_15 : decode cX1_hangsFor 15 = .ok (.if_icmp .ne 7, 3) := by decide +kernel
theorem dX1_hangsFor_18 : decode cX1_hangsFor 18 = .ok (.iconst 1, 1) := by decide +kernel
theorem dX1_hangsFor_19 : decode cX1_hangsFor 19 = .ok (.goto 4, 3) := by decide +kernel
theorem dX1_hangsFor_22 : decode cX1_hangsFor 22 = .ok (.iconst 0, 1) := by decide +kernel
theorem dX1_hangsFor_23 : decode cX1_hangsFor 23 = .ok (.ireturn, 1) := by decide +kernel
theorem dX1_rankOf_0 : decode cX1_rankOf 0 = .ok (.aload_n 0, 1) := by decide +kernel
theorem dX1_rankOf_1 : decode cX1_rankOf 1 = .ok (.getfield 9, 3) := by decide +kernel
theorem dX1_rankOf_4 : decode cX1_rankOf 4 = .ok (.aload_n 0, 1) := by decide +kernel
theorem dX1_rankOf_5 : decode cX1_rankOf 5 = .ok (.getfield 15, 3) := by decide +kernel
theorem dX1_rankOf_8 : decode cX1_rankOf 8 = .ok (.iload_n 1, 1) := by decide +kernel
theorem dX1_rankOf_9 : decode cX1_rankOf 9 = .ok (.iaload, 1) := by decide +kernel
theorem dX1_rankOf_10 : decode cX1_rankOf 10 = .ok (.iaload, 1) := by decide +kernel
theorem dX1_rankOf_11 : decode cX1_rankOf 11 = .ok (.ireturn, 1) := by decide +kernel
theorem dX1_hundredthsOfStrength_0 : decode cX1_hundredthsOfStrength 0 = .ok (.aload_n 0, 1) := by decide +kernel
theorem dX1_hundredthsOfStrength_1 : decode cX1_hundredthsOfStrength 1 = .ok (.getfield 31, 3) := by decide +kernel
theorem dX1_hundredthsOfStrength_4 : decode cX1_hundredthsOfStrength 4 = .ok (.iload_n 1, 1) := by decide +kernel
theorem dX1_hundredthsOfStrength_5 : decode cX1_hundredthsOfStrength 5 = .ok (.faload, 1) := by decide +kernel
theorem dX1_hundredthsOfStrength_6 : decode cX1_hundredthsOfStrength 6 = .ok (.ldc 68, 2) := by decide +kernel
theorem dX1_hundredthsOfStrength_8 : decode cX1_hundredthsOfStrength 8 = .ok (.fmul, 1) := by decide +kernel
theorem dX1_hundredthsOfStrength_9 : decode cX1_hundredthsOfStrength 9 = .ok (.f2i, 1) := by decide +kernel
theorem dX1_hundredthsOfStrength_10 : decode cX1_hundredthsOfStrength 10 = .ok (.ireturn, 1) := by decide +kernel
set_option maxRecDepth 20000 in
theorem ggX1_over_X1_hangingBetween : GoodIn wsX1_over wsX1_hangingBetween := goodIn_r _ [7, 8, 9, 10, 6, 11, 2, 12, 13, 14, 15, 16, 17, 18, 19, 20, 21, 22, 23, 24, 25, 26, 27, 28, 29] (by decide +kernel) (by decide +kernel)
set_option maxRecDepth 20000 in
theorem gX1_over_X1_hangingBetween : GoodIn wsX1_over (wsV RX1 69 RX1 yX1_hangingBetween wsX1_hangingBetween) := goodIn_app (goodIn_of _ (by decide +kernel)) ggX1_over_X1_hangingBetween
theorem dX1_over_0 : decode cX1_over 0 = .ok (.aload_n 0, 1) := by decide +kernel
theorem dX1_over_1 : decode cX1_over 1 = .ok (.iload_n 1, 1) := by decide +kernel
theorem dX1_over_2 : decode cX1_over 2 = .ok (.iconst 1, 1) := by decide +kernel
theorem dX1_over_3 : decode cX1_over 3 = .ok (.iadd, 1) := by decide +kernel
theorem dX1_over_4 : decode cX1_over 4 = .ok (.aload_n 0, 1) := by decide +kernel
theorem dX1_over_5 : decode cX1_over 5 = .ok (.getfield 51, 3) := by decide +kernel
theorem dX1_over_8 : decode cX1_over 8 = .ok (.aload_n 0, 1) := by decide +kernel
theorem dX1_over_9 : decode cX1_over 9 = .ok (.getfield 18, 3) := by decide +kernel
theorem dX1_over_12 : decode cX1_over 12 = .ok (.iload_n 1, 1) := by decide +kernel
theorem dX1_over_13 : decode cX1_over 13 = .ok (.iaload, 1) := by decide +kernel
theorem dX1_over_14 : decode cX1_over 14 = .ok (.invokevirtual 69, 3) := by decide +kernel
theorem dX1_over_17 : decode cX1_over 17 = .ok (.ireturn, 1) := by decide +kernel
set_option maxRecDepth 20000 in
theorem ggX1_beneath_X1_hangingBetween : GoodIn wsX1_beneath wsX1_hangingBetween := goodIn_r _ [6, 7, 8, 9, 5, 10, 1, 11, 12, 13, 14, 15, 16, 17, 18, 19, 20, 21, 22, 23, 24, 25, 26, 27, 28] (by decide +kernel) (by decide +kernel)
set_option maxRecDepth 20000 in
theorem gX1_beneath_X1_hangingBetween : GoodIn wsX1_beneath (wsV RX1 69 RX1 yX1_hangingBetween wsX1_hangingBetween) := goodIn_app (goodIn_of _ (by decide +kernel)) ggX1_beneath_X1_hangingBetween
theorem dX1_beneath_0 : decode cX1_beneath 0 = .ok (.aload_n 0, 1) := by decide +kernel
theorem dX1_beneath_1 : decode cX1_beneath 1 = .ok (.iconst 0, 1) := by decide +kernel
theorem dX1_beneath_2 : decode cX1_beneath 2 = .ok (.iload_n 1, 1) := by decide +kernel
theorem dX1_beneath_3 : decode cX1_beneath 3 = .ok (.aload_n 0, 1) := by decide +kernel
theorem dX1_beneath_4 : decode cX1_beneath 4 = .ok (.getfield 18, 3) := by decide +kernel
theorem dX1_beneath_7 : decode cX1_beneath 7 = .ok (.iload_n 1, 1) := by decide +kernel
theorem dX1_beneath_8 : decode cX1_beneath 8 = .ok (.iaload, 1) := by decide +kernel
theorem dX1_beneath_9 : decode cX1_beneath 9 = .ok (.invokevirtual 69, 3) := by decide +kernel
theorem dX1_beneath_12 : decode cX1_beneath 12 = .ok (.ireturn, 1) := by decide +kernel
set_option maxRecDepth 20000 in
theorem ggX1_hangingFor_X1_hangingBetween : GoodIn wsX1_hangingFor wsX1_hangingBetween := goodIn_r _ [6, 7, 8, 9, 5, 10, 11, 12, 13, 14, 15, 16, 17, 18, 19, 20, 21, 22, 23, 24, 25, 26, 27, 28, 29] (by decide +kernel) (by decide +kernel)
set_option maxRecDepth 20000 in
theorem gX1_hangingFor_X1_hangingBetween : GoodIn wsX1_hangingFor (wsV RX1 69 RX1 yX1_hangingBetween wsX1_hangingBetween) := goodIn_app (goodIn_of _ (by decide +kernel)) ggX1_hangingFor_X1_hangingBetween
theorem dX1_hangingFor_0 : decode cX1_hangingFor 0 = .ok (.aload_n 0, 1) := by decide +kernel
theorem dX1_hangingFor_1 : decode cX1_hangingFor 1 = .ok (.iconst 0, 1) := by decide +kernel
theorem dX1_hangingFor_2 : decode cX1_hangingFor 2 = .ok (.aload_n 0, 1) := by decide +kernel
theorem dX1_hangingFor_3 : decode cX1_hangingFor 3 = .ok (.getfield 51, 3) := by decide +kernel
theorem dX1_hangingFor_6 : decode cX1_hangingFor 6 = .ok (.iload_n 1, 1) := by decide +kernel
theorem dX1_hangingFor_7 : decode cX1_hangingFor 7 = .ok (.invokevirtual 69, 3) := by decide +kernel
theorem dX1_hangingFor_10 : decode cX1_hangingFor 10 = .ok (.ireturn, 1) := by decide +kernel
set_option maxRecDepth 20000 in
theorem ggX1_hangingBetween_X1_hangsFor : GoodIn wsX1_hangingBetween wsX1_hangsFor := goodIn_r _ [5, 6, 7, 8, 9, 4, 10, 11, 12, 13, 14, 15, 16, 17, 18, 19, 20, 21, 22, 23, 24] (by decide +kernel) (by decide +kernel)
set_option maxRecDepth 20000 in
theorem gX1_hangingBetween_X1_hangsFor : GoodIn wsX1_hangingBetween (wsV RX1 73 RX1 yX1_hangsFor wsX1_hangsFor) := goodIn_app (goodIn_of _ (by decide +kernel)) ggX1_hangingBetween_X1_hangsFor
theorem dX1_hangingBetween_0 : decode cX1_hangingBetween 0 = .ok (.iconst 0, 1) := by decide +kernel
theorem dX1_hangingBetween_1 : decode cX1_hangingBetween 1 = .ok (.istore 4, 2) := by decide +kernel
theorem dX1_hangingBetween_3 : decode cX1_hangingBetween 3 = .ok (.iload_n 1, 1) := by decide +kernel
theorem dX1_hangingBetween_4 : decode cX1_hangingBetween 4 = .ok (.istore 5, 2) := by decide +kernel
theorem dX1_hangingBetween_6 : decode cX1_hangingBetween 6 = .ok (.iload 5, 2) := by decide +kernel
theorem dX1_hangingBetween_8 : decode cX1_hangingBetween 8 = .ok (.iload_n 2, 1) := by decide +kernel
theorem dX1_hangingBetween_9 : decode cX1_hangingBetween 9 = .ok (.if_icmp .ge 22, 3) := by decide +kernel
theorem dX1_hangingBetween_12 : decode cX1_hangingBetween 12 = .ok (.aload_n 0, 1) := by decide +kernel
theorem dX1_hangingBetween_13 : decode cX1_hangingBetween 13 = .ok (.iload 5, 2) := by decide +kernel
theorem dX1_hangingBetween_15 : decode cX1_hangingBetween 15 = .ok (.iload_n 3, 1) := by decide +kernel
theorem dX1_hangingBetween_16 : decode cX1_hangingBetween 16 = .ok (.invokevirtual 73, 3) := by decide +kernel
theorem dX1_hangingBetween_19 : decode cX1_hangingBetween 19 = .ok (.ifCond .eq 6, 3) := by decide +kernel
theorem dX1_hangingBetween_22 : decode cX1_hangingBetween 22 = .ok (.iinc 4 1, 3) := by decide +kernel
theorem dX1_hangingBetween_25 : decode cX1_hangingBetween 25 = .ok (.iinc 5 1, 3) := by decide +kernel
theorem dX1_hangingBetween_28 : decode cX1_hangingBetween 28 = .ok (.goto (-22), 3) := by decide +kernel
theorem dX1_hangingBetween_31 : decode cX1_hangingBetween 31 = .ok (.iload 4, 2) := by decide +kernel
theorem dX1_hangingBetween_33 : decode cX1_hangingBetween 33 = .ok (.ireturn, 1) := by decide +kernel
set_option maxRecDepth 20000 in
theorem ggX1_hangingAt_X1_hangsFor : GoodIn wsX1_hangingAt wsX1_hangsFor := goodIn_r _ [6, 7, 8, 9, 10, 5, 11, 12, 13, 14, 15, 16, 17, 18, 19, 20, 21, 22, 23, 24, 25] (by decide +kernel) (by decide +kernel)
set_option maxRecDepth 20000 in
theorem gX1_hangingAt_X1_hangsFor : GoodIn wsX1_hangingAt (wsV RX1 73 RX1 yX1_hangsFor wsX1_hangsFor) := goodIn_app (goodIn_of _ (by decide +kernel)) ggX1_hangingAt_X1_hangsFor
theorem dX1_hangingAt_0 : decode cX1_hangingAt 0 = .ok (.iload_n 2, 1) := by decide +kernel
theorem dX1_hangingAt_1 : decode cX1_hangingAt 1 = .ok (.istore_n 3, 1) := by decide +kernel
theorem dX1_hangingAt_2 : decode cX1_hangingAt 2 = .ok (.aload_n 0, 1) := by decide +kernel
theorem dX1_hangingAt_3 : decode cX1_hangingAt 3 = .ok (.getfield 51, 3) := by decide +kernel
theorem dX1_hangingAt_6 : decode cX1_hangingAt 6 = .ok (.iconst 1, 1) := by decide +kernel
theorem dX1_hangingAt_7 : decode cX1_hangingAt 7 = .ok (.isub, 1) := by decide +kernel
theorem dX1_hangingAt_8 : decode cX1_hangingAt 8 = .ok (.istore 4, 2) := by decide +kernel
theorem dX1_hangingAt_10 : decode cX1_hangingAt 10 = .ok (.iload 4, 2) := by decide +kernel
theorem dX1_hangingAt_12 : decode cX1_hangingAt 12 = .ok (.ifCond .lt 29, 3) := by decide +kernel
theorem dX1_hangingAt_15 : decode cX1_hangingAt 15 = .ok (.aload_n 0, 1) := by decide +kernel
theorem dX1_hangingAt_16 : decode cX1_hangingAt 16 = .ok (.iload 4, 2) := by decide +kernel
theorem dX1_hangingAt_18 : decode cX1_hangingAt 18 = .ok (.iload_n 1, 1) := by decide +kernel
theorem dX1_hangingAt_19 : decode cX1_hangingAt 19 = .ok (.invokevirtual 73, 3) := by decide +kernel
theorem dX1_hangingAt_22 : decode cX1_hangingAt 22 = .ok (.ifCond .eq 13, 3) := by decide +kernel
theorem dX1_hangingAt_25 : decode cX1_hangingAt 25 = .ok (.iload_n 3, 1) := by decide +kernel
theorem dX1_hangingAt_26 : decode cX1_hangingAt 26 = .ok (.ifCond .ne 6, 3) := by decide +kernel
theorem dX1_hangingAt_29 : decode cX1_hangingAt 29 = .ok (.iload 4, 2) := by decide +kernel
theorem dX1_hangingAt_31 : decode cX1_hangingAt 31 = .ok (.ireturn, 1) := by decide +kernel
theorem dX1_hangingAt_32 : decode cX1_hangingAt 32 = .ok (.iinc 3 (-1), 3) := by decide +kernel
theorem dX1_hangingAt_35 : decode cX1_hangingAt 35 = .ok (.iinc 4 (-1), 3) := by decide +kernel
theorem dX1_hangingAt_38 : decode cX1_hangingAt 38 = .ok (.goto (-28), 3) := by decide +kernel
theorem dX1_hangingAt_41 : decode cX1_hangingAt 41 = .ok (.bipush (-5), 2) := by decide +kernel
theorem dX1_hangingAt_43 : decode cX1_hangingAt 43 = .ok (.ireturn, 1) := by decide +kernel
set_option maxRecDepth 20000 in
theorem ggX1_hanging_X1_withFate : GoodIn wsX1_hanging wsX1_withFate := goodIn_r _ [5, 6, 7, 8, 9, 10, 11, 12, 13, 14, 15, 16, 17, 18, 19, 20] (by decide +kernel) (by decide +kernel)
set_option maxRecDepth 20000 in
theorem gX1_hanging_X1_withFate : GoodIn wsX1_hanging (wsV RX1 77 RX1 yX1_withFate wsX1_withFate) := goodIn_app (goodIn_of _ (by decide +kernel)) ggX1_hanging_X1_withFate
theorem dX1_hanging_0 : decode cX1_hanging 0 = .ok (.aload_n 0, 1) := by decide +kernel
theorem dX1_hanging_1 : decode cX1_hanging 1 = .ok (.iconst 1, 1) := by decide +kernel
theorem dX1_hanging_2 : decode cX1_hanging 2 = .ok (.invokevirtual 77, 3) := by decide +kernel
theorem dX1_hanging_5 : decode cX1_hanging 5 = .ok (.ireturn, 1) := by decide +kernel
theorem dX1_withFate_0 : decode cX1_withFate 0 = .ok (.iconst 0, 1) := by decide +kernel
theorem dX1_withFate_1 : decode cX1_withFate 1 = .ok (.istore_n 2, 1) := by decide +kernel
theorem dX1_withFate_2 : decode cX1_withFate 2 = .ok (.iconst 0, 1) := by decide +kernel
theorem dX1_withFate_3 : decode cX1_withFate 3 = .ok (.istore_n 3, 1) := by decide +kernel
theorem dX1_withFate_4 : decode cX1_withFate 4 = .ok (.iload_n 3, 1) := by decide +kernel
theorem dX1_withFate_5 : decode cX1_withFate 5 = .ok (.aload_n 0, 1) := by decide +kernel
theorem dX1_withFate_6 : decode cX1_withFate 6 = .ok (.getfield 51, 3) := by decide +kernel
theorem dX1_withFate_9 : decode cX1_withFate 9 = .ok (.if_icmp .ge 22, 3) := by decide +kernel
theorem dX1_withFate_12 : decode cX1_withFate 12 = .ok (.aload_n 0, 1) := by decide +kernel
theorem dX1_withFate_13 : decode cX1_withFate 13 = .ok (.getfield 34, 3) := by decide +kernel
theorem dX1_withFate_16 : decode cX1_withFate 16 = .ok (.iload_n 3, 1) := by decide +kernel
theorem dX1_withFate_17 : decode cX1_withFate 17 = .ok (.iaload, 1) := by decide +kernel
theorem dX1_withFate_18 : decode cX1_withFate 18 = .ok (.iload_n 1, 1) := by decide +kernel
theorem dX1_withFate_19 : decode cX1_withFate 19 = .ok (.if_icmp .ne 6, 3) := by decide +kernel
theorem dX1_withFate_22 : decode cX1_withFate 22 = .ok (.iinc 2 1, 3) := by decide +kernel
theorem dX1_withFate_25 : decode cX1_withFate 25 = .ok (.iinc 3 1, 3) := by decide +kernel
theorem dX1_withFate_28 : decode cX1_withFate 28 = .ok (.goto (-24), 3) := by decide +kernel
theorem dX1_withFate_31 : decode cX1_withFate 31 = .ok (.iload_n 2, 1) := by decide +kernel
theorem dX1_withFate_32 : decode cX1_withFate 32 = .ok (.ireturn, 1) := by decide +kernel
theorem dX1_nailedBy_0 : decode cX1_nailedBy 0 = .ok (.iconst 0, 1) := by decide +kernel
theorem dX1_nailedBy_1 : decode cX1_nailedBy 1 = .ok (.istore_n 2, 1) := by decide +kernel
theorem dX1_nailedBy_2 : decode cX1_nailedBy 2 = .ok (.iconst 0, 1) := by decide +kernel
theorem dX1_nailedBy_3 : decode cX1_nailedBy 3 = .ok (.istore_n 3, 1) := by decide +kernel
theorem dX1_nailedBy_4 : decode cX1_nailedBy 4 = .ok (.iload_n 3, 1) := by decide +kernel
theorem dX1_nailedBy_5 : decode cX1_nailedBy 5 = .ok (.aload_n 0, 1) := by decide +kernel
theorem dX1_nailedBy_6 : decode cX1_nailedBy 6 = .ok (.getfield 51, 3) := by decide +kernel
theorem dX1_nailedBy_9 : decode cX1_nailedBy 9 = .ok (.if_icmp .ge 22, 3) := by decide +kernel
theorem dX1_nailedBy_12 : decode cX1_nailedBy 12 = .ok (.aload_n 0, 1) := by decide +kernel
theorem dX1_nailedBy_13 : decode cX1_nailedBy 13 = .ok (.getfield 15, 3) := by decide +kernel
theorem dX1_nailedBy_16 : decode cX1_nailedBy 16 = .ok (.iload_n 3, 1) := by decide +kernel
theorem dX1_nailedBy_17 : decode cX1_nailedBy 17 = .ok (.iaload, 1) := by decide +kernel
theorem dX1_nailedBy_18 : decode cX1_nailedBy 18 = .ok (.iload_n 1, 1) := by decide +kernel
theorem dX1_nailedBy_19 : decode cX1_nailedBy 19 = .ok (.if_icmp .ne 6, 3) := by decide +kernel
theorem dX1_nailedBy_22 : decode cX1_nailedBy 22 = .ok (.iinc 2 1, 3) := by decide +kernel
theorem dX1_nailedBy_25 : decode cX1_nailedBy 25 = .ok (.iinc 3 1, 3) := by decide +kernel
theorem dX1_nailedBy_28 : decode cX1_nailedBy 28 = .ok (.goto (-24), 3) := by decide +kernel
theorem dX1_nailedBy_31 : decode cX1_nailedBy 31 = .ok (.iload_n 2, 1) := by decide +kernel
theorem dX1_nailedBy_32 : decode cX1_nailedBy 32 = .ok (.ireturn, 1) := by decide +kernel
set_option maxRecDepth 20000 in
theorem ggX1_hangingBy_X1_hangs : GoodIn wsX1_hangingBy wsX1_hangs := goodIn_r _ [7, 8, 9, 10, 11, 12, 13, 14, 15, 16, 17, 18, 19, 20, 21] (by decide +kernel) (by decide +kernel)
set_option maxRecDepth 20000 in
theorem gX1_hangingBy_X1_hangs : GoodIn wsX1_hangingBy (wsV RX1 64 RX1 yX1_hangs wsX1_hangs) := goodIn_app (goodIn_of _ (by decide +kernel)) ggX1_hangingBy_X1_hangs
theorem dX1_hangingBy_0 : decode cX1_hangingBy 0 = .ok (.iconst 0, 1) := by decide +kernel
theorem dX1_hangingBy_1 : decode cX1_hangingBy 1 = .ok (.istore_n 2, 1) := by decide +kernel
theorem dX1_hangingBy_2 : decode cX1_hangingBy 2 = .ok (.iconst 0, 1) := by decide +kernel
theorem dX1_hangingBy_3 : decode cX1_hangingBy 3 = .ok (.istore_n 3, 1) := by decide +kernel
theorem dX1_hangingBy_4 : decode cX1_hangingBy 4 = .ok (.iload_n 3, 1) := by decide +kernel
theorem dX1_hangingBy_5 : decode cX1_hangingBy 5 = .ok (.aload_n 0, 1) := by decide +kernel
theorem dX1_hangingBy_6 : decode cX1_hangingBy 6 = .ok (.getfield 51, 3) := by decide +kernel
theorem dX1_hangingBy_9 : decode cX1_hangingBy 9 = .ok (.if_icmp .ge 30, 3) := by decide +kernel
theorem dX1_hangingBy_12 : decode cX1_hangingBy 12 = .ok (.aload_n 0, 1) := by decide +kernel
theorem dX1_hangingBy_13 : decode cX1_hangingBy 13 = .ok (.iload_n 3, 1) := by decide +kernel
theorem dX1_hangingBy_14 : decode cX1_hangingBy 14 = .ok (.invokevirtual 64, 3) := by decide +kernel
theorem dX1_hangingBy_17 : decode cX1_hangingBy 17 = .ok (.ifCond .eq 16, 3) := by decide +kernel
theorem dX1_hangingBy_20 : decode cX1_hangingBy 20 = .ok (.aload_n 0, 1) := by decide +kernel
theorem dX1_hangingBy_21 : decode cX1_hangingBy 21 = .ok (.getfield 15, 3) := by decide +kernel
theorem dX1_hangingBy_24 : decode cX1_hangingBy 24 = .ok (.iload_n 3, 1) := by decide +kernel
theorem dX1_hangingBy_25 : decode cX1_hangingBy 25 = .ok (.iaload, 1) := by decide +kernel
theorem dX1_hangingBy_26 : decode cX1_hangingBy 26 = .ok (.iload_n 1, 1) := by decide +kernel
theorem dX1_hangingBy_27 : decode cX1_hangingBy 27 = .ok (.if_icmp .ne 6, 3) := by decide +kernel
theorem dX1_hangingBy_30 : decode cX1_hangingBy 30 = .ok (.iinc 2 1, 3) := by decide +kernel
theorem dX1_hangingBy_33 : decode cX1_hangingBy 33 = .ok (.iinc 3 1, 3) := by decide +kernel
theorem dX1_hangingBy_36 : decode cX1_hangingBy 36 = .ok (.goto (-32), 3) := by decide +kernel
theorem dX1_hangingBy_39 : decode cX1_hangingBy 39 = .ok (.iload_n 2, 1) := by decide +kernel
theorem dX1_hangingBy_40 : decode cX1_hangingBy 40 = .ok (.ireturn, 1) := by decide +kernel
set_option maxRecDepth 20000 in
theorem ggX1_wordsOf_X1_hangs : GoodIn wsX1_wordsOf wsX1_hangs := goodIn_r _ [8, 9, 10, 11, 12, 13, 14, 15, 16, 17, 18, 19, 20, 21, 22] (by decide +kernel) (by decide +kernel)
set_option maxRecDepth 20000 in
theorem gX1_wordsOf_X1_hangs : GoodIn wsX1_wordsOf (wsV RX1 64 RX1 yX1_hangs wsX1_hangs) := goodIn_app (goodIn_of _ (by decide +kernel)) ggX1_wordsOf_X1_hangs
theorem dX1_wordsOf_0 : decode cX1_wordsOf 0 = .ok (.iconst 0, 1) := by decide +kernel
theorem dX1_wordsOf_1 : decode cX1_wordsOf 1 = .ok (.istore_n 2, 1) := by decide +kernel
theorem dX1_wordsOf_2 : decode cX1_wordsOf 2 = .ok (.iconst 0, 1) := by decide +kernel
theorem dX1_wordsOf_3 : decode cX1_wordsOf 3 = .ok (.istore_n 3, 1) := by decide +kernel
theorem dX1_wordsOf_4 : decode cX1_wordsOf 4 = .ok (.iload_n 3, 1) := by decide +kernel
theorem dX1_wordsOf_5 : decode cX1_wordsOf 5 = .ok (.aload_n 0, 1) := by decide +kernel
theorem dX1_wordsOf_6 : decode cX1_wordsOf 6 = .ok (.getfield 51, 3) := by decide +kernel
theorem dX1_wordsOf_9 : decode cX1_wordsOf 9 = .ok (.if_icmp .ge 38, 3) := by decide +kernel
theorem dX1_wordsOf_12 : decode cX1_wordsOf 12 = .ok (.aload_n 0, 1) := by decide +kernel
theorem dX1_wordsOf_13 : decode cX1_wordsOf 13 = .ok (.iload_n 3, 1) := by decide +kernel
theorem dX1_wordsOf_14 : decode cX1_wordsOf 14 = .ok (.invokevirtual 64, 3) := by decide +kernel
theorem dX1_wordsOf_17 : decode cX1_wordsOf 17 = .ok (.ifCond .eq 24, 3) := by decide +kernel
theorem dX1_wordsOf_20 : decode cX1_wordsOf 20 = .ok (.aload_n 0, 1) := by decide +kernel
theorem dX1_wordsOf_21 : decode cX1_wordsOf 21 = .ok (.getfield 15, 3) := by decide +kernel
theorem dX1_wordsOf_24 : decode cX1_wordsOf 24 = .ok (.iload_n 3, 1) := by decide +kernel
theorem dX1_wordsOf_25 : decode cX1_wordsOf 25 = .ok (.iaload, 1) := by decide +kernel
theorem dX1_wordsOf_26 : decode cX1_wordsOf 26 = .ok (.iload_n 1, 1) := by decide +kernel
theorem dX1_wordsOf_27 : decode cX1_wordsOf 27 = .ok (.if_icmp .ne 14, 3) := by decide +kernel
theorem dX1_wordsOf_30 : decode cX1_wordsOf 30 = .ok (.iload_n 2, 1) := by decide +kernel
theorem dX1_wordsOf_31 : decode cX1_wordsOf 31 = .ok (.iconst 1, 1) := by decide +kernel
theorem dX1_wordsOf_32 : decode cX1_wordsOf 32 = .ok (.aload_n 0, 1) := by decide +kernel
theorem dX1_wordsOf_33 : decode cX1_wordsOf 33 = .ok (.getfield 18, 3) := by decide +kernel
theorem dX1_wordsOf_36 : decode cX1_wordsOf 36 = .ok (.iload_n 3, 1) := by decide +kernel
theorem dX1_wordsOf_37 : decode cX1_wordsOf 37 = .ok (.iaload, 1) := by decide +kernel
theorem dX1_wordsOf_38 : decode cX1_wordsOf 38 = .ok (.ishl, 1) := by decide +kernel
theorem dX1_wordsOf_39 : decode cX1_wordsOf 39 = .ok (.ior, 1) := by decide +kernel
theorem dX1_wordsOf_40 : decode cX1_wordsOf 40 = .ok (.istore_n 2, 1) := by decide +kernel
theorem dX1_wordsOf_41 : decode cX1_wordsOf 41 = .ok (.iinc 3 1, 3) := by decide +kernel
theorem dX1_wordsOf_44 : decode cX1_wordsOf 44 = .ok (.goto (-40), 3) := by decide +kernel
theorem dX1_wordsOf_47 : decode cX1_wordsOf 47 = .ok (.iload_n 2, 1) := by decide +kernel
theorem dX1_wordsOf_48 : decode cX1_wordsOf 48 = .ok (.ireturn, 1) := by decide +kernel
end
section
set_option maxRecDepth 20000 in
theorem ggX2_init_X1_init : GoodIn wsX2_init wsX1_init := goodIn_r _ [9, 10, 2, 3, 11, 12, 13, 14, 15, 16, 17, 18, 19, 20, 23, 24, 25, 26, 27, 28, 29, 30, 31, 32, 33, 34, 35] (by decide +kernel) (by decide +kernel)
set_option maxRecDepth 20000 in
theorem gX2_init_X1_init_n17 : GoodIn wsX2_init (wsX1_init) := ggX2_init_X1_init
theorem dX2_init_0 : decode cX2_init 0 = .ok (.aload_n 0, 1) := by decide +kernel
theorem dX2_init_1 : decode cX2_init 1 = .ok (.invokespecial 3, 3) := by decide +kernel
theorem dX2_init_4 : decode cX2_init 4 = .ok (.aload_n 0, 1) := by decide +kernel
theorem dX2_init_5 : decode cX2_init 5 = .ok (.iconst 4, 1) := by decide +kernel
theorem dX2_init_6 : decode cX2_init 6 = .ok (.anewarray 9, 3) := by decide +kernel
theorem dX2_init_9 : decode cX2_init 9 = .ok (.putfield 11, 3) := by decide +kernel
theorem dX2_init_12 : decode cX2_init 12 = .ok (.iconst 0, 1) := by decide +kernel
theorem dX2_init_13 : decode cX2_init 13 = .ok (.istore_n 1, 1) := by decide +kernel
theorem dX2_init_14 : decode cX2_init 14 = .ok (.iload_n 1, 1) := by decide +kernel
theorem dX2_init_15 : decode cX2_init 15 = .ok (.iconst 4, 1) := by decide +kernel
theorem dX2_init_16 : decode cX2_init 16 = .ok (.if_icmp .ge 22, 3) := by decide +kernel
theorem dX2_init_19 : decode cX2_init 19 = .ok (.aload_n 0, 1) := by decide +kernel
theorem dX2_init_20 : decode cX2_init 20 = .ok (.getfield 11, 3) := by decide +kernel
theorem dX2_init_23 : decode cX2_init 23 = .ok (.iload_n 1, 1) := by decide +kernel
theorem dX2_init_24 : decode cX2_init 24 = .ok (.new 9, 3) := by decide +kernel
theorem dX2_init_27 : decode cX2_init 27 = .ok (.dup, 1) := by decide +kernel
theorem dX2_init_28 : decode cX2_init 28 = .ok (.invokespecial 17, 3) := by decide +kernel
theorem dX2_init_31 : decode cX2_init 31 = .ok (.aastore, 1) := by decide +kernel
theorem dX2_init_32 : decode cX2_init 32 = .ok (.iinc 1 1, 3) := by decide +kernel
theorem dX2_init_35 : decode cX2_init 35 = .ok (.goto (-21), 3) := by decide +kernel
theorem dX2_init_38 : decode cX2_init 38 = .ok (.return_, 1) := by decide +kernel
set_option maxRecDepth 20000 in
theorem ggX2_record_X2_dropOldest : GoodIn wsX2_record wsX2_dropOldest := goodIn_r _ [7, 2, 1, 30, 31] (by decide +kernel) (by decide +kernel)
set_option maxRecDepth 20000 in
theorem gX2_record_X2_dropOldest : GoodIn wsX2_record (wsV RX2 22 RX2 yX2_dropOldest wsX2_dropOldest) := goodIn_app (goodIn_of _ (by decide +kernel)) ggX2_record_X2_dropOldest
set_option maxRecDepth 20000 in
theorem ggX2_record_X1_become : GoodIn wsX2_record wsX1_become := goodIn_r _ [12, 13, 14, 15, 16, 17, 18, 19, 20, 21, 22, 23, 24, 25, 26, 27, 28, 29, 32, 33, 34, 35, 36, 37, 38, 39, 40, 41, 42, 43, 44] (by decide +kernel) (by decide +kernel)
set_option maxRecDepth 20000 in
theorem gX2_record_X1_become : GoodIn wsX2_record (wsV RX2 25 RX1 yX1_become wsX1_become) := goodIn_app (goodIn_of _ (by decide +kernel)) ggX2_record_X1_become
theorem dX2_record_0 : decode cX2_record 0 = .ok (.aload_n 0, 1) := by decide +kernel
theorem dX2_record_1 : decode cX2_record 1 = .ok (.getfield 18, 3) := by decide +kernel
theorem dX2_record_4 : decode cX2_record 4 = .ok (.iconst 4, 1) := by decide +kernel
theorem dX2_record_5 : decode cX2_record 5 = .ok (.if_icmp .ne 7, 3) := by decide +kernel
theorem dX2_record_8 : decode cX2_record 8 = .ok (.aload_n 0, 1) := by decide +kernel
theorem dX2_record_9 : decode cX2_record 9 = .ok (.invokevirtual 22, 3) := by decide +kernel
theorem dX2_record_12 : decode cX2_record 12 = .ok (.aload_n 0, 1) := by decide +kernel
theorem dX2_record_13 : decode cX2_record 13 = .ok (.getfield 11, 3) := by decide +kernel
theorem dX2_record_16 : decode cX2_record 16 = .ok (.aload_n 0, 1) := by decide +kernel
theorem dX2_record_17 : decode cX2_record 17 = .ok (.getfield 18, 3) := by decide +kernel
theorem dX2_record_20 : decode cX2_record 20 = .ok (.aaload, 1) := by decide +kernel
theorem dX2_record_21 : decode cX2_record 21 = .ok (.aload_n 1, 1) := by decide +kernel
theorem dX2_record_22 : decode cX2_record 22 = .ok (.invokevirtual 25, 3) := by decide +kernel
theorem dX2_record_25 : decode cX2_record 25 = .ok (.aload_n 0, 1) := by decide +kernel
theorem dX2_record_26 : decode cX2_record 26 = .ok (.dup, 1) := by decide +kernel
theorem dX2_record_27 : decode cX2_record 27 = .ok (.getfield 18, 3) := by decide +kernel
theorem dX2_record_30 : decode cX2_record 30 = .ok (.iconst 1, 1) := by decide +kernel
theorem dX2_record_31 : decode cX2_record 31 = .ok (.iadd, 1) := by decide +kernel
theorem dX2_record_32 : decode cX2_record 32 = .ok (.putfield 18, 3) := by decide +kernel
theorem dX2_record_35 : decode cX2_record 35 = .ok (.return_, 1) := by decide +kernel
theorem dX2_dropOldest_0 : decode cX2_dropOldest 0 = .ok (.aload_n 0, 1) := by decide +kernel
theorem dX2_dropOldest_1 : decode cX2_dropOldest 1 = .ok (.getfield 11, 3) := by decide +kernel
theorem dX2_dropOldest_4 : decode cX2_dropOldest 4 = .ok (.iconst 0, 1) := by decide +kernel
theorem dX2_dropOldest_5 : decode cX2_dropOldest 5 = .ok (.aaload, 1) := by decide +kernel
theorem dX2_dropOldest_6 : decode cX2_dropOldest 6 = .ok (.astore_n 1, 1) := by decide +kernel
theorem dX2_dropOldest_7 : decode cX2_dropOldest 7 = .ok (.iconst 1, 1) := by decide +kernel
theorem dX2_dropOldest_8 : decode cX2_dropOldest 8 = .ok (.istore_n 2, 1) := by decide +kernel
theorem dX2_dropOldest_9 : decode cX2_dropOldest 9 = .ok (.iload_n 2, 1) := by decide +kernel
theorem dX2_dropOldest_10 : decode cX2_dropOldest 10 = .ok (.iconst 4, 1) := by decide +kernel
theorem dX2_dropOldest_11 : decode cX2_dropOldest 11 = .ok (.if_icmp .ge 23, 3) := by decide +kernel
theorem dX2_dropOldest_14 : decode cX2_dropOldest 14 = .ok (.aload_n 0, 1) := by decide +kernel
theorem dX2_dropOldest_15 : decode cX2_dropOldest 15 = .ok (.getfield 11, 3) := by decide +kernel
theorem dX2_dropOldest_18 : decode cX2_dropOldest 18 = .ok (.iload_n 2, 1) := by decide +kernel
theorem dX2_dropOldest_19 : decode cX2_dropOldest 19 = .ok (.iconst 1, 1) := by decide +kernel
theorem dX2_dropOldest_20 : decode cX2_dropOldest 20 = .ok (.isub, 1) := by decide +kernel
theorem dX2_dropOldest_21 : decode cX2_dropOldest 21 = .ok (.aload_n 0, 1) := by decide +kernel
theorem dX2_dropOldest_22 : decode cX2_dropOldest 22 = .ok (.getfield 11, 3) := by decide +kernel
theorem dX2_dropOldest_25 : decode cX2_dropOldest 25 = .ok (.iload_n 2, 1) := by decide +kernel
theorem dX2_dropOldest_26 : decode cX2_dropOldest 26 = .ok (.aaload, 1) := by decide +kernel
theorem dX2_dropOldest_27 : decode cX2_dropOldest 27 = .ok (.aastore, 1) := by decide +kernel
theorem dX2_dropOldest_28 : decode cX2_dropOldest 28 = .ok (.iinc 2 1, 3) := by decide +kernel
theorem dX2_dropOldest_31 : decode cX2_dropOldest 31 = .ok (.goto (-22), 3) := by decide +kernel
theorem dX2_dropOldest_34 : decode cX2_dropOldest 34 = .ok (.aload_n 0, 1) := by decide +kernel
theorem dX2_dropOldest_35 : decode cX2_dropOldest 35 = .ok (.getfield 11, 3) := by decide +kernel
theorem dX2_dropOldest_38 : decode cX2_dropOldest 38 = .ok (.iconst 3, 1) := by decide +kernel
theorem dX2_dropOldest_39 : decode cX2_dropOldest 39 = .ok (.aload_n 1, 1) := by decide +kernel
theorem dX2_dropOldest_40 : decode cX2_dropOldest 40 = .ok (.aastore, 1) := by decide +kernel
theorem dX2_dropOldest_41 : decode cX2_dropOldest 41 = .ok (.aload_n 0, 1) := by decide +kernel
theorem dX2_dropOldest_42 : decode cX2_dropOldest 42 = .ok (.dup, 1) := by decide +kernel
theorem dX2_dropOldest_43 : decode cX2_dropOldest 43 = .ok (.getfield 18, 3) := by decide +kernel
theorem dX2_dropOldest_46 : decode cX2_dropOldest 46 = .ok (.iconst 1, 1) := by decide +kernel
theorem dX2_dropOldest_47 : decode cX2_dropOldest 47 = .ok (.isub, 1) := by decide +kernel
theorem dX2_dropOldest_48 : decode cX2_dropOldest 48 = .ok (.putfield 18, 3) := by decide +kernel
theorem dX2_dropOldest_51 : decode cX2_dropOldest 51 = .ok (.return_, 1) := by decide +kernel
theorem dX3_init_0 : decode cX3_init 0 = .ok (.aload_n 0, 1) := by decide +kernel
theorem dX3_init_1 : decode cX3_init 1 = .ok (.invokespecial 3, 3) := by decide +kernel
theorem dX3_init_4 : decode cX3_init 4 = .ok (.aload_n 0, 1) := by decide +kernel
theorem dX3_init_5 : decode cX3_init 5 = .ok (.bipush 9, 2) := by decide +kernel
theorem dX3_init_7 : decode cX3_init 7 = .ok (.newarray .int, 2) := by decide +kernel
theorem dX3_init_9 : decode cX3_init 9 = .ok (.putfield 11, 3) := by decide +kernel
theorem dX3_init_12 : decode cX3_init 12 = .ok (.aload_n 0, 1) := by decide +kernel
theorem dX3_init_13 : decode cX3_init 13 = .ok (.bipush 9, 2) := by decide +kernel
theorem dX3_init_15 : decode cX3_init 15 = .ok (.newarray .int, 2) := by decide +kernel
theorem dX3_init_17 : decode cX3_init 17 = .ok (.putfield 15, 3) := by decide +kernel
theorem dX3_init_20 : decode cX3_init 20 = .ok (.aload_n 0, 1) := by decide +kernel
theorem dX3_init_21 : decode cX3_init 21 = .ok (.bipush 9, 2) := by decide +kernel
theorem dX3_init_23 : decode cX3_init 23 = .ok (.newarray .float, 2) := by decide +kernel
theorem dX3_init_25 : decode cX3_init 25 = .ok (.putfield 18, 3) := by decide +kernel
theorem dX3_init_28 : decode cX3_init 28 = .ok (.aload_n 0, 1) := by decide +kernel
theorem dX3_init_29 : decode cX3_init 29 = .ok (.bipush 9, 2) := by decide +kernel
theorem dX3_init_31 : decode cX3_init 31 = .ok (.newarray .float, 2) := by decide +kernel
theorem dX3_init_33 : decode cX3_init 33 = .ok (.putfield 22, 3) := by decide +kernel
theorem dX3_init_36 : decode cX3_init 36 = .ok (.aload_n 0, 1) := by decide +kernel
theorem dX3_init_37 : decode cX3_init 37 = .ok (.aload_n 1, 1) := by decide +kernel
theorem dX3_init_38 : decode cX3_init 38 = .ok (.putfield 25, 3) := by decide +kernel
theorem dX3_init_41 : decode cX3_init 41 = .ok (.return_, 1) := by decide +kernel
theorem dX4_init_0 : decode cX4_init 0 = .ok (.aload_n 0, 1) := by decide +kernel
theorem dX4_init_1 : decode cX4_init 1 = .ok (.invokespecial 3, 3) := by decide +kernel
theorem dX4_init_4 : decode cX4_init 4 = .ok (.aload_n 0, 1) := by decide +kernel
theorem dX4_init_5 : decode cX4_init 5 = .ok (.bipush 16, 2) := by decide +kernel
theorem dX4_init_7 : decode cX4_init 7 = .ok (.newarray .int, 2) := by decide +kernel
theorem dX4_init_9 : decode cX4_init 9 = .ok (.putfield 9, 3) := by decide +kernel
theorem dX4_init_12 : decode cX4_init 12 = .ok (.aload_n 0, 1) := by decide +kernel
theorem dX4_init_13 : decode cX4_init 13 = .ok (.bipush 16, 2) := by decide +kernel
theorem dX4_init_15 : decode cX4_init 15 = .ok (.newarray .boolean, 2) := by decide +kernel
theorem dX4_init_17 : decode cX4_init 17 = .ok (.putfield 15, 3) := by decide +kernel
theorem dX4_init_20 : decode cX4_init 20 = .ok (.aload_n 0, 1) := by decide +kernel
theorem dX4_init_21 : decode cX4_init 21 = .ok (.bipush 16, 2) := by decide +kernel
theorem dX4_init_23 : decode cX4_init 23 = .ok (.newarray .float, 2) := by decide +kernel
theorem dX4_init_25 : decode cX4_init 25 = .ok (.putfield 19, 3) := by decide +kernel
theorem dX4_init_28 : decode cX4_init 28 = .ok (.aload_n 0, 1) := by decide +kernel
theorem dX4_init_29 : decode cX4_init 29 = .ok (.aload_n 1, 1) := by decide +kernel
theorem dX4_init_30 : decode cX4_init 30 = .ok (.putfield 23, 3) := by decide +kernel
theorem dX4_init_33 : decode cX4_init 33 = .ok (.return_, 1) := by decide +kernel
set_option maxRecDepth 20000 in
theorem ggX4_settle_X4_findRulers : GoodIn wsX4_settle wsX4_findRulers := goodIn_r _ [8, 9, 10, 11, 1, 12, 13, 14, 15, 16, 17, 18, 19, 20, 21, 22, 23, 41, 42, 43, 44, 45, 46, 47, 48, 49, 50, 51, 52, 53, 54, 55, 56, 57] (by decide +kernel) (by decide +kernel)
set_option maxRecDepth 20000 in
theorem gX4_settle_X4_findRulers : GoodIn wsX4_settle (wsV RX4 27 RX4 yX4_findRulers wsX4_findRulers) := goodIn_app (goodIn_of _ (by decide +kernel)) ggX4_settle_X4_findRulers
set_option maxRecDepth 20000 in
theorem ggX4_settle_X4_findValues : GoodIn wsX4_settle wsX4_findValues := goodIn_r _ [27, 1, 2, 3, 28, 29, 30, 7, 31, 9, 32, 33, 34, 35, 36, 37, 38, 39, 40, 41, 42, 43, 44, 45, 46, 47, 48, 49, 50, 51, 52, 53, 54, 55, 56, 57] (by decide +kernel) (by decide +kernel)
set_option maxRecDepth 20000 in
theorem gX4_settle_X4_findValues : GoodIn wsX4_settle (wsV RX4 31 RX4 yX4_findValues wsX4_findValues) := goodIn_app (goodIn_of _ (by decide +kernel)) ggX4_settle_X4_findValues
theorem dX4_settle_0 : decode cX4_settle 0 = .ok (.iconst 0, 1) := by decide +kernel
theorem dX4_settle_1 : decode cX4_settle 1 = .ok (.istore_n 2, 1) := by decide +kernel
theorem dX4_settle_2 : decode cX4_settle 2 = .ok (.iload_n 2, 1) := by decide +kernel
theorem dX4_settle_3 : decode cX4_settle 3 = .ok (.bipush 16, 2) := by decide +kernel
theorem dX4_settle_5 : decode cX4_settle 5 = .ok (.if_icmp .ge 31, 3) := by decide +kernel
theorem dX4_settle_8 : decode cX4_settle 8 = .ok (.aload_n 0, 1) := by decide +kernel
theorem dX4_settle_9 : decode cX4_settle 9 = .ok (.getfield 9, 3) := by decide +kernel
theorem dX4_settle_12 : decode cX4_settle 12 = .ok (.iload_n 2, 1) := by decide +kernel
theorem dX4_settle_13 : decode cX4_settle 13 = .ok (.bipush (-5), 2) := by decide +kernel
theorem dX4_settle_15 : decode cX4_settle 15 = .ok (.iastore, 1) := by decide +kernel
theorem dX4_settle_16 : decode cX4_settle 16 = .ok (.aload_n 0, 1) := by decide +kernel
theorem dX4_settle_17 : decode cX4_settle 17 = .ok (.getfield 15, 3) := by decide +kernel
theorem dX4_settle_20 : decode cX4_settle 20 = .ok (.iload_n 2, 1) := by decide +kernel
theorem dX4_settle_21 : decode cX4_settle 21 = .ok (.iconst 0, 1) := by decide +kernel
theorem dX4_settle_22 : decode cX4_settle 22 = .ok (.bastore, 1) := by decide +kernel
theorem dX4_settle_23 : decode cX4_settle 23 = .ok (.aload_n 0, 1) := by decide +kernel
theorem dX4_settle_24 : decode cX4_settle 24 = .ok (.getfield 19, 3) := by decide +kernel
theorem dX4_settle_27 : decode cX4_settle 27 = .ok (.iload_n 2, 1) := by decide +kernel
theorem dX4_settle_28 : decode cX4_settle 28 = .ok (.fconst 0, 1) := by decide +kernel
theorem dX4_settle_29 : decode cX4_settle 29 = .ok (.fastore, 1) := by decide +kernel
theorem dX4_settle_30 : decode cX4_settle 30 = .ok (.iinc 2 1, 3) := by decide +kernel
theorem dX4_settle_33 : decode cX4_settle 33 = .ok (.goto (-31), 3) := by decide +kernel
theorem dX4_settle_36 : decode cX4_settle 36 = .ok (.aload_n 0, 1) := by decide +kernel
theorem dX4_settle_37 : decode cX4_settle 37 = .ok (.iload_n 1, 1) := by decide +kernel
theorem dX4_settle_38 : decode cX4_settle 38 = .ok (.invokevirtual 27, 3) := by decide +kernel
theorem dX4_settle_41 : decode cX4_settle 41 = .ok (.aload_n 0, 1) := by decide +kernel
theorem dX4_settle_42 : decode cX4_settle 42 = .ok (.invokevirtual 31, 3) := by decide +kernel
theorem dX4_settle_45 : decode cX4_settle 45 = .ok (.return_, 1) := by decide +kernel
set_option maxRecDepth 20000 in
theorem ggX4_findRulers_X1_hangs : GoodIn wsX4_findRulers wsX1_hangs := goodIn_r _ [9, 10, 21, 22, 23, 24, 25, 26, 27, 28, 29, 30, 31, 32, 33] (by decide +kernel) (by decide +kernel)
set_option maxRecDepth 20000 in
theorem gX4_findRulers_X1_hangs : GoodIn wsX4_findRulers (wsV RX4 40 RX1 yX1_hangs wsX1_hangs) := goodIn_app (goodIn_of _ (by decide +kernel)) ggX4_findRulers_X1_hangs
set_option maxRecDepth 20000 in
theorem ggX4_findRulers_X1_rankOf : GoodIn wsX4_findRulers wsX1_rankOf := goodIn_r _ [14, 15, 16, 21, 22, 23, 24, 25, 26, 27, 28, 29, 30, 31, 32, 33] (by decide +kernel) (by decide +kernel)
set_option maxRecDepth 20000 in
theorem gX4_findRulers_X1_rankOf : GoodIn wsX4_findRulers (wsV RX4 47 RX1 yX1_rankOf wsX1_rankOf) := goodIn_app (goodIn_of _ (by decide +kernel)) ggX4_findRulers_X1_rankOf
theorem dX4_findRulers_0 : decode cX4_findRulers 0 = .ok (.iconst 0, 1) := by decide +kernel
theorem dX4_findRulers_1 : decode cX4_findRulers 1 = .ok (.istore_n 2, 1) := by decide +kernel
theorem dX4_findRulers_2 : decode cX4_findRulers 2 = .ok (.iload_n 2, 1) := by decide +kernel
theorem dX4_findRulers_3 : decode cX4_findRulers 3 = .ok (.aload_n 0, 1) := by decide +kernel
theorem dX4_findRulers_4 : decode cX4_findRulers 4 = .ok (.getfield 23, 3) := by decide +kernel
theorem dX4_findRulers_7 : decode cX4_findRulers 7 = .ok (.getfield 34, 3) := by decide +kernel
theorem dX4_findRulers_10 : decode cX4_findRulers 10 = .ok (.if_icmp .ge 75, 3) := by decide +kernel
theorem dX4_findRulers_13 : decode cX4_findRulers 13 = .ok (.aload_n 0, 1) := by decide +kernel
theorem dX4_findRulers_14 : decode cX4_findRulers 14 = .ok (.getfield 23, 3) := by decide +kernel
theorem dX4_findRulers_17 : decode cX4_findRulers 17 = .ok (.iload_n 2, 1) := by decide +kernel
theorem dX4_findRulers_18 : decode cX4_findRulers 18 = .ok (.invokevirtual 40, 3) := by decide +kernel
theorem dX4_findRulers_21 : decode cX4_findRulers 21 = .ok (.ifCond .eq 58, 3) := by decide +kernel
theorem dX4_findRulers_24 : decode cX4_findRulers 24 = .ok (.iload_n 2, 1) := by decide +kernel
theorem dX4_findRulers_25 : decode cX4_findRulers 25 = .ok (.iload_n 1, 1) := by decide +kernel
theorem dX4_findRulers_26 : decode cX4_findRulers 26 = .ok (.if_icmp .eq 53, 3) := by decide +kernel
theorem dX4_findRulers_29 : decode cX4_findRulers 29 = .ok (.aload_n 0, 1) := by decide +kernel
theorem dX4_findRulers_30 : decode cX4_findRulers 30 = .ok (.getfield 23, 3) := by decide +kernel
theorem dX4_findRulers_33 : decode cX4_findRulers 33 = .ok (.getfield 44, 3) := by decide +kernel
theorem dX4_findRulers_36 : decode cX4_findRulers 36 = .ok (.iload_n 2, 1) := by decide +kernel
theorem dX4_findRulers_37 : decode cX4_findRulers 37 = .ok (.iaload, 1) := by decide +kernel
theorem dX4_findRulers_38 : decode cX4_findRulers 38 = .ok (.istore_n 3, 1) := by decide +kernel
theorem dX4_findRulers_39 : decode cX4_findRulers 39 = .ok (.aload_n 0, 1) := by decide +kernel
theorem dX4_findRulers_40 : decode cX4_findRulers 40 = .ok (.getfield 9, 3) := by decide +kernel
theorem dX4_findRulers_43 : decode cX4_findRulers 43 = .ok (.iload_n 3, 1) := by decide +kernel
theorem dX4_findRulers_44 : decode cX4_findRulers 44 = .ok (.iaload, 1) := by decide +kernel
theorem dX4_findRulers_45 : decode cX4_findRulers 45 = .ok (.istore 4, 2) := by decide +kernel
theorem dX4_findRulers_47 : decode cX4_findRulers 47 = .ok (.iload 4, 2) := by decide +kernel
theorem dX4_findRulers_49 : decode cX4_findRulers 49 = .ok (.ifCond .lt 23, 3) := by decide +kernel
theorem dX4_findRulers_52 : decode cX4_findRulers 52 = .ok (.aload_n 0, 1) := by decide +kernel
theorem dX4_findRulers_53 : decode cX4_findRulers 53 = .ok (.getfield 23, 3) := by decide +kernel
theorem dX4_findRulers_56 : decode cX4_findRulers 56 = .ok (.iload_n 2, 1) := by decide +kernel
theorem dX4_findRulers_57 : decode cX4_findRulers 57 = .ok (.invokevirtual 47, 3) := by decide +kernel
theorem dX4_findRulers_60 : decode cX4_findRulers 60 = .ok (.aload_n 0, 1) := by decide +kernel
theorem dX4_findRulers_61 : decode cX4_findRulers 61 = .ok (.getfield 23, 3) := by decide +kernel
theorem dX4_findRulers_64 : decode cX4_findRulers 64 = .ok (.iload 4, 2) := by decide +kernel
theorem dX4_findRulers_66 : decode cX4_findRulers 66 = .ok (.invokevirtual 47, 3) := by decide +kernel
theorem dX4_findRulers_69 : decode cX4_findRulers 69 = .ok (.if_icmp .lt 10, 3) := by decide +kernel
theorem dX4_findRulers_72 : decode cX4_findRulers 72 = .ok (.aload_n 0, 1) := by decide +kernel
theorem dX4_findRulers_73 : decode cX4_findRulers 73 = .ok (.getfield 9, 3) := by decide +kernel
theorem dX4_findRulers_76 : decode cX4_findRulers 76 = .ok (.iload_n 3, 1) := by decide +kernel
theorem dX4_findRulers_77 : decode cX4_findRulers 77 = .ok (.iload_n 2, 1) := by decide +kernel
theorem dX4_findRulers_78 : decode cX4_findRulers 78 = .ok (.iastore, 1) := by decide +kernel
theorem dX4_findRulers_79 : decode cX4_findRulers 79 = .ok (.iinc 2 1, 3) := by decide +kernel
theorem dX4_findRulers_82 : decode cX4_findRulers 82 = .ok (.goto (-80), 3) := by decide +kernel
theorem dX4_findRulers_85 : decode cX4_findRulers 85 = .ok (.return_, 1) := by decide +kernel
set_option maxRecDepth 20000 in
theorem ggX4_findValues_X4_orderHasValue : GoodIn wsX4_findValues wsX4_orderHasValue := goodIn_r _ [8, 9, 10, 2, 11, 12, 13, 14, 15, 7, 16, 17, 3, 18, 19, 20, 21, 22, 23, 24, 25, 26, 27, 28, 29, 30, 31, 32, 33, 34, 35] (by decide +kernel) (by decide +kernel)
set_option maxRecDepth 20000 in
theorem gX4_findValues_X4_orderHasValue : GoodIn wsX4_findValues (wsV RX4 51 RX4 yX4_orderHasValue wsX4_orderHasValue) := goodIn_app (goodIn_of _ (by decide +kernel)) ggX4_findValues_X4_orderHasValue
set_option maxRecDepth 20000 in
theorem ggX4_findValues_X4_orderValue : GoodIn wsX4_findValues wsX4_orderValue := goodIn_r _ [16, 9, 10, 17, 3, 18, 19, 20, 21, 22, 23, 24, 25, 26, 27, 28, 29, 30, 31, 32, 33, 34, 35] (by decide +kernel) (by decide +kernel)
set_option maxRecDepth 20000 in
theorem gX4_findValues_X4_orderValue : GoodIn wsX4_findValues (wsV RX4 54 RX4 yX4_orderValue wsX4_orderValue) := goodIn_app (goodIn_of _ (by decide +kernel)) ggX4_findValues_X4_orderValue
theorem dX4_findValues_0 : decode cX4_findValues 0 = .ok (.iconst 1, 1) := by decide +kernel
theorem dX4_findValues_1 : decode cX4_findValues 1 = .ok (.istore_n 1, 1) := by decide +kernel
theorem dX4_findValues_2 : decode cX4_findValues 2 = .ok (.iconst 0, 1) := by decide +kernel
theorem dX4_findValues_3 : decode cX4_findValues 3 = .ok (.istore_n 2, 1) := by decide +kernel
theorem dX4_findValues_4 : decode cX4_findValues 4 = .ok (.iload_n 2, 1) := by decide +kernel
theorem dX4_findValues_5 : decode cX4_findValues 5 = .ok (.bipush 16, 2) := by decide +kernel
theorem dX4_findValues_7 : decode cX4_findValues 7 = .ok (.if_icmp .ge 81, 3) := by decide +kernel
theorem dX4_findValues_10 : decode cX4_findValues 10 = .ok (.iload_n 1, 1) := by decide +kernel
theorem dX4_findValues_11 : decode cX4_findValues 11 = .ok (.ifCond .eq 77, 3) := by decide +kernel
theorem dX4_findValues_14 : decode cX4_findValues 14 = .ok (.iconst 0, 1) := by decide +kernel
theorem dX4_findValues_15 : decode cX4_findValues 15 = .ok (.istore_n 1, 1) := by decide +kernel
theorem dX4_findValues_16 : decode cX4_findValues 16 = .ok (.iconst 0, 1) := by decide +kernel
theorem dX4_findValues_17 : decode cX4_findValues 17 = .ok (.istore_n 3, 1) := by decide +kernel
theorem dX4_findValues_18 : decode cX4_findValues 18 = .ok (.iload_n 3, 1) := by decide +kernel
theorem dX4_findValues_19 : decode cX4_findValues 19 = .ok (.bipush 16, 2) := by decide +kernel
theorem dX4_findValues_21 : decode cX4_findValues 21 = .ok (.if_icmp .ge 61, 3) := by decide +kernel
theorem dX4_findValues_24 : decode cX4_findValues 24 = .ok (.aload_n 0, 1) := by decide +kernel
theorem dX4_findValues_25 : decode cX4_findValues 25 = .ok (.getfield 9, 3) := by decide +kernel
theorem dX4_findValues_28 : decode cX4_findValues 28 = .ok (.iload_n 3, 1) := by decide +kernel
theorem dX4_findValues_29 : decode cX4_findValues 29 = .ok (.iaload, 1) := by decide +kernel
theorem dX4_findValues_30 : decode cX4_findValues 30 = .ok (.istore 4, 2) := by decide +kernel
theorem dX4_findValues_32 : decode cX4_findValues 32 = .ok (.aload_n 0, 1) := by decide +kernel
theorem dX4_findValues_33 : decode cX4_findValues 33 = .ok (.getfield 15, 3) := by decide +kernel
theorem dX4_findValues_36 : decode cX4_findValues 36 = .ok (.iload_n 3, 1) := by decide +kernel
theorem dX4_findValues_37 : decode cX4_findValues 37 = .ok (.baload, 1) := by decide +kernel
theorem dX4_findValues_38 : decode cX4_findValues 38 = .ok (.ifCond .ne 38, 3) := by decide +kernel
theorem dX4_findValues_41 : decode cX4_findValues 41 = .ok (.iload 4, 2) := by decide +kernel
theorem dX4_findValues_43 : decode cX4_findValues 43 = .ok (.ifCond .lt 33, 3) := by decide +kernel
theorem dX4_findValues_46 : decode cX4_findValues 46 = .ok (.aload_n 0, 1) := by decide +kernel
theorem dX4_findValues_47 : decode cX4_findValues 47 = .ok (.iload 4, 2) := by decide +kernel
theorem dX4_findValues_49 : decode cX4_findValues 49 = .ok (.invokevirtual 51, 3) := by decide +kernel
theorem dX4_findValues_52 : decode cX4_findValues 52 = .ok (.ifCond .eq 24, 3) := by decide +kernel
theorem dX4_findValues_55 : decode cX4_findValues 55 = .ok (.aload_n 0, 1) := by decide +kernel
theorem dX4_findValues_56 : decode cX4_findValues 56 = .ok (.getfield 15, 3) := by decide +kernel
theorem dX4_findValues_59 : decode cX4_findValues 59 = .ok (.iload_n 3, 1) := by decide +kernel
theorem dX4_findValues_60 : decode cX4_findValues 60 = .ok (.iconst 1, 1) := by decide +kernel
theorem dX4_findValues_61 : decode cX4_findValues 61 = .ok (.bastore, 1) := by decide +kernel
theorem dX4_findValues_62 : decode cX4_findValues 62 = .ok (.aload_n 0, 1) := by decide +kernel
theorem dX4_findValues_63 : decode cX4_findValues 63 = .ok (.getfield 19, 3) := by decide +kernel
theorem dX4_findValues_66 : decode cX4_findValues 66 = .ok (.iload_n 3, 1) := by decide +kernel
theorem dX4_findValues_67 : decode cX4_findValues 67 = .ok (.aload_n 0, 1) := by decide +kernel
theorem dX4_findValues_68 : decode cX4_findValues 68 = .ok (.iload 4, 2) := by decide +kernel
theorem dX4_findValues_70 : decode cX4_findValues 70 = .ok (.invokevirtual 54, 3) := by decide +kernel
theorem dX4_findValues_73 : decode cX4_findValues 73 = .ok (.fastore, 1) := by decide +kernel
theorem dX4_findValues_74 : decode cX4_findValues 74 = .ok (.iconst 1, 1) := by decide +kernel
theorem dX4_findValues_75 : decode cX4_findValues 75 = .ok (.istore_n 1, 1) := by decide +kernel
theorem dX4_findValues_76 : decode cX4_findValues 76 = .ok (.iinc 3 1, 3) := by decide +kernel
theorem dX4_findValues_79 : decode cX4_findValues 79 = .ok (.goto (-61), 3) := by decide +kernel
theorem dX4_findValues_82 : decode cX4_findValues 82 = .ok (.iinc 2 1, 3) := by decide +kernel
theorem dX4_findValues_85 : decode cX4_findValues 85 = .ok (.goto (-81), 3) := by decide +kernel
theorem dX4_findValues_88 : decode cX4_findValues 88 = .ok (.return_, 1) := by decide +kernel
set_option maxRecDepth 20000 in
theorem ggX4_orderHasValue_X4_orderValue : GoodIn wsX4_orderHasValue wsX4_orderValue := goodIn_r _ [10, 1, 2, 11, 12, 13, 14, 15, 16, 17, 18, 19, 20, 21, 22, 23, 24, 25, 26, 27, 28, 29, 30] (by decide +kernel) (by decide +kernel)
set_option maxRecDepth 20000 in
theorem gX4_orderHasValue_X4_orderValue : GoodIn wsX4_orderHasValue (wsV RX4 54 RX4 yX4_orderValue wsX4_orderValue) := goodIn_app (goodIn_of _ (by decide +kernel)) ggX4_orderHasValue_X4_orderValue
theorem dX4_orderHasValue_0 : decode cX4_orderHasValue 0 = .ok (.aload_n 0, 1) := by decide +kernel
theorem dX4_orderHasValue_1 : decode cX4_orderHasValue 1 = .ok (.getfield 23, 3) := by decide +kernel
theorem dX4_orderHasValue_4 : decode cX4_orderHasValue 4 = .ok (.getfield 58, 3) := by decide +kernel
theorem dX4_orderHasValue_7 : decode cX4_orderHasValue 7 = .ok (.iload_n 1, 1) := by decide +kernel
theorem dX4_orderHasValue_8 : decode cX4_orderHasValue 8 = .ok (.iaload, 1) := by decide +kernel
theorem dX4_orderHasValue_9 : decode cX4_orderHasValue 9 = .ok (.istore_n 2, 1) := by decide +kernel
theorem dX4_orderHasValue_10 : decode cX4_orderHasValue 10 = .ok (.iload_n 2, 1) := by decide +kernel
theorem dX4_orderHasValue_11 : decode cX4_orderHasValue 11 = .ok (.ifCond .lt 14, 3) := by decide +kernel
theorem dX4_orderHasValue_14 : decode cX4_orderHasValue 14 = .ok (.aload_n 0, 1) := by decide +kernel
theorem dX4_orderHasValue_15 : decode cX4_orderHasValue 15 = .ok (.getfield 15, 3) := by decide +kernel
theorem dX4_orderHasValue_18 : decode cX4_orderHasValue 18 = .ok (.iload_n 2, 1) := by decide +kernel
theorem dX4_orderHasValue_19 : decode cX4_orderHasValue 19 = .ok (.baload, 1) := by decide +kernel
theorem dX4_orderHasValue_20 : decode cX4_orderHasValue 20 = .ok (.ifCond .ne 5, 3) := by decide +kernel
theorem dX4_orderHasValue_23 : decode cX4_orderHasValue 23 = .ok (.iconst 0, 1) := by decide +kernel
theorem dX4_orderHasValue_24 : decode cX4_orderHasValue 24 = .ok (.ireturn, 1) := by decide +kernel
theorem dX4_orderHasValue_25 : decode cX4_orderHasValue 25 = .ok (.aload_n 0, 1) := by decide +kernel
theorem dX4_orderHasValue_26 : decode cX4_orderHasValue 26 = .ok (.iload_n 1, 1) := by decide +kernel
theorem dX4_orderHasValue_27 : decode cX4_orderHasValue 27 = .ok (.invokevirtual 54, 3) := by decide +kernel
theorem dX4_orderHasValue_30 : decode cX4_orderHasValue 30 = .ok (.fstore_n 3, 1) := by decide +kernel
theorem dX4_orderHasValue_31 : decode cX4_orderHasValue 31 = .ok (.fload_n 3, 1) := by decide +kernel
theorem dX4_orderHasValue_32 : decode cX4_orderHasValue 32 = .ok (.ldc 61, 2) := by decide +kernel
theorem dX4_orderHasValue_34 : decode cX4_orderHasValue 34 = .ok (.fcmp .l, 1) := by decide +kernel
theorem dX4_orderHasValue_35 : decode cX4_orderHasValue 35 = .ok (.ifCond .lt 14, 3) := by decide +kernel
theorem dX4_orderHasValue_38 : decode cX4_orderHasValue 38 = .ok (.fload_n 3, 1) := by decide +kernel
theorem dX4_orderHasValue_39 : decode cX4_orderHasValue 39 = .ok (.ldc 62, 2) := by decide +kernel
theorem dX4_orderHasValue_41 : decode cX4_orderHasValue 41 = .ok (.fcmp .g, 1) := by decide +kernel
theorem dX4_orderHasValue_42 : decode cX4_orderHasValue 42 = .ok (.ifCond .gt 7, 3) := by decide +kernel
theorem dX4_orderHasValue_45 : decode cX4_orderHasValue 45 = .ok (.iconst 1, 1) := by decide +kernel
theorem dX4_orderHasValue_46 : decode cX4_orderHasValue 46 = .ok (.goto 4, 3) := by decide +kernel
theorem dX4_orderHasValue_49 : decode cX4_orderHasValue 49 = .ok (.iconst 0, 1) := by decide +kernel
theorem dX4_orderHasValue_50 : decode cX4_orderHasValue 50 = .ok (.ireturn, 1) := by decide +kernel
theorem dX4_orderValue_0 : decode cX4_orderValue 0 = .ok (.aload_n 0, 1) := by decide +kernel
theorem dX4_orderValue_1 : decode cX4_orderValue 1 = .ok (.getfield 23, 3) := by decide +kernel
theorem dX4_orderValue_4 : decode cX4_orderValue 4 = .ok (.getfield 58, 3) := by decide +kernel
theorem dX4_orderValue_7 : decode cX4_orderValue 7 = .ok (.iload_n 1, 1) := by decide +kernel
theorem dX4_orderValue_8 : decode cX4_orderValue 8 = .ok (.iaload, 1) := by decide +kernel
theorem dX4_orderValue_9 : decode cX4_orderValue 9 = .ok (.istore_n 2, 1) := by decide +kernel
theorem dX4_orderValue_10 : decode cX4_orderValue 10 = .ok (.iload_n 2, 1) := by decide +kernel
theorem dX4_orderValue_11 : decode cX4_orderValue 11 = .ok (.ifCond .ge 13, 3) := by decide +kernel
theorem dX4_orderValue_14 : decode cX4_orderValue 14 = .ok (.aload_n 0, 1) := by decide +kernel
theorem dX4_orderValue_15 : decode cX4_orderValue 15 = .ok (.getfield 23, 3) := by decide +kernel
theorem dX4_orderValue_18 : decode cX4_orderValue 18 = .ok (.getfield 63, 3) := by decide +kernel
theorem dX4_orderValue_21 : decode cX4_orderValue 21 = .ok (.iload_n 1, 1) := by decide +kernel
theorem dX4_orderValue_22 : decode cX4_orderValue 22 = .ok (.faload, 1) := by decide +kernel
theorem dX4_orderValue_23 : decode cX4_orderValue 23 = .ok (.freturn, 1) := by decide +kernel
theorem dX4_orderValue_24 : decode cX4_orderValue 24 = .ok (.aload_n 0, 1) := by decide +kernel
theorem dX4_orderValue_25 : decode cX4_orderValue 25 = .ok (.getfield 19, 3) := by decide +kernel
theorem dX4_orderValue_28 : decode cX4_orderValue 28 = .ok (.iload_n 2, 1) := by decide +kernel
theorem dX4_orderValue_29 : decode cX4_orderValue 29 = .ok (.faload, 1) := by decide +kernel
theorem dX4_orderValue_30 : decode cX4_orderValue 30 = .ok (.aload_n 0, 1) := by decide +kernel
theorem dX4_orderValue_31 : decode cX4_orderValue 31 = .ok (.getfield 23, 3) := by decide +kernel
theorem dX4_orderValue_34 : decode cX4_orderValue 34 = .ok (.getfield 66, 3) := by decide +kernel
theorem dX4_orderValue_37 : decode cX4_orderValue 37 = .ok (.iload_n 1, 1) := by decide +kernel
theorem dX4_orderValue_38 : decode cX4_orderValue 38 = .ok (.faload, 1) := by decide +kernel
theorem dX4_orderValue_39 : decode cX4_orderValue 39 = .ok (.fmul, 1) := by decide +kernel
theorem dX4_orderValue_40 : decode cX4_orderValue 40 = .ok (.aload_n 0, 1) := by decide +kernel
theorem dX4_orderValue_41 : decode cX4_orderValue 41 = .ok (.getfield 23, 3) := by decide +kernel
theorem dX4_orderValue_44 : decode cX4_orderValue 44 = .ok (.getfield 63, 3) := by decide +kernel
theorem dX4_orderValue_47 : decode cX4_orderValue 47 = .ok (.iload_n 1, 1) := by decide +kernel
theorem dX4_orderValue_48 : decode cX4_orderValue 48 = .ok (.faload, 1) := by decide +kernel
theorem dX4_orderValue_49 : decode cX4_orderValue 49 = .ok (.fadd, 1) := by decide +kernel
theorem dX4_orderValue_50 : decode cX4_orderValue 50 = .ok (.freturn, 1) := by decide +kernel
theorem dX4_linkFrom_0 : decode cX4_linkFrom 0 = .ok (.aload_n 0, 1) := by decide +kernel
theorem dX4_linkFrom_1 : decode cX4_linkFrom 1 = .ok (.getfield 9, 3) := by decide +kernel
theorem dX4_linkFrom_4 : decode cX4_linkFrom 4 = .ok (.iload_n 1, 1) := by decide +kernel
theorem dX4_linkFrom_5 : decode cX4_linkFrom 5 = .ok (.iaload, 1) := by decide +kernel
theorem dX4_linkFrom_6 : decode cX4_linkFrom 6 = .ok (.istore_n 2, 1) := by decide +kernel
theorem dX4_linkFrom_7 : decode cX4_linkFrom 7 = .ok (.iload_n 2, 1) := by decide +kernel
theorem dX4_linkFrom_8 : decode cX4_linkFrom 8 = .ok (.ifCond .ge 8, 3) := by decide +kernel
theorem dX4_linkFrom_11 : decode cX4_linkFrom 11 = .ok (.bipush (-5), 2) := by decide +kernel
theorem dX4_linkFrom_13 : decode cX4_linkFrom 13 = .ok (.goto 12, 3) := by decide +kernel
theorem dX4_linkFrom_16 : decode cX4_linkFrom 16 = .ok (.aload_n 0, 1) := by decide +kernel
theorem dX4_linkFrom_17 : decode cX4_linkFrom 17 = .ok (.getfield 23, 3) := by decide +kernel
theorem dX4_linkFrom_20 : decode cX4_linkFrom 20 = .ok (.getfield 58, 3) := by decide +kernel
theorem dX4_linkFrom_23 : decode cX4_linkFrom 23 = .ok (.iload_n 2, 1) := by decide +kernel
theorem dX4_linkFrom_24 : decode cX4_linkFrom 24 = .ok (.iaload, 1) := by decide +kernel
theorem dX4_linkFrom_25 : decode cX4_linkFrom 25 = .ok (.ireturn, 1) := by decide +kernel
set_option maxRecDepth 20000 in
theorem ggX4_linksToEnd_X4_linkFrom : GoodIn wsX4_linksToEnd wsX4_linkFrom := goodIn_r _ [5, 6, 7, 8, 9, 10, 11, 12, 13, 14, 15, 16, 17, 18, 19, 20, 21, 22, 23, 24, 25] (by decide +kernel) (by decide +kernel)
set_option maxRecDepth 20000 in
theorem gX4_linksToEnd_X4_linkFrom : GoodIn wsX4_linksToEnd (wsV RX4 69 RX4 yX4_linkFrom wsX4_linkFrom) := goodIn_app (goodIn_of _ (by decide +kernel)) ggX4_linksToEnd_X4_linkFrom
theorem dX4_linksToEnd_0 : decode cX4_linksToEnd 0 = .ok (.iload_n 1, 1) := by decide +kernel
theorem dX4_linksToEnd_1 : decode cX4_linksToEnd 1 = .ok (.istore_n 2, 1) := by decide +kernel
theorem dX4_linksToEnd_2 : decode cX4_linksToEnd 2 = .ok (.iconst 0, 1) := by decide +kernel
theorem dX4_linksToEnd_3 : decode cX4_linksToEnd 3 = .ok (.istore_n 3, 1) := by decide +kernel
theorem dX4_linksToEnd_4 : decode cX4_linksToEnd 4 = .ok (.iload_n 3, 1) := by decide +kernel
theorem dX4_linksToEnd_5 : decode cX4_linksToEnd 5 = .ok (.bipush 16, 2) := by decide +kernel
theorem dX4_linksToEnd_7 : decode cX4_linksToEnd 7 = .ok (.if_icmp .ge 21, 3) := by decide +kernel
theorem dX4_linksToEnd_10 : decode cX4_linksToEnd 10 = .ok (.aload_n 0, 1) := by decide +kernel
theorem dX4_linksToEnd_11 : decode cX4_linksToEnd 11 = .ok (.iload_n 2, 1) := by decide +kernel
theorem dX4_linksToEnd_12 : decode cX4_linksToEnd 12 = .ok (.invokevirtual 69, 3) := by decide +kernel
theorem dX4_linksToEnd_15 : decode cX4_linksToEnd 15 = .ok (.istore_n 2, 1) := by decide +kernel
theorem dX4_linksToEnd_16 : decode cX4_linksToEnd 16 = .ok (.iload_n 2, 1) := by decide +kernel
theorem dX4_linksToEnd_17 : decode cX4_linksToEnd 17 = .ok (.ifCond .ge 5, 3) := by decide +kernel
theorem dX4_linksToEnd_20 : decode cX4_linksToEnd 20 = .ok (.iload_n 3, 1) := by decide +kernel
theorem dX4_linksToEnd_21 : decode cX4_linksToEnd 21 = .ok (.ireturn, 1) := by decide +kernel
theorem dX4_linksToEnd_22 : decode cX4_linksToEnd 22 = .ok (.iinc 3 1, 3) := by decide +kernel
theorem dX4_linksToEnd_25 : decode cX4_linksToEnd 25 = .ok (.goto (-21), 3) := by decide +kernel
theorem dX4_linksToEnd_28 : decode cX4_linksToEnd 28 = .ok (.bipush (-5), 2) := by decide +kernel
theorem dX4_linksToEnd_30 : decode cX4_linksToEnd 30 = .ok (.ireturn, 1) := by decide +kernel
set_option maxRecDepth 20000 in
theorem ggX4_comesTo_X4_linkFrom : GoodIn wsX4_comesTo wsX4_linkFrom := goodIn_r _ [5, 6, 7, 8, 9, 10, 11, 12, 13, 14, 15, 16, 17, 18, 19, 20, 21, 22, 23, 24, 25] (by decide +kernel) (by decide +kernel)
set_option maxRecDepth 20000 in
theorem gX4_comesTo_X4_linkFrom : GoodIn wsX4_comesTo (wsV RX4 69 RX4 yX4_linkFrom wsX4_linkFrom) := goodIn_app (goodIn_of _ (by decide +kernel)) ggX4_comesTo_X4_linkFrom
theorem dX4_comesTo_0 : decode cX4_comesTo 0 = .ok (.aload_n 0, 1) := by decide +kernel
theorem dX4_comesTo_1 : decode cX4_comesTo 1 = .ok (.iload_n 1, 1) := by decide +kernel
theorem dX4_comesTo_2 : decode cX4_comesTo 2 = .ok (.invokevirtual 69, 3) := by decide +kernel
theorem dX4_comesTo_5 : decode cX4_comesTo 5 = .ok (.istore_n 3, 1) := by decide +kernel
theorem dX4_comesTo_6 : decode cX4_comesTo 6 = .ok (.iconst 0, 1) := by decide +kernel
theorem dX4_comesTo_7 : decode cX4_comesTo 7 = .ok (.istore 4, 2) := by decide +kernel
theorem dX4_comesTo_9 : decode cX4_comesTo 9 = .ok (.iload 4, 2) := by decide +kernel
theorem dX4_comesTo_11 : decode cX4_comesTo 11 = .ok (.bipush 16, 2) := by decide +kernel
theorem dX4_comesTo_13 : decode cX4_comesTo 13 = .ok (.if_icmp .ge 26, 3) := by decide +kernel
theorem dX4_comesTo_16 : decode cX4_comesTo 16 = .ok (.iload_n 3, 1) := by decide +kernel
theorem dX4_comesTo_17 : decode cX4_comesTo 17 = .ok (.ifCond .lt 22, 3) := by decide +kernel
theorem dX4_comesTo_20 : decode cX4_comesTo 20 = .ok (.iload_n 3, 1) := by decide +kernel
theorem dX4_comesTo_21 : decode cX4_comesTo 21 = .ok (.iload_n 2, 1) := by decide +kernel
theorem dX4_comesTo_22 : decode cX4_comesTo 22 = .ok (.if_icmp .ne 5, 3) := by decide +kernel
theorem dX4_comesTo_25 : decode cX4_comesTo 25 = .ok (.iconst 1, 1) := by decide +kernel
theorem dX4_comesTo_26 : decode cX4_comesTo 26 = .ok (.ireturn, 1) := by decide +kernel
theorem dX4_comesTo_27 : decode cX4_comesTo 27 = .ok (.aload_n 0, 1) := by decide +kernel
theorem dX4_comesTo_28 : decode cX4_comesTo 28 = .ok (.iload_n 3, 1) := by decide +kernel
theorem dX4_comesTo_29 : decode cX4_comesTo 29 = .ok (.invokevirtual 69, 3) := by decide +kernel
theorem dX4_comesTo_32 : decode cX4_comesTo 32 = .ok (.istore_n 3, 1) := by decide +kernel
theorem dX4_comesTo_33 : decode cX4_comesTo 33 = .ok (.iinc 4 1, 3) := by decide +kernel
theorem dX4_comesTo_36 : decode cX4_comesTo 36 = .ok (.goto (-27), 3) := by decide +kernel
theorem dX4_comesTo_39 : decode cX4_comesTo 39 = .ok (.iconst 0, 1) := by decide +kernel
theorem dX4_comesTo_40 : decode cX4_comesTo 40 = .ok (.ireturn, 1) := by decide +kernel
set_option maxRecDepth 20000 in
theorem ggX4_dependents_X4_comesTo : GoodIn wsX4_dependents wsX4_comesTo := goodIn_r _ [5, 6, 7, 8, 4, 9, 10, 11, 12, 13, 14, 15, 16, 17, 18, 19, 20, 21, 22, 23, 24, 25, 26, 27, 28, 29] (by decide +kernel) (by decide +kernel)
set_option maxRecDepth 20000 in
theorem gX4_dependents_X4_comesTo : GoodIn wsX4_dependents (wsV RX4 72 RX4 yX4_comesTo wsX4_comesTo) := goodIn_app (goodIn_of _ (by decide +kernel)) ggX4_dependents_X4_comesTo
theorem dX4_dependents_0 : decode cX4_dependents 0 = .ok (.iconst 0, 1) := by decide +kernel
theorem dX4_dependents_1 : decode cX4_dependents 1 = .ok (.istore_n 2, 1) := by decide +kernel
theorem dX4_dependents_2 : decode cX4_dependents 2 = .ok (.iconst 0, 1) := by decide +kernel
theorem dX4_dependents_3 : decode cX4_dependents 3 = .ok (.istore_n 3, 1) := by decide +kernel
theorem dX4_dependents_4 : decode cX4_dependents 4 = .ok (.iload_n 3, 1) := by decide +kernel
theorem dX4_dependents_5 : decode cX4_dependents 5 = .ok (.bipush 16, 2) := by decide +kernel
theorem dX4_dependents_7 : decode cX4_dependents 7 = .ok (.if_icmp .ge 24, 3) := by decide +kernel
theorem dX4_dependents_10 : decode cX4_dependents 10 = .ok (.aload_n 0, 1) := by decide +kernel
theorem dX4_dependents_11 : decode cX4_dependents 11 = .ok (.iload_n 3, 1) := by decide +kernel
theorem dX4_dependents_12 : decode cX4_dependents 12 = .ok (.iload_n 1, 1) := by decide +kernel
theorem dX4_dependents_13 : decode cX4_dependents 13 = .ok (.invokevirtual 72, 3) := by decide +kernel
theorem dX4_dependents_16 : decode cX4_dependents 16 = .ok (.ifCond .eq 9, 3) := by decide +kernel
theorem dX4_dependents_19 : decode cX4_dependents 19 = .ok (.iload_n 2, 1) := by decide +kernel
theorem dX4_dependents_20 : decode cX4_dependents 20 = .ok (.iconst 1, 1) := by decide +kernel
theorem dX4_dependents_21 : decode cX4_dependents 21 = .ok (.iload_n 3, 1) := by decide +kernel
theorem dX4_dependents_22 : decode cX4_dependents 22 = .ok (.ishl, 1) := by decide +kernel
theorem dX4_dependents_23 : decode cX4_dependents 23 = .ok (.ior, 1) := by decide +kernel
theorem dX4_dependents_24 : decode cX4_dependents 24 = .ok (.istore_n 2, 1) := by decide +kernel
theorem dX4_dependents_25 : decode cX4_dependents 25 = .ok (.iinc 3 1, 3) := by decide +kernel
theorem dX4_dependents_28 : decode cX4_dependents 28 = .ok (.goto (-24), 3) := by decide +kernel
theorem dX4_dependents_31 : decode cX4_dependents 31 = .ok (.iload_n 2, 1) := by decide +kernel
theorem dX4_dependents_32 : decode cX4_dependents 32 = .ok (.ireturn, 1) := by decide +kernel
set_option maxRecDepth 20000 in
theorem ggX4_topmostRival_X1_hangsFor : GoodIn wsX4_topmostRival wsX1_hangsFor := goodIn_r _ [8, 9, 10, 11, 12, 7, 13, 14, 51, 52, 53, 54, 55, 56, 57, 58, 59, 60, 61, 62, 63] (by decide +kernel) (by decide +kernel)
set_option maxRecDepth 20000 in
theorem gX4_topmostRival_X1_hangsFor : GoodIn wsX4_topmostRival (wsV RX4 76 RX1 yX1_hangsFor wsX1_hangsFor) := goodIn_app (goodIn_of _ (by decide +kernel)) ggX4_topmostRival_X1_hangsFor
set_option maxRecDepth 20000 in
theorem ggX4_topmostRival_X4_areRivals : GoodIn wsX4_topmostRival wsX4_areRivals := goodIn_r _ [19, 2, 20, 21, 22, 23, 7, 24, 25, 26, 27, 28, 29, 18, 30, 31, 32, 33, 34, 35, 36, 37, 38, 39, 40, 41, 42, 43, 44, 45, 46, 47, 48, 49, 50, 51, 52, 53, 54, 55, 56, 57, 58, 59, 60, 61, 62, 63] (by decide +kernel) (by decide +kernel)
set_option maxRecDepth 20000 in
theorem gX4_topmostRival_X4_areRivals : GoodIn wsX4_topmostRival (wsV RX4 79 RX4 yX4_areRivals wsX4_areRivals) := goodIn_app (goodIn_of _ (by decide +kernel)) ggX4_topmostRival_X4_areRivals
theorem dX4_topmostRival_0 : decode cX4_topmostRival 0 = .ok (.aload_n 0, 1) := by decide +kernel
theorem dX4_topmostRival_1 : decode cX4_topmostRival 1 = .ok (.getfield 9, 3) := by decide +kernel
theorem dX4_topmostRival_4 : decode cX4_topmostRival 4 = .ok (.iload_n 1, 1) := by decide +kernel
theorem dX4_topmostRival_5 : decode cX4_topmostRival 5 = .ok (.iaload, 1) := by decide +kernel
theorem dX4_topmostRival_6 : decode cX4_topmostRival 6 = .ok (.istore_n 2, 1) := by decide +kernel
theorem dX4_topmostRival_7 : decode cX4_topmostRival 7 = .ok (.iload_n 2, 1) := by decide +kernel
theorem dX4_topmostRival_8 : decode cX4_topmostRival 8 = .ok (.ifCond .ge 6, 3) := by decide +kernel
theorem dX4_topmostRival_11 : decode cX4_topmostRival 11 = .ok (.bipush (-5), 2) := by decide +kernel
theorem dX4_topmostRival_13 : decode cX4_topmostRival 13 = .ok (.ireturn, 1) := by decide +kernel
theorem dX4_topmostRival_14 : decode cX4_topmostRival 14 = .ok (.aload_n 0, 1) := by decide +kernel
theorem dX4_topmostRival_15 : decode cX4_topmostRival 15 = .ok (.getfield 23, 3) := by decide +kernel
theorem dX4_topmostRival_18 : decode cX4_topmostRival 18 = .ok (.getfield 34, 3) := by decide +kernel
theorem dX4_topmostRival_21 : decode cX4_topmostRival 21 = .ok (.iconst 1, 1) := by decide +kernel
theorem dX4_topmostRival_22 : decode cX4_topmostRival 22 = .ok (.isub, 1) := by decide +kernel
theorem dX4_topmostRival_23 : decode cX4_topmostRival 23 = .ok (.istore_n 3, 1) := by decide +kernel
theorem dX4_topmostRival_24 : decode cX4_topmostRival 24 = .ok (.iload_n 3, 1) := by decide +kernel
theorem dX4_topmostRival_25 : decode cX4_topmostRival 25 = .ok (.ifCond .lt 32, 3) := by decide +kernel
theorem dX4_topmostRival_28 : decode cX4_topmostRival 28 = .ok (.aload_n 0, 1) := by decide +kernel
theorem dX4_topmostRival_29 : decode cX4_topmostRival 29 = .ok (.getfield 23, 3) := by decide +kernel
theorem dX4_topmostRival_32 : decode cX4_topmostRival 32 = .ok (.iload_n 3, 1) := by decide +kernel
theorem dX4_topmostRival_33 : decode cX4_topmostRival 33 = .ok (.iload_n 1, 1) := by decide +kernel
theorem dX4_topmostRival_34 : decode cX4_topmostRival 34 = .ok (.invokevirtual 76, 3) := by decide +kernel
theorem dX4_topmostRival_37 : decode cX4_topmostRival 37 = .ok (.ifCond .eq 14, 3) := by decide +kernel
theorem dX4_topmostRival_40 : decode cX4_topmostRival 40 = .ok (.aload_n 0, 1) := by decide +kernel
theorem dX4_topmostRival_41 : decode cX4_topmostRival 41 = .ok (.iload_n 3, 1) := by decide +kernel
theorem dX4_topmostRival_42 : decode cX4_topmostRival 42 = .ok (.iload_n 2, 1) := by decide +kernel
theorem dX4_topmostRival_43 : decode cX4_topmostRival 43 = .ok (.invokevirtual 79, 3) := by decide +kernel
theorem dX4_topmostRival_46 : decode cX4_topmostRival 46 = .ok (.ifCond .eq 5, 3) := by decide +kernel
theorem dX4_topmostRival_49 : decode cX4_topmostRival 49 = .ok (.iload_n 3, 1) := by decide +kernel
theorem dX4_topmostRival_50 : decode cX4_topmostRival 50 = .ok (.ireturn, 1) := by decide +kernel
theorem dX4_topmostRival_51 : decode cX4_topmostRival 51 = .ok (.iinc 3 (-1), 3) := by decide +kernel
theorem dX4_topmostRival_54 : decode cX4_topmostRival 54 = .ok (.goto (-30), 3) := by decide +kernel
theorem dX4_topmostRival_57 : decode cX4_topmostRival 57 = .ok (.bipush (-5), 2) := by decide +kernel
theorem dX4_topmostRival_59 : decode cX4_topmostRival 59 = .ok (.ireturn, 1) := by decide +kernel
set_option maxRecDepth 20000 in
theorem ggX4_areRivals_X1_rankOf : GoodIn wsX4_areRivals wsX1_rankOf := goodIn_r _ [7, 8, 9, 35, 36, 37, 38, 39, 40, 41, 42, 43, 44, 45, 46, 47] (by decide +kernel) (by decide +kernel)
set_option maxRecDepth 20000 in
theorem gX4_areRivals_X1_rankOf : GoodIn wsX4_areRivals (wsV RX4 47 RX1 yX1_rankOf wsX1_rankOf) := goodIn_app (goodIn_of _ (by decide +kernel)) ggX4_areRivals_X1_rankOf
set_option maxRecDepth 20000 in
theorem ggX4_areRivals_X4_orderHasValue : GoodIn wsX4_areRivals wsX4_orderHasValue := goodIn_r _ [14, 1, 15, 16, 17, 18, 19, 20, 21, 13, 22, 23, 24, 25, 31, 32, 33, 34, 35, 36, 37, 38, 39, 40, 41, 42, 43, 44, 45, 46, 47] (by decide +kernel) (by decide +kernel)
set_option maxRecDepth 20000 in
theorem gX4_areRivals_X4_orderHasValue : GoodIn wsX4_areRivals (wsV RX4 51 RX4 yX4_orderHasValue wsX4_orderHasValue) := goodIn_app (goodIn_of _ (by decide +kernel)) ggX4_areRivals_X4_orderHasValue
set_option maxRecDepth 20000 in
theorem ggX4_areRivals_X4_orderValue : GoodIn wsX4_areRivals wsX4_orderValue := goodIn_r _ [22, 1, 15, 23, 24, 25, 31, 32, 33, 34, 35, 36, 37, 38, 39, 40, 41, 42, 43, 44, 45, 46, 47] (by decide +kernel) (by decide +kernel)
set_option maxRecDepth 20000 in
theorem gX4_areRivals_X4_orderValue : GoodIn wsX4_areRivals (wsV RX4 54 RX4 yX4_orderValue wsX4_orderValue) := goodIn_app (goodIn_of _ (by decide +kernel)) ggX4_areRivals_X4_orderValue
set_option maxRecDepth 20000 in
theorem ggX4_areRivals_X4_areFar : GoodIn wsX4_areRivals wsX4_areFar := goodIn_r _ [29, 1, 30, 31, 32, 33, 34, 35, 36, 37, 38, 39, 40, 41, 42, 43, 44, 45, 46, 47] (by decide +kernel) (by decide +kernel)
set_option maxRecDepth 20000 in
theorem gX4_areRivals_X4_areFar : GoodIn wsX4_areRivals (wsV RX4 85 RX4 yX4_areFar wsX4_areFar) := goodIn_app (goodIn_of _ (by decide +kernel)) ggX4_areRivals_X4_areFar
theorem dX4_areRivals_0 : decode cX4_areRivals 0 = .ok (.aload_n 0, 1) := by decide +kernel
theorem dX4_areRivals_1 : decode cX4_areRivals 1 = .ok (.getfield 23, 3) := by decide +kernel
theorem dX4_areRivals_4 : decode cX4_areRivals 4 = .ok (.getfield 82, 3) := by decide +kernel
theorem dX4_areRivals_7 : decode cX4_areRivals 7 = .ok (.iload_n 1, 1) := by decide +kernel
theorem dX4_areRivals_8 : decode cX4_areRivals 8 = .ok (.iaload, 1) := by decide +kernel
theorem dX4_areRivals_9 : decode cX4_areRivals 9 = .ok (.aload_n 0, 1) := by decide +kernel
theorem dX4_areRivals_10 : decode cX4_areRivals 10 = .ok (.getfield 23, 3) := by decide +kernel
theorem dX4_areRivals_13 : decode cX4_areRivals 13 = .ok (.getfield 82, 3) := by decide +kernel
theorem dX4_areRivals_16 : decode cX4_areRivals 16 = .ok (.iload_n 2, 1) := by decide +kernel
theorem dX4_areRivals_17 : decode cX4_areRivals 17 = .ok (.iaload, 1) := by decide +kernel
theorem dX4_areRivals_18 : decode cX4_areRivals 18 = .ok (.if_icmp .eq 22, 3) := by decide +kernel
theorem dX4_areRivals_21 : decode cX4_areRivals 21 = .ok (.aload_n 0, 1) := by decide +kernel
theorem dX4_areRivals_22 : decode cX4_areRivals 22 = .ok (.getfield 23, 3) := by decide +kernel
theorem dX4_areRivals_25 : decode cX4_areRivals 25 = .ok (.iload_n 1, 1) := by decide +kernel
theorem dX4_areRivals_26 : decode cX4_areRivals 26 = .ok (.invokevirtual 47, 3) := by decide +kernel
theorem dX4_areRivals_29 : decode cX4_areRivals 29 = .ok (.aload_n 0, 1) := by decide +kernel
theorem dX4_areRivals_30 : decode cX4_areRivals 30 = .ok (.getfield 23, 3) := by decide +kernel
theorem dX4_areRivals_33 : decode cX4_areRivals 33 = .ok (.iload_n 2, 1) := by decide +kernel
theorem dX4_areRivals_34 : decode cX4_areRivals 34 = .ok (.invokevirtual 47, 3) := by decide +kernel
theorem dX4_areRivals_37 : decode cX4_areRivals 37 = .ok (.if_icmp .eq 5, 3) := by decide +kernel
theorem dX4_areRivals_40 : decode cX4_areRivals 40 = .ok (.iconst 0, 1) := by decide +kernel
theorem dX4_areRivals_41 : decode cX4_areRivals 41 = .ok (.ireturn, 1) := by decide +kernel
theorem dX4_areRivals_42 : decode cX4_areRivals 42 = .ok (.aload_n 0, 1) := by decide +kernel
theorem dX4_areRivals_43 : decode cX4_areRivals 43 = .ok (.iload_n 1, 1) := by decide +kernel
theorem dX4_areRivals_44 : decode cX4_areRivals 44 = .ok (.invokevirtual 51, 3) := by decide +kernel
theorem dX4_areRivals_47 : decode cX4_areRivals 47 = .ok (.istore_n 3, 1) := by decide +kernel
theorem dX4_areRivals_48 : decode cX4_areRivals 48 = .ok (.iload_n 3, 1) := by decide +kernel
theorem dX4_areRivals_49 : decode cX4_areRivals 49 = .ok (.aload_n 0, 1) := by decide +kernel
theorem dX4_areRivals_50 : decode cX4_areRivals 50 = .ok (.iload_n 2, 1) := by decide +kernel
theorem dX4_areRivals_51 : decode cX4_areRivals 51 = .ok (.invokevirtual 51, 3) := by decide +kernel
theorem dX4_areRivals_54 : decode cX4_areRivals 54 = .ok (.if_icmp .eq 5, 3) := by decide +kernel
theorem dX4_areRivals_57 : decode cX4_areRivals 57 = .ok (.iconst 1, 1) := by decide +kernel
theorem dX4_areRivals_58 : decode cX4_areRivals 58 = .ok (.ireturn, 1) := by decide +kernel
theorem dX4_areRivals_59 : decode cX4_areRivals 59 = .ok (.iload_n 3, 1) := by decide +kernel
theorem dX4_areRivals_60 : decode cX4_areRivals 60 = .ok (.ifCond .eq 24, 3) := by decide +kernel
theorem dX4_areRivals_63 : decode cX4_areRivals 63 = .ok (.aload_n 0, 1) := by decide +kernel
theorem dX4_areRivals_64 : decode cX4_areRivals 64 = .ok (.aload_n 0, 1) := by decide +kernel
theorem dX4_areRivals_65 : decode cX4_areRivals 65 = .ok (.iload_n 1, 1) := by decide +kernel
theorem dX4_areRivals_66 : decode cX4_areRivals 66 = .ok (.invokevirtual 54, 3) := by decide +kernel
theorem dX4_areRivals_69 : decode cX4_areRivals 69 = .ok (.aload_n 0, 1) := by decide +kernel
theorem dX4_areRivals_70 : decode cX4_areRivals 70 = .ok (.iload_n 2, 1) := by decide +kernel
theorem dX4_areRivals_71 : decode cX4_areRivals 71 = .ok (.invokevirtual 54, 3) := by decide +kernel
theorem dX4_areRivals_74 : decode cX4_areRivals 74 = .ok (.invokevirtual 85, 3) := by decide +kernel
theorem dX4_areRivals_77 : decode cX4_areRivals 77 = .ok (.ifCond .eq 7, 3) := by decide +kernel
theorem dX4_areRivals_80 : decode cX4_areRivals 80 = .ok (.iconst 1, 1) := by decide +kernel
theorem dX4_areRivals_81 : decode cX4_areRivals 81 = .ok (.goto 4, 3) := by decide +kernel
theorem dX4_areRivals_84 : decode cX4_areRivals 84 = .ok (.iconst 0, 1) := by decide +kernel
theorem dX4_areRivals_85 : decode cX4_areRivals 85 = .ok (.ireturn, 1) := by decide +kernel
theorem dX4_areFar_0 : decode cX4_areFar 0 = .ok (.fload_n 1, 1) := by decide +kernel
theorem dX4_areFar_1 : decode cX4_areFar 1 = .ok (.fload_n 2, 1) := by decide +kernel
theorem dX4_areFar_2 : decode cX4_areFar 2 = .ok (.fsub, 1) := by decide +kernel
theorem dX4_areFar_3 : decode cX4_areFar 3 = .ok (.fstore_n 3, 1) := by decide +kernel
theorem dX4_areFar_4 : decode cX4_areFar 4 = .ok (.fload_n 3, 1) := by decide +kernel
theorem dX4_areFar_5 : decode cX4_areFar 5 = .ok (.fconst 0, 1) := by decide +kernel
theorem dX4_areFar_6 : decode cX4_areFar 6 = .ok (.fcmp .g, 1) := by decide +kernel
theorem dX4_areFar_7 : decode cX4_areFar 7 = .ok (.ifCond .ge 8, 3) := by decide +kernel
theorem dX4_areFar_10 : decode cX4_areFar 10 = .ok (.fload_n 3, 1) := by decide +kernel
theorem dX4_areFar_11 : decode cX4_areFar 11 = .ok (.fneg, 1) := by decide +kernel
theorem dX4_areFar_12 : decode cX4_areFar 12 = .ok (.goto 4, 3) := by decide +kernel
theorem dX4_areFar_15 : decode cX4_areFar 15 = .ok (.fload_n 3, 1) := by decide +kernel
theorem dX4_areFar_16 : decode cX4_areFar 16 = .ok (.aload_n 0, 1) := by decide +kernel
theorem dX4_areFar_17 : decode cX4_areFar 17 = .ok (.getfield 23, 3) := by decide +kernel
theorem dX4_areFar_20 : decode cX4_areFar 20 = .ok (.getfield 89, 3) := by decide +kernel
theorem dX4_areFar_23 : decode cX4_areFar 23 = .ok (.fcmp .l, 1) := by decide +kernel
theorem dX4_areFar_24 : decode cX4_areFar 24 = .ok (.ifCond .le 7, 3) := by decide +kernel
theorem dX4_areFar_27 : decode cX4_areFar 27 = .ok (.iconst 1, 1) := by decide +kernel
theorem dX4_areFar_28 : decode cX4_areFar 28 = .ok (.goto 4, 3) := by decide +kernel
theorem dX4_areFar_31 : decode cX4_areFar 31 = .ok (.iconst 0, 1) := by decide +kernel
theorem dX4_areFar_32 : decode cX4_areFar 32 = .ok (.ireturn, 1) := by decide +kernel
theorem dX4_wordsWithValue_0 : decode cX4_wordsWithValue 0 = .ok (.iconst 0, 1) := by decide +kernel
theorem dX4_wordsWithValue_1 : decode cX4_wordsWithValue 1 = .ok (.istore_n 1, 1) := by decide +kernel
theorem dX4_wordsWithValue_2 : decode cX4_wordsWithValue 2 = .ok (.iconst 0, 1) := by decide +kernel
theorem dX4_wordsWithValue_3 : decode cX4_wordsWithValue 3 = .ok (.istore_n 2, 1) := by decide +kernel
theorem dX4_wordsWithValue_4 : decode cX4_wordsWithValue 4 = .ok (.iload_n 2, 1) := by decide +kernel
theorem dX4_wordsWithValue_5 : decode cX4_wordsWithValue 5 = .ok (.bipush 16, 2) := by decide +kernel
theorem dX4_wordsWithValue_7 : decode cX4_wordsWithValue 7 = .ok (.if_icmp .ge 21, 3) := by decide +kernel
theorem dX4_wordsWithValue_10 : decode cX4_wordsWithValue 10 = .ok (.aload_n 0, 1) := by decide +kernel
theorem dX4_wordsWithValue_11 : decode cX4_wordsWithValue 11 = .ok (.getfield 15, 3) := by decide +kernel
theorem dX4_wordsWithValue_14 : decode cX4_wordsWithValue 14 = .ok (.iload_n 2, 1) := by decide +kernel
theorem dX4_wordsWithValue_15 : decode cX4_wordsWithValue 15 = .ok (.baload, 1) := by decide +kernel
theorem dX4_wordsWithValue_16 : decode cX4_wordsWithValue 16 = .ok (.ifCond .eq 6, 3) := by decide +kernel
theorem dX4_wordsWithValue_19 : decode cX4_wordsWithValue 19 = .ok (.iinc 1 1, 3) := by decide +kernel
theorem dX4_wordsWithValue_22 : decode cX4_wordsWithValue 22 = .ok (.iinc 2 1, 3) := by decide +kernel
theorem dX4_wordsWithValue_25 : decode cX4_wordsWithValue 25 = .ok (.goto (-21), 3) := by decide +kernel
theorem dX4_wordsWithValue_28 : decode cX4_wordsWithValue 28 = .ok (.iload_n 1, 1) := by decide +kernel
theorem dX4_wordsWithValue_29 : decode cX4_wordsWithValue 29 = .ok (.ireturn, 1) := by decide +kernel
theorem dX4_wordsRuledWithoutValue_0 : decode cX4_wordsRuledWithoutValue 0 = .ok (.iconst 0, 1) := by decide +kernel
theorem dX4_wordsRuledWithoutValue_1 : decode cX4_wordsRuledWithoutValue 1 = .ok (.istore_n 1, 1) := by decide +kernel
theorem dX4_wordsRuledWithoutValue_2 : decode cX4_wordsRuledWithoutValue 2 = .ok (.iconst 0, 1) := by decide +kernel
theorem dX4_wordsRuledWithoutValue_3 : decode cX4_wordsRuledWithoutValue 3 = .ok (.istore_n 2, 1) := by decide +kernel
theorem dX4_wordsRuledWithoutValue_4 : decode cX4_wordsRuledWithoutValue 4 = .ok (.iload_n 2, 1) := by decide +kernel
theorem dX4_wordsRuledWithoutValue_5 : decode cX4_wordsRuledWithoutValue 5 = .ok (.bipush 16, 2) := by decide +kernel
theorem dX4_wordsRuledWithoutValue_7 : decode cX4_wordsRuledWithoutValue 7 = .ok (.if_icmp .ge 30, 3) := by decide +kernel
theorem dX4_wordsRuledWithoutValue_10 : decode cX4_wordsRuledWithoutValue 10 = .ok (.aload_n 0, 1) := by decide +kernel
theorem dX4_wordsRuledWithoutValue_11 : decode cX4_wordsRuledWithoutValue 11 = .ok (.getfield 9, 3) := by decide +kernel
theorem dX4_wordsRuledWithoutValue_14 : decode cX4_wordsRuledWithoutValue 14 = .ok (.iload_n 2, 1) := by decide +kernel
theorem dX4_wordsRuledWithoutValue_15 : decode cX4_wordsRuledWithoutValue 15 = .ok (.iaload, 1) := by decide +kernel
theorem dX4_wordsRuledWithoutValue_16 : decode cX4_wordsRuledWithoutValue 16 = .ok (.ifCond .lt 15, 3) := by decide +kernel
theorem dX4_wordsRuledWithoutValue_19 : decode cX4_wordsRuledWithoutValue 19 = .ok (.aload_n 0, 1) := by decide +kernel
theorem dX4_wordsRuledWithoutValue_20 : decode cX4_wordsRuledWithoutValue 20 = .ok (.getfield 15, 3) := by decide +kernel
theorem dX4_wordsRuledWithoutValue_23 : decode cX4_wordsRuledWithoutValue 23 = .ok (.iload_n 2, 1) := by decide +kernel
theorem dX4_wordsRuledWithoutValue_24 : decode cX4_wordsRuledWithoutValue 24 = .ok (.baload, 1) := by decide +kernel
theorem dX4_wordsRuledWithoutValue_25 : decode cX4_wordsRuledWithoutValue 25 = .ok (.ifCond .ne 6, 3) := by decide +kernel
theorem dX4_wordsRuledWithoutValue_28 : decode cX4_wordsRuledWithoutValue 28 = .ok (.iinc 1 1, 3) := by decide +kernel
theorem dX4_wordsRuledWithoutValue_31 : decode cX4_wordsRuledWithoutValue 31 = .ok (.iinc 2 1, 3) := by decide +kernel
theorem dX4_wordsRuledWithoutValue_34 : decode cX4_wordsRuledWithoutValue 34 = .ok (.goto (-30), 3) := by decide +kernel
theorem dX4_wordsRuledWithoutValue_37 : decode cX4_wordsRuledWithoutValue 37 = .ok (.iload_n 1, 1) := by decide +kernel
theorem dX4_wordsRuledWithoutValue_38 : decode cX4_wordsRuledWithoutValue 38 = .ok (.ireturn, 1) := by decide +kernel
set_option maxRecDepth 20000 in
theorem ggX4_wordsInConflict_X4_topmostRival : GoodIn wsX4_wordsInConflict wsX4_topmostRival := goodIn_r _ [5, 6, 7, 8, 9, 10, 11, 12, 13, 14, 15, 16, 17, 18, 19, 20, 21, 22, 4, 23, 24, 25, 26, 27, 28, 29, 30, 31, 32, 33, 34, 35, 36, 37, 38, 39, 40, 41, 42, 43, 44, 45, 46, 47, 48, 49, 50, 51, 52, 53, 54, 55, 56, 57, 58, 59, 60, 61, 62, 63, 64, 65, 66, 67] (by decide +kernel) (by decide +kernel)
set_option maxRecDepth 20000 in
theorem gX4_wordsInConflict_X4_topmostRival : GoodIn wsX4_wordsInConflict (wsV RX4 93 RX4 yX4_topmostRival wsX4_topmostRival) := goodIn_app (goodIn_of _ (by decide +kernel)) ggX4_wordsInConflict_X4_topmostRival
theorem dX4_wordsInConflict_0 : decode cX4_wordsInConflict 0 = .ok (.iconst 0, 1) := by decide +kernel
theorem dX4_wordsInConflict_1 : decode cX4_wordsInConflict 1 = .ok (.istore_n 1, 1) := by decide +kernel
theorem dX4_wordsInConflict_2 : decode cX4_wordsInConflict 2 = .ok (.iconst 0, 1) := by decide +kernel
theorem dX4_wordsInConflict_3 : decode cX4_wordsInConflict 3 = .ok (.istore_n 2, 1) := by decide +kernel
theorem dX4_wordsInConflict_4 : decode cX4_wordsInConflict 4 = .ok (.iload_n 2, 1) := by decide +kernel
theorem dX4_wordsInConflict_5 : decode cX4_wordsInConflict 5 = .ok (.bipush 16, 2) := by decide +kernel
theorem dX4_wordsInConflict_7 : decode cX4_wordsInConflict 7 = .ok (.if_icmp .ge 20, 3) := by decide +kernel
theorem dX4_wordsInConflict_10 : decode cX4_wordsInConflict 10 = .ok (.aload_n 0, 1) := by decide +kernel
theorem dX4_wordsInConflict_11 : decode cX4_wordsInConflict 11 = .ok (.iload_n 2, 1) := by decide +kernel
theorem dX4_wordsInConflict_12 : decode cX4_wordsInConflict 12 = .ok (.invokevirtual 93, 3) := by decide +kernel
theorem dX4_wordsInConflict_15 : decode cX4_wordsInConflict 15 = .ok (.ifCond .lt 6, 3) := by decide +kernel
theorem dX4_wordsInConflict_18 : decode cX4_wordsInConflict 18 = .ok (.iinc 1 1, 3) := by decide +kernel
theorem dX4_wordsInConflict_21 : decode cX4_wordsInConflict 21 = .ok (.iinc 2 1, 3) := by decide +kernel
theorem dX4_wordsInConflict_24 : decode cX4_wordsInConflict 24 = .ok (.goto (-20), 3) := by decide +kernel
theorem dX4_wordsInConflict_27 : decode cX4_wordsInConflict 27 = .ok (.iload_n 1, 1) := by decide +kernel
theorem dX4_wordsInConflict_28 : decode cX4_wordsInConflict 28 = .ok (.ireturn, 1) := by decide +kernel
set_option maxRecDepth 20000 in
theorem ggX4_wordsInRings_X4_comesTo : GoodIn wsX4_wordsInRings wsX4_comesTo := goodIn_r _ [5, 6, 7, 8, 4, 9, 10, 11, 12, 13, 14, 15, 16, 17, 18, 19, 20, 21, 22, 23, 24, 25, 26, 27, 28, 29] (by decide +kernel) (by decide +kernel)
set_option maxRecDepth 20000 in
theorem gX4_wordsInRings_X4_comesTo : GoodIn wsX4_wordsInRings (wsV RX4 72 RX4 yX4_comesTo wsX4_comesTo) := goodIn_app (goodIn_of _ (by decide +kernel)) ggX4_wordsInRings_X4_comesTo
theorem dX4_wordsInRings_0 : decode cX4_wordsInRings 0 = .ok (.iconst 0, 1) := by decide +kernel
theorem dX4_wordsInRings_1 : decode cX4_wordsInRings 1 = .ok (.istore_n 1, 1) := by decide +kernel
theorem dX4_wordsInRings_2 : decode cX4_wordsInRings 2 = .ok (.iconst 0, 1) := by decide +kernel
theorem dX4_wordsInRings_3 : decode cX4_wordsInRings 3 = .ok (.istore_n 2, 1) := by decide +kernel
theorem dX4_wordsInRings_4 : decode cX4_wordsInRings 4 = .ok (.iload_n 2, 1) := by decide +kernel
theorem dX4_wordsInRings_5 : decode cX4_wordsInRings 5 = .ok (.bipush 16, 2) := by decide +kernel
theorem dX4_wordsInRings_7 : decode cX4_wordsInRings 7 = .ok (.if_icmp .ge 21, 3) := by decide +kernel
theorem dX4_wordsInRings_10 : decode cX4_wordsInRings 10 = .ok (.aload_n 0, 1) := by decide +kernel
theorem dX4_wordsInRings_11 : decode cX4_wordsInRings 11 = .ok (.iload_n 2, 1) := by decide +kernel
theorem dX4_wordsInRings_12 : decode cX4_wordsInRings 12 = .ok (.iload_n 2, 1) := by decide +kernel
theorem dX4_wordsInRings_13 : decode cX4_wordsInRings 13 = .ok (.invokevirtual 72, 3) := by decide +kernel
theorem dX4_wordsInRings_16 : decode cX4_wordsInRings 16 = .ok (.ifCond .eq 6, 3) := by decide +kernel
theorem dX4_wordsInRings_19 : decode cX4_wordsInRings 19 = .ok (.iinc 1 1, 3) := by decide +kernel
theorem dX4_wordsInRings_22 : decode cX4_wordsInRings 22 = .ok (.iinc 2 1, 3) := by decide +kernel
theorem dX4_wordsInRings_25 : decode cX4_wordsInRings 25 = .ok (.goto (-21), 3) := by decide +kernel
theorem dX4_wordsInRings_28 : decode cX4_wordsInRings 28 = .ok (.iload_n 1, 1) := by decide +kernel
theorem dX4_wordsInRings_29 : decode cX4_wordsInRings 29 = .ok (.ireturn, 1) := by decide +kernel
end
section
theorem dX5_init_0 : decode cX5_init 0 = .ok (.aload_n 0, 1) := by decide +kernel
theorem dX5_init_1 : decode cX5_init 1 = .ok (.invokespecial 3, 3) := by decide +kernel
theorem dX5_init_4 : decode cX5_init 4 = .ok (.aload_n 0, 1) := by decide +kernel
theorem dX5_init_5 : decode cX5_init 5 = .ok (.bipush 60, 2) := by decide +kernel
theorem dX5_init_7 : decode cX5_init 7 = .ok (.newarray .char, 2) := by decide +kernel
theorem dX5_init_9 : decode cX5_init 9 = .ok (.putfield 9, 3) := by decide +kernel
theorem dX5_init_12 : decode cX5_init 12 = .ok (.return_, 1) := by decide +kernel
set_option maxRecDepth 20000 in
theorem ggX6_init_X1_init : GoodIn wsX6_init wsX1_init := goodIn_r _ [11, 12, 2, 3, 8, 13, 14, 15, 16, 17, 18, 19, 20, 21, 22, 23, 24, 25, 26, 27, 28, 29, 30, 31, 32, 33, 34] (by decide +kernel) (by decide +kernel)
set_option maxRecDepth 20000 in
theorem gX6_init_X1_init_n11 : GoodIn wsX6_init (wsX1_init) := ggX6_init_X1_init
theorem dX6_init_0 : decode cX6_init 0 = .ok (.aload_n 0, 1) := by decide +kernel
theorem dX6_init_1 : decode cX6_init 1 = .ok (.invokespecial 3, 3) := by decide +kernel
theorem dX6_init_4 : decode cX6_init 4 = .ok (.aload_n 0, 1) := by decide +kernel
theorem dX6_init_5 : decode cX6_init 5 = .ok (.new 9, 3) := by decide +kernel
theorem dX6_init_8 : decode cX6_init 8 = .ok (.dup, 1) := by decide +kernel
theorem dX6_init_9 : decode cX6_init 9 = .ok (.invokespecial 11, 3) := by decide +kernel
theorem dX6_init_12 : decode cX6_init 12 = .ok (.putfield 12, 3) := by decide +kernel
theorem dX6_init_15 : decode cX6_init 15 = .ok (.aload_n 0, 1) := by decide +kernel
theorem dX6_init_16 : decode cX6_init 16 = .ok (.bipush 16, 2) := by decide +kernel
theorem dX6_init_18 : decode cX6_init 18 = .ok (.newarray .int, 2) := by decide +kernel
theorem dX6_init_20 : decode cX6_init 20 = .ok (.putfield 18, 3) := by decide +kernel
theorem dX6_init_23 : decode cX6_init 23 = .ok (.return_, 1) := by decide +kernel
set_option maxRecDepth 20000 in
theorem ggX6_blow_X1_hangs : GoodIn wsX6_blow wsX1_hangs := goodIn_r _ [11, 12, 15, 16, 17, 18, 19, 20, 21, 22, 23, 24, 25, 26, 27] (by decide +kernel) (by decide +kernel)
set_option maxRecDepth 20000 in
theorem gX6_blow_X1_hangs : GoodIn wsX6_blow (wsV RX6 26 RX1 yX1_hangs wsX1_hangs) := goodIn_app (goodIn_of _ (by decide +kernel)) ggX6_blow_X1_hangs
theorem dX6_blow_0 : decode cX6_blow 0 = .ok (.iconst 0, 1) := by decide +kernel
theorem dX6_blow_1 : decode cX6_blow 1 = .ok (.istore_n 3, 1) := by decide +kernel
theorem dX6_blow_2 : decode cX6_blow 2 = .ok (.iconst 0, 1) := by decide +kernel
theorem dX6_blow_3 : decode cX6_blow 3 = .ok (.istore 4, 2) := by decide +kernel
theorem dX6_blow_5 : decode cX6_blow 5 = .ok (.iload 4, 2) := by decide +kernel
theorem dX6_blow_7 : decode cX6_blow 7 = .ok (.bipush 16, 2) := by decide +kernel
theorem dX6_blow_9 : decode cX6_blow 9 = .ok (.if_icmp .ge 17, 3) := by decide +kernel
theorem dX6_blow_12 : decode cX6_blow 12 = .ok (.aload_n 0, 1) := by decide +kernel
theorem dX6_blow_13 : decode cX6_blow 13 = .ok (.getfield 18, 3) := by decide +kernel
theorem dX6_blow_16 : decode cX6_blow 16 = .ok (.iload 4, 2) := by decide +kernel
theorem dX6_blow_18 : decode cX6_blow 18 = .ok (.iconst 0, 1) := by decide +kernel
theorem dX6_blow_19 : decode cX6_blow 19 = .ok (.iastore, 1) := by decide +kernel
theorem dX6_blow_20 : decode cX6_blow 20 = .ok (.iinc 4 1, 3) := by decide +kernel
theorem dX6_blow_23 : decode cX6_blow 23 = .ok (.goto (-18), 3) := by decide +kernel
theorem dX6_blow_26 : decode cX6_blow 26 = .ok (.aload_n 1, 1) := by decide +kernel
theorem dX6_blow_27 : decode cX6_blow 27 = .ok (.getfield 22, 3) := by decide +kernel
theorem dX6_blow_30 : decode cX6_blow 30 = .ok (.iconst 1, 1) := by decide +kernel
theorem dX6_blow_31 : decode cX6_blow 31 = .ok (.isub, 1) := by decide +kernel
theorem dX6_blow_32 : decode cX6_blow 32 = .ok (.istore 4, 2) := by decide +kernel
theorem dX6_blow_34 : decode cX6_blow 34 = .ok (.iload 4, 2) := by decide +kernel
theorem dX6_blow_36 : decode cX6_blow 36 = .ok (.ifCond .lt 88, 3) := by decide +kernel
theorem dX6_blow_39 : decode cX6_blow 39 = .ok (.aload_n 1, 1) := by decide +kernel
theorem dX6_blow_40 : decode cX6_blow 40 = .ok (.iload 4, 2) := by decide +kernel
theorem dX6_blow_42 : decode cX6_blow 42 = .ok (.invokevirtual 26, 3) := by decide +kernel
theorem dX6_blow_45 : decode cX6_blow 45 = .ok (.ifCond .eq 73, 3) := by decide +kernel
theorem dX6_blow_48 : decode cX6_blow 48 = .ok (.aload_n 1, 1) := by decide +kernel
theorem dX6_blow_49 : decode cX6_blow 49 = .ok (.getfield 30, 3) := by decide +kernel
theorem dX6_blow_52 : decode cX6_blow 52 = .ok (.iload 4, 2) := by decide +kernel
theorem dX6_blow_54 : decode cX6_blow 54 = .ok (.iaload, 1) := by decide +kernel
theorem dX6_blow_55 : decode cX6_blow 55 = .ok (.istore 5, 2) := by decide +kernel
theorem dX6_blow_57 : decode cX6_blow 57 = .ok (.aload_n 1, 1) := by decide +kernel
theorem dX6_blow_58 : decode cX6_blow 58 = .ok (.getfield 33, 3) := by decide +kernel
theorem dX6_blow_61 : decode cX6_blow 61 = .ok (.iload 4, 2) := by decide +kernel
theorem dX6_blow_63 : decode cX6_blow 63 = .ok (.aload_n 1, 1) := by decide +kernel
theorem dX6_blow_64 : decode cX6_blow 64 = .ok (.getfield 33, 3) := by decide +kernel
theorem dX6_blow_67 : decode cX6_blow 67 = .ok (.iload 4, 2) := by decide +kernel
theorem dX6_blow_69 : decode cX6_blow 69 = .ok (.faload, 1) := by decide +kernel
theorem dX6_blow_70 : decode cX6_blow 70 = .ok (.fload_n 2, 1) := by decide +kernel
theorem dX6_blow_71 : decode cX6_blow 71 = .ok (.iconst 1, 1) := by decide +kernel
theorem dX6_blow_72 : decode cX6_blow 72 = .ok (.aload_n 0, 1) := by decide +kernel
theorem dX6_blow_73 : decode cX6_blow 73 = .ok (.getfield 18, 3) := by decide +kernel
theorem dX6_blow_76 : decode cX6_blow 76 = .ok (.iload 5, 2) := by decide +kernel
theorem dX6_blow_78 : decode cX6_blow 78 = .ok (.iaload, 1) := by decide +kernel
theorem dX6_blow_79 : decode cX6_blow 79 = .ok (.iadd, 1) := by decide +kernel
theorem dX6_blow_80 : decode cX6_blow 80 = .ok (.i2f, 1) := by decide +kernel
theorem dX6_blow_81 : decode cX6_blow 81 = .ok (.fdiv, 1) := by decide +kernel
theorem dX6_blow_82 : decode cX6_blow 82 = .ok (.fsub, 1) := by decide +kernel
theorem dX6_blow_83 : decode cX6_blow 83 = .ok (.fastore, 1) := by decide +kernel
theorem dX6_blow_84 : decode cX6_blow 84 = .ok (.aload_n 0, 1) := by decide +kernel
theorem dX6_blow_85 : decode cX6_blow 85 = .ok (.getfield 18, 3) := by decide +kernel
theorem dX6_blow_88 : decode cX6_blow 88 = .ok (.iload 5, 2) := by decide +kernel
theorem dX6_blow_90 : decode cX6_blow 90 = .ok (.dup2, 1) := by decide +kernel
theorem dX6_blow_91 : decode cX6_blow 91 = .ok (.iaload, 1) := by decide +kernel
theorem dX6_blow_92 : decode cX6_blow 92 = .ok (.iconst 1, 1) := by decide +kernel
theorem dX6_blow_93 : decode cX6_blow 93 = .ok (.iadd, 1) := by decide +kernel
theorem dX6_blow_94 : decode cX6_blow 94 = .ok (.iastore, 1) := by decide +kernel
theorem dX6_blow_95 : decode cX6_blow 95 = .ok (.aload_n 1, 1) := by decide +kernel
theorem dX6_blow_96 : decode cX6_blow 96 = .ok (.getfield 33, 3) := by decide +kernel
theorem dX6_blow_99 : decode cX6_blow 99 = .ok (.iload 4, 2) := by decide +kernel
theorem dX6_blow_101 : decode cX6_blow 101 = .ok (.faload, 1) := by decide +kernel
theorem dX6_blow_102 : decode cX6_blow 102 = .ok (.fconst 0, 1) := by decide +kernel
theorem dX6_blow_103 : decode cX6_blow 103 = .ok (.fcmp .l, 1) := by decide +kernel
theorem dX6_blow_104 : decode cX6_blow 104 = .ok (.ifCond .gt 14, 3) := by decide +kernel
theorem dX6_blow_107 : decode cX6_blow 107 = .ok (.aload_n 1, 1) := by decide +kernel
theorem dX6_blow_108 : decode cX6_blow 108 = .ok (.getfield 37, 3) := by decide +kernel
theorem dX6_blow_111 : decode cX6_blow 111 = .ok (.iload 4, 2) := by decide +kernel
theorem dX6_blow_113 : decode cX6_blow 113 = .ok (.iconst 2, 1) := by decide +kernel
theorem dX6_blow_114 : decode cX6_blow 114 = .ok (.iastore, 1) := by decide +kernel
theorem dX6_blow_115 : decode cX6_blow 115 = .ok (.iinc 3 1, 3) := by decide +kernel
theorem dX6_blow_118 : decode cX6_blow 118 = .ok (.iinc 4 (-1), 3) := by decide +kernel
theorem dX6_blow_121 : decode cX6_blow 121 = .ok (.goto (-87), 3) := by decide +kernel
theorem dX6_blow_124 : decode cX6_blow 124 = .ok (.aload_n 1, 1) := by decide +kernel
theorem dX6_blow_125 : decode cX6_blow 125 = .ok (.dup, 1) := by decide +kernel
theorem dX6_blow_126 : decode cX6_blow 126 = .ok (.getfield 40, 3) := by decide +kernel
theorem dX6_blow_129 : decode cX6_blow 129 = .ok (.iconst 1, 1) := by decide +kernel
theorem dX6_blow_130 : decode cX6_blow 130 = .ok (.iadd, 1) := by decide +kernel
theorem dX6_blow_131 : decode cX6_blow 131 = .ok (.putfield 40, 3) := by decide +kernel
theorem dX6_blow_134 : decode cX6_blow 134 = .ok (.iload_n 3, 1) := by decide +kernel
theorem dX6_blow_135 : decode cX6_blow 135 = .ok (.ireturn, 1) := by decide +kernel
end
section
set_option maxRecDepth 20000 in
theorem ggX7_init_X1_init : GoodIn wsX7_init wsX1_init := goodIn_r _ [32, 33, 2, 3, 34, 35, 36, 37, 38, 39, 40, 41, 42, 43, 79, 80, 81, 82, 83, 84, 85, 86, 87, 88, 89, 90, 91] (by decide +kernel) (by decide +kernel)
set_option maxRecDepth 20000 in
theorem gX7_init_X1_init_n9 : GoodIn wsX7_init (wsX1_init) := ggX7_init_X1_init
set_option maxRecDepth 20000 in
theorem ggX7_init_X2_init : GoodIn wsX7_init wsX2_init := goodIn_r _ [46, 47, 2, 3, 48, 49, 5, 6, 31, 32, 33, 34, 35, 36, 37, 38, 39, 40, 41, 42, 43, 101, 102, 79, 80, 81, 82, 83, 84, 85, 86, 87, 88, 89, 90, 91] (by decide +kernel) (by decide +kernel)
set_option maxRecDepth 20000 in
theorem gX7_init_X2_init : GoodIn wsX7_init (wsX2_init) := ggX7_init_X2_init
set_option maxRecDepth 20000 in
theorem ggX7_init_X5_init : GoodIn wsX7_init wsX5_init := goodIn_r _ [51, 52, 2, 3, 53, 54, 103, 104] (by decide +kernel) (by decide +kernel)
set_option maxRecDepth 20000 in
theorem gX7_init_X5_init_n32 : GoodIn wsX7_init (wsX5_init) := ggX7_init_X5_init
set_option maxRecDepth 20000 in
theorem ggX7_init_X3_init : GoodIn wsX7_init wsX3_init := goodIn_r _ [57, 58, 2, 3, 34, 59, 60, 39, 61, 62, 63, 105, 106, 107, 108, 109, 110, 111, 112] (by decide +kernel) (by decide +kernel)
set_option maxRecDepth 20000 in
theorem gX7_init_X3_init : GoodIn wsX7_init (wsX3_init) := ggX7_init_X3_init
set_option maxRecDepth 20000 in
theorem ggX7_init_X6_init : GoodIn wsX7_init wsX6_init := goodIn_r _ [65, 66, 2, 3, 67, 5, 6, 68, 34, 69, 31, 32, 33, 35, 36, 37, 38, 39, 40, 41, 42, 43, 79, 80, 81, 82, 83, 84, 85, 86, 87, 88, 89, 90, 91, 113, 114] (by decide +kernel) (by decide +kernel)
set_option maxRecDepth 20000 in
theorem gX7_init_X6_init_n48 : GoodIn wsX7_init (wsX6_init) := ggX7_init_X6_init
set_option maxRecDepth 20000 in
theorem ggX7_init_X4_init : GoodIn wsX7_init wsX4_init := goodIn_r _ [72, 73, 2, 3, 34, 74, 75, 76, 39, 77, 78, 115, 116, 117, 118] (by decide +kernel) (by decide +kernel)
set_option maxRecDepth 20000 in
theorem gX7_init_X4_init : GoodIn wsX7_init (wsX4_init) := ggX7_init_X4_init
theorem dX7_init_0 : decode cX7_init 0 = .ok (.aload_n 0, 1) := by decide +kernel
theorem dX7_init_1 : decode cX7_init 1 = .ok (.invokespecial 1, 3) := by decide +kernel
theorem dX7_init_4 : decode cX7_init 4 = .ok (.aload_n 0, 1) := by decide +kernel
theorem dX7_init_5 : decode cX7_init 5 = .ok (.new 7, 3) := by decide +kernel
theorem dX7_init_8 : decode cX7_init 8 = .ok (.dup, 1) := by decide +kernel
theorem dX7_init_9 : decode cX7_init 9 = .ok (.invokespecial 9, 3) := by decide +kernel
theorem dX7_init_12 : decode cX7_init 12 = .ok (.putfield 10, 3) := by decide +kernel
theorem dX7_init_15 : decode cX7_init 15 = .ok (.aload_n 0, 1) := by decide +kernel
theorem dX7_init_16 : decode cX7_init 16 = .ok (.new 7, 3) := by decide +kernel
theorem dX7_init_19 : decode cX7_init 19 = .ok (.dup, 1) := by decide +kernel
theorem dX7_init_20 : decode cX7_init 20 = .ok (.invokespecial 9, 3) := by decide +kernel
theorem dX7_init_23 : decode cX7_init 23 = .ok (.putfield 16, 3) := by decide +kernel
theorem dX7_init_26 : decode cX7_init 26 = .ok (.aload_n 0, 1) := by decide +kernel
theorem dX7_init_27 : decode cX7_init 27 = .ok (.iconst 0, 1) := by decide +kernel
theorem dX7_init_28 : decode cX7_init 28 = .ok (.putfield 19, 3) := by decide +kernel
theorem dX7_init_31 : decode cX7_init 31 = .ok (.aload_n 0, 1) := by decide +kernel
theorem dX7_init_32 : decode cX7_init 32 = .ok (.new 23, 3) := by decide +kernel
theorem dX7_init_35 : decode cX7_init 35 = .ok (.dup, 1) := by decide +kernel
theorem dX7_init_36 : decode cX7_init 36 = .ok (.invokespecial 25, 3) := by decide +kernel
theorem dX7_init_39 : decode cX7_init 39 = .ok (.putfield 26, 3) := by decide +kernel
theorem dX7_init_42 : decode cX7_init 42 = .ok (.aload_n 0, 1) := by decide +kernel
theorem dX7_init_43 : decode cX7_init 43 = .ok (.new 30, 3) := by decide +kernel
theorem dX7_init_46 : decode cX7_init 46 = .ok (.dup, 1) := by decide +kernel
theorem dX7_init_47 : decode cX7_init 47 = .ok (.invokespecial 32, 3) := by decide +kernel
theorem dX7_init_50 : decode cX7_init 50 = .ok (.putfield 33, 3) := by decide +kernel
theorem dX7_init_53 : decode cX7_init 53 = .ok (.aload_n 0, 1) := by decide +kernel
theorem dX7_init_54 : decode cX7_init 54 = .ok (.new 37, 3) := by decide +kernel
theorem dX7_init_57 : decode cX7_init 57 = .ok (.dup, 1) := by decide +kernel
theorem dX7_init_58 : decode cX7_init 58 = .ok (.aload_n 0, 1) := by decide +kernel
theorem dX7_init_59 : decode cX7_init 59 = .ok (.getfield 33, 3) := by decide +kernel
theorem dX7_init_62 : decode cX7_init 62 = .ok (.invokespecial 39, 3) := by decide +kernel
theorem dX7_init_65 : decode cX7_init 65 = .ok (.putfield 42, 3) := by decide +kernel
theorem dX7_init_68 : decode cX7_init 68 = .ok (.aload_n 0, 1) := by decide +kernel
theorem dX7_init_69 : decode cX7_init 69 = .ok (.new 46, 3) := by decide +kernel
theorem dX7_init_72 : decode cX7_init 72 = .ok (.dup, 1) := by decide +kernel
theorem dX7_init_73 : decode cX7_init 73 = .ok (.invokespecial 48, 3) := by decide +kernel
theorem dX7_init_76 : decode cX7_init 76 = .ok (.putfield 49, 3) := by decide +kernel
theorem dX7_init_79 : decode cX7_init 79 = .ok (.aload_n 0, 1) := by decide +kernel
theorem dX7_init_80 : decode cX7_init 80 = .ok (.new 53, 3) := by decide +kernel
theorem dX7_init_83 : decode cX7_init 83 = .ok (.dup, 1) := by decide +kernel
theorem dX7_init_84 : decode cX7_init 84 = .ok (.aload_n 0, 1) := by decide +kernel
theorem dX7_init_85 : decode cX7_init 85 = .ok (.getfield 10, 3) := by decide +kernel
theorem dX7_init_88 : decode cX7_init 88 = .ok (.invokespecial 55, 3) := by decide +kernel
theorem dX7_init_91 : decode cX7_init 91 = .ok (.putfield 58, 3) := by decide +kernel
theorem dX7_init_94 : decode cX7_init 94 = .ok (.aload_n 0, 1) := by decide +kernel
theorem dX7_init_95 : decode cX7_init 95 = .ok (.new 53, 3) := by decide +kernel
theorem dX7_init_98 : decode cX7_init 98 = .ok (.dup, 1) := by decide +kernel
theorem dX7_init_99 : decode cX7_init 99 = .ok (.aload_n 0, 1) := by decide +kernel
theorem dX7_init_100 : decode cX7_init 100 = .ok (.getfield 10, 3) := by decide +kernel
theorem dX7_init_103 : decode cX7_init 103 = .ok (.invokespecial 55, 3) := by decide +kernel
theorem dX7_init_106 : decode cX7_init 106 = .ok (.putfield 62, 3) := by decide +kernel
theorem dX7_init_109 : decode cX7_init 109 = .ok (.return_, 1) := by decide +kernel
set_option maxRecDepth 20000 in
theorem ggX7_addPerson_X7_isRank : GoodIn wsX7_addPerson wsX7_isRank := goodIn_r _ [7] (by decide +kernel) (by decide +kernel)
set_option maxRecDepth 20000 in
theorem gX7_addPerson_X7_isRank : GoodIn wsX7_addPerson (va_wsS RX7 65 yX7_isRank wsX7_isRank) := goodIn_app (goodIn_of _ (by decide +kernel)) ggX7_addPerson_X7_isRank
set_option maxRecDepth 20000 in
theorem ggX7_addPerson_X2_record : GoodIn wsX7_addPerson wsX2_record := goodIn_r _ [12, 13, 14, 15, 16, 17, 11, 18, 19, 20, 21, 22, 23, 24, 25, 26, 27, 28, 29, 30, 31, 32, 33, 34, 35, 36, 37, 38, 39, 40, 67, 68, 54, 55, 56, 57, 58, 59, 60, 61, 62, 63, 64, 65, 66] (by decide +kernel) (by decide +kernel)
set_option maxRecDepth 20000 in
theorem gX7_addPerson_X2_record : GoodIn wsX7_addPerson (wsV RX7 73 RX2 yX2_record wsX2_record) := goodIn_app (goodIn_of _ (by decide +kernel)) ggX7_addPerson_X2_record
set_option maxRecDepth 20000 in
theorem ggX7_addPerson_X1_admit : GoodIn wsX7_addPerson wsX1_admit := goodIn_r _ [44, 24, 29, 54, 55, 56, 57, 58, 59, 60, 61, 62, 63, 64, 65, 66] (by decide +kernel) (by decide +kernel)
set_option maxRecDepth 20000 in
theorem gX7_addPerson_X1_admit : GoodIn wsX7_addPerson (wsV RX7 76 RX1 yX1_admit wsX1_admit) := goodIn_app (goodIn_of _ (by decide +kernel)) ggX7_addPerson_X1_admit
theorem dX7_addPerson_0 : decode cX7_addPerson 0 = .ok (.iload_n 1, 1) := by decide +kernel
theorem dX7_addPerson_1 : decode cX7_addPerson 1 = .ok (.invokestatic 65, 3) := by decide +kernel
theorem dX7_addPerson_4 : decode cX7_addPerson 4 = .ok (.ifCond .ne 6, 3) := by decide +kernel
theorem dX7_addPerson_7 : decode cX7_addPerson 7 = .ok (.bipush (-2), 2) := by decide +kernel
theorem dX7_addPerson_9 : decode cX7_addPerson 9 = .ok (.ireturn, 1) := by decide +kernel
theorem dX7_addPerson_10 : decode cX7_addPerson 10 = .ok (.aload_n 0, 1) := by decide +kernel
theorem dX7_addPerson_11 : decode cX7_addPerson 11 = .ok (.getfield 10, 3) := by decide +kernel
theorem dX7_addPerson_14 : decode cX7_addPerson 14 = .ok (.getfield 69, 3) := by decide +kernel
theorem dX7_addPerson_17 : decode cX7_addPerson 17 = .ok (.bipush 6, 2) := by decide +kernel
theorem dX7_addPerson_19 : decode cX7_addPerson 19 = .ok (.if_icmp .lt 6, 3) := by decide +kernel
theorem dX7_addPerson_22 : decode cX7_addPerson 22 = .ok (.bipush (-3), 2) := by decide +kernel
theorem dX7_addPerson_24 : decode cX7_addPerson 24 = .ok (.ireturn, 1) := by decide +kernel
theorem dX7_addPerson_25 : decode cX7_addPerson 25 = .ok (.aload_n 0, 1) := by decide +kernel
theorem dX7_addPerson_26 : decode cX7_addPerson 26 = .ok (.getfield 26, 3) := by decide +kernel
theorem dX7_addPerson_29 : decode cX7_addPerson 29 = .ok (.aload_n 0, 1) := by decide +kernel
theorem dX7_addPerson_30 : decode cX7_addPerson 30 = .ok (.getfield 10, 3) := by decide +kernel
theorem dX7_addPerson_33 : decode cX7_addPerson 33 = .ok (.invokevirtual 73, 3) := by decide +kernel
theorem dX7_addPerson_36 : decode cX7_addPerson 36 = .ok (.aload_n 0, 1) := by decide +kernel
theorem dX7_addPerson_37 : decode cX7_addPerson 37 = .ok (.getfield 10, 3) := by decide +kernel
theorem dX7_addPerson_40 : decode cX7_addPerson 40 = .ok (.iload_n 1, 1) := by decide +kernel
theorem dX7_addPerson_41 : decode cX7_addPerson 41 = .ok (.invokevirtual 76, 3) := by decide +kernel
theorem dX7_addPerson_44 : decode cX7_addPerson 44 = .ok (.ireturn, 1) := by decide +kernel
set_option maxRecDepth 20000 in
theorem ggX7_setRank_X1_isPerson : GoodIn wsX7_setRank wsX1_isPerson := goodIn_r _ [8, 9, 54, 55, 56, 57, 58, 59, 60, 61, 62, 63, 64, 65, 66] (by decide +kernel) (by decide +kernel)
set_option maxRecDepth 20000 in
theorem gX7_setRank_X1_isPerson : GoodIn wsX7_setRank (wsV RX7 80 RX1 yX1_isPerson wsX1_isPerson) := goodIn_app (goodIn_of _ (by decide +kernel)) ggX7_setRank_X1_isPerson
set_option maxRecDepth 20000 in
theorem ggX7_setRank_X7_isRank : GoodIn wsX7_setRank wsX7_isRank := goodIn_r _ [13] (by decide +kernel) (by decide +kernel)
set_option maxRecDepth 20000 in
theorem gX7_setRank_X7_isRank : GoodIn wsX7_setRank (va_wsS RX7 65 yX7_isRank wsX7_isRank) := goodIn_app (goodIn_of _ (by decide +kernel)) ggX7_setRank_X7_isRank
set_option maxRecDepth 20000 in
theorem ggX7_setRank_X2_record : GoodIn wsX7_setRank wsX2_record := goodIn_r _ [18, 19, 20, 21, 22, 23, 17, 24, 25, 26, 27, 7, 28, 9, 29, 30, 31, 32, 33, 34, 35, 36, 37, 38, 39, 40, 41, 42, 43, 44, 67, 68, 54, 55, 56, 57, 58, 59, 60, 61, 62, 63, 64, 65, 66] (by decide +kernel) (by decide +kernel)
set_option maxRecDepth 20000 in
theorem gX7_setRank_X2_record : GoodIn wsX7_setRank (wsV RX7 73 RX2 yX2_record wsX2_record) := goodIn_app (goodIn_of _ (by decide +kernel)) ggX7_setRank_X2_record
theorem dX7_setRank_0 : decode cX7_setRank 0 = .ok (.aload_n 0, 1) := by decide +kernel
theorem dX7_setRank_1 : decode cX7_setRank 1 = .ok (.getfield 10, 3) := by decide +kernel
theorem dX7_setRank_4 : decode cX7_setRank 4 = .ok (.iload_n 1, 1) := by decide +kernel
theorem dX7_setRank_5 : decode cX7_setRank 5 = .ok (.invokevirtual 80, 3) := by decide +kernel
theorem dX7_setRank_8 : decode cX7_setRank 8 = .ok (.ifCond .ne 5, 3) := by decide +kernel
theorem dX7_setRank_11 : decode cX7_setRank 11 = .ok (.iconst (-1), 1) := by decide +kernel
theorem dX7_setRank_12 : decode cX7_setRank 12 = .ok (.ireturn, 1) := by decide +kernel
theorem dX7_setRank_13 : decode cX7_setRank 13 = .ok (.iload_n 2, 1) := by decide +kernel
theorem dX7_setRank_14 : decode cX7_setRank 14 = .ok (.invokestatic 65, 3) := by decide +kernel
theorem dX7_setRank_17 : decode cX7_setRank 17 = .ok (.ifCond .ne 6, 3) := by decide +kernel
theorem dX7_setRank_20 : decode cX7_setRank 20 = .ok (.bipush (-2), 2) := by decide +kernel
theorem dX7_setRank_22 : decode cX7_setRank 22 = .ok (.ireturn, 1) := by decide +kernel
theorem dX7_setRank_23 : decode cX7_setRank 23 = .ok (.aload_n 0, 1) := by decide +kernel
theorem dX7_setRank_24 : decode cX7_setRank 24 = .ok (.getfield 10, 3) := by decide +kernel
theorem dX7_setRank_27 : decode cX7_setRank 27 = .ok (.getfield 83, 3) := by decide +kernel
theorem dX7_setRank_30 : decode cX7_setRank 30 = .ok (.iload_n 1, 1) := by decide +kernel
theorem dX7_setRank_31 : decode cX7_setRank 31 = .ok (.iaload, 1) := by decide +kernel
theorem dX7_setRank_32 : decode cX7_setRank 32 = .ok (.istore_n 3, 1) := by decide +kernel
theorem dX7_setRank_33 : decode cX7_setRank 33 = .ok (.iload_n 3, 1) := by decide +kernel
theorem dX7_setRank_34 : decode cX7_setRank 34 = .ok (.iload_n 2, 1) := by decide +kernel
theorem dX7_setRank_35 : decode cX7_setRank 35 = .ok (.if_icmp .ne 6, 3) := by decide +kernel
theorem dX7_setRank_38 : decode cX7_setRank 38 = .ok (.bipush (-5), 2) := by decide +kernel
theorem dX7_setRank_40 : decode cX7_setRank 40 = .ok (.ireturn, 1) := by decide +kernel
theorem dX7_setRank_41 : decode cX7_setRank 41 = .ok (.aload_n 0, 1) := by decide +kernel
theorem dX7_setRank_42 : decode cX7_setRank 42 = .ok (.getfield 26, 3) := by decide +kernel
theorem dX7_setRank_45 : decode cX7_setRank 45 = .ok (.aload_n 0, 1) := by decide +kernel
theorem dX7_setRank_46 : decode cX7_setRank 46 = .ok (.getfield 10, 3) := by decide +kernel
theorem dX7_setRank_49 : decode cX7_setRank 49 = .ok (.invokevirtual 73, 3) := by decide +kernel
theorem dX7_setRank_52 : decode cX7_setRank 52 = .ok (.aload_n 0, 1) := by decide +kernel
theorem dX7_setRank_53 : decode cX7_setRank 53 = .ok (.getfield 10, 3) := by decide +kernel
theorem dX7_setRank_56 : decode cX7_setRank 56 = .ok (.getfield 83, 3) := by decide +kernel
theorem dX7_setRank_59 : decode cX7_setRank 59 = .ok (.iload_n 1, 1) := by decide +kernel
theorem dX7_setRank_60 : decode cX7_setRank 60 = .ok (.iload_n 2, 1) := by decide +kernel
theorem dX7_setRank_61 : decode cX7_setRank 61 = .ok (.iastore, 1) := by decide +kernel
theorem dX7_setRank_62 : decode cX7_setRank 62 = .ok (.iload_n 3, 1) := by decide +kernel
theorem dX7_setRank_63 : decode cX7_setRank 63 = .ok (.ireturn, 1) := by decide +kernel
set_option maxRecDepth 20000 in
theorem ggX7_setTolerance_X0_areTolerance : GoodIn wsX7_setTolerance wsX0_areTolerance := goodIn_r _ [8, 9, 10, 11, 7, 12, 13, 14, 15, 16, 17, 18, 19, 20, 21] (by decide +kernel) (by decide +kernel)
set_option maxRecDepth 20000 in
theorem gX7_setTolerance_X0_areTolerance : GoodIn wsX7_setTolerance (va_wsS RX7 87 yX0_areTolerance wsX0_areTolerance) := goodIn_app (goodIn_of _ (by decide +kernel)) ggX7_setTolerance_X0_areTolerance
set_option maxRecDepth 20000 in
theorem ggX7_setTolerance_X2_record : GoodIn wsX7_setTolerance wsX2_record := goodIn_r _ [26, 27, 28, 29, 30, 31, 25, 32, 33, 34, 35, 36, 37, 38, 39, 40, 41, 42, 43, 44, 45, 46, 47, 48, 49, 50, 51, 52, 53, 54, 78, 79, 65, 66, 67, 68, 69, 70, 71, 72, 73, 74, 75, 76, 77] (by decide +kernel) (by decide +kernel)
set_option maxRecDepth 20000 in
theorem gX7_setTolerance_X2_record : GoodIn wsX7_setTolerance (wsV RX7 73 RX2 yX2_record wsX2_record) := goodIn_app (goodIn_of _ (by decide +kernel)) ggX7_setTolerance_X2_record
set_option maxRecDepth 20000 in
theorem ggX7_setTolerance_X0_toFloat : GoodIn wsX7_setTolerance wsX0_toFloat := goodIn_r _ [18, 19, 20, 21, 13, 14, 7, 15] (by decide +kernel) (by decide +kernel)
set_option maxRecDepth 20000 in
theorem gX7_setTolerance_X0_toFloat : GoodIn wsX7_setTolerance (va_wsS RX7 95 yX0_toFloat wsX0_toFloat) := goodIn_app (goodIn_of _ (by decide +kernel)) ggX7_setTolerance_X0_toFloat
theorem dX7_setTolerance_0 : decode cX7_setTolerance 0 = .ok (.iload_n 1, 1) := by decide +kernel
theorem dX7_setTolerance_1 : decode cX7_setTolerance 1 = .ok (.invokestatic 87, 3) := by decide +kernel
theorem dX7_setTolerance_4 : decode cX7_setTolerance 4 = .ok (.ifCond .ne 6, 3) := by decide +kernel
theorem dX7_setTolerance_7 : decode cX7_setTolerance 7 = .ok (.bipush (-2), 2) := by decide +kernel
theorem dX7_setTolerance_9 : decode cX7_setTolerance 9 = .ok (.ireturn, 1) := by decide +kernel
theorem dX7_setTolerance_10 : decode cX7_setTolerance 10 = .ok (.iload_n 1, 1) := by decide +kernel
theorem dX7_setTolerance_11 : decode cX7_setTolerance 11 = .ok (.aload_n 0, 1) := by decide +kernel
theorem dX7_setTolerance_12 : decode cX7_setTolerance 12 = .ok (.getfield 10, 3) := by decide +kernel
theorem dX7_setTolerance_15 : decode cX7_setTolerance 15 = .ok (.getfield 92, 3) := by decide +kernel
theorem dX7_setTolerance_18 : decode cX7_setTolerance 18 = .ok (.if_icmp .ne 6, 3) := by decide +kernel
theorem dX7_setTolerance_21 : decode cX7_setTolerance 21 = .ok (.bipush (-5), 2) := by decide +kernel
theorem dX7_setTolerance_23 : decode cX7_setTolerance 23 = .ok (.ireturn, 1) := by decide +kernel
theorem dX7_setTolerance_24 : decode cX7_setTolerance 24 = .ok (.aload_n 0, 1) := by decide +kernel
theorem dX7_setTolerance_25 : decode cX7_setTolerance 25 = .ok (.getfield 26, 3) := by decide +kernel
theorem dX7_setTolerance_28 : decode cX7_setTolerance 28 = .ok (.aload_n 0, 1) := by decide +kernel
theorem dX7_setTolerance_29 : decode cX7_setTolerance 29 = .ok (.getfield 10, 3) := by decide +kernel
theorem dX7_setTolerance_32 : decode cX7_setTolerance 32 = .ok (.invokevirtual 73, 3) := by decide +kernel
theorem dX7_setTolerance_35 : decode cX7_setTolerance 35 = .ok (.aload_n 0, 1) := by decide +kernel
theorem dX7_setTolerance_36 : decode cX7_setTolerance 36 = .ok (.getfield 10, 3) := by decide +kernel
theorem dX7_setTolerance_39 : decode cX7_setTolerance 39 = .ok (.iload_n 1, 1) := by decide +kernel
theorem dX7_setTolerance_40 : decode cX7_setTolerance 40 = .ok (.putfield 92, 3) := by decide +kernel
theorem dX7_setTolerance_43 : decode cX7_setTolerance 43 = .ok (.aload_n 0, 1) := by decide +kernel
theorem dX7_setTolerance_44 : decode cX7_setTolerance 44 = .ok (.getfield 10, 3) := by decide +kernel
theorem dX7_setTolerance_47 : decode cX7_setTolerance 47 = .ok (.iload_n 1, 1) := by decide +kernel
theorem dX7_setTolerance_48 : decode cX7_setTolerance 48 = .ok (.invokestatic 95, 3) := by decide +kernel
theorem dX7_setTolerance_51 : decode cX7_setTolerance 51 = .ok (.putfield 99, 3) := by decide +kernel
theorem dX7_setTolerance_54 : decode cX7_setTolerance 54 = .ok (.iconst 1, 1) := by decide +kernel
theorem dX7_setTolerance_55 : decode cX7_setTolerance 55 = .ok (.ireturn, 1) := by decide +kernel
set_option maxRecDepth 20000 in
theorem ggX7_nail_X1_isPerson : GoodIn wsX7_nail wsX1_isPerson := goodIn_r _ [7, 8, 93, 94, 95, 96, 97, 98, 99, 100, 101, 102, 103, 104, 105] (by decide +kernel) (by decide +kernel)
set_option maxRecDepth 20000 in
theorem gX7_nail_X1_isPerson : GoodIn wsX7_nail (wsV RX7 80 RX1 yX1_isPerson wsX1_isPerson) := goodIn_app (goodIn_of _ (by decide +kernel)) ggX7_nail_X1_isPerson
set_option maxRecDepth 20000 in
theorem ggX7_nail_X7_isWord : GoodIn wsX7_nail wsX7_isWord := goodIn_r _ [12] (by decide +kernel) (by decide +kernel)
set_option maxRecDepth 20000 in
theorem gX7_nail_X7_isWord : GoodIn wsX7_nail (va_wsS RX7 103 yX7_isWord wsX7_isWord) := goodIn_app (goodIn_of _ (by decide +kernel)) ggX7_nail_X7_isWord
set_option maxRecDepth 20000 in
theorem ggX7_nail_X0_areNumber : GoodIn wsX7_nail wsX0_areNumber := goodIn_r _ [16, 17, 18, 19, 20, 15, 21, 22, 23, 24, 25, 26, 27, 28, 29, 30] (by decide +kernel) (by decide +kernel)
set_option maxRecDepth 20000 in
theorem gX7_nail_X0_areNumber : GoodIn wsX7_nail (va_wsS RX7 106 yX0_areNumber wsX0_areNumber) := goodIn_app (goodIn_of _ (by decide +kernel)) ggX7_nail_X0_areNumber
set_option maxRecDepth 20000 in
theorem ggX7_nail_X0_areStrength : GoodIn wsX7_nail wsX0_areStrength := goodIn_r _ [33, 34, 35, 19, 20, 15, 21, 22, 23, 24, 25, 26, 27, 28, 29, 30] (by decide +kernel) (by decide +kernel)
set_option maxRecDepth 20000 in
theorem gX7_nail_X0_areStrength : GoodIn wsX7_nail (va_wsS RX7 109 yX0_areStrength wsX0_areStrength) := goodIn_app (goodIn_of _ (by decide +kernel)) ggX7_nail_X0_areStrength
set_option maxRecDepth 20000 in
theorem ggX7_nail_X1_hasRoomAfter : GoodIn wsX7_nail wsX1_hasRoomAfter := goodIn_r _ [39, 40, 41, 42, 43, 6, 44, 45, 46, 47, 48, 49, 93, 94, 95, 96, 97, 98, 99, 100, 101, 102, 103, 104, 105] (by decide +kernel) (by decide +kernel)
set_option maxRecDepth 20000 in
theorem gX7_nail_X1_hasRoomAfter : GoodIn wsX7_nail (wsV RX7 112 RX1 yX1_hasRoomAfter wsX1_hasRoomAfter) := goodIn_app (goodIn_of _ (by decide +kernel)) ggX7_nail_X1_hasRoomAfter
set_option maxRecDepth 20000 in
theorem ggX7_nail_X2_record : GoodIn wsX7_nail wsX2_record := goodIn_r _ [54, 55, 56, 57, 58, 59, 53, 60, 61, 62, 63, 6, 64, 8, 65, 66, 67, 40, 68, 69, 70, 71, 72, 73, 74, 75, 76, 77, 78, 49, 106, 107, 93, 94, 95, 96, 97, 98, 99, 100, 101, 102, 103, 104, 105] (by decide +kernel) (by decide +kernel)
set_option maxRecDepth 20000 in
theorem gX7_nail_X2_record : GoodIn wsX7_nail (wsV RX7 73 RX2 yX2_record wsX2_record) := goodIn_app (goodIn_of _ (by decide +kernel)) ggX7_nail_X2_record
set_option maxRecDepth 20000 in
theorem ggX7_nail_X0_toFloat : GoodIn wsX7_nail wsX0_toFloat := goodIn_r _ [27, 28, 29, 30, 22, 23, 15, 24] (by decide +kernel) (by decide +kernel)
set_option maxRecDepth 20000 in
theorem gX7_nail_X0_toFloat : GoodIn wsX7_nail (va_wsS RX7 95 yX0_toFloat wsX0_toFloat) := goodIn_app (goodIn_of _ (by decide +kernel)) ggX7_nail_X0_toFloat
set_option maxRecDepth 20000 in
theorem ggX7_nail_X1_hang : GoodIn wsX7_nail wsX1_hang := goodIn_r _ [83, 40, 73, 74, 75, 76, 77, 78, 49, 93, 94, 95, 96, 97, 98, 99, 100, 101, 102, 103, 104, 105] (by decide +kernel) (by decide +kernel)
set_option maxRecDepth 20000 in
theorem gX7_nail_X1_hang : GoodIn wsX7_nail (wsV RX7 115 RX1 yX1_hang wsX1_hang) := goodIn_app (goodIn_of _ (by decide +kernel)) ggX7_nail_X1_hang
theorem dX7_nail_0 : decode cX7_nail 0 = .ok (.aload_n 0, 1) := by decide +kernel
theorem dX7_nail_1 : decode cX7_nail 1 = .ok (.getfield 10, 3) := by decide +kernel
theorem dX7_nail_4 : decode cX7_nail 4 = .ok (.iload_n 1, 1) := by decide +kernel
theorem dX7_nail_5 : decode cX7_nail 5 = .ok (.invokevirtual 80, 3) := by decide +kernel
theorem dX7_nail_8 : decode cX7_nail 8 = .ok (.ifCond .eq 10, 3) := by decide +kernel
theorem dX7_nail_11 : decode cX7_nail 11 = .ok (.iload_n 2, 1) := by decide +kernel
theorem dX7_nail_12 : decode cX7_nail 12 = .ok (.invokestatic 103, 3) := by decide +kernel
theorem dX7_nail_15 : decode cX7_nail 15 = .ok (.ifCond .ne 5, 3) := by decide +kernel
theorem dX7_nail_18 : decode cX7_nail 18 = .ok (.iconst (-1), 1) := by decide +kernel
theorem dX7_nail_19 : decode cX7_nail 19 = .ok (.ireturn, 1) := by decide +kernel
theorem dX7_nail_20 : decode cX7_nail 20 = .ok (.iload_n 3, 1) := by decide +kernel
theorem dX7_nail_21 : decode cX7_nail 21 = .ok (.invokestatic 106, 3) := by decide +kernel
theorem dX7_nail_24 : decode cX7_nail 24 = .ok (.ifCond .eq 11, 3) := by decide +kernel
theorem dX7_nail_27 : decode cX7_nail 27 = .ok (.iload 4, 2) := by decide +kernel
theorem dX7_nail_29 : decode cX7_nail 29 = .ok (.invokestatic 109, 3) := by decide +kernel
theorem dX7_nail_32 : decode cX7_nail 32 = .ok (.ifCond .ne 6, 3) := by decide +kernel
theorem dX7_nail_35 : decode cX7_nail 35 = .ok (.bipush (-2), 2) := by decide +kernel
theorem dX7_nail_37 : decode cX7_nail 37 = .ok (.ireturn, 1) := by decide +kernel
theorem dX7_nail_38 : decode cX7_nail 38 = .ok (.aload_n 0, 1) := by decide +kernel
theorem dX7_nail_39 : decode cX7_nail 39 = .ok (.getfield 10, 3) := by decide +kernel
theorem dX7_nail_42 : decode cX7_nail 42 = .ok (.iconst 0, 1) := by decide +kernel
theorem dX7_nail_43 : decode cX7_nail 43 = .ok (.invokevirtual 112, 3) := by decide +kernel
theorem dX7_nail_46 : decode cX7_nail 46 = .ok (.ifCond .ne 6, 3) := by decide +kernel
theorem dX7_nail_49 : decode cX7_nail 49 = .ok (.bipush (-3), 2) := by decide +kernel
theorem dX7_nail_51 : decode cX7_nail 51 = .ok (.ireturn, 1) := by decide +kernel
theorem dX7_nail_52 : decode cX7_nail 52 = .ok (.aload_n 0, 1) := by decide +kernel
theorem dX7_nail_53 : decode cX7_nail 53 = .ok (.getfield 26, 3) := by decide +kernel
theorem dX7_nail_56 : decode cX7_nail 56 = .ok (.aload_n 0, 1) := by decide +kernel
theorem dX7_nail_57 : decode cX7_nail 57 = .ok (.getfield 10, 3) := by decide +kernel
theorem dX7_nail_60 : decode cX7_nail 60 = .ok (.invokevirtual 73, 3) := by decide +kernel
theorem dX7_nail_63 : decode cX7_nail 63 = .ok (.aload_n 0, 1) := by decide +kernel
theorem dX7_nail_64 : decode cX7_nail 64 = .ok (.getfield 10, 3) := by decide +kernel
theorem dX7_nail_67 : decode cX7_nail 67 = .ok (.iload_n 1, 1) := by decide +kernel
theorem dX7_nail_68 : decode cX7_nail 68 = .ok (.iload_n 2, 1) := by decide +kernel
theorem dX7_nail_69 : decode cX7_nail 69 = .ok (.bipush (-5), 2) := by decide +kernel
theorem dX7_nail_71 : decode cX7_nail 71 = .ok (.fconst 1, 1) := by decide +kernel
theorem dX7_nail_72 : decode cX7_nail 72 = .ok (.iload_n 3, 1) := by decide +kernel
theorem dX7_nail_73 : decode cX7_nail 73 = .ok (.invokestatic 95, 3) := by decide +kernel
theorem dX7_nail_76 : decode cX7_nail 76 = .ok (.iload 4, 2) := by decide +kernel
theorem dX7_nail_78 : decode cX7_nail 78 = .ok (.invokestatic 95, 3) := by decide +kernel
theorem dX7_nail_81 : decode cX7_nail 81 = .ok (.invokevirtual 115, 3) := by decide +kernel
theorem dX7_nail_84 : decode cX7_nail 84 = .ok (.ireturn, 1) := by decide +kernel
set_option maxRecDepth 20000 in
theorem ggX7_nailLink_X1_isPerson : GoodIn wsX7_nailLink wsX1_isPerson := goodIn_r _ [7, 8, 93, 94, 95, 96, 97, 98, 99, 100, 101, 102, 103, 104, 105] (by decide +kernel) (by decide +kernel)
set_option maxRecDepth 20000 in
theorem gX7_nailLink_X1_isPerson : GoodIn wsX7_nailLink (wsV RX7 80 RX1 yX1_isPerson wsX1_isPerson) := goodIn_app (goodIn_of _ (by decide +kernel)) ggX7_nailLink_X1_isPerson
set_option maxRecDepth 20000 in
theorem ggX7_nailLink_X7_isWord : GoodIn wsX7_nailLink wsX7_isWord := goodIn_r _ [12] (by decide +kernel) (by decide +kernel)
set_option maxRecDepth 20000 in
theorem gX7_nailLink_X7_isWord : GoodIn wsX7_nailLink (va_wsS RX7 103 yX7_isWord wsX7_isWord) := goodIn_app (goodIn_of _ (by decide +kernel)) ggX7_nailLink_X7_isWord
set_option maxRecDepth 20000 in
theorem ggX7_nailLink_X0_areNumber : GoodIn wsX7_nailLink wsX0_areNumber := goodIn_r _ [16, 17, 18, 19, 20, 15, 21, 22, 23, 24, 25, 26, 27, 28, 29, 30] (by decide +kernel) (by decide +kernel)
set_option maxRecDepth 20000 in
theorem gX7_nailLink_X0_areNumber : GoodIn wsX7_nailLink (va_wsS RX7 106 yX0_areNumber wsX0_areNumber) := goodIn_app (goodIn_of _ (by decide +kernel)) ggX7_nailLink_X0_areNumber
set_option maxRecDepth 20000 in
theorem ggX7_nailLink_X0_areStrength : GoodIn wsX7_nailLink wsX0_areStrength := goodIn_r _ [33, 34, 35, 19, 20, 15, 21, 22, 23, 24, 25, 26, 27, 28, 29, 30] (by decide +kernel) (by decide +kernel)
set_option maxRecDepth 20000 in
theorem gX7_nailLink_X0_areStrength : GoodIn wsX7_nailLink (va_wsS RX7 109 yX0_areStrength wsX0_areStrength) := goodIn_app (goodIn_of _ (by decide +kernel)) ggX7_nailLink_X0_areStrength
set_option maxRecDepth 20000 in
theorem ggX7_nailLink_X1_hasRoomAfter : GoodIn wsX7_nailLink wsX1_hasRoomAfter := goodIn_r _ [39, 40, 41, 42, 43, 6, 44, 45, 46, 47, 48, 49, 93, 94, 95, 96, 97, 98, 99, 100, 101, 102, 103, 104, 105] (by decide +kernel) (by decide +kernel)
set_option maxRecDepth 20000 in
theorem gX7_nailLink_X1_hasRoomAfter : GoodIn wsX7_nailLink (wsV RX7 112 RX1 yX1_hasRoomAfter wsX1_hasRoomAfter) := goodIn_app (goodIn_of _ (by decide +kernel)) ggX7_nailLink_X1_hasRoomAfter
set_option maxRecDepth 20000 in
theorem ggX7_nailLink_X2_record : GoodIn wsX7_nailLink wsX2_record := goodIn_r _ [54, 55, 56, 57, 58, 59, 53, 60, 61, 62, 63, 6, 64, 8, 65, 66, 67, 40, 68, 69, 70, 71, 72, 73, 74, 75, 76, 77, 78, 49, 106, 107, 93, 94, 95, 96, 97, 98, 99, 100, 101, 102, 103, 104, 105] (by decide +kernel) (by decide +kernel)
set_option maxRecDepth 20000 in
theorem gX7_nailLink_X2_record : GoodIn wsX7_nailLink (wsV RX7 73 RX2 yX2_record wsX2_record) := goodIn_app (goodIn_of _ (by decide +kernel)) ggX7_nailLink_X2_record
set_option maxRecDepth 20000 in
theorem ggX7_nailLink_X0_toFloat : GoodIn wsX7_nailLink wsX0_toFloat := goodIn_r _ [27, 28, 29, 30, 22, 23, 15, 24] (by decide +kernel) (by decide +kernel)
set_option maxRecDepth 20000 in
theorem gX7_nailLink_X0_toFloat : GoodIn wsX7_nailLink (va_wsS RX7 95 yX0_toFloat wsX0_toFloat) := goodIn_app (goodIn_of _ (by decide +kernel)) ggX7_nailLink_X0_toFloat
set_option maxRecDepth 20000 in
theorem ggX7_nailLink_X1_hang : GoodIn wsX7_nailLink wsX1_hang := goodIn_r _ [83, 40, 73, 74, 75, 76, 77, 78, 49, 93, 94, 95, 96, 97, 98, 99, 100, 101, 102, 103, 104, 105] (by decide +kernel) (by decide +kernel)
set_option maxRecDepth 20000 in
theorem gX7_nailLink_X1_hang : GoodIn wsX7_nailLink (wsV RX7 115 RX1 yX1_hang wsX1_hang) := goodIn_app (goodIn_of _ (by decide +kernel)) ggX7_nailLink_X1_hang
theorem dX7_nailLink_0 : decode cX7_nailLink 0 = .ok (.aload_n 0, 1) := by decide +kernel
theorem dX7_nailLink_1 : decode cX7_nailLink 1 = .ok (.getfield 10, 3) := by decide +kernel
theorem dX7_nailLink_4 : decode cX7_nailLink 4 = .ok (.iload_n 1, 1) := by decide +kernel
theorem dX7_nailLink_5 : decode cX7_nailLink 5 = .ok (.invokevirtual 80, 3) := by decide +kernel
theorem dX7_nailLink_8 : decode cX7_nailLink 8 = .ok (.ifCond .eq 17, 3) := by decide +kernel
theorem dX7_nailLink_11 : decode cX7_nailLink 11 = .ok (.iload_n 2, 1) := by decide +kernel
theorem dX7_nailLink_12 : decode cX7_nailLink 12 = .ok (.invokestatic 103, 3) := by decide +kernel
theorem dX7_nailLink_15 : decode cX7_nailLink 15 = .ok (.ifCond .eq 10, 3) := by decide +kernel
theorem dX7_nailLink_18 : decode cX7_nailLink 18 = .ok (.iload_n 3, 1) := by decide +kernel
theorem dX7_nailLink_19 : decode cX7_nailLink 19 = .ok (.invokestatic 103, 3) := by decide +kernel
theorem dX7_nailLink_22 : decode cX7_nailLink 22 = .ok (.ifCond .ne 5, 3) := by decide +kernel
theorem dX7_nailLink_25 : decode cX7_nailLink 25 = .ok (.iconst (-1), 1) := by decide +kernel
theorem dX7_nailLink_26 : decode cX7_nailLink 26 = .ok (.ireturn, 1) := by decide +kernel
theorem dX7_nailLink_27 : decode cX7_nailLink 27 = .ok (.iload 4, 2) := by decide +kernel
theorem dX7_nailLink_29 : decode cX7_nailLink 29 = .ok (.invokestatic 106, 3) := by decide +kernel
theorem dX7_nailLink_32 : decode cX7_nailLink 32 = .ok (.ifCond .eq 24, 3) := by decide +kernel
theorem dX7_nailLink_35 : decode cX7_nailLink 35 = .ok (.iload 5, 2) := by decide +kernel
theorem dX7_nailLink_37 : decode cX7_nailLink 37 = .ok (.invokestatic 106, 3) := by decide +kernel
theorem dX7_nailLink_40 : decode cX7_nailLink 40 = .ok (.ifCond .eq 16, 3) := by decide +kernel
theorem dX7_nailLink_43 : decode cX7_nailLink 43 = .ok (.iload 6, 2) := by decide +kernel
theorem dX7_nailLink_45 : decode cX7_nailLink 45 = .ok (.invokestatic 109, 3) := by decide +kernel
theorem dX7_nailLink_48 : decode cX7_nailLink 48 = .ok (.ifCond .eq 8, 3) := by decide +kernel
theorem dX7_nailLink_51 : decode cX7_nailLink 51 = .ok (.iload_n 2, 1) := by decide +kernel
theorem dX7_nailLink_52 : decode cX7_nailLink 52 = .ok (.iload_n 3, 1) := by decide +kernel
theorem dX7_nailLink_53 : decode cX7_nailLink 53 = .ok (.if_icmp .ne 6, 3) := by decide +kernel
theorem dX7_nailLink_56 : decode cX7_nailLink 56 = .ok (.bipush (-2), 2) := by decide +kernel
theorem dX7_nailLink_58 : decode cX7_nailLink 58 = .ok (.ireturn, 1) := by decide +kernel
theorem dX7_nailLink_59 : decode cX7_nailLink 59 = .ok (.aload_n 0, 1) := by decide +kernel
theorem dX7_nailLink_60 : decode cX7_nailLink 60 = .ok (.getfield 10, 3) := by decide +kernel
theorem dX7_nailLink_63 : decode cX7_nailLink 63 = .ok (.iconst 0, 1) := by decide +kernel
theorem dX7_nailLink_64 : decode cX7_nailLink 64 = .ok (.invokevirtual 112, 3) := by decide +kernel
theorem dX7_nailLink_67 : decode cX7_nailLink 67 = .ok (.ifCond .ne 6, 3) := by decide +kernel
theorem dX7_nailLink_70 : decode cX7_nailLink 70 = .ok (.bipush (-3), 2) := by decide +kernel
theorem dX7_nailLink_72 : decode cX7_nailLink 72 = .ok (.ireturn, 1) := by decide +kernel
theorem dX7_nailLink_73 : decode cX7_nailLink 73 = .ok (.aload_n 0, 1) := by decide +kernel
theorem dX7_nailLink_74 : decode cX7_nailLink 74 = .ok (.getfield 26, 3) := by decide +kernel
theorem dX7_nailLink_77 : decode cX7_nailLink 77 = .ok (.aload_n 0, 1) := by decide +kernel
theorem dX7_nailLink_78 : decode cX7_nailLink 78 = .ok (.getfield 10, 3) := by decide +kernel
theorem dX7_nailLink_81 : decode cX7_nailLink 81 = .ok (.invokevirtual 73, 3) := by decide +kernel
theorem dX7_nailLink_84 : decode cX7_nailLink 84 = .ok (.aload_n 0, 1) := by decide +kernel
theorem dX7_nailLink_85 : decode cX7_nailLink 85 = .ok (.getfield 10, 3) := by decide +kernel
theorem dX7_nailLink_88 : decode cX7_nailLink 88 = .ok (.iload_n 1, 1) := by decide +kernel
theorem dX7_nailLink_89 : decode cX7_nailLink 89 = .ok (.iload_n 2, 1) := by decide +kernel
theorem dX7_nailLink_90 : decode cX7_nailLink 90 = .ok (.iload_n 3, 1) := by decide +kernel
theorem dX7_nailLink_91 : decode cX7_nailLink 91 = .ok (.iload 4, 2) := by decide +kernel
theorem dX7_nailLink_93 : decode cX7_nailLink 93 = .ok (.invokestatic 95, 3) := by decide +kernel
theorem dX7_nailLink_96 : decode cX7_nailLink 96 = .ok (.iload 5, 2) := by decide +kernel
theorem dX7_nailLink_98 : decode cX7_nailLink 98 = .ok (.invokestatic 95, 3) := by decide +kernel
theorem dX7_nailLink_101 : decode cX7_nailLink 101 = .ok (.iload 6, 2) := by decide +kernel
theorem dX7_nailLink_103 : decode cX7_nailLink 103 = .ok (.invokestatic 95, 3) := by decide +kernel
theorem dX7_nailLink_106 : decode cX7_nailLink 106 = .ok (.invokevirtual 115, 3) := by decide +kernel
theorem dX7_nailLink_109 : decode cX7_nailLink 109 = .ok (.ireturn, 1) := by decide +kernel
set_option maxRecDepth 20000 in
theorem ggX7_tear_X1_isOrder : GoodIn wsX7_tear wsX1_isOrder := goodIn_r _ [9, 10, 68, 69, 70, 71, 72, 73, 74, 75, 76, 77, 78, 79, 80] (by decide +kernel) (by decide +kernel)
set_option maxRecDepth 20000 in
theorem gX7_tear_X1_isOrder : GoodIn wsX7_tear (wsV RX7 119 RX1 yX1_isOrder wsX1_isOrder) := goodIn_app (goodIn_of _ (by decide +kernel)) ggX7_tear_X1_isOrder
set_option maxRecDepth 20000 in
theorem ggX7_tear_X1_hangs : GoodIn wsX7_tear wsX1_hangs := goodIn_r _ [14, 15, 68, 69, 70, 71, 72, 73, 74, 75, 76, 77, 78, 79, 80] (by decide +kernel) (by decide +kernel)
set_option maxRecDepth 20000 in
theorem gX7_tear_X1_hangs : GoodIn wsX7_tear (wsV RX7 122 RX1 yX1_hangs wsX1_hangs) := goodIn_app (goodIn_of _ (by decide +kernel)) ggX7_tear_X1_hangs
set_option maxRecDepth 20000 in
theorem ggX7_tear_X2_record : GoodIn wsX7_tear wsX2_record := goodIn_r _ [20, 21, 22, 23, 24, 25, 19, 26, 27, 28, 29, 8, 30, 31, 32, 33, 34, 10, 35, 36, 37, 38, 39, 40, 41, 42, 43, 44, 45, 15, 81, 82, 68, 69, 70, 71, 72, 73, 74, 75, 76, 77, 78, 79, 80] (by decide +kernel) (by decide +kernel)
set_option maxRecDepth 20000 in
theorem gX7_tear_X2_record : GoodIn wsX7_tear (wsV RX7 73 RX2 yX2_record wsX2_record) := goodIn_app (goodIn_of _ (by decide +kernel)) ggX7_tear_X2_record
set_option maxRecDepth 20000 in
theorem ggX7_tear_X1_hangingFor : GoodIn wsX7_tear wsX1_hangingFor := goodIn_r _ [49, 10, 50, 51, 52, 8, 53, 54, 55, 56, 57, 41, 58, 12, 13, 14, 15, 68, 69, 70, 71, 72, 73, 74, 75, 76, 77, 78, 79, 80] (by decide +kernel) (by decide +kernel)
set_option maxRecDepth 20000 in
theorem gX7_tear_X1_hangingFor : GoodIn wsX7_tear (wsV RX7 131 RX1 yX1_hangingFor wsX1_hangingFor) := goodIn_app (goodIn_of _ (by decide +kernel)) ggX7_tear_X1_hangingFor
theorem dX7_tear_0 : decode cX7_tear 0 = .ok (.aload_n 0, 1) := by decide +kernel
theorem dX7_tear_1 : decode cX7_tear 1 = .ok (.getfield 10, 3) := by decide +kernel
theorem dX7_tear_4 : decode cX7_tear 4 = .ok (.iload_n 1, 1) := by decide +kernel
theorem dX7_tear_5 : decode cX7_tear 5 = .ok (.invokevirtual 119, 3) := by decide +kernel
theorem dX7_tear_8 : decode cX7_tear 8 = .ok (.ifCond .ne 5, 3) := by decide +kernel
theorem dX7_tear_11 : decode cX7_tear 11 = .ok (.iconst (-1), 1) := by decide +kernel
theorem dX7_tear_12 : decode cX7_tear 12 = .ok (.ireturn, 1) := by decide +kernel
theorem dX7_tear_13 : decode cX7_tear 13 = .ok (.aload_n 0, 1) := by decide +kernel
theorem dX7_tear_14 : decode cX7_tear 14 = .ok (.getfield 10, 3) := by decide +kernel
theorem dX7_tear_17 : decode cX7_tear 17 = .ok (.iload_n 1, 1) := by decide +kernel
theorem dX7_tear_18 : decode cX7_tear 18 = .ok (.invokevirtual 122, 3) := by decide +kernel
theorem dX7_tear_21 : decode cX7_tear 21 = .ok (.ifCond .ne 6, 3) := by decide +kernel
theorem dX7_tear_24 : decode cX7_tear 24 = .ok (.bipush (-5), 2) := by decide +kernel
theorem dX7_tear_26 : decode cX7_tear 26 = .ok (.ireturn, 1) := by decide +kernel
theorem dX7_tear_27 : decode cX7_tear 27 = .ok (.aload_n 0, 1) := by decide +kernel
theorem dX7_tear_28 : decode cX7_tear 28 = .ok (.getfield 26, 3) := by decide +kernel
theorem dX7_tear_31 : decode cX7_tear 31 = .ok (.aload_n 0, 1) := by decide +kernel
theorem dX7_tear_32 : decode cX7_tear 32 = .ok (.getfield 10, 3) := by decide +kernel
theorem dX7_tear_35 : decode cX7_tear 35 = .ok (.invokevirtual 73, 3) := by decide +kernel
theorem dX7_tear_38 : decode cX7_tear 38 = .ok (.aload_n 0, 1) := by decide +kernel
theorem dX7_tear_39 : decode cX7_tear 39 = .ok (.getfield 10, 3) := by decide +kernel
theorem dX7_tear_42 : decode cX7_tear 42 = .ok (.getfield 125, 3) := by decide +kernel
theorem dX7_tear_45 : decode cX7_tear 45 = .ok (.iload_n 1, 1) := by decide +kernel
theorem dX7_tear_46 : decode cX7_tear 46 = .ok (.iconst 3, 1) := by decide +kernel
theorem dX7_tear_47 : decode cX7_tear 47 = .ok (.iastore, 1) := by decide +kernel
theorem dX7_tear_48 : decode cX7_tear 48 = .ok (.aload_n 0, 1) := by decide +kernel
theorem dX7_tear_49 : decode cX7_tear 49 = .ok (.getfield 10, 3) := by decide +kernel
theorem dX7_tear_52 : decode cX7_tear 52 = .ok (.aload_n 0, 1) := by decide +kernel
theorem dX7_tear_53 : decode cX7_tear 53 = .ok (.getfield 10, 3) := by decide +kernel
theorem dX7_tear_56 : decode cX7_tear 56 = .ok (.getfield 128, 3) := by decide +kernel
theorem dX7_tear_59 : decode cX7_tear 59 = .ok (.iload_n 1, 1) := by decide +kernel
theorem dX7_tear_60 : decode cX7_tear 60 = .ok (.iaload, 1) := by decide +kernel
theorem dX7_tear_61 : decode cX7_tear 61 = .ok (.invokevirtual 131, 3) := by decide +kernel
theorem dX7_tear_64 : decode cX7_tear 64 = .ok (.ireturn, 1) := by decide +kernel
set_option maxRecDepth 20000 in
theorem ggX7_hammer_X1_isOrder : GoodIn wsX7_hammer wsX1_isOrder := goodIn_r _ [10, 11, 61, 62, 63, 64, 65, 66, 67, 68, 69, 70, 71, 72, 73] (by decide +kernel) (by decide +kernel)
set_option maxRecDepth 20000 in
theorem gX7_hammer_X1_isOrder : GoodIn wsX7_hammer (wsV RX7 119 RX1 yX1_isOrder wsX1_isOrder) := goodIn_app (goodIn_of _ (by decide +kernel)) ggX7_hammer_X1_isOrder
set_option maxRecDepth 20000 in
theorem ggX7_hammer_X1_hangs : GoodIn wsX7_hammer wsX1_hangs := goodIn_r _ [15, 16, 61, 62, 63, 64, 65, 66, 67, 68, 69, 70, 71, 72, 73] (by decide +kernel) (by decide +kernel)
set_option maxRecDepth 20000 in
theorem gX7_hammer_X1_hangs : GoodIn wsX7_hammer (wsV RX7 122 RX1 yX1_hangs wsX1_hangs) := goodIn_app (goodIn_of _ (by decide +kernel)) ggX7_hammer_X1_hangs
set_option maxRecDepth 20000 in
theorem ggX7_hammer_X2_record : GoodIn wsX7_hammer wsX2_record := goodIn_r _ [21, 22, 23, 24, 25, 26, 20, 27, 28, 29, 30, 9, 31, 32, 33, 34, 35, 11, 36, 37, 38, 39, 40, 41, 42, 43, 44, 45, 46, 16, 74, 75, 61, 62, 63, 64, 65, 66, 67, 68, 69, 70, 71, 72, 73] (by decide +kernel) (by decide +kernel)
set_option maxRecDepth 20000 in
theorem gX7_hammer_X2_record : GoodIn wsX7_hammer (wsV RX7 73 RX2 yX2_record wsX2_record) := goodIn_app (goodIn_of _ (by decide +kernel)) ggX7_hammer_X2_record
set_option maxRecDepth 20000 in
theorem ggX7_hammer_X1_hundredthsOfStrength : GoodIn wsX7_hammer wsX1_hundredthsOfStrength := goodIn_r _ [50, 46, 51, 61, 62, 63, 64, 65, 66, 67, 68, 69, 70, 71, 72, 73] (by decide +kernel) (by decide +kernel)
set_option maxRecDepth 20000 in
theorem gX7_hammer_X1_hundredthsOfStrength : GoodIn wsX7_hammer (wsV RX7 140 RX1 yX1_hundredthsOfStrength wsX1_hundredthsOfStrength) := goodIn_app (goodIn_of _ (by decide +kernel)) ggX7_hammer_X1_hundredthsOfStrength
theorem dX7_hammer_0 : decode cX7_hammer 0 = .ok (.aload_n 0, 1) := by decide +kernel
theorem dX7_hammer_1 : decode cX7_hammer 1 = .ok (.getfield 10, 3) := by decide +kernel
theorem dX7_hammer_4 : decode cX7_hammer 4 = .ok (.iload_n 1, 1) := by decide +kernel
theorem dX7_hammer_5 : decode cX7_hammer 5 = .ok (.invokevirtual 119, 3) := by decide +kernel
theorem dX7_hammer_8 : decode cX7_hammer 8 = .ok (.ifCond .ne 5, 3) := by decide +kernel
theorem dX7_hammer_11 : decode cX7_hammer 11 = .ok (.iconst (-1), 1) := by decide +kernel
theorem dX7_hammer_12 : decode cX7_hammer 12 = .ok (.ireturn, 1) := by decide +kernel
theorem dX7_hammer_13 : decode cX7_hammer 13 = .ok (.aload_n 0, 1) := by decide +kernel
theorem dX7_hammer_14 : decode cX7_hammer 14 = .ok (.getfield 10, 3) := by decide +kernel
theorem dX7_hammer_17 : decode cX7_hammer 17 = .ok (.iload_n 1, 1) := by decide +kernel
theorem dX7_hammer_18 : decode cX7_hammer 18 = .ok (.invokevirtual 122, 3) := by decide +kernel
theorem dX7_hammer_21 : decode cX7_hammer 21 = .ok (.ifCond .ne 6, 3) := by decide +kernel
theorem dX7_hammer_24 : decode cX7_hammer 24 = .ok (.bipush (-4), 2) := by decide +kernel
theorem dX7_hammer_26 : decode cX7_hammer 26 = .ok (.ireturn, 1) := by decide +kernel
theorem dX7_hammer_27 : decode cX7_hammer 27 = .ok (.aload_n 0, 1) := by decide +kernel
theorem dX7_hammer_28 : decode cX7_hammer 28 = .ok (.getfield 26, 3) := by decide +kernel
theorem dX7_hammer_31 : decode cX7_hammer 31 = .ok (.aload_n 0, 1) := by decide +kernel
theorem dX7_hammer_32 : decode cX7_hammer 32 = .ok (.getfield 10, 3) := by decide +kernel
theorem dX7_hammer_35 : decode cX7_hammer 35 = .ok (.invokevirtual 73, 3) := by decide +kernel
theorem dX7_hammer_38 : decode cX7_hammer 38 = .ok (.aload_n 0, 1) := by decide +kernel
theorem dX7_hammer_39 : decode cX7_hammer 39 = .ok (.getfield 10, 3) := by decide +kernel
theorem dX7_hammer_42 : decode cX7_hammer 42 = .ok (.getfield 134, 3) := by decide +kernel
theorem dX7_hammer_45 : decode cX7_hammer 45 = .ok (.iload_n 1, 1) := by decide +kernel
theorem dX7_hammer_46 : decode cX7_hammer 46 = .ok (.faload, 1) := by decide +kernel
theorem dX7_hammer_47 : decode cX7_hammer 47 = .ok (.fstore_n 2, 1) := by decide +kernel
theorem dX7_hammer_48 : decode cX7_hammer 48 = .ok (.aload_n 0, 1) := by decide +kernel
theorem dX7_hammer_49 : decode cX7_hammer 49 = .ok (.getfield 10, 3) := by decide +kernel
theorem dX7_hammer_52 : decode cX7_hammer 52 = .ok (.getfield 134, 3) := by decide +kernel
theorem dX7_hammer_55 : decode cX7_hammer 55 = .ok (.iload_n 1, 1) := by decide +kernel
theorem dX7_hammer_56 : decode cX7_hammer 56 = .ok (.fload_n 2, 1) := by decide +kernel
theorem dX7_hammer_57 : decode cX7_hammer 57 = .ok (.ldc 138, 2) := by decide +kernel
theorem dX7_hammer_59 : decode cX7_hammer 59 = .ok (.fload_n 2, 1) := by decide +kernel
theorem dX7_hammer_60 : decode cX7_hammer 60 = .ok (.fsub, 1) := by decide +kernel
theorem dX7_hammer_61 : decode cX7_hammer 61 = .ok (.ldc 139, 2) := by decide +kernel
theorem dX7_hammer_63 : decode cX7_hammer 63 = .ok (.fmul, 1) := by decide +kernel
theorem dX7_hammer_64 : decode cX7_hammer 64 = .ok (.fadd, 1) := by decide +kernel
theorem dX7_hammer_65 : decode cX7_hammer 65 = .ok (.fastore, 1) := by decide +kernel
theorem dX7_hammer_66 : decode cX7_hammer 66 = .ok (.aload_n 0, 1) := by decide +kernel
theorem dX7_hammer_67 : decode cX7_hammer 67 = .ok (.getfield 10, 3) := by decide +kernel
theorem dX7_hammer_70 : decode cX7_hammer 70 = .ok (.iload_n 1, 1) := by decide +kernel
theorem dX7_hammer_71 : decode cX7_hammer 71 = .ok (.invokevirtual 140, 3) := by decide +kernel
theorem dX7_hammer_74 : decode cX7_hammer 74 = .ok (.ireturn, 1) := by decide +kernel
set_option maxRecDepth 20000 in
theorem ggX7_storm_X0_areForce : GoodIn wsX7_storm wsX0_areForce := goodIn_r _ [7, 8, 9, 10, 11, 6, 12, 13, 14, 15, 16, 17, 18, 19, 20, 21] (by decide +kernel) (by decide +kernel)
set_option maxRecDepth 20000 in
theorem gX7_storm_X0_areForce : GoodIn wsX7_storm (va_wsS RX7 143 yX0_areForce wsX0_areForce) := goodIn_app (goodIn_of _ (by decide +kernel)) ggX7_storm_X0_areForce
set_option maxRecDepth 20000 in
theorem ggX7_storm_X2_record : GoodIn wsX7_storm wsX2_record := goodIn_r _ [26, 27, 28, 29, 30, 31, 25, 32, 33, 34, 35, 36, 37, 38, 39, 40, 41, 42, 43, 44, 45, 46, 47, 48, 49, 50, 51, 52, 53, 54, 80, 81, 82, 83, 84, 85, 86, 87, 88, 89, 90, 91, 92, 93, 94] (by decide +kernel) (by decide +kernel)
set_option maxRecDepth 20000 in
theorem gX7_storm_X2_record : GoodIn wsX7_storm (wsV RX7 73 RX2 yX2_record wsX2_record) := goodIn_app (goodIn_of _ (by decide +kernel)) ggX7_storm_X2_record
set_option maxRecDepth 20000 in
theorem ggX7_storm_X0_toFloat : GoodIn wsX7_storm wsX0_toFloat := goodIn_r _ [18, 19, 20, 21, 13, 14, 6, 15] (by decide +kernel) (by decide +kernel)
set_option maxRecDepth 20000 in
theorem gX7_storm_X0_toFloat : GoodIn wsX7_storm (va_wsS RX7 95 yX0_toFloat wsX0_toFloat) := goodIn_app (goodIn_of _ (by decide +kernel)) ggX7_storm_X0_toFloat
set_option maxRecDepth 20000 in
theorem ggX7_storm_X6_blow : GoodIn wsX7_storm wsX6_blow := goodIn_r _ [60, 61, 62, 63, 64, 65, 66, 67, 68, 69, 36, 70, 54, 95, 96, 82, 83, 84, 85, 86, 87, 88, 89, 90, 91, 92, 93, 94] (by decide +kernel) (by decide +kernel)
set_option maxRecDepth 20000 in
theorem gX7_storm_X6_blow : GoodIn wsX7_storm (wsV RX7 146 RX6 yX6_blow wsX6_blow) := goodIn_app (goodIn_of _ (by decide +kernel)) ggX7_storm_X6_blow
theorem dX7_storm_0 : decode cX7_storm 0 = .ok (.iload_n 1, 1) := by decide +kernel
theorem dX7_storm_1 : decode cX7_storm 1 = .ok (.invokestatic 143, 3) := by decide +kernel
theorem dX7_storm_4 : decode cX7_storm 4 = .ok (.ifCond .ne 6, 3) := by decide +kernel
theorem dX7_storm_7 : decode cX7_storm 7 = .ok (.bipush (-2), 2) := by decide +kernel
theorem dX7_storm_9 : decode cX7_storm 9 = .ok (.ireturn, 1) := by decide +kernel
theorem dX7_storm_10 : decode cX7_storm 10 = .ok (.aload_n 0, 1) := by decide +kernel
theorem dX7_storm_11 : decode cX7_storm 11 = .ok (.getfield 26, 3) := by decide +kernel
theorem dX7_storm_14 : decode cX7_storm 14 = .ok (.aload_n 0, 1) := by decide +kernel
theorem dX7_storm_15 : decode cX7_storm 15 = .ok (.getfield 10, 3) := by decide +kernel
theorem dX7_storm_18 : decode cX7_storm 18 = .ok (.invokevirtual 73, 3) := by decide +kernel
theorem dX7_storm_21 : decode cX7_storm 21 = .ok (.aload_n 0, 1) := by decide +kernel
theorem dX7_storm_22 : decode cX7_storm 22 = .ok (.getfield 49, 3) := by decide +kernel
theorem dX7_storm_25 : decode cX7_storm 25 = .ok (.aload_n 0, 1) := by decide +kernel
theorem dX7_storm_26 : decode cX7_storm 26 = .ok (.getfield 10, 3) := by decide +kernel
theorem dX7_storm_29 : decode cX7_storm 29 = .ok (.iload_n 1, 1) := by decide +kernel
theorem dX7_storm_30 : decode cX7_storm 30 = .ok (.invokestatic 95, 3) := by decide +kernel
theorem dX7_storm_33 : decode cX7_storm 33 = .ok (.invokevirtual 146, 3) := by decide +kernel
theorem dX7_storm_36 : decode cX7_storm 36 = .ok (.ireturn, 1) := by decide +kernel
set_option maxRecDepth 20000 in
theorem ggX7_value_X7_isWord : GoodIn wsX7_value wsX7_isWord := goodIn_r _ [7] (by decide +kernel) (by decide +kernel)
set_option maxRecDepth 20000 in
theorem gX7_value_X7_isWord : GoodIn wsX7_value (va_wsS RX7 103 yX7_isWord wsX7_isWord) := goodIn_app (goodIn_of _ (by decide +kernel)) ggX7_value_X7_isWord
set_option maxRecDepth 20000 in
theorem ggX7_value_X7_noFloat : GoodIn wsX7_value wsX7_noFloat := goodIn_r _ [10, 11] (by decide +kernel) (by decide +kernel)
set_option maxRecDepth 20000 in
theorem gX7_value_X7_noFloat : GoodIn wsX7_value (va_wsS RX7 187 yX7_noFloat wsX7_noFloat) := goodIn_app (goodIn_of _ (by decide +kernel)) ggX7_value_X7_noFloat
set_option maxRecDepth 20000 in
theorem ggX7_value_X4_settle : GoodIn wsX7_value wsX4_settle := goodIn_r _ [16, 17, 18, 19, 20, 21, 22, 15, 23, 24, 25, 26, 27, 28, 29, 30, 31, 32, 33, 34, 35, 36, 37, 38, 39, 40, 41, 42, 43, 44, 45, 46, 47, 48, 49, 50, 51, 52, 53, 54, 55, 65, 66, 67, 68, 69, 70, 71, 72, 73, 74, 75, 76, 77, 78, 79, 80, 81] (by decide +kernel) (by decide +kernel)
set_option maxRecDepth 20000 in
theorem gX7_value_X4_settle : GoodIn wsX7_value (wsV RX7 191 RX4 yX4_settle wsX4_settle) := goodIn_app (goodIn_of _ (by decide +kernel)) ggX7_value_X4_settle
theorem dX7_value_0 : decode cX7_value 0 = .ok (.iload_n 1, 1) := by decide +kernel
theorem dX7_value_1 : decode cX7_value 1 = .ok (.invokestatic 103, 3) := by decide +kernel
theorem dX7_value_4 : decode cX7_value 4 = .ok (.ifCond .ne 7, 3) := by decide +kernel
theorem dX7_value_7 : decode cX7_value 7 = .ok (.invokestatic 187, 3) := by decide +kernel
theorem dX7_value_10 : decode cX7_value 10 = .ok (.freturn, 1) := by decide +kernel
theorem dX7_value_11 : decode cX7_value 11 = .ok (.aload_n 0, 1) := by decide +kernel
theorem dX7_value_12 : decode cX7_value 12 = .ok (.getfield 58, 3) := by decide +kernel
theorem dX7_value_15 : decode cX7_value 15 = .ok (.bipush (-5), 2) := by decide +kernel
theorem dX7_value_17 : decode cX7_value 17 = .ok (.invokevirtual 191, 3) := by decide +kernel
theorem dX7_value_20 : decode cX7_value 20 = .ok (.aload_n 0, 1) := by decide +kernel
theorem dX7_value_21 : decode cX7_value 21 = .ok (.getfield 58, 3) := by decide +kernel
theorem dX7_value_24 : decode cX7_value 24 = .ok (.getfield 195, 3) := by decide +kernel
theorem dX7_value_27 : decode cX7_value 27 = .ok (.iload_n 1, 1) := by decide +kernel
theorem dX7_value_28 : decode cX7_value 28 = .ok (.baload, 1) := by decide +kernel
theorem dX7_value_29 : decode cX7_value 29 = .ok (.ifCond .eq 15, 3) := by decide +kernel
theorem dX7_value_32 : decode cX7_value 32 = .ok (.aload_n 0, 1) := by decide +kernel
theorem dX7_value_33 : decode cX7_value 33 = .ok (.getfield 58, 3) := by decide +kernel
theorem dX7_value_36 : decode cX7_value 36 = .ok (.getfield 199, 3) := by decide +kernel
theorem dX7_value_39 : decode cX7_value 39 = .ok (.iload_n 1, 1) := by decide +kernel
theorem dX7_value_40 : decode cX7_value 40 = .ok (.faload, 1) := by decide +kernel
theorem dX7_value_41 : decode cX7_value 41 = .ok (.goto 6, 3) := by decide +kernel
theorem dX7_value_44 : decode cX7_value 44 = .ok (.invokestatic 187, 3) := by decide +kernel
theorem dX7_value_47 : decode cX7_value 47 = .ok (.freturn, 1) := by decide +kernel
set_option maxRecDepth 20000 in
theorem ggX7_valueOf_X1_isOrder : GoodIn wsX7_valueOf wsX1_isOrder := goodIn_r _ [7, 8, 68, 69, 70, 71, 72, 73, 74, 75, 76, 77, 78, 79, 80] (by decide +kernel) (by decide +kernel)
set_option maxRecDepth 20000 in
theorem gX7_valueOf_X1_isOrder : GoodIn wsX7_valueOf (wsV RX7 119 RX1 yX1_isOrder wsX1_isOrder) := goodIn_app (goodIn_of _ (by decide +kernel)) ggX7_valueOf_X1_isOrder
set_option maxRecDepth 20000 in
theorem ggX7_valueOf_X7_noFloat : GoodIn wsX7_valueOf wsX7_noFloat := goodIn_r _ [12, 13] (by decide +kernel) (by decide +kernel)
set_option maxRecDepth 20000 in
theorem gX7_valueOf_X7_noFloat : GoodIn wsX7_valueOf (va_wsS RX7 187 yX7_noFloat wsX7_noFloat) := goodIn_app (goodIn_of _ (by decide +kernel)) ggX7_valueOf_X7_noFloat
set_option maxRecDepth 20000 in
theorem ggX7_valueOf_X4_settle : GoodIn wsX7_valueOf wsX4_settle := goodIn_r _ [18, 19, 20, 21, 22, 23, 24, 17, 25, 26, 27, 28, 29, 30, 31, 6, 32, 33, 34, 35, 36, 37, 38, 39, 40, 41, 42, 43, 44, 45, 46, 47, 48, 49, 50, 51, 52, 53, 54, 55, 56, 81, 82, 83, 84, 68, 69, 70, 71, 72, 73, 74, 75, 76, 77, 78, 79, 80] (by decide +kernel) (by decide +kernel)
set_option maxRecDepth 20000 in
theorem gX7_valueOf_X4_settle : GoodIn wsX7_valueOf (wsV RX7 191 RX4 yX4_settle wsX4_settle) := goodIn_app (goodIn_of _ (by decide +kernel)) ggX7_valueOf_X4_settle
set_option maxRecDepth 20000 in
theorem ggX7_valueOf_X4_orderHasValue : GoodIn wsX7_valueOf wsX4_orderHasValue := goodIn_r _ [47, 26, 48, 20, 49, 50, 51, 52, 53, 17, 54, 55, 21, 56, 81, 82, 83, 84, 68, 69, 70, 71, 72, 73, 74, 75, 76, 77, 78, 79, 80] (by decide +kernel) (by decide +kernel)
set_option maxRecDepth 20000 in
theorem gX7_valueOf_X4_orderHasValue : GoodIn wsX7_valueOf (wsV RX7 202 RX4 yX4_orderHasValue wsX4_orderHasValue) := goodIn_app (goodIn_of _ (by decide +kernel)) ggX7_valueOf_X4_orderHasValue
set_option maxRecDepth 20000 in
theorem ggX7_valueOf_X4_orderValue : GoodIn wsX7_valueOf wsX4_orderValue := goodIn_r _ [54, 26, 48, 55, 21, 56, 81, 82, 83, 84, 68, 69, 70, 71, 72, 73, 74, 75, 76, 77, 78, 79, 80] (by decide +kernel) (by decide +kernel)
set_option maxRecDepth 20000 in
theorem gX7_valueOf_X4_orderValue : GoodIn wsX7_valueOf (wsV RX7 205 RX4 yX4_orderValue wsX4_orderValue) := goodIn_app (goodIn_of _ (by decide +kernel)) ggX7_valueOf_X4_orderValue
theorem dX7_valueOf_0 : decode cX7_valueOf 0 = .ok (.aload_n 0, 1) := by decide +kernel
theorem dX7_valueOf_1 : decode cX7_valueOf 1 = .ok (.getfield 10, 3) := by decide +kernel
theorem dX7_valueOf_4 : decode cX7_valueOf 4 = .ok (.iload_n 1, 1) := by decide +kernel
theorem dX7_valueOf_5 : decode cX7_valueOf 5 = .ok (.invokevirtual 119, 3) := by decide +kernel
theorem dX7_valueOf_8 : decode cX7_valueOf 8 = .ok (.ifCond .ne 7, 3) := by decide +kernel
theorem dX7_valueOf_11 : decode cX7_valueOf 11 = .ok (.invokestatic 187, 3) := by decide +kernel
theorem dX7_valueOf_14 : decode cX7_valueOf 14 = .ok (.freturn, 1) := by decide +kernel
theorem dX7_valueOf_15 : decode cX7_valueOf 15 = .ok (.aload_n 0, 1) := by decide +kernel
theorem dX7_valueOf_16 : decode cX7_valueOf 16 = .ok (.getfield 58, 3) := by decide +kernel
theorem dX7_valueOf_19 : decode cX7_valueOf 19 = .ok (.bipush (-5), 2) := by decide +kernel
theorem dX7_valueOf_21 : decode cX7_valueOf 21 = .ok (.invokevirtual 191, 3) := by decide +kernel
theorem dX7_valueOf_24 : decode cX7_valueOf 24 = .ok (.aload_n 0, 1) := by decide +kernel
theorem dX7_valueOf_25 : decode cX7_valueOf 25 = .ok (.getfield 58, 3) := by decide +kernel
theorem dX7_valueOf_28 : decode cX7_valueOf 28 = .ok (.iload_n 1, 1) := by decide +kernel
theorem dX7_valueOf_29 : decode cX7_valueOf 29 = .ok (.invokevirtual 202, 3) := by decide +kernel
theorem dX7_valueOf_32 : decode cX7_valueOf 32 = .ok (.ifCond .eq 14, 3) := by decide +kernel
theorem dX7_valueOf_35 : decode cX7_valueOf 35 = .ok (.aload_n 0, 1) := by decide +kernel
theorem dX7_valueOf_36 : decode cX7_valueOf 36 = .ok (.getfield 58, 3) := by decide +kernel
theorem dX7_valueOf_39 : decode cX7_valueOf 39 = .ok (.iload_n 1, 1) := by decide +kernel
theorem dX7_valueOf_40 : decode cX7_valueOf 40 = .ok (.invokevirtual 205, 3) := by decide +kernel
theorem dX7_valueOf_43 : decode cX7_valueOf 43 = .ok (.goto 6, 3) := by decide +kernel
theorem dX7_valueOf_46 : decode cX7_valueOf 46 = .ok (.invokestatic 187, 3) := by decide +kernel
theorem dX7_valueOf_49 : decode cX7_valueOf 49 = .ok (.freturn, 1) := by decide +kernel
set_option maxRecDepth 20000 in
theorem ggX7_word_X7_isWord : GoodIn wsX7_word wsX7_isWord := goodIn_r _ [8] (by decide +kernel) (by decide +kernel)
set_option maxRecDepth 20000 in
theorem gX7_word_X7_isWord : GoodIn wsX7_word (va_wsS RX7 103 yX7_isWord wsX7_isWord) := goodIn_app (goodIn_of _ (by decide +kernel)) ggX7_word_X7_isWord
set_option maxRecDepth 20000 in
theorem ggX7_word_X4_settle : GoodIn wsX7_word wsX4_settle := goodIn_r _ [13, 14, 15, 16, 17, 18, 19, 12, 20, 21, 22, 23, 24, 25, 26, 27, 28, 29, 30, 31, 32, 33, 34, 35, 36, 37, 38, 39, 40, 41, 42, 43, 44, 45, 46, 47, 48, 49, 50, 51, 52, 115, 116, 117, 118, 119, 120, 121, 122, 123, 124, 125, 126, 127, 128, 129, 130, 131] (by decide +kernel) (by decide +kernel)
set_option maxRecDepth 20000 in
theorem gX7_word_X4_settle : GoodIn wsX7_word (wsV RX7 191 RX4 yX4_settle wsX4_settle) := goodIn_app (goodIn_of _ (by decide +kernel)) ggX7_word_X4_settle
set_option maxRecDepth 20000 in
theorem ggX7_word_X1_hangingAt : GoodIn wsX7_word wsX1_hangingAt := goodIn_r _ [56, 57, 58, 59, 60, 27, 61, 62, 63, 25, 26, 28, 29, 119, 120, 121, 122, 123, 124, 125, 126, 127, 128, 129, 130, 131] (by decide +kernel) (by decide +kernel)
set_option maxRecDepth 20000 in
theorem gX7_word_X1_hangingAt : GoodIn wsX7_word (wsV RX7 211 RX1 yX1_hangingAt wsX1_hangingAt) := goodIn_app (goodIn_of _ (by decide +kernel)) ggX7_word_X1_hangingAt
set_option maxRecDepth 20000 in
theorem ggX7_word_X1_hangingFor : GoodIn wsX7_word wsX1_hangingFor := goodIn_r _ [67, 57, 68, 69, 70, 27, 71, 58, 59, 60, 61, 62, 63, 25, 26, 28, 29, 119, 120, 121, 122, 123, 124, 125, 126, 127, 128, 129, 130, 131] (by decide +kernel) (by decide +kernel)
set_option maxRecDepth 20000 in
theorem gX7_word_X1_hangingFor : GoodIn wsX7_word (wsV RX7 131 RX1 yX1_hangingFor wsX1_hangingFor) := goodIn_app (goodIn_of _ (by decide +kernel)) ggX7_word_X1_hangingFor
set_option maxRecDepth 20000 in
theorem ggX7_word_X7_oneIf : GoodIn wsX7_word wsX7_oneIf := goodIn_r _ [74] (by decide +kernel) (by decide +kernel)
set_option maxRecDepth 20000 in
theorem gX7_word_X7_oneIf : GoodIn wsX7_word (va_wsS RX7 215 yX7_oneIf wsX7_oneIf) := goodIn_app (goodIn_of _ (by decide +kernel)) ggX7_word_X7_oneIf
set_option maxRecDepth 20000 in
theorem ggX7_word_X4_topmostRival : GoodIn wsX7_word wsX4_topmostRival := goodIn_r _ [78, 14, 21, 22, 79, 59, 60, 27, 61, 62, 63, 25, 26, 28, 29, 80, 81, 82, 12, 83, 84, 30, 31, 32, 33, 34, 35, 40, 41, 42, 43, 44, 15, 45, 46, 47, 48, 49, 50, 51, 16, 52, 85, 86, 87, 88, 89, 115, 116, 117, 118, 119, 120, 121, 122, 123, 124, 125, 126, 127, 128, 129, 130, 131] (by decide +kernel) (by decide +kernel)
set_option maxRecDepth 20000 in
theorem gX7_word_X4_topmostRival : GoodIn wsX7_word (wsV RX7 219 RX4 yX4_topmostRival wsX4_topmostRival) := goodIn_app (goodIn_of _ (by decide +kernel)) ggX7_word_X4_topmostRival
set_option maxRecDepth 20000 in
theorem ggX7_word_X4_dependents : GoodIn wsX7_word wsX4_dependents := goodIn_r _ [93, 94, 95, 96, 12, 97, 98, 99, 100, 101, 14, 21, 44, 115, 116, 117, 118, 119, 120, 121, 122, 123, 124, 125, 126, 127, 128, 129, 130, 131] (by decide +kernel) (by decide +kernel)
set_option maxRecDepth 20000 in
theorem gX7_word_X4_dependents : GoodIn wsX7_word (wsV RX7 222 RX4 yX4_dependents wsX4_dependents) := goodIn_app (goodIn_of _ (by decide +kernel)) ggX7_word_X4_dependents
set_option maxRecDepth 20000 in
theorem ggX7_word_X4_linksToEnd : GoodIn wsX7_word wsX4_linksToEnd := goodIn_r _ [105, 98, 99, 100, 12, 101, 14, 21, 44, 115, 116, 117, 118, 119, 120, 121, 122, 123, 124, 125, 126, 127, 128, 129, 130, 131] (by decide +kernel) (by decide +kernel)
set_option maxRecDepth 20000 in
theorem gX7_word_X4_linksToEnd : GoodIn wsX7_word (wsV RX7 225 RX4 yX4_linksToEnd wsX4_linksToEnd) := goodIn_app (goodIn_of _ (by decide +kernel)) ggX7_word_X4_linksToEnd
theorem dX7_word_0 : decode cX7_word 0 = .ok (.iload_n 1, 1) := by decide +kernel
theorem dX7_word_1 : decode cX7_word 1 = .ok (.invokestatic 103, 3) := by decide +kernel
theorem dX7_word_4 : decode cX7_word 4 = .ok (.ifCond .ne 5, 3) := by decide +kernel
theorem dX7_word_7 : decode cX7_word 7 = .ok (.iconst (-1), 1) := by decide +kernel
theorem dX7_word_8 : decode cX7_word 8 = .ok (.ireturn, 1) := by decide +kernel
theorem dX7_word_9 : decode cX7_word 9 = .ok (.aload_n 0, 1) := by decide +kernel
theorem dX7_word_10 : decode cX7_word 10 = .ok (.getfield 58, 3) := by decide +kernel
theorem dX7_word_13 : decode cX7_word 13 = .ok (.bipush (-5), 2) := by decide +kernel
theorem dX7_word_15 : decode cX7_word 15 = .ok (.invokevirtual 191, 3) := by decide +kernel
theorem dX7_word_18 : decode cX7_word 18 = .ok (.iload_n 2, 1) := by decide +kernel
theorem dX7_word_19 : decode cX7_word 19 = .ok (.tableswitch 110 0 6 #[41, 51, 61, 70, 83, 92, 101], 41) := by decide +kernel
theorem dX7_word_60 : decode cX7_word 60 = .ok (.aload_n 0, 1) := by decide +kernel
theorem dX7_word_61 : decode cX7_word 61 = .ok (.getfield 58, 3) := by decide +kernel
theorem dX7_word_64 : decode cX7_word 64 = .ok (.getfield 208, 3) := by decide +kernel
theorem dX7_word_67 : decode cX7_word 67 = .ok (.iload_n 1, 1) := by decide +kernel
theorem dX7_word_68 : decode cX7_word 68 = .ok (.iaload, 1) := by decide +kernel
theorem dX7_word_69 : decode cX7_word 69 = .ok (.ireturn, 1) := by decide +kernel
theorem dX7_word_70 : decode cX7_word 70 = .ok (.aload_n 0, 1) := by decide +kernel
theorem dX7_word_71 : decode cX7_word 71 = .ok (.getfield 10, 3) := by decide +kernel
theorem dX7_word_74 : decode cX7_word 74 = .ok (.iload_n 1, 1) := by decide +kernel
theorem dX7_word_75 : decode cX7_word 75 = .ok (.iconst 0, 1) := by decide +kernel
theorem dX7_word_76 : decode cX7_word 76 = .ok (.invokevirtual 211, 3) := by decide +kernel
theorem dX7_word_79 : decode cX7_word 79 = .ok (.ireturn, 1) := by decide +kernel
theorem dX7_word_80 : decode cX7_word 80 = .ok (.aload_n 0, 1) := by decide +kernel
theorem dX7_word_81 : decode cX7_word 81 = .ok (.getfield 10, 3) := by decide +kernel
theorem dX7_word_84 : decode cX7_word 84 = .ok (.iload_n 1, 1) := by decide +kernel
theorem dX7_word_85 : decode cX7_word 85 = .ok (.invokevirtual 131, 3) := by decide +kernel
theorem dX7_word_88 : decode cX7_word 88 = .ok (.ireturn, 1) := by decide +kernel
theorem dX7_word_89 : decode cX7_word 89 = .ok (.aload_n 0, 1) := by decide +kernel
theorem dX7_word_90 : decode cX7_word 90 = .ok (.getfield 58, 3) := by decide +kernel
theorem dX7_word_93 : decode cX7_word 93 = .ok (.getfield 195, 3) := by decide +kernel
theorem dX7_word_96 : decode cX7_word 96 = .ok (.iload_n 1, 1) := by decide +kernel
theorem dX7_word_97 : decode cX7_word 97 = .ok (.baload, 1) := by decide +kernel
theorem dX7_word_98 : decode cX7_word 98 = .ok (.invokestatic 215, 3) := by decide +kernel
theorem dX7_word_101 : decode cX7_word 101 = .ok (.ireturn, 1) := by decide +kernel
theorem dX7_word_102 : decode cX7_word 102 = .ok (.aload_n 0, 1) := by decide +kernel
theorem dX7_word_103 : decode cX7_word 103 = .ok (.getfield 58, 3) := by decide +kernel
theorem dX7_word_106 : decode cX7_word 106 = .ok (.iload_n 1, 1) := by decide +kernel
theorem dX7_word_107 : decode cX7_word 107 = .ok (.invokevirtual 219, 3) := by decide +kernel
theorem dX7_word_110 : decode cX7_word 110 = .ok (.ireturn, 1) := by decide +kernel
theorem dX7_word_111 : decode cX7_word 111 = .ok (.aload_n 0, 1) := by decide +kernel
theorem dX7_word_112 : decode cX7_word 112 = .ok (.getfield 58, 3) := by decide +kernel
theorem dX7_word_115 : decode cX7_word 115 = .ok (.iload_n 1, 1) := by decide +kernel
theorem dX7_word_116 : decode cX7_word 116 = .ok (.invokevirtual 222, 3) := by decide +kernel
theorem dX7_word_119 : decode cX7_word 119 = .ok (.ireturn, 1) := by decide +kernel
theorem dX7_word_120 : decode cX7_word 120 = .ok (.aload_n 0, 1) := by decide +kernel
theorem dX7_word_121 : decode cX7_word 121 = .ok (.getfield 58, 3) := by decide +kernel
theorem dX7_word_124 : decode cX7_word 124 = .ok (.iload_n 1, 1) := by decide +kernel
theorem dX7_word_125 : decode cX7_word 125 = .ok (.invokevirtual 225, 3) := by decide +kernel
theorem dX7_word_128 : decode cX7_word 128 = .ok (.ireturn, 1) := by decide +kernel
theorem dX7_word_129 : decode cX7_word 129 = .ok (.bipush (-2), 2) := by decide +kernel
theorem dX7_word_131 : decode cX7_word 131 = .ok (.ireturn, 1) := by decide +kernel
set_option maxRecDepth 20000 in
theorem ggX7_hangsAt_X7_isWord : GoodIn wsX7_hangsAt wsX7_isWord := goodIn_r _ [5] (by decide +kernel) (by decide +kernel)
set_option maxRecDepth 20000 in
theorem gX7_hangsAt_X7_isWord : GoodIn wsX7_hangsAt (va_wsS RX7 103 yX7_isWord wsX7_isWord) := goodIn_app (goodIn_of _ (by decide +kernel)) ggX7_hangsAt_X7_isWord
set_option maxRecDepth 20000 in
theorem ggX7_hangsAt_X1_hangingAt : GoodIn wsX7_hangsAt wsX1_hangingAt := goodIn_r _ [10, 11, 12, 13, 14, 9, 15, 16, 17, 18, 19, 20, 21, 31, 32, 33, 34, 35, 36, 37, 38, 39, 40, 41, 42, 43] (by decide +kernel) (by decide +kernel)
set_option maxRecDepth 20000 in
theorem gX7_hangsAt_X1_hangingAt : GoodIn wsX7_hangsAt (wsV RX7 211 RX1 yX1_hangingAt wsX1_hangingAt) := goodIn_app (goodIn_of _ (by decide +kernel)) ggX7_hangsAt_X1_hangingAt
theorem dX7_hangsAt_0 : decode cX7_hangsAt 0 = .ok (.iload_n 1, 1) := by decide +kernel
theorem dX7_hangsAt_1 : decode cX7_hangsAt 1 = .ok (.invokestatic 103, 3) := by decide +kernel
theorem dX7_hangsAt_4 : decode cX7_hangsAt 4 = .ok (.ifCond .ne 5, 3) := by decide +kernel
theorem dX7_hangsAt_7 : decode cX7_hangsAt 7 = .ok (.iconst (-1), 1) := by decide +kernel
theorem dX7_hangsAt_8 : decode cX7_hangsAt 8 = .ok (.ireturn, 1) := by decide +kernel
theorem dX7_hangsAt_9 : decode cX7_hangsAt 9 = .ok (.iload_n 2, 1) := by decide +kernel
theorem dX7_hangsAt_10 : decode cX7_hangsAt 10 = .ok (.ifCond .ge 6, 3) := by decide +kernel
theorem dX7_hangsAt_13 : decode cX7_hangsAt 13 = .ok (.bipush (-2), 2) := by decide +kernel
theorem dX7_hangsAt_15 : decode cX7_hangsAt 15 = .ok (.ireturn, 1) := by decide +kernel
theorem dX7_hangsAt_16 : decode cX7_hangsAt 16 = .ok (.aload_n 0, 1) := by decide +kernel
theorem dX7_hangsAt_17 : decode cX7_hangsAt 17 = .ok (.getfield 10, 3) := by decide +kernel
theorem dX7_hangsAt_20 : decode cX7_hangsAt 20 = .ok (.iload_n 1, 1) := by decide +kernel
theorem dX7_hangsAt_21 : decode cX7_hangsAt 21 = .ok (.iload_n 2, 1) := by decide +kernel
theorem dX7_hangsAt_22 : decode cX7_hangsAt 22 = .ok (.invokevirtual 211, 3) := by decide +kernel
theorem dX7_hangsAt_25 : decode cX7_hangsAt 25 = .ok (.ireturn, 1) := by decide +kernel
set_option maxRecDepth 20000 in
theorem ggX7_order_X1_isOrder : GoodIn wsX7_order wsX1_isOrder := goodIn_r _ [9, 10, 98, 99, 100, 101, 102, 103, 104, 105, 106, 107, 108, 109, 110] (by decide +kernel) (by decide +kernel)
set_option maxRecDepth 20000 in
theorem gX7_order_X1_isOrder : GoodIn wsX7_order (wsV RX7 119 RX1 yX1_isOrder wsX1_isOrder) := goodIn_app (goodIn_of _ (by decide +kernel)) ggX7_order_X1_isOrder
set_option maxRecDepth 20000 in
theorem ggX7_order_X1_hangs : GoodIn wsX7_order wsX1_hangs := goodIn_r _ [14, 15, 98, 99, 100, 101, 102, 103, 104, 105, 106, 107, 108, 109, 110] (by decide +kernel) (by decide +kernel)
set_option maxRecDepth 20000 in
theorem gX7_order_X1_hangs : GoodIn wsX7_order (wsV RX7 122 RX1 yX1_hangs wsX1_hangs) := goodIn_app (goodIn_of _ (by decide +kernel)) ggX7_order_X1_hangs
set_option maxRecDepth 20000 in
theorem ggX7_order_X7_oneIf : GoodIn wsX7_order wsX7_oneIf := goodIn_r _ [19] (by decide +kernel) (by decide +kernel)
set_option maxRecDepth 20000 in
theorem gX7_order_X7_oneIf : GoodIn wsX7_order (va_wsS RX7 215 yX7_oneIf wsX7_oneIf) := goodIn_app (goodIn_of _ (by decide +kernel)) ggX7_order_X7_oneIf
set_option maxRecDepth 20000 in
theorem ggX7_order_X1_over : GoodIn wsX7_order wsX1_over := goodIn_r _ [23, 10, 24, 25, 26, 27, 8, 28, 29, 30, 31, 32, 33, 12, 13, 14, 15, 98, 99, 100, 101, 102, 103, 104, 105, 106, 107, 108, 109, 110] (by decide +kernel) (by decide +kernel)
set_option maxRecDepth 20000 in
theorem gX7_order_X1_over : GoodIn wsX7_order (wsV RX7 234 RX1 yX1_over wsX1_over) := goodIn_app (goodIn_of _ (by decide +kernel)) ggX7_order_X1_over
set_option maxRecDepth 20000 in
theorem ggX7_order_X1_beneath : GoodIn wsX7_order wsX1_beneath := goodIn_r _ [37, 24, 25, 26, 27, 8, 28, 29, 30, 31, 32, 33, 12, 13, 14, 15, 98, 99, 100, 101, 102, 103, 104, 105, 106, 107, 108, 109, 110] (by decide +kernel) (by decide +kernel)
set_option maxRecDepth 20000 in
theorem gX7_order_X1_beneath : GoodIn wsX7_order (wsV RX7 237 RX1 yX1_beneath wsX1_beneath) := goodIn_app (goodIn_of _ (by decide +kernel)) ggX7_order_X1_beneath
set_option maxRecDepth 20000 in
theorem ggX7_order_X1_hundredthsOfStrength : GoodIn wsX7_order wsX1_hundredthsOfStrength := goodIn_r _ [41, 42, 43, 98, 99, 100, 101, 102, 103, 104, 105, 106, 107, 108, 109, 110] (by decide +kernel) (by decide +kernel)
set_option maxRecDepth 20000 in
theorem gX7_order_X1_hundredthsOfStrength : GoodIn wsX7_order (wsV RX7 140 RX1 yX1_hundredthsOfStrength wsX1_hundredthsOfStrength) := goodIn_app (goodIn_of _ (by decide +kernel)) ggX7_order_X1_hundredthsOfStrength
set_option maxRecDepth 20000 in
theorem ggX7_order_X7_rules : GoodIn wsX7_order wsX7_rules := goodIn_r _ [47, 48, 49, 1, 3, 50, 51, 52, 53, 54, 55, 56, 57, 58, 59, 60, 61, 62, 63, 64, 65, 12, 13, 8, 14, 15, 66, 67, 68, 69, 70, 71, 72, 73, 74, 75, 76, 77, 78, 79, 80, 81, 82, 83, 84, 85, 86, 87, 88, 89, 90, 91, 92, 93, 94, 95, 96, 97, 111, 112, 113, 114, 98, 99, 100, 101, 102, 103, 104, 105, 106, 107, 108, 109, 110] (by decide +kernel) (by decide +kernel)
set_option maxRecDepth 20000 in
theorem gX7_order_X7_rules : GoodIn wsX7_order (wsV RX7 240 RX7 yX7_rules wsX7_rules) := goodIn_app (goodIn_of _ (by decide +kernel)) ggX7_order_X7_rules
theorem dX7_order_0 : decode cX7_order 0 = .ok (.aload_n 0, 1) := by decide +kernel
theorem dX7_order_1 : decode cX7_order 1 = .ok (.getfield 10, 3) := by decide +kernel
theorem dX7_order_4 : decode cX7_order 4 = .ok (.iload_n 1, 1) := by decide +kernel
theorem dX7_order_5 : decode cX7_order 5 = .ok (.invokevirtual 119, 3) := by decide +kernel
theorem dX7_order_8 : decode cX7_order 8 = .ok (.ifCond .ne 5, 3) := by decide +kernel
theorem dX7_order_11 : decode cX7_order 11 = .ok (.iconst (-1), 1) := by decide +kernel
theorem dX7_order_12 : decode cX7_order 12 = .ok (.ireturn, 1) := by decide +kernel
theorem dX7_order_13 : decode cX7_order 13 = .ok (.iload_n 2, 1) := by decide +kernel
theorem dX7_order_14 : decode cX7_order 14 = .ok (.tableswitch 156 0 7 #[46, 56, 66, 76, 88, 113, 138, 147], 46) := by decide +kernel
theorem dX7_order_60 : decode cX7_order 60 = .ok (.aload_n 0, 1) := by decide +kernel
theorem dX7_order_61 : decode cX7_order 61 = .ok (.getfield 10, 3) := by decide +kernel
theorem dX7_order_64 : decode cX7_order 64 = .ok (.getfield 228, 3) := by decide +kernel
theorem dX7_order_67 : decode cX7_order 67 = .ok (.iload_n 1, 1) := by decide +kernel
theorem dX7_order_68 : decode cX7_order 68 = .ok (.iaload, 1) := by decide +kernel
theorem dX7_order_69 : decode cX7_order 69 = .ok (.ireturn, 1) := by decide +kernel
theorem dX7_order_70 : decode cX7_order 70 = .ok (.aload_n 0, 1) := by decide +kernel
theorem dX7_order_71 : decode cX7_order 71 = .ok (.getfield 10, 3) := by decide +kernel
theorem dX7_order_74 : decode cX7_order 74 = .ok (.getfield 128, 3) := by decide +kernel
theorem dX7_order_77 : decode cX7_order 77 = .ok (.iload_n 1, 1) := by decide +kernel
theorem dX7_order_78 : decode cX7_order 78 = .ok (.iaload, 1) := by decide +kernel
theorem dX7_order_79 : decode cX7_order 79 = .ok (.ireturn, 1) := by decide +kernel
theorem dX7_order_80 : decode cX7_order 80 = .ok (.aload_n 0, 1) := by decide +kernel
theorem dX7_order_81 : decode cX7_order 81 = .ok (.getfield 10, 3) := by decide +kernel
theorem dX7_order_84 : decode cX7_order 84 = .ok (.getfield 231, 3) := by decide +kernel
theorem dX7_order_87 : decode cX7_order 87 = .ok (.iload_n 1, 1) := by decide +kernel
theorem dX7_order_88 : decode cX7_order 88 = .ok (.iaload, 1) := by decide +kernel
theorem dX7_order_89 : decode cX7_order 89 = .ok (.ireturn, 1) := by decide +kernel
theorem dX7_order_90 : decode cX7_order 90 = .ok (.aload_n 0, 1) := by decide +kernel
theorem dX7_order_91 : decode cX7_order 91 = .ok (.getfield 10, 3) := by decide +kernel
theorem dX7_order_94 : decode cX7_order 94 = .ok (.iload_n 1, 1) := by decide +kernel
theorem dX7_order_95 : decode cX7_order 95 = .ok (.invokevirtual 122, 3) := by decide +kernel
theorem dX7_order_98 : decode cX7_order 98 = .ok (.invokestatic 215, 3) := by decide +kernel
theorem dX7_order_101 : decode cX7_order 101 = .ok (.ireturn, 1) := by decide +kernel
theorem dX7_order_102 : decode cX7_order 102 = .ok (.aload_n 0, 1) := by decide +kernel
theorem dX7_order_103 : decode cX7_order 103 = .ok (.getfield 10, 3) := by decide +kernel
theorem dX7_order_106 : decode cX7_order 106 = .ok (.iload_n 1, 1) := by decide +kernel
theorem dX7_order_107 : decode cX7_order 107 = .ok (.invokevirtual 122, 3) := by decide +kernel
theorem dX7_order_110 : decode cX7_order 110 = .ok (.ifCond .eq 14, 3) := by decide +kernel
theorem dX7_order_113 : decode cX7_order 113 = .ok (.aload_n 0, 1) := by decide +kernel
theorem dX7_order_114 : decode cX7_order 114 = .ok (.getfield 10, 3) := by decide +kernel
theorem dX7_order_117 : decode cX7_order 117 = .ok (.iload_n 1, 1) := by decide +kernel
theorem dX7_order_118 : decode cX7_order 118 = .ok (.invokevirtual 234, 3) := by decide +kernel
theorem dX7_order_121 : decode cX7_order 121 = .ok (.goto 5, 3) := by decide +kernel
theorem dX7_order_124 : decode cX7_order 124 = .ok (.bipush (-5), 2) := by decide +kernel
theorem dX7_order_126 : decode cX7_order 126 = .ok (.ireturn, 1) := by decide +kernel
theorem dX7_order_127 : decode cX7_order 127 = .ok (.aload_n 0, 1) := by decide +kernel
theorem dX7_order_128 : decode cX7_order 128 = .ok (.getfield 10, 3) := by decide +kernel
theorem dX7_order_131 : decode cX7_order 131 = .ok (.iload_n 1, 1) := by decide +kernel
theorem dX7_order_132 : decode cX7_order 132 = .ok (.invokevirtual 122, 3) := by decide +kernel
theorem dX7_order_135 : decode cX7_order 135 = .ok (.ifCond .eq 14, 3) := by decide +kernel
theorem dX7_order_138 : decode cX7_order 138 = .ok (.aload_n 0, 1) := by decide +kernel
theorem dX7_order_139 : decode cX7_order 139 = .ok (.getfield 10, 3) := by decide +kernel
theorem dX7_order_142 : decode cX7_order 142 = .ok (.iload_n 1, 1) := by decide +kernel
theorem dX7_order_143 : decode cX7_order 143 = .ok (.invokevirtual 237, 3) := by decide +kernel
theorem dX7_order_146 : decode cX7_order 146 = .ok (.goto 5, 3) := by decide +kernel
theorem dX7_order_149 : decode cX7_order 149 = .ok (.bipush (-5), 2) := by decide +kernel
theorem dX7_order_151 : decode cX7_order 151 = .ok (.ireturn, 1) := by decide +kernel
theorem dX7_order_152 : decode cX7_order 152 = .ok (.aload_n 0, 1) := by decide +kernel
theorem dX7_order_153 : decode cX7_order 153 = .ok (.getfield 10, 3) := by decide +kernel
theorem dX7_order_156 : decode cX7_order 156 = .ok (.iload_n 1, 1) := by decide +kernel
theorem dX7_order_157 : decode cX7_order 157 = .ok (.invokevirtual 140, 3) := by decide +kernel
theorem dX7_order_160 : decode cX7_order 160 = .ok (.ireturn, 1) := by decide +kernel
theorem dX7_order_161 : decode cX7_order 161 = .ok (.aload_n 0, 1) := by decide +kernel
theorem dX7_order_162 : decode cX7_order 162 = .ok (.iload_n 1, 1) := by decide +kernel
theorem dX7_order_163 : decode cX7_order 163 = .ok (.invokevirtual 240, 3) := by decide +kernel
theorem dX7_order_166 : decode cX7_order 166 = .ok (.invokestatic 215, 3) := by decide +kernel
theorem dX7_order_169 : decode cX7_order 169 = .ok (.ireturn, 1) := by decide +kernel
theorem dX7_order_170 : decode cX7_order 170 = .ok (.bipush (-2), 2) := by decide +kernel
theorem dX7_order_172 : decode cX7_order 172 = .ok (.ireturn, 1) := by decide +kernel
set_option maxRecDepth 20000 in
theorem ggX7_real_X1_isOrder : GoodIn wsX7_real wsX1_isOrder := goodIn_r _ [9, 10, 25, 26, 27, 28, 29, 30, 31, 32, 33, 34, 35, 36, 37] (by decide +kernel) (by decide +kernel)
set_option maxRecDepth 20000 in
theorem gX7_real_X1_isOrder : GoodIn wsX7_real (wsV RX7 119 RX1 yX1_isOrder wsX1_isOrder) := goodIn_app (goodIn_of _ (by decide +kernel)) ggX7_real_X1_isOrder
set_option maxRecDepth 20000 in
theorem ggX7_real_X7_noFloat : GoodIn wsX7_real wsX7_noFloat := goodIn_r _ [14, 15] (by decide +kernel) (by decide +kernel)
set_option maxRecDepth 20000 in
theorem gX7_real_X7_noFloat : GoodIn wsX7_real (va_wsS RX7 187 yX7_noFloat wsX7_noFloat) := goodIn_app (goodIn_of _ (by decide +kernel)) ggX7_real_X7_noFloat
theorem dX7_real_0 : decode cX7_real 0 = .ok (.aload_n 0, 1) := by decide +kernel
theorem dX7_real_1 : decode cX7_real 1 = .ok (.getfield 10, 3) := by decide +kernel
theorem dX7_real_4 : decode cX7_real 4 = .ok (.iload_n 1, 1) := by decide +kernel
theorem dX7_real_5 : decode cX7_real 5 = .ok (.invokevirtual 119, 3) := by decide +kernel
theorem dX7_real_8 : decode cX7_real 8 = .ok (.ifCond .ne 7, 3) := by decide +kernel
theorem dX7_real_11 : decode cX7_real 11 = .ok (.invokestatic 187, 3) := by decide +kernel
theorem dX7_real_14 : decode cX7_real 14 = .ok (.freturn, 1) := by decide +kernel
theorem dX7_real_15 : decode cX7_real 15 = .ok (.iload_n 2, 1) := by decide +kernel
theorem dX7_real_16 : decode cX7_real 16 = .ok (.tableswitch 58 0 2 #[28, 38, 48], 28) := by decide +kernel
theorem dX7_real_44 : decode cX7_real 44 = .ok (.aload_n 0, 1) := by decide +kernel
theorem dX7_real_45 : decode cX7_real 45 = .ok (.getfield 10, 3) := by decide +kernel
theorem dX7_real_48 : decode cX7_real 48 = .ok (.getfield 243, 3) := by decide +kernel
theorem dX7_real_51 : decode cX7_real 51 = .ok (.iload_n 1, 1) := by decide +kernel
theorem dX7_real_52 : decode cX7_real 52 = .ok (.faload, 1) := by decide +kernel
theorem dX7_real_53 : decode cX7_real 53 = .ok (.freturn, 1) := by decide +kernel
theorem dX7_real_54 : decode cX7_real 54 = .ok (.aload_n 0, 1) := by decide +kernel
theorem dX7_real_55 : decode cX7_real 55 = .ok (.getfield 10, 3) := by decide +kernel
theorem dX7_real_58 : decode cX7_real 58 = .ok (.getfield 246, 3) := by decide +kernel
theorem dX7_real_61 : decode cX7_real 61 = .ok (.iload_n 1, 1) := by decide +kernel
theorem dX7_real_62 : decode cX7_real 62 = .ok (.faload, 1) := by decide +kernel
theorem dX7_real_63 : decode cX7_real 63 = .ok (.freturn, 1) := by decide +kernel
theorem dX7_real_64 : decode cX7_real 64 = .ok (.aload_n 0, 1) := by decide +kernel
theorem dX7_real_65 : decode cX7_real 65 = .ok (.getfield 10, 3) := by decide +kernel
theorem dX7_real_68 : decode cX7_real 68 = .ok (.getfield 134, 3) := by decide +kernel
theorem dX7_real_71 : decode cX7_real 71 = .ok (.iload_n 1, 1) := by decide +kernel
theorem dX7_real_72 : decode cX7_real 72 = .ok (.faload, 1) := by decide +kernel
theorem dX7_real_73 : decode cX7_real 73 = .ok (.freturn, 1) := by decide +kernel
theorem dX7_real_74 : decode cX7_real 74 = .ok (.invokestatic 187, 3) := by decide +kernel
theorem dX7_real_77 : decode cX7_real 77 = .ok (.freturn, 1) := by decide +kernel
set_option maxRecDepth 20000 in
theorem ggX7_person_X1_isPerson : GoodIn wsX7_person wsX1_isPerson := goodIn_r _ [7, 8, 84, 85, 86, 87, 88, 89, 90, 91, 92, 93, 94, 95, 96] (by decide +kernel) (by decide +kernel)
set_option maxRecDepth 20000 in
theorem gX7_person_X1_isPerson : GoodIn wsX7_person (wsV RX7 80 RX1 yX1_isPerson wsX1_isPerson) := goodIn_app (goodIn_of _ (by decide +kernel)) ggX7_person_X1_isPerson
set_option maxRecDepth 20000 in
theorem ggX7_person_X1_nailedBy : GoodIn wsX7_person wsX1_nailedBy := goodIn_r _ [12, 13, 14, 84, 85, 86, 87, 88, 89, 90, 91, 92, 93, 94, 95, 96] (by decide +kernel) (by decide +kernel)
set_option maxRecDepth 20000 in
theorem gX7_person_X1_nailedBy : GoodIn wsX7_person (wsV RX7 260 RX1 yX1_nailedBy wsX1_nailedBy) := goodIn_app (goodIn_of _ (by decide +kernel)) ggX7_person_X1_nailedBy
set_option maxRecDepth 20000 in
theorem ggX7_person_X1_hangingBy : GoodIn wsX7_person wsX1_hangingBy := goodIn_r _ [18, 13, 14, 19, 20, 21, 6, 22, 23, 84, 85, 86, 87, 88, 89, 90, 91, 92, 93, 94, 95, 96] (by decide +kernel) (by decide +kernel)
set_option maxRecDepth 20000 in
theorem gX7_person_X1_hangingBy : GoodIn wsX7_person (wsV RX7 263 RX1 yX1_hangingBy wsX1_hangingBy) := goodIn_app (goodIn_of _ (by decide +kernel)) ggX7_person_X1_hangingBy
set_option maxRecDepth 20000 in
theorem ggX7_person_X7_wordsRuledBy : GoodIn wsX7_person wsX7_wordsRuledBy := goodIn_r _ [28, 29, 30, 1, 31, 32, 33, 34, 35, 36, 37, 38, 39, 40, 41, 42, 43, 44, 45, 46, 47, 20, 21, 6, 22, 23, 48, 49, 50, 51, 52, 14, 53, 54, 55, 56, 57, 58, 59, 60, 61, 62, 63, 64, 65, 66, 67, 68, 69, 75, 76, 77, 78, 79, 80, 81, 82, 83, 97, 98, 99, 100, 84, 85, 86, 87, 88, 89, 90, 91, 92, 93, 94, 95, 96] (by decide +kernel) (by decide +kernel)
set_option maxRecDepth 20000 in
theorem gX7_person_X7_wordsRuledBy : GoodIn wsX7_person (wsV RX7 266 RX7 yX7_wordsRuledBy wsX7_wordsRuledBy) := goodIn_app (goodIn_of _ (by decide +kernel)) ggX7_person_X7_wordsRuledBy
set_option maxRecDepth 20000 in
theorem ggX7_person_X1_wordsOf : GoodIn wsX7_person wsX1_wordsOf := goodIn_r _ [73, 13, 14, 74, 19, 20, 21, 6, 22, 23, 84, 85, 86, 87, 88, 89, 90, 91, 92, 93, 94, 95, 96] (by decide +kernel) (by decide +kernel)
set_option maxRecDepth 20000 in
theorem gX7_person_X1_wordsOf : GoodIn wsX7_person (wsV RX7 269 RX1 yX1_wordsOf wsX1_wordsOf) := goodIn_app (goodIn_of _ (by decide +kernel)) ggX7_person_X1_wordsOf
theorem dX7_person_0 : decode cX7_person 0 = .ok (.aload_n 0, 1) := by decide +kernel
theorem dX7_person_1 : decode cX7_person 1 = .ok (.getfield 10, 3) := by decide +kernel
theorem dX7_person_4 : decode cX7_person 4 = .ok (.iload_n 1, 1) := by decide +kernel
theorem dX7_person_5 : decode cX7_person 5 = .ok (.invokevirtual 80, 3) := by decide +kernel
theorem dX7_person_8 : decode cX7_person 8 = .ok (.ifCond .ne 5, 3) := by decide +kernel
theorem dX7_person_11 : decode cX7_person 11 = .ok (.iconst (-1), 1) := by decide +kernel
theorem dX7_person_12 : decode cX7_person 12 = .ok (.ireturn, 1) := by decide +kernel
theorem dX7_person_13 : decode cX7_person 13 = .ok (.iload_n 2, 1) := by decide +kernel
theorem dX7_person_14 : decode cX7_person 14 = .ok (.tableswitch 77 0 4 #[34, 44, 53, 62, 68], 34) := by decide +kernel
theorem dX7_person_48 : decode cX7_person 48 = .ok (.aload_n 0, 1) := by decide +kernel
theorem dX7_person_49 : decode cX7_person 49 = .ok (.getfield 10, 3) := by decide +kernel
theorem dX7_person_52 : decode cX7_person 52 = .ok (.getfield 83, 3) := by decide +kernel
theorem dX7_person_55 : decode cX7_person 55 = .ok (.iload_n 1, 1) := by decide +kernel
theorem dX7_person_56 : decode cX7_person 56 = .ok (.iaload, 1) := by decide +kernel
theorem dX7_person_57 : decode cX7_person 57 = .ok (.ireturn, 1) := by decide +kernel
theorem dX7_person_58 : decode cX7_person 58 = .ok (.aload_n 0, 1) := by decide +kernel
theorem dX7_person_59 : decode cX7_person 59 = .ok (.getfield 10, 3) := by decide +kernel
theorem dX7_person_62 : decode cX7_person 62 = .ok (.iload_n 1, 1) := by decide +kernel
theorem dX7_person_63 : decode cX7_person 63 = .ok (.invokevirtual 260, 3) := by decide +kernel
theorem dX7_person_66 : decode cX7_person 66 = .ok (.ireturn, 1) := by decide +kernel
theorem dX7_person_67 : decode cX7_person 67 = .ok (.aload_n 0, 1) := by decide +kernel
theorem dX7_person_68 : decode cX7_person 68 = .ok (.getfield 10, 3) := by decide +kernel
theorem dX7_person_71 : decode cX7_person 71 = .ok (.iload_n 1, 1) := by decide +kernel
theorem dX7_person_72 : decode cX7_person 72 = .ok (.invokevirtual 263, 3) := by decide +kernel
theorem dX7_person_75 : decode cX7_person 75 = .ok (.ireturn, 1) := by decide +kernel
theorem dX7_person_76 : decode cX7_person 76 = .ok (.aload_n 0, 1) := by decide +kernel
theorem dX7_person_77 : decode cX7_person 77 = .ok (.iload_n 1, 1) := by decide +kernel
theorem dX7_person_78 : decode cX7_person 78 = .ok (.invokevirtual 266, 3) := by decide +kernel
theorem dX7_person_81 : decode cX7_person 81 = .ok (.ireturn, 1) := by decide +kernel
theorem dX7_person_82 : decode cX7_person 82 = .ok (.aload_n 0, 1) := by decide +kernel
theorem dX7_person_83 : decode cX7_person 83 = .ok (.getfield 10, 3) := by decide +kernel
theorem dX7_person_86 : decode cX7_person 86 = .ok (.iload_n 1, 1) := by decide +kernel
theorem dX7_person_87 : decode cX7_person 87 = .ok (.invokevirtual 269, 3) := by decide +kernel
theorem dX7_person_90 : decode cX7_person 90 = .ok (.ireturn, 1) := by decide +kernel
theorem dX7_person_91 : decode cX7_person 91 = .ok (.bipush (-2), 2) := by decide +kernel
theorem dX7_person_93 : decode cX7_person 93 = .ok (.ireturn, 1) := by decide +kernel
set_option maxRecDepth 20000 in
theorem ggX7_count_X4_settle : GoodIn wsX7_count wsX4_settle := goodIn_r _ [15, 16, 17, 18, 19, 20, 21, 14, 22, 23, 24, 25, 26, 27, 28, 29, 30, 31, 32, 33, 34, 35, 36, 37, 38, 39, 40, 41, 42, 43, 44, 45, 46, 47, 48, 49, 50, 51, 52, 53, 54, 135, 136, 137, 138, 118, 119, 120, 121, 122, 123, 124, 125, 126, 127, 128, 129, 130] (by decide +kernel) (by decide +kernel)
set_option maxRecDepth 20000 in
theorem gX7_count_X4_settle : GoodIn wsX7_count (wsV RX7 191 RX4 yX4_settle wsX4_settle) := goodIn_app (goodIn_of _ (by decide +kernel)) ggX7_count_X4_settle
set_option maxRecDepth 20000 in
theorem ggX7_count_X1_hanging : GoodIn wsX7_count wsX1_hanging := goodIn_r _ [58, 59, 60, 61, 29, 62, 63, 31, 118, 119, 120, 121, 122, 123, 124, 125, 126, 127, 128, 129, 130] (by decide +kernel) (by decide +kernel)
set_option maxRecDepth 20000 in
theorem gX7_count_X1_hanging : GoodIn wsX7_count (wsV RX7 184 RX1 yX1_hanging wsX1_hanging) := goodIn_app (goodIn_of _ (by decide +kernel)) ggX7_count_X1_hanging
set_option maxRecDepth 20000 in
theorem ggX7_count_X1_withFate : GoodIn wsX7_count wsX1_withFate := goodIn_r _ [62, 63, 31, 118, 119, 120, 121, 122, 123, 124, 125, 126, 127, 128, 129, 130] (by decide +kernel) (by decide +kernel)
set_option maxRecDepth 20000 in
theorem gX7_count_X1_withFate : GoodIn wsX7_count (wsV RX7 275 RX1 yX1_withFate wsX1_withFate) := goodIn_app (goodIn_of _ (by decide +kernel)) ggX7_count_X1_withFate
set_option maxRecDepth 20000 in
theorem ggX7_count_X4_wordsWithValue : GoodIn wsX7_count wsX4_wordsWithValue := goodIn_r _ [68, 17, 135, 136, 137, 138] (by decide +kernel) (by decide +kernel)
set_option maxRecDepth 20000 in
theorem gX7_count_X4_wordsWithValue : GoodIn wsX7_count (wsV RX7 278 RX4 yX4_wordsWithValue wsX4_wordsWithValue) := goodIn_app (goodIn_of _ (by decide +kernel)) ggX7_count_X4_wordsWithValue
set_option maxRecDepth 20000 in
theorem ggX7_count_X4_wordsRuledWithoutValue : GoodIn wsX7_count wsX4_wordsRuledWithoutValue := goodIn_r _ [72, 16, 17, 135, 136, 137, 138] (by decide +kernel) (by decide +kernel)
set_option maxRecDepth 20000 in
theorem gX7_count_X4_wordsRuledWithoutValue : GoodIn wsX7_count (wsV RX7 281 RX4 yX4_wordsRuledWithoutValue wsX4_wordsRuledWithoutValue) := goodIn_app (goodIn_of _ (by decide +kernel)) ggX7_count_X4_wordsRuledWithoutValue
set_option maxRecDepth 20000 in
theorem ggX7_count_X4_wordsInConflict : GoodIn wsX7_count wsX4_wordsInConflict := goodIn_r _ [76, 77, 78, 79, 14, 80, 16, 23, 24, 81, 82, 83, 29, 84, 85, 86, 27, 28, 30, 31, 87, 88, 89, 90, 91, 32, 33, 34, 35, 36, 37, 42, 43, 44, 45, 46, 17, 47, 48, 49, 50, 51, 52, 53, 18, 54, 92, 93, 94, 95, 96, 135, 136, 137, 138, 118, 119, 120, 121, 122, 123, 124, 125, 126, 127, 128, 129, 130] (by decide +kernel) (by decide +kernel)
set_option maxRecDepth 20000 in
theorem gX7_count_X4_wordsInConflict : GoodIn wsX7_count (wsV RX7 284 RX4 yX4_wordsInConflict wsX4_wordsInConflict) := goodIn_app (goodIn_of _ (by decide +kernel)) ggX7_count_X4_wordsInConflict
set_option maxRecDepth 20000 in
theorem ggX7_count_X4_wordsInRings : GoodIn wsX7_count wsX4_wordsInRings := goodIn_r _ [100, 101, 102, 103, 14, 104, 105, 106, 107, 108, 16, 23, 46, 135, 136, 137, 138, 118, 119, 120, 121, 122, 123, 124, 125, 126, 127, 128, 129, 130] (by decide +kernel) (by decide +kernel)
set_option maxRecDepth 20000 in
theorem gX7_count_X4_wordsInRings : GoodIn wsX7_count (wsV RX7 287 RX4 yX4_wordsInRings wsX4_wordsInRings) := goodIn_app (goodIn_of _ (by decide +kernel)) ggX7_count_X4_wordsInRings
theorem dX7_count_0 : decode cX7_count 0 = .ok (.aload_n 0, 1) := by decide +kernel
theorem dX7_count_1 : decode cX7_count 1 = .ok (.getfield 58, 3) := by decide +kernel
theorem dX7_count_4 : decode cX7_count 4 = .ok (.bipush (-5), 2) := by decide +kernel
theorem dX7_count_6 : decode cX7_count 6 = .ok (.invokevirtual 191, 3) := by decide +kernel
theorem dX7_count_9 : decode cX7_count 9 = .ok (.iload_n 1, 1) := by decide +kernel
theorem dX7_count_10 : decode cX7_count 10 = .ok (.tableswitch 172 0 12 #[66, 74, 82, 90, 99, 108, 116, 124, 132, 140, 148, 156, 164], 66) := by decide +kernel
theorem dX7_count_76 : decode cX7_count 76 = .ok (.aload_n 0, 1) := by decide +kernel
theorem dX7_count_77 : decode cX7_count 77 = .ok (.getfield 10, 3) := by decide +kernel
theorem dX7_count_80 : decode cX7_count 80 = .ok (.getfield 69, 3) := by decide +kernel
theorem dX7_count_83 : decode cX7_count 83 = .ok (.ireturn, 1) := by decide +kernel
theorem dX7_count_84 : decode cX7_count 84 = .ok (.aload_n 0, 1) := by decide +kernel
theorem dX7_count_85 : decode cX7_count 85 = .ok (.getfield 10, 3) := by decide +kernel
theorem dX7_count_88 : decode cX7_count 88 = .ok (.getfield 272, 3) := by decide +kernel
theorem dX7_count_91 : decode cX7_count 91 = .ok (.ireturn, 1) := by decide +kernel
theorem dX7_count_92 : decode cX7_count 92 = .ok (.aload_n 0, 1) := by decide +kernel
theorem dX7_count_93 : decode cX7_count 93 = .ok (.getfield 10, 3) := by decide +kernel
theorem dX7_count_96 : decode cX7_count 96 = .ok (.invokevirtual 184, 3) := by decide +kernel
theorem dX7_count_99 : decode cX7_count 99 = .ok (.ireturn, 1) := by decide +kernel
theorem dX7_count_100 : decode cX7_count 100 = .ok (.aload_n 0, 1) := by decide +kernel
theorem dX7_count_101 : decode cX7_count 101 = .ok (.getfield 10, 3) := by decide +kernel
theorem dX7_count_104 : decode cX7_count 104 = .ok (.iconst 2, 1) := by decide +kernel
theorem dX7_count_105 : decode cX7_count 105 = .ok (.invokevirtual 275, 3) := by decide +kernel
theorem dX7_count_108 : decode cX7_count 108 = .ok (.ireturn, 1) := by decide +kernel
theorem dX7_count_109 : decode cX7_count 109 = .ok (.aload_n 0, 1) := by decide +kernel
theorem dX7_count_110 : decode cX7_count 110 = .ok (.getfield 10, 3) := by decide +kernel
theorem dX7_count_113 : decode cX7_count 113 = .ok (.iconst 3, 1) := by decide +kernel
theorem dX7_count_114 : decode cX7_count 114 = .ok (.invokevirtual 275, 3) := by decide +kernel
theorem dX7_count_117 : decode cX7_count 117 = .ok (.ireturn, 1) := by decide +kernel
theorem dX7_count_118 : decode cX7_count 118 = .ok (.aload_n 0, 1) := by decide +kernel
theorem dX7_count_119 : decode cX7_count 119 = .ok (.getfield 58, 3) := by decide +kernel
theorem dX7_count_122 : decode cX7_count 122 = .ok (.invokevirtual 278, 3) := by decide +kernel
theorem dX7_count_125 : decode cX7_count 125 = .ok (.ireturn, 1) := by decide +kernel
theorem dX7_count_126 : decode cX7_count 126 = .ok (.aload_n 0, 1) := by decide +kernel
theorem dX7_count_127 : decode cX7_count 127 = .ok (.getfield 58, 3) := by decide +kernel
theorem dX7_count_130 : decode cX7_count 130 = .ok (.invokevirtual 281, 3) := by decide +kernel
theorem dX7_count_133 : decode cX7_count 133 = .ok (.ireturn, 1) := by decide +kernel
theorem dX7_count_134 : decode cX7_count 134 = .ok (.aload_n 0, 1) := by decide +kernel
theorem dX7_count_135 : decode cX7_count 135 = .ok (.getfield 58, 3) := by decide +kernel
theorem dX7_count_138 : decode cX7_count 138 = .ok (.invokevirtual 284, 3) := by decide +kernel
theorem dX7_count_141 : decode cX7_count 141 = .ok (.ireturn, 1) := by decide +kernel
theorem dX7_count_142 : decode cX7_count 142 = .ok (.aload_n 0, 1) := by decide +kernel
theorem dX7_count_143 : decode cX7_count 143 = .ok (.getfield 58, 3) := by decide +kernel
theorem dX7_count_146 : decode cX7_count 146 = .ok (.invokevirtual 287, 3) := by decide +kernel
theorem dX7_count_149 : decode cX7_count 149 = .ok (.ireturn, 1) := by decide +kernel
theorem dX7_count_150 : decode cX7_count 150 = .ok (.aload_n 0, 1) := by decide +kernel
theorem dX7_count_151 : decode cX7_count 151 = .ok (.getfield 10, 3) := by decide +kernel
theorem dX7_count_154 : decode cX7_count 154 = .ok (.getfield 290, 3) := by decide +kernel
theorem dX7_count_157 : decode cX7_count 157 = .ok (.ireturn, 1) := by decide +kernel
theorem dX7_count_158 : decode cX7_count 158 = .ok (.aload_n 0, 1) := by decide +kernel
theorem dX7_count_159 : decode cX7_count 159 = .ok (.getfield 10, 3) := by decide +kernel
theorem dX7_count_162 : decode cX7_count 162 = .ok (.getfield 92, 3) := by decide +kernel
theorem dX7_count_165 : decode cX7_count 165 = .ok (.ireturn, 1) := by decide +kernel
theorem dX7_count_166 : decode cX7_count 166 = .ok (.aload_n 0, 1) := by decide +kernel
theorem dX7_count_167 : decode cX7_count 167 = .ok (.getfield 26, 3) := by decide +kernel
theorem dX7_count_170 : decode cX7_count 170 = .ok (.getfield 175, 3) := by decide +kernel
theorem dX7_count_173 : decode cX7_count 173 = .ok (.ireturn, 1) := by decide +kernel
theorem dX7_count_174 : decode cX7_count 174 = .ok (.aload_n 0, 1) := by decide +kernel
theorem dX7_count_175 : decode cX7_count 175 = .ok (.getfield 33, 3) := by decide +kernel
theorem dX7_count_178 : decode cX7_count 178 = .ok (.getfield 150, 3) := by decide +kernel
theorem dX7_count_181 : decode cX7_count 181 = .ok (.ireturn, 1) := by decide +kernel
theorem dX7_count_182 : decode cX7_count 182 = .ok (.bipush (-2), 2) := by decide +kernel
theorem dX7_count_184 : decode cX7_count 184 = .ok (.ireturn, 1) := by decide +kernel
theorem dX7_isRank_0 : decode cX7_isRank 0 = .ok (.iload_n 0, 1) := by decide +kernel
theorem dX7_isRank_1 : decode cX7_isRank 1 = .ok (.iconst 1, 1) := by decide +kernel
theorem dX7_isRank_2 : decode cX7_isRank 2 = .ok (.if_icmp .lt 12, 3) := by decide +kernel
theorem dX7_isRank_5 : decode cX7_isRank 5 = .ok (.iload_n 0, 1) := by decide +kernel
theorem dX7_isRank_6 : decode cX7_isRank 6 = .ok (.iconst 5, 1) := by decide +kernel
theorem dX7_isRank_7 : decode cX7_isRank 7 = .ok (.if_icmp .gt 7, 3) := by decide +kernel
theorem dX7_isRank_10 : decode cX7_isRank 10 = .ok (.iconst 1, 1) := by decide +kernel
theorem dX7_isRank_11 : decode cX7_isRank 11 = .ok (.goto 4, 3) := by decide +kernel
theorem dX7_isRank_14 : decode cX7_isRank 14 = .ok (.iconst 0, 1) := by decide +kernel
theorem dX7_isRank_15 : decode cX7_isRank 15 = .ok (.ireturn, 1) := by decide +kernel
theorem dX7_isWord_0 : decode cX7_isWord 0 = .ok (.iload_n 0, 1) := by decide +kernel
theorem dX7_isWord_1 : decode cX7_isWord 1 = .ok (.ifCond .lt 13, 3) := by decide +kernel
theorem dX7_isWord_4 : decode cX7_isWord 4 = .ok (.iload_n 0, 1) := by decide +kernel
theorem dX7_isWord_5 : decode cX7_isWord 5 = .ok (.bipush 16, 2) := by decide +kernel
theorem dX7_isWord_7 : decode cX7_isWord 7 = .ok (.if_icmp .ge 7, 3) := by decide +kernel
theorem dX7_isWord_10 : decode cX7_isWord 10 = .ok (.iconst 1, 1) := by decide +kernel
theorem dX7_isWord_11 : decode cX7_isWord 11 = .ok (.goto 4, 3) := by decide +kernel
theorem dX7_isWord_14 : decode cX7_isWord 14 = .ok (.iconst 0, 1) := by decide +kernel
theorem dX7_isWord_15 : decode cX7_isWord 15 = .ok (.ireturn, 1) := by decide +kernel
theorem dX7_oneIf_0 : decode cX7_oneIf 0 = .ok (.iload_n 0, 1) := by decide +kernel
theorem dX7_oneIf_1 : decode cX7_oneIf 1 = .ok (.ifCond .eq 7, 3) := by decide +kernel
theorem dX7_oneIf_4 : decode cX7_oneIf 4 = .ok (.iconst 1, 1) := by decide +kernel
theorem dX7_oneIf_5 : decode cX7_oneIf 5 = .ok (.goto 4, 3) := by decide +kernel
theorem dX7_oneIf_8 : decode cX7_oneIf 8 = .ok (.iconst 0, 1) := by decide +kernel
theorem dX7_oneIf_9 : decode cX7_oneIf 9 = .ok (.ireturn, 1) := by decide +kernel
theorem dX7_noFloat_0 : decode cX7_noFloat 0 = .ok (.ldc_w 293, 3) := by decide +kernel
theorem dX7_noFloat_3 : decode cX7_noFloat 3 = .ok (.freturn, 1) := by decide +kernel
set_option maxRecDepth 20000 in
theorem ggX7_rules_X4_settle : GoodIn wsX7_rules wsX4_settle := goodIn_r _ [9, 10, 11, 12, 13, 14, 15, 8, 16, 17, 18, 19, 20, 21, 22, 23, 24, 25, 26, 27, 28, 29, 30, 31, 32, 33, 34, 35, 36, 37, 38, 39, 40, 41, 42, 43, 44, 45, 46, 47, 48, 58, 59, 60, 61, 62, 63, 64, 65, 66, 67, 68, 69, 70, 71, 72, 73, 74] (by decide +kernel) (by decide +kernel)
set_option maxRecDepth 20000 in
theorem gX7_rules_X4_settle : GoodIn wsX7_rules (wsV RX7 191 RX4 yX4_settle wsX4_settle) := goodIn_app (goodIn_of _ (by decide +kernel)) ggX7_rules_X4_settle
theorem dX7_rules_0 : decode cX7_rules 0 = .ok (.aload_n 0, 1) := by decide +kernel
theorem dX7_rules_1 : decode cX7_rules 1 = .ok (.getfield 58, 3) := by decide +kernel
theorem dX7_rules_4 : decode cX7_rules 4 = .ok (.bipush (-5), 2) := by decide +kernel
theorem dX7_rules_6 : decode cX7_rules 6 = .ok (.invokevirtual 191, 3) := by decide +kernel
theorem dX7_rules_9 : decode cX7_rules 9 = .ok (.aload_n 0, 1) := by decide +kernel
theorem dX7_rules_10 : decode cX7_rules 10 = .ok (.getfield 58, 3) := by decide +kernel
theorem dX7_rules_13 : decode cX7_rules 13 = .ok (.getfield 208, 3) := by decide +kernel
theorem dX7_rules_16 : decode cX7_rules 16 = .ok (.aload_n 0, 1) := by decide +kernel
theorem dX7_rules_17 : decode cX7_rules 17 = .ok (.getfield 10, 3) := by decide +kernel
theorem dX7_rules_20 : decode cX7_rules 20 = .ok (.getfield 128, 3) := by decide +kernel
theorem dX7_rules_23 : decode cX7_rules 23 = .ok (.iload_n 1, 1) := by decide +kernel
theorem dX7_rules_24 : decode cX7_rules 24 = .ok (.iaload, 1) := by decide +kernel
theorem dX7_rules_25 : decode cX7_rules 25 = .ok (.iaload, 1) := by decide +kernel
theorem dX7_rules_26 : decode cX7_rules 26 = .ok (.iload_n 1, 1) := by decide +kernel
theorem dX7_rules_27 : decode cX7_rules 27 = .ok (.if_icmp .ne 7, 3) := by decide +kernel
theorem dX7_rules_30 : decode cX7_rules 30 = .ok (.iconst 1, 1) := by decide +kernel
theorem dX7_rules_31 : decode cX7_rules 31 = .ok (.goto 4, 3) := by decide +kernel
theorem dX7_rules_34 : decode cX7_rules 34 = .ok (.iconst 0, 1) := by decide +kernel
theorem dX7_rules_35 : decode cX7_rules 35 = .ok (.ireturn, 1) := by decide +kernel
set_option maxRecDepth 20000 in
theorem ggX7_wordsRuledBy_X4_settle : GoodIn wsX7_wordsRuledBy wsX4_settle := goodIn_r _ [9, 10, 11, 12, 13, 14, 15, 8, 16, 17, 18, 19, 20, 21, 22, 23, 24, 25, 26, 27, 28, 29, 30, 31, 32, 33, 34, 35, 36, 37, 38, 39, 40, 41, 42, 43, 44, 45, 46, 47, 48, 58, 59, 60, 61, 62, 63, 64, 65, 66, 67, 68, 69, 70, 71, 72, 73, 74] (by decide +kernel) (by decide +kernel)
set_option maxRecDepth 20000 in
theorem gX7_wordsRuledBy_X4_settle : GoodIn wsX7_wordsRuledBy (wsV RX7 191 RX4 yX4_settle wsX4_settle) := goodIn_app (goodIn_of _ (by decide +kernel)) ggX7_wordsRuledBy_X4_settle
theorem dX7_wordsRuledBy_0 : decode cX7_wordsRuledBy 0 = .ok (.aload_n 0, 1) := by decide +kernel
theorem dX7_wordsRuledBy_1 : decode cX7_wordsRuledBy 1 = .ok (.getfield 58, 3) := by decide +kernel
theorem dX7_wordsRuledBy_4 : decode cX7_wordsRuledBy 4 = .ok (.bipush (-5), 2) := by decide +kernel
theorem dX7_wordsRuledBy_6 : decode cX7_wordsRuledBy 6 = .ok (.invokevirtual 191, 3) := by decide +kernel
theorem dX7_wordsRuledBy_9 : decode cX7_wordsRuledBy 9 = .ok (.iconst 0, 1) := by decide +kernel
theorem dX7_wordsRuledBy_10 : decode cX7_wordsRuledBy 10 = .ok (.istore_n 2, 1) := by decide +kernel
theorem dX7_wordsRuledBy_11 : decode cX7_wordsRuledBy 11 = .ok (.iconst 0, 1) := by decide +kernel
theorem dX7_wordsRuledBy_12 : decode cX7_wordsRuledBy 12 = .ok (.istore_n 3, 1) := by decide +kernel
theorem dX7_wordsRuledBy_13 : decode cX7_wordsRuledBy 13 = .ok (.iload_n 3, 1) := by decide +kernel
theorem dX7_wordsRuledBy_14 : decode cX7_wordsRuledBy 14 = .ok (.bipush 16, 2) := by decide +kernel
theorem dX7_wordsRuledBy_16 : decode cX7_wordsRuledBy 16 = .ok (.if_icmp .ge 42, 3) := by decide +kernel
theorem dX7_wordsRuledBy_19 : decode cX7_wordsRuledBy 19 = .ok (.aload_n 0, 1) := by decide +kernel
theorem dX7_wordsRuledBy_20 : decode cX7_wordsRuledBy 20 = .ok (.getfield 58, 3) := by decide +kernel
theorem dX7_wordsRuledBy_23 : decode cX7_wordsRuledBy 23 = .ok (.getfield 208, 3) := by decide +kernel
theorem dX7_wordsRuledBy_26 : decode cX7_wordsRuledBy 26 = .ok (.iload_n 3, 1) := by decide +kernel
theorem dX7_wordsRuledBy_27 : decode cX7_wordsRuledBy 27 = .ok (.iaload, 1) := by decide +kernel
theorem dX7_wordsRuledBy_28 : decode cX7_wordsRuledBy 28 = .ok (.istore 4, 2) := by decide +kernel
theorem dX7_wordsRuledBy_30 : decode cX7_wordsRuledBy 30 = .ok (.iload 4, 2) := by decide +kernel
theorem dX7_wordsRuledBy_32 : decode cX7_wordsRuledBy 32 = .ok (.ifCond .lt 20, 3) := by decide +kernel
theorem dX7_wordsRuledBy_35 : decode cX7_wordsRuledBy 35 = .ok (.aload_n 0, 1) := by decide +kernel
theorem dX7_wordsRuledBy_36 : decode cX7_wordsRuledBy 36 = .ok (.getfield 10, 3) := by decide +kernel
theorem dX7_wordsRuledBy_39 : decode cX7_wordsRuledBy 39 = .ok (.getfield 228, 3) := by decide +kernel
theorem dX7_wordsRuledBy_42 : decode cX7_wordsRuledBy 42 = .ok (.iload 4, 2) := by decide +kernel
theorem dX7_wordsRuledBy_44 : decode cX7_wordsRuledBy 44 = .ok (.iaload, 1) := by decide +kernel
theorem dX7_wordsRuledBy_45 : decode cX7_wordsRuledBy 45 = .ok (.iload_n 1, 1) := by decide +kernel
theorem dX7_wordsRuledBy_46 : decode cX7_wordsRuledBy 46 = .ok (.if_icmp .ne 6, 3) := by decide +kernel
theorem dX7_wordsRuledBy_49 : decode cX7_wordsRuledBy 49 = .ok (.iinc 2 1, 3) := by decide +kernel
theorem dX7_wordsRuledBy_52 : decode cX7_wordsRuledBy 52 = .ok (.iinc 3 1, 3) := by decide +kernel
theorem dX7_wordsRuledBy_55 : decode cX7_wordsRuledBy 55 = .ok (.goto (-42), 3) := by decide +kernel
theorem dX7_wordsRuledBy_58 : decode cX7_wordsRuledBy 58 = .ok (.iload_n 2, 1) := by decide +kernel
theorem dX7_wordsRuledBy_59 : decode cX7_wordsRuledBy 59 = .ok (.ireturn, 1) := by decide +kernel
end
section
/-! the walk's own rows: reads that change nothing, whole numbers as nI, loops -/
abbrev oT (cy : Nat → ClassId) : List (ClassId × FieldType) := [(cy 0, .int), (cy 1, .float), (cy 2, .boolean), (cy 3, .double), (cy 4, .object "NailedOrders$Door"), (cy 5, .char)]
abbrev oK (G : va_G) (cy : Nat → ClassId) (U : State) : Prop := va_K G vwCl (oT cy) U
abbrev eI (cy : Nat → ClassId) (n : Nat) (f : Nat → Int32) : va_E := .inl (cy 0, n, .inl f)
abbrev eF (cy : Nat → ClassId) (n : Nat) (f : Nat → UInt32) : va_E := .inl (cy 1, n, .inr (.inr (.inl f)))
abbrev eZ (cy : Nat → ClassId) (n : Nat) (f : Nat → Int32) : va_E := .inl (cy 2, n, .inl f)
abbrev eD (cy : Nat → ClassId) (n : Nat) (f : Nat → UInt64) : va_E := .inl (cy 3, n, .inr (.inr (.inr (.inl f))))
abbrev eR (cy : Nat → ClassId) (n : Nat) (f : Nat → Option Nat) : va_E := .inl (cy 4, n, .inr (.inr (.inr (.inr f))))
def bI (P : Prop) [Decidable P] : Int32 := if P then 1 else 0
theorem bI_t {P : Prop} [Decidable P] (h : P) : bI P = 1 := if_pos h
theorem bI_f {P : Prop} [Decidable P] (h : ¬ P) : bI P = 0 := if_neg h
theorem bI_nI {P : Prop} [Decidable P] : bI P = nI (if P then 1 else 0) := by unfold bI; split <;> decide
theorem bI_narrow {P : Prop} [Decidable P] : narrow .boolean (.int (bI P)) = .int (bI P) := by unfold bI; split <;> decide
theorem bI_congr {P R : Prop} [Decidable P] [Decidable R] (h : P ↔ R) : bI P = bI R := by
  by_cases p : P
  · rw [bI_t p, bI_t (h.mp p)]
  · rw [bI_f p, bI_f (fun r => p (h.mpr r))]
abbrev oR (f lo : Nat) : Room := { frames := f, cells := 0, slots := 0, locals := lo }
abbrev nF : Addr → Prop := fun _ => False
abbrev pR (av : List Value) (H0 : Heap) (G : va_G) (cy : Nat → ClassId) : Array Value → State → Prop := va_Pc av (fun U => U.heap = H0 ∧ oK G cy U)
abbrev qI (v : Int32) (H0 : Heap) : Array Value → State → Outcome → State → Prop := va_Qi (fun r (_ : Unit) => r = v) (fun _ t => t.heap = H0) nF
abbrev qF (v : UInt32) (H0 : Heap) : Array Value → State → Outcome → State → Prop := va_Qf (fun r (_ : Unit) => r = v) (fun _ t => t.heap = H0) nF
/-- a method that reads: its answer is v, nothing is changed -/
abbrev MetI (l : Launch) (y : MethodName) (ws : List Cond) (f lo : Nat) (av : List Value) (H0 : Heap) (G : va_G) (cy : Nat → ClassId) (v : Int32) : Prop := Met l y ws (oR f lo) (pR av H0 G cy) (qI v H0) 0 0 nF
abbrev MetF (l : Launch) (y : MethodName) (ws : List Cond) (f lo : Nat) (av : List Value) (H0 : Heap) (G : va_G) (cy : Nat → ClassId) (v : UInt32) : Prop := Met l y ws (oR f lo) (pR av H0 G cy) (qF v H0) 0 0 nF
theorem pR_blind {av : List Value} {H0 : Heap} {G : va_G} {cy : Nat → ClassId} : FrameBlind (pR av H0 G cy) := fun a U g mk q => by
  obtain ⟨q0, q1, qK⟩ := q
  exact ⟨q0, q1, va_K.moved (u := U) (U := U.calling g mk a) (Vm.Alike.refl U.vm) qK⟩
theorem pR_at {av : List Value} {s : State} {H : Heap} {G : va_G} {cy : Nat → ClassId} (hK : oK G cy s) : ∀ U : State, U.heap = H → s.WarmedH U.vm → pR av H G cy av.toArray U := fun U hU hW => ⟨rfl, hU, va_K.moved hW.alike hK⟩
section OK1
variable {p : Program} {l : Launch} {e : Env} {R : Room} {s : State} {m : MethodId} {args : Array Value} {below : List Frame} {meth : Method} {c : Code} {H : Heap} {locs : List Loc} {cells slots : Nat} {Q : State → Prop}
variable {pc : Nat} {ls : Array Slot} {rest st0 As : List Value} {cc bytes : ByteArray} {G : va_G} {cy : Nat → ClassId} {y : MethodName} {ws : List Cond} {f lo maxL nL n index : Nat} {ret : Option FieldType} {Ts : List Cond} {own C : String} {b : Addr} {a : Array Value}
theorem o_runI {v : Int32} (hr : va_Run p l e R s m args below meth c H locs cells slots 0 0 (F0 m pc ls st0) rest (qI v H a) nF)
    (kk : W p l e R s m args below meth c H locs cells slots Q (F0 m (pc + 3) ls (.int v :: rest))) : W p l e R s m args below meth c H locs cells slots Q (F0 m pc ls st0) := by
  intro T hT X
  obtain ⟨v', st₀, t, T', L, h0, X', hL, e1, e2, ⟨⟨r, u, hv, hp, hb⟩, hz, hk⟩, st⟩ := hr T hT X
  cases hv
  subst hp
  have hL0 : L = [] := List.eq_nil_iff_forall_not_mem.mpr (fun q hq => hL q hq)
  subst hL0
  rw [List.append_nil] at X'
  obtain ⟨t2, a1, b1⟩ := kk T' (e1.trans hb) X'
  exact ⟨t2, st t2 a1, b1⟩
theorem o_runF {v : UInt32} (hr : va_Run p l e R s m args below meth c H locs cells slots 0 0 (F0 m pc ls st0) rest (qF v H a) nF)
    (kk : W p l e R s m args below meth c H locs cells slots Q (F0 m (pc + 3) ls (.float v :: rest))) : W p l e R s m args below meth c H locs cells slots Q (F0 m pc ls st0) := by
  intro T hT X
  obtain ⟨v', st₀, t, T', L, h0, X', hL, e1, e2, ⟨⟨r, u, hv, hp, hb⟩, hz, hk⟩, st⟩ := hr T hT X
  cases hv
  subst hp
  have hL0 : L = [] := List.eq_nil_iff_forall_not_mem.mpr (fun q hq => hL q hq)
  subst hL0
  rw [List.append_nil] at X'
  obtain ⟨t2, a1, b1⟩ := kk T' (e1.trans hb) X'
  exact ⟨t2, st t2 a1, b1⟩
/-- a call of a method that reads: virtual, or static; an int, or a float -/
theorem o_VI {v : Int32} (S : CallFix p m c cc nL s args Ts own) (hM : MetI l y ws f lo (.ref b :: As) H G cy v) (cw : CallW R s args own C index y bytes maxL ret ws (oR f lo) 0 0 n) (hK : oK G cy s) (hcell : ∃ cellB : Cell, H[b]? = some cellB ∧ cellB.vm.isStatics = false ∧ s.vm.findClass C = some cellB.cls)
    (hn : As.length = n) (hsize : ls.size = nL) (hst : st0 = As.reverse ++ .ref b :: rest) (hW : (rest.map fun v => v.category).sum ≤ 8) (hdg : decode cc pc = .ok (.invokevirtual index, 3)) (hf : cells ≤ R.cells ∧ slots ≤ R.slots)
    (kk : W p l e R s m args below meth c H locs cells slots Q (F0 m (pc + 3) ls (.int v :: rest))) : W p l e R s m args below meth c H locs cells slots Q (F0 m pc ls st0) :=
  o_runI (va_runV (As := As) (rest := rest) S hM cw ⟨pR_blind, hcell, pR_at hK⟩ rfl hn hsize hst (lv_room hW) hdg hf) kk
theorem o_VF {v : UInt32} (S : CallFix p m c cc nL s args Ts own) (hM : MetF l y ws f lo (.ref b :: As) H G cy v) (cw : CallW R s args own C index y bytes maxL ret ws (oR f lo) 0 0 n) (hK : oK G cy s) (hcell : ∃ cellB : Cell, H[b]? = some cellB ∧ cellB.vm.isStatics = false ∧ s.vm.findClass C = some cellB.cls)
    (hn : As.length = n) (hsize : ls.size = nL) (hst : st0 = As.reverse ++ .ref b :: rest) (hW : (rest.map fun v => v.category).sum ≤ 8) (hdg : decode cc pc = .ok (.invokevirtual index, 3)) (hf : cells ≤ R.cells ∧ slots ≤ R.slots)
    (kk : W p l e R s m args below meth c H locs cells slots Q (F0 m (pc + 3) ls (.float v :: rest))) : W p l e R s m args below meth c H locs cells slots Q (F0 m pc ls st0) :=
  o_runF (va_runV (As := As) (rest := rest) S hM cw ⟨pR_blind, hcell, pR_at hK⟩ rfl hn hsize hst (lv_room hW) hdg hf) kk
theorem o_SI {v : Int32} (S : CallFix p m c cc nL s args Ts own) (hM : MetI l y ws f lo As H G cy v) (cw : CallB R s args own index y bytes maxL ret ws (oR f lo) 0 0 n ∧ (Cond.static y).before args s = true) (hK : oK G cy s)
    (hn : As.length = n) (hsize : ls.size = nL) (hst : st0 = As.reverse ++ rest) (hW : (rest.map fun v => v.category).sum ≤ 8) (hdg : decode cc pc = .ok (.invokestatic index, 3)) (hf : cells ≤ R.cells ∧ slots ≤ R.slots)
    (kk : W p l e R s m args below meth c H locs cells slots Q (F0 m (pc + 3) ls (.int v :: rest))) : W p l e R s m args below meth c H locs cells slots Q (F0 m pc ls st0) :=
  o_runI (va_runS (As := As) (rest := rest) S hM cw ⟨pR_blind, pR_at hK⟩ rfl hn hsize hst (lv_room hW) hdg hf) kk
theorem o_SF {v : UInt32} (S : CallFix p m c cc nL s args Ts own) (hM : MetF l y ws f lo As H G cy v) (cw : CallB R s args own index y bytes maxL ret ws (oR f lo) 0 0 n ∧ (Cond.static y).before args s = true) (hK : oK G cy s)
    (hn : As.length = n) (hsize : ls.size = nL) (hst : st0 = As.reverse ++ rest) (hW : (rest.map fun v => v.category).sum ≤ 8) (hdg : decode cc pc = .ok (.invokestatic index, 3)) (hf : cells ≤ R.cells ∧ slots ≤ R.slots)
    (kk : W p l e R s m args below meth c H locs cells slots Q (F0 m (pc + 3) ls (.float v :: rest))) : W p l e R s m args below meth c H locs cells slots Q (F0 m pc ls st0) :=
  o_runF (va_runS (As := As) (rest := rest) S hM cw ⟨pR_blind, pR_at hK⟩ rfl hn hsize hst (lv_room hW) hdg hf) kk
/-- ends of methods that read -/
theorem o_endI {v v' : Int32} (hx : p.tables.exec = Jvm.exec) (hb : c.code = cc) (hr : meth.sig.returnType = some .int) (hlocks : meth.locks = false) (hdg : decode cc pc = .ok (.ireturn, 1)) (hv : v = v') :
    W p l e R s m args below meth c s.heap [] 0 0 (MQ below (qI v' s.heap) args s 0 0 nF) (F0 m pc ls [.int v]) :=
  W.iret hx hb hr (fun t ht hW => ⟨⟨_, (), rfl, hv, ht⟩, (va_S.rf (A := nF) (H0 := s.heap)).F ht⟩) (fun q hq => absurd hq List.not_mem_nil) hdg hlocks
theorem o_endZ {v v' : Int32} (hx : p.tables.exec = Jvm.exec) (hb : c.code = cc) (hr : meth.sig.returnType = some .boolean) (hlocks : meth.locks = false) (hdg : decode cc pc = .ok (.ireturn, 1)) (hn : narrow .boolean (.int v) = .int v) (hv : v = v') :
    W p l e R s m args below meth c s.heap [] 0 0 (MQ below (qI v' s.heap) args s 0 0 nF) (F0 m pc ls [.int v]) :=
  W.zret hx hb hr hn (fun t ht hW => ⟨⟨_, (), rfl, hv, ht⟩, (va_S.rf (A := nF) (H0 := s.heap)).F ht⟩) (fun q hq => absurd hq List.not_mem_nil) hdg hlocks
theorem o_endF {v v' : UInt32} (hx : p.tables.exec = Jvm.exec) (hb : c.code = cc) (hr : meth.sig.returnType = some .float) (hlocks : meth.locks = false) (hdg : decode cc pc = .ok (.freturn, 1)) (hv : v = v') :
    W p l e R s m args below meth c s.heap [] 0 0 (MQ below (qF v' s.heap) args s 0 0 nF) (F0 m pc ls [.float v]) :=
  W.fret hx hb hr (fun t ht hW => ⟨⟨_, (), rfl, hv, ht⟩, (va_S.rf (A := nF) (H0 := s.heap)).F ht⟩) (fun q hq => absurd hq List.not_mem_nil) hdg hlocks
/-- a loop: head at pc with nothing on the stack; x is what turns -/
theorem o_loop {σ : Type} (Inv : σ → Prop) (lv : σ → List (Nat × Value)) (μ : σ → Nat) (x0 : σ) (h0 : Inv x0) (hl : lv_has ls nL (lv x0))
    (step : ∀ (x : σ) (ls : Array Slot), Inv x → lv_has ls nL (lv x) → (∀ (y : σ) (ls' : Array Slot), Inv y → lv_has ls' nL (lv y) → μ y < μ x → W p l e R s m args below meth c H locs cells slots Q (F0 m pc ls' [])) → W p l e R s m args below meth c H locs cells slots Q (F0 m pc ls [])) :
    W p l e R s m args below meth c H locs cells slots Q (F0 m pc ls []) := by
  have key : ∀ (k : Nat) (x : σ) (ls : Array Slot), μ x < k → Inv x → lv_has ls nL (lv x) → W p l e R s m args below meth c H locs cells slots Q (F0 m pc ls []) := by
    intro k
    induction k with
    | zero => intro x ls h; exact absurd h (Nat.not_lt_zero _)
    | succ k ih => intro x ls h hi hlx; exact step x ls hi hlx (fun y ls' hy hly hm => ih y ls' (by omega) hy hly)
  exact key (μ x0 + 1) x0 ls (Nat.lt_succ_self _) h0 hl
/-- the same where the heap is written -/
theorem o_loopM {σ : Type} (Inv : σ → Heap → List Loc → Prop) (lv : σ → List (Nat × Value)) (μ : σ → Nat) (x0 : σ) (h0 : Inv x0 H locs) (hl : lv_has ls nL (lv x0))
    (step : ∀ (x : σ) (ls : Array Slot) (H : Heap) (locs : List Loc), Inv x H locs → lv_has ls nL (lv x) → (∀ (y : σ) (ls' : Array Slot) (H' : Heap) (locs' : List Loc), Inv y H' locs' → lv_has ls' nL (lv y) → μ y < μ x → W p l e R s m args below meth c H' locs' cells slots Q (F0 m pc ls' [])) → W p l e R s m args below meth c H locs cells slots Q (F0 m pc ls [])) :
    W p l e R s m args below meth c H locs cells slots Q (F0 m pc ls []) := by
  have key : ∀ (k : Nat) (x : σ) (ls : Array Slot) (H : Heap) (locs : List Loc), μ x < k → Inv x H locs → lv_has ls nL (lv x) → W p l e R s m args below meth c H locs cells slots Q (F0 m pc ls []) := by
    intro k
    induction k with
    | zero => intro x ls H locs h; exact absurd h (Nat.not_lt_zero _)
    | succ k ih => intro x ls H locs h hi hlx; exact step x ls H locs hi hlx (fun y ls' H' locs' hy hly hm => ih y ls' H' locs' (by omega) hy hly)
  exact key (μ x0 + 1) x0 ls H locs (Nat.lt_succ_self _) h0 hl
/-- branches on whole numbers -/
theorem o_icmp_ge {x y : Nat} (hx : p.tables.exec = Jvm.exec) (hb : c.code = cc) {off : Int} {tgt : Nat} (hdg : decode cc pc = .ok (.if_icmp .ge off, 3)) (ht : (pc : Int) + off = (tgt : Int)) (h1 : x < 2 ^ 31) (h2 : y < 2 ^ 31)
    (kt : y ≤ x → W p l e R s m args below meth c H locs cells slots Q (F0 m tgt ls rest)) (kf : x < y → W p l e R s m args below meth c H locs cells slots Q (F0 m (pc + 3) ls rest)) : W p l e R s m args below meth c H locs cells slots Q (F0 m pc ls (.int (nI y) :: .int (nI x) :: rest)) :=
  lv_icmp_ge hx hb hdg ht (fun h => kt ((nI_leI h2 h1).mp h)) (fun h => kf (Nat.lt_of_not_le (fun q => h ((nI_leI h2 h1).mpr q))))
theorem o_icmp_lt {x y : Nat} (hx : p.tables.exec = Jvm.exec) (hb : c.code = cc) {off : Int} {tgt : Nat} (hdg : decode cc pc = .ok (.if_icmp .lt off, 3)) (ht : (pc : Int) + off = (tgt : Int)) (h1 : x < 2 ^ 31) (h2 : y < 2 ^ 31)
    (kt : x < y → W p l e R s m args below meth c H locs cells slots Q (F0 m tgt ls rest)) (kf : y ≤ x → W p l e R s m args below meth c H locs cells slots Q (F0 m (pc + 3) ls rest)) : W p l e R s m args below meth c H locs cells slots Q (F0 m pc ls (.int (nI y) :: .int (nI x) :: rest)) :=
  lv_icmp_lt hx hb hdg ht (fun h => kt ((nI_ltI h1 h2).mp h)) (fun h => kf (Nat.le_of_not_lt (fun q => h ((nI_ltI h1 h2).mpr q))))
theorem o_icmp_gt {x y : Nat} (hx : p.tables.exec = Jvm.exec) (hb : c.code = cc) {off : Int} {tgt : Nat} (hdg : decode cc pc = .ok (.if_icmp .gt off, 3)) (ht : (pc : Int) + off = (tgt : Int)) (h1 : x < 2 ^ 31) (h2 : y < 2 ^ 31)
    (kt : y < x → W p l e R s m args below meth c H locs cells slots Q (F0 m tgt ls rest)) (kf : x ≤ y → W p l e R s m args below meth c H locs cells slots Q (F0 m (pc + 3) ls rest)) : W p l e R s m args below meth c H locs cells slots Q (F0 m pc ls (.int (nI y) :: .int (nI x) :: rest)) :=
  lv_icmp_gt hx hb hdg ht (fun h => kt ((nI_ltI h2 h1).mp h)) (fun h => kf (Nat.le_of_not_lt (fun q => h ((nI_ltI h2 h1).mpr q))))
theorem o_icmp_le {x y : Nat} (hx : p.tables.exec = Jvm.exec) (hb : c.code = cc) {off : Int} {tgt : Nat} (hdg : decode cc pc = .ok (.if_icmp .le off, 3)) (ht : (pc : Int) + off = (tgt : Int)) (h1 : x < 2 ^ 31) (h2 : y < 2 ^ 31)
    (kt : x ≤ y → W p l e R s m args below meth c H locs cells slots Q (F0 m tgt ls rest)) (kf : y < x → W p l e R s m args below meth c H locs cells slots Q (F0 m (pc + 3) ls rest)) : W p l e R s m args below meth c H locs cells slots Q (F0 m pc ls (.int (nI y) :: .int (nI x) :: rest)) :=
  lv_icmp_le hx hb hdg ht (fun h => kt ((nI_leI h1 h2).mp h)) (fun h => kf (Nat.lt_of_not_le (fun q => h ((nI_leI h1 h2).mpr q))))
theorem o_icmp_eq {x y : Nat} (hx : p.tables.exec = Jvm.exec) (hb : c.code = cc) {off : Int} {tgt : Nat} (hdg : decode cc pc = .ok (.if_icmp .eq off, 3)) (ht : (pc : Int) + off = (tgt : Int)) (h1 : x < 2 ^ 31) (h2 : y < 2 ^ 31)
    (kt : x = y → W p l e R s m args below meth c H locs cells slots Q (F0 m tgt ls rest)) (kf : x ≠ y → W p l e R s m args below meth c H locs cells slots Q (F0 m (pc + 3) ls rest)) : W p l e R s m args below meth c H locs cells slots Q (F0 m pc ls (.int (nI y) :: .int (nI x) :: rest)) :=
  lv_icmp_eq hx hb hdg ht (fun h => kt ((nI_eq h1 h2).mp h)) (fun h => kf (fun q => h ((nI_eq h1 h2).mpr q)))
theorem o_icmp_ne {x y : Nat} (hx : p.tables.exec = Jvm.exec) (hb : c.code = cc) {off : Int} {tgt : Nat} (hdg : decode cc pc = .ok (.if_icmp .ne off, 3)) (ht : (pc : Int) + off = (tgt : Int)) (h1 : x < 2 ^ 31) (h2 : y < 2 ^ 31)
    (kt : x ≠ y → W p l e R s m args below meth c H locs cells slots Q (F0 m tgt ls rest)) (kf : x = y → W p l e R s m args below meth c H locs cells slots Q (F0 m (pc + 3) ls rest)) : W p l e R s m args below meth c H locs cells slots Q (F0 m pc ls (.int (nI y) :: .int (nI x) :: rest)) :=
  lv_icmp_ne hx hb hdg ht (fun h => kt (fun q => h ((nI_eq h1 h2).mpr q))) (fun h => kf ((nI_eq h1 h2).mp h))
/-- of a whole number that is not below 0 against 0 -/
theorem o_if_lt {x : Nat} (hx : p.tables.exec = Jvm.exec) (hb : c.code = cc) {off : Int} {tgt : Nat} (hdg : decode cc pc = .ok (.ifCond .lt off, 3)) (ht : (pc : Int) + off = (tgt : Int)) (h1 : x < 2 ^ 31)
    (kf : W p l e R s m args below meth c H locs cells slots Q (F0 m (pc + 3) ls rest)) : W p l e R s m args below meth c H locs cells slots Q (F0 m pc ls (.int (nI x) :: rest)) :=
  lv_if_lt hx hb hdg ht (fun h => absurd h (nI_pos h1)) (fun _ => kf)
theorem o_if_ge {x : Nat} (hx : p.tables.exec = Jvm.exec) (hb : c.code = cc) {off : Int} {tgt : Nat} (hdg : decode cc pc = .ok (.ifCond .ge off, 3)) (ht : (pc : Int) + off = (tgt : Int)) (h1 : x < 2 ^ 31)
    (kt : W p l e R s m args below meth c H locs cells slots Q (F0 m tgt ls rest)) : W p l e R s m args below meth c H locs cells slots Q (F0 m pc ls (.int (nI x) :: rest)) :=
  lv_if_ge hx hb hdg ht (fun _ => kt) (fun h => absurd (nI_pos' h1) h)
theorem o_if_gt {x : Nat} (hx : p.tables.exec = Jvm.exec) (hb : c.code = cc) {off : Int} {tgt : Nat} (hdg : decode cc pc = .ok (.ifCond .gt off, 3)) (ht : (pc : Int) + off = (tgt : Int)) (h1 : x < 2 ^ 31)
    (kt : 0 < x → W p l e R s m args below meth c H locs cells slots Q (F0 m tgt ls rest)) (kf : x = 0 → W p l e R s m args below meth c H locs cells slots Q (F0 m (pc + 3) ls rest)) : W p l e R s m args below meth c H locs cells slots Q (F0 m pc ls (.int (nI x) :: rest)) :=
  lv_if_gt hx hb hdg ht (fun h => kt (by rcases Nat.eq_zero_or_pos x with q | q; (subst q; exact absurd h (by decide)); exact q)) (fun h => kf (by rcases Nat.eq_zero_or_pos x with q | q; exact q; exact absurd (show (0 : Int32) < nI x by rw [← nI_0]; exact nI_lt q h1) h))
theorem o_if_le {x : Nat} (hx : p.tables.exec = Jvm.exec) (hb : c.code = cc) {off : Int} {tgt : Nat} (hdg : decode cc pc = .ok (.ifCond .le off, 3)) (ht : (pc : Int) + off = (tgt : Int)) (h1 : x < 2 ^ 31)
    (kt : x = 0 → W p l e R s m args below meth c H locs cells slots Q (F0 m tgt ls rest)) (kf : 0 < x → W p l e R s m args below meth c H locs cells slots Q (F0 m (pc + 3) ls rest)) : W p l e R s m args below meth c H locs cells slots Q (F0 m pc ls (.int (nI x) :: rest)) :=
  lv_if_le hx hb hdg ht (fun h => kt (by rcases Nat.eq_zero_or_pos x with q | q; exact q; exact absurd h (nI_nle q h1))) (fun h => kf (by rcases Nat.eq_zero_or_pos x with q | q; (subst q; exact absurd (show nI 0 ≤ 0 by decide) h); exact q))
theorem o_if_eq {x : Nat} (hx : p.tables.exec = Jvm.exec) (hb : c.code = cc) {off : Int} {tgt : Nat} (hdg : decode cc pc = .ok (.ifCond .eq off, 3)) (ht : (pc : Int) + off = (tgt : Int)) (h1 : x < 2 ^ 31)
    (kt : x = 0 → W p l e R s m args below meth c H locs cells slots Q (F0 m tgt ls rest)) (kf : 0 < x → W p l e R s m args below meth c H locs cells slots Q (F0 m (pc + 3) ls rest)) : W p l e R s m args below meth c H locs cells slots Q (F0 m pc ls (.int (nI x) :: rest)) :=
  lv_if_eq hx hb hdg ht (fun h => kt (by rcases Nat.eq_zero_or_pos x with q | q; exact q; exact absurd h (nI_ne0 q h1))) (fun h => kf (by rcases Nat.eq_zero_or_pos x with q | q; (subst q; exact absurd nI_0 h); exact q))
theorem o_if_ne {x : Nat} (hx : p.tables.exec = Jvm.exec) (hb : c.code = cc) {off : Int} {tgt : Nat} (hdg : decode cc pc = .ok (.ifCond .ne off, 3)) (ht : (pc : Int) + off = (tgt : Int)) (h1 : x < 2 ^ 31)
    (kt : 0 < x → W p l e R s m args below meth c H locs cells slots Q (F0 m tgt ls rest)) (kf : x = 0 → W p l e R s m args below meth c H locs cells slots Q (F0 m (pc + 3) ls rest)) : W p l e R s m args below meth c H locs cells slots Q (F0 m pc ls (.int (nI x) :: rest)) :=
  lv_if_ne hx hb hdg ht (fun h => kt (by rcases Nat.eq_zero_or_pos x with q | q; (subst q; exact absurd nI_0 h); exact q)) (fun h => kf (by rcases Nat.eq_zero_or_pos x with q | q; exact q; exact absurd h (nI_ne0 q h1)))
/-- of a truth value -/
theorem o_ifb_eq {P : Prop} [Decidable P] (hx : p.tables.exec = Jvm.exec) (hb : c.code = cc) {off : Int} {tgt : Nat} (hdg : decode cc pc = .ok (.ifCond .eq off, 3)) (ht : (pc : Int) + off = (tgt : Int))
    (kt : ¬ P → W p l e R s m args below meth c H locs cells slots Q (F0 m tgt ls rest)) (kf : P → W p l e R s m args below meth c H locs cells slots Q (F0 m (pc + 3) ls rest)) : W p l e R s m args below meth c H locs cells slots Q (F0 m pc ls (.int (bI P) :: rest)) :=
  lv_if_eq hx hb hdg ht (fun h => kt (fun q => by rw [bI_t q] at h; exact absurd h (by decide))) (fun h => kf (by by_cases q : P; exact q; exact absurd (bI_f q) h))
theorem o_ifb_ne {P : Prop} [Decidable P] (hx : p.tables.exec = Jvm.exec) (hb : c.code = cc) {off : Int} {tgt : Nat} (hdg : decode cc pc = .ok (.ifCond .ne off, 3)) (ht : (pc : Int) + off = (tgt : Int))
    (kt : P → W p l e R s m args below meth c H locs cells slots Q (F0 m tgt ls rest)) (kf : ¬ P → W p l e R s m args below meth c H locs cells slots Q (F0 m (pc + 3) ls rest)) : W p l e R s m args below meth c H locs cells slots Q (F0 m pc ls (.int (bI P) :: rest)) :=
  lv_if_ne hx hb hdg ht (fun h => kt (by by_cases q : P; exact q; exact absurd (bI_f q) h)) (fun h => kf (fun q => by rw [bI_t q] at h; exact absurd h (by decide)))
end OK1
section OK2
variable {p : Program} {l : Launch} {e : Env} {R : Room} {s : State} {m : MethodId} {args : Array Value} {below : List Frame} {meth : Method} {c : Code} {H H0 : Heap} {locs : List Loc} {cells slots : Nat} {Q : State → Prop}
variable {pc : Nat} {ls : Array Slot} {rest : List Value} {cc : ByteArray} {D : va_G} {cl : List vw_C} {tys : List (ClassId × FieldType)} {ws : va_W} {A : Nat → Prop} {a : Nat} {cA : ClassId} {n : Nat}
/-- array rows: the place is the whole number k -/
theorem o_iald (hx : p.tables.exec = Jvm.exec) (hb : c.code = cc) (hK : va_K D cl tys s) (hP : va_P D cl ws H) (q0 t0 : Nat) {f : Nat → Int32} (ha : ws[q0]? = some (a, .inl (cA, n, .inl f))) (ht : tys[t0]? = some (cA, .int)) (k : Nat) (hk : k < n) (hn : n < 2 ^ 31) (hdg : decode cc pc = .ok (.iaload, 1))
    (kk : W p l e R s m args below meth c H locs cells slots Q (F0 m (pc + 1) ls (.int (f k) :: rest))) : W p l e R s m args below meth c H locs cells slots Q (F0 m pc ls (.int (nI k) :: .ref a :: rest)) :=
  va_iald hx hb hK hP q0 t0 ha ht (vp_in_nI hk hn) hdg (by rw [nI_clamp (Nat.lt_trans hk hn)]; exact kk)
theorem o_zald (hx : p.tables.exec = Jvm.exec) (hb : c.code = cc) (hK : va_K D cl tys s) (hP : va_P D cl ws H) (q0 t0 : Nat) {f : Nat → Int32} (ha : ws[q0]? = some (a, .inl (cA, n, .inl f))) (ht : tys[t0]? = some (cA, .boolean)) (k : Nat) (hk : k < n) (hn : n < 2 ^ 31) (hdg : decode cc pc = .ok (.baload, 1))
    (kk : W p l e R s m args below meth c H locs cells slots Q (F0 m (pc + 1) ls (.int (f k) :: rest))) : W p l e R s m args below meth c H locs cells slots Q (F0 m pc ls (.int (nI k) :: .ref a :: rest)) :=
  va_zald hx hb hK hP q0 t0 ha ht (vp_in_nI hk hn) hdg (by rw [nI_clamp (Nat.lt_trans hk hn)]; exact kk)
theorem o_fald (hx : p.tables.exec = Jvm.exec) (hb : c.code = cc) (hK : va_K D cl tys s) (hP : va_P D cl ws H) (q0 t0 : Nat) {f : Nat → UInt32} (ha : ws[q0]? = some (a, .inl (cA, n, .inr (.inr (.inl f))))) (ht : tys[t0]? = some (cA, .float)) (k : Nat) (hk : k < n) (hn : n < 2 ^ 31) (hdg : decode cc pc = .ok (.faload, 1))
    (kk : W p l e R s m args below meth c H locs cells slots Q (F0 m (pc + 1) ls (.float (f k) :: rest))) : W p l e R s m args below meth c H locs cells slots Q (F0 m pc ls (.int (nI k) :: .ref a :: rest)) :=
  va_fald hx hb hK hP q0 t0 ha ht (vp_in_nI hk hn) hdg (by rw [nI_clamp (Nat.lt_trans hk hn)]; exact kk)
theorem o_dald (hx : p.tables.exec = Jvm.exec) (hb : c.code = cc) (hK : va_K D cl tys s) (hP : va_P D cl ws H) (q0 t0 : Nat) {f : Nat → UInt64} (ha : ws[q0]? = some (a, .inl (cA, n, .inr (.inr (.inr (.inl f)))))) (ht : tys[t0]? = some (cA, .double)) (k : Nat) (hk : k < n) (hn : n < 2 ^ 31) (hdg : decode cc pc = .ok (.daload, 1))
    (kk : W p l e R s m args below meth c H locs cells slots Q (F0 m (pc + 1) ls (.double (f k) :: rest))) : W p l e R s m args below meth c H locs cells slots Q (F0 m pc ls (.int (nI k) :: .ref a :: rest)) :=
  va_dald hx hb hK hP q0 t0 ha ht (vp_in_nI hk hn) hdg (by rw [nI_clamp (Nat.lt_trans hk hn)]; exact kk)
end OK2
end
section
/-! the state of a door, in whole numbers: persons, orders, storms, tolerance (bits, float), ranks, owners, words, links, fates, factors, numbers, strengths -/
abbrev MT : Type := Nat × Nat × Nat × Int32 × UInt32 × (Nat → Nat) × (Nat → Nat) × (Nat → Nat) × (Nat → Option Nat) × (Nat → Nat) × (Nat → UInt32) × (Nat → UInt32) × (Nat → UInt32)
abbrev mP (M : MT) : Nat := M.1
abbrev mN (M : MT) : Nat := M.2.1
abbrev mS (M : MT) : Nat := M.2.2.1
abbrev mB (M : MT) : Int32 := M.2.2.2.1
abbrev mT (M : MT) : UInt32 := M.2.2.2.2.1
abbrev mR (M : MT) : Nat → Nat := M.2.2.2.2.2.1
abbrev mO (M : MT) : Nat → Nat := M.2.2.2.2.2.2.1
abbrev mW (M : MT) : Nat → Nat := M.2.2.2.2.2.2.2.1
abbrev mL (M : MT) : Nat → Option Nat := M.2.2.2.2.2.2.2.2.1
abbrev mF (M : MT) : Nat → Nat := M.2.2.2.2.2.2.2.2.2.1
abbrev mA (M : MT) : Nat → UInt32 := M.2.2.2.2.2.2.2.2.2.2.1
abbrev mU (M : MT) : Nat → UInt32 := M.2.2.2.2.2.2.2.2.2.2.2.1
abbrev mH (M : MT) : Nat → UInt32 := M.2.2.2.2.2.2.2.2.2.2.2.2
/-- a link as the door keeps it: -5 for none -/
def lkI (x : Option Nat) : Int32 := match x with
  | none => -5
  | some w => nI w
abbrev oDo (q : Nat → Nat) (M : MT) : va_E := .inr (0, [.int (nI (mP M)), .ref (q 1), .int (mB M), .float (mT M), .int (nI (mS M)), .int (nI (mN M)), .ref (q 6), .ref (q 7), .ref (q 8), .ref (q 9), .ref (q 10), .ref (q 11), .ref (q 12)])
abbrev wDo (cy : Nat → ClassId) (q : Nat → Nat) (M : MT) : va_W := [(q 0, oDo q M), (q 1, eI cy 6 (fun k => nI (mR M k))), (q 6, eI cy 40 (fun k => nI (mO M k))), (q 7, eI cy 40 (fun k => nI (mW M k))), (q 8, eI cy 40 (fun k => lkI (mL M k))), (q 9, eF cy 40 (mA M)), (q 10, eF cy 40 (mU M)), (q 11, eF cy 40 (mH M)), (q 12, eI cy 40 (fun k => nI (mF M k)))]
/-- the bounds that every state of a door keeps -/
def WB (M : MT) : Prop := mP M ≤ 6 ∧ mN M ≤ 40 ∧ (∀ k, mR M k ≤ 5) ∧ (∀ k, mO M k < 6) ∧ (∀ k, mW M k < 16) ∧ (∀ k w, mL M k = some w → w < 16) ∧ (∀ k, mF M k < 4)
/-- how many of the n numbers from f on have p -/
def cR (p : Nat → Bool) (f : Nat) : Nat → Nat
  | 0 => 0
  | j + 1 => cR p f j + (if p (f + j) then 1 else 0)
theorem cR_le (p : Nat → Bool) (f : Nat) : ∀ j, cR p f j ≤ j
  | 0 => Nat.le_refl 0
  | j + 1 => by
    have := cR_le p f j
    show cR p f j + _ ≤ j + 1
    split <;> omega
theorem cR_t {p : Nat → Bool} {f j : Nat} (h : p (f + j) = true) : cR p f (j + 1) = cR p f j + 1 := by show cR p f j + (if p (f + j) then 1 else 0) = _; rw [if_pos h]
theorem cR_f {p : Nat → Bool} {f j : Nat} (h : ¬ p (f + j) = true) : cR p f (j + 1) = cR p f j := by show cR p f j + (if p (f + j) then 1 else 0) = _; rw [if_neg h]; rfl
theorem cR_congr {p r : Nat → Bool} {f : Nat} : ∀ {j : Nat}, (∀ i, i < j → p (f + i) = r (f + i)) → cR p f j = cR r f j
  | 0, _ => rfl
  | j + 1, h => by
    show cR p f j + (if p (f + j) then 1 else 0) = cR r f j + (if r (f + j) then 1 else 0)
    rw [cR_congr (fun i hi => h i (Nat.lt_succ_of_lt hi)), h j (Nat.lt_succ_self j)]
def hfB (M : MT) (w k : Nat) : Bool := decide (mF M k = 1 ∧ mW M k = w)
theorem hfB_iff {M : MT} {w k : Nat} : hfB M w k = true ↔ mF M k = 1 ∧ mW M k = w := by unfold hfB; simp
/-- the number at a place, counted from the top down, of those below n that have p; -5 if there is none -/
def hAt (p : Nat → Bool) : Nat → Nat → Int32
  | 0, _ => -5
  | n + 1, pl => if p n then (if pl = 0 then nI n else hAt p n (pl - 1)) else hAt p n pl
/-- the words of a person's hanging orders, a bit each -/
def wBt (M : MT) (x : Nat) : Nat → Int32
  | 0 => 0
  | k + 1 => if mF M k = 1 ∧ mO M k = x then wBt M x k ||| (nI 1 <<< (nI (mW M k) &&& 31)) else wBt M x k
theorem cZ_t {p : Nat → Bool} {j : Nat} (h : p j = true) : cR p 0 (j + 1) = cR p 0 j + 1 := cR_t (by rw [Nat.zero_add]; exact h)
theorem cZ_f {p : Nat → Bool} {j : Nat} (h : ¬ p j = true) : cR p 0 (j + 1) = cR p 0 j := cR_f (by rw [Nat.zero_add]; exact h)
/-- fate f; nailed by x; nailed by x and hanging -/
def ftB (M : MT) (f k : Nat) : Bool := decide (mF M k = f)
def owB (M : MT) (x k : Nat) : Bool := decide (mO M k = x)
def hoB (M : MT) (x k : Nat) : Bool := decide (mF M k = 1 ∧ mO M k = x)
theorem ftB_iff {M : MT} {f k : Nat} : ftB M f k = true ↔ mF M k = f := by unfold ftB; simp
theorem owB_iff {M : MT} {x k : Nat} : owB M x k = true ↔ mO M k = x := by unfold owB; simp
theorem hoB_iff {M : MT} {x k : Nat} : hoB M x k = true ↔ mF M k = 1 ∧ mO M k = x := by unfold hoB; simp
theorem hAt_0 {p : Nat → Bool} {j : Nat} (h : p j = true) : hAt p (j + 1) 0 = nI j := by
  show (if p j then (if 0 = 0 then nI j else hAt p j (0 - 1)) else hAt p j 0) = nI j
  rw [if_pos h, if_pos rfl]
theorem hAt_s {p : Nat → Bool} {j r : Nat} (h : p j = true) (hr : 0 < r) : hAt p (j + 1) r = hAt p j (r - 1) := by
  show (if p j then (if r = 0 then nI j else hAt p j (r - 1)) else hAt p j r) = _
  rw [if_pos h, if_neg (by omega)]
theorem hAt_n {p : Nat → Bool} {j r : Nat} (h : ¬ p j = true) : hAt p (j + 1) r = hAt p j r := by
  show (if p j then (if r = 0 then nI j else hAt p j (r - 1)) else hAt p j r) = _
  rw [if_neg h]
theorem wBt_t {M : MT} {x j : Nat} (h : mF M j = 1 ∧ mO M j = x) : wBt M x (j + 1) = wBt M x j ||| (nI 1 <<< (nI (mW M j) &&& 31)) := if_pos h
theorem wBt_f {M : MT} {x j : Nat} (h : ¬ (mF M j = 1 ∧ mO M j = x)) : wBt M x (j + 1) = wBt M x j := if_neg h
/-- a number that goes down: one less than i, -1 at the end -/
def dI (i : Nat) : Int32 := nI i - 1
theorem dI_succ (j : Nat) : dI (j + 1) = nI j := nI_pred j
theorem dI_dec (j : Nat) : nI j + Int32.ofInt (-1) = dI j := by
  show nI j + (-1) = nI j - 1
  rw [Int32.sub_eq_add_neg]
theorem dI_0 : dI 0 = -1 := by decide +kernel
section OK3
variable {p : Program} {l : Launch} {e : Env} {R : Room} {s : State} {m : MethodId} {args : Array Value} {below : List Frame} {meth : Method} {c : Code} {H : Heap} {locs : List Loc} {cells slots : Nat} {Q : State → Prop}
variable {pc : Nat} {ls : Array Slot} {rest : List Value} {cc : ByteArray}
theorem o_ifd_lt {i : Nat} (hx : p.tables.exec = Jvm.exec) (hb : c.code = cc) {off : Int} {tgt : Nat} (hdg : decode cc pc = .ok (.ifCond .lt off, 3)) (ht : (pc : Int) + off = (tgt : Int)) (h1 : i < 2 ^ 31)
    (kt : i = 0 → W p l e R s m args below meth c H locs cells slots Q (F0 m tgt ls rest)) (kf : (∃ j, i = j + 1) → W p l e R s m args below meth c H locs cells slots Q (F0 m (pc + 3) ls rest)) : W p l e R s m args below meth c H locs cells slots Q (F0 m pc ls (.int (dI i) :: rest)) := by
  cases i with
  | zero => exact lv_if_lt hx hb hdg ht (fun _ => kt rfl) (fun h => absurd (by rw [dI_0]; decide) h)
  | succ j => exact lv_if_lt hx hb hdg ht (fun h => absurd (by rw [dI_succ] at h; exact h) (nI_pos (n := j) (by omega))) (fun _ => kf ⟨j, rfl⟩)
end OK3
end
section
set_option maxRecDepth 100000 in
theorem iX1_isPerson_X1 : ∀ w ∈ u_ws RX1 TX1 13, w ∈ wsX1_isPerson := by decide +kernel
set_option maxHeartbeats 4000000 in
set_option maxRecDepth 100000 in
theorem kX1_isPerson (l : Launch) (G : va_G) (cy : Nat → ClassId) {H0 : Heap} {q : Nat → Nat} {M : MT} (hW : WB M) (hP : va_P G vwCl (wDo cy q M) H0) (k : Nat) (hk : k < 2 ^ 31) : MetI l yX1_isPerson wsX1_isPerson 0 0 [.ref (q 0), .int (nI k)] H0 G cy (bI (k < mP M)) := by
  refine Met.ofW (cc := cX1_isPerson) (maxL := 2) (ret := (some .boolean)) (by decide) rfl ?_
  intro p e s m args below meth c s₁ B hml hv
  obtain ⟨rfl, hH, hK⟩ := hv
  subst hH
  have hx := B.exec
  have hb := B.bytes
  have hr := B.returns
  have hts := atoms_spec (ws := wsX1_isPerson) B.pre
  have hown : s.vm.findClass RX1 = some m.cls := findClass_of_methodNamed B.named
  have hlocks := B.notSynchronized
  have hl := lv_entry ([.ref (q 0), .int (nI k)]) (n := 2) (Nat.le_of_ble_eq_true rfl)
  rw [lg_entry_eq]
  generalize (lg_sl ([.ref (q 0), .int (nI k)]) ++ List.replicate (2 - (lg_sl ([.ref (q 0), .int (nI k)])).length) Slot.unset).toArray = ls at hl ⊢
  have hl : lv_has ls 2 [(0, .ref (q 0)), (1, .int (nI k))] := hl
  obtain ⟨bP, bN, bR, bO, bW, bL, bF⟩ := id hW
  refine lv_iload_n hx hb dX1_isPerson_0 rfl (lv_at hl 1 rfl) ?_
  refine o_if_lt (tgt := 16) hx hb dX1_isPerson_1 (by decide) (by omega) ?_
  refine lv_iload_n hx hb dX1_isPerson_4 rfl (lv_at hl 1 rfl) ?_
  refine lv_aload_n hx hb dX1_isPerson_5 rfl (lv_at hl 0 rfl) ?_
  refine va_get (D := G) (ci := 0) (v := .int (nI (mP M))) (C := RX1) (T := TX1) (N := 13) hx hb hts iX1_isPerson_X1 hown hK hP 0 rfl rfl 0 (by decide) (hts (.fieldLink RX1 37 "NailedOrders$Door" "persons" "I") (by decide +kernel)) (fun _ h9 => h9) rfl dX1_isPerson_6 ?_
  refine o_icmp_ge (tgt := 16) hx hb dX1_isPerson_9 (by decide) (by omega) (by omega) (fun c9 => ?_) (fun c9 => ?_)
  · refine lv_iconst (v := nI 0) hx hb dX1_isPerson_16 (by decide +kernel) ?_
    exact o_endZ hx hb hr hlocks dX1_isPerson_17 (by decide) ((by rw [bI_f (by omega)]; decide))
  · refine lv_iconst (v := nI 1) hx hb dX1_isPerson_12 (by decide +kernel) ?_
    refine lv_goto (tgt := 17) hx hb dX1_isPerson_13 (by decide) ?_
    exact o_endZ hx hb hr hlocks dX1_isPerson_17 (by decide) ((by rw [bI_t (by omega)]; decide))

set_option maxRecDepth 100000 in
theorem iX1_isOrder_X1 : ∀ w ∈ u_ws RX1 TX1 13, w ∈ wsX1_isOrder := by decide +kernel
set_option maxHeartbeats 4000000 in
set_option maxRecDepth 100000 in
theorem kX1_isOrder (l : Launch) (G : va_G) (cy : Nat → ClassId) {H0 : Heap} {q : Nat → Nat} {M : MT} (hW : WB M) (hP : va_P G vwCl (wDo cy q M) H0) (k : Nat) (hk : k < 2 ^ 31) : MetI l yX1_isOrder wsX1_isOrder 0 0 [.ref (q 0), .int (nI k)] H0 G cy (bI (k < mN M)) := by
  refine Met.ofW (cc := cX1_isOrder) (maxL := 2) (ret := (some .boolean)) (by decide) rfl ?_
  intro p e s m args below meth c s₁ B hml hv
  obtain ⟨rfl, hH, hK⟩ := hv
  subst hH
  have hx := B.exec
  have hb := B.bytes
  have hr := B.returns
  have hts := atoms_spec (ws := wsX1_isOrder) B.pre
  have hown : s.vm.findClass RX1 = some m.cls := findClass_of_methodNamed B.named
  have hlocks := B.notSynchronized
  have hl := lv_entry ([.ref (q 0), .int (nI k)]) (n := 2) (Nat.le_of_ble_eq_true rfl)
  rw [lg_entry_eq]
  generalize (lg_sl ([.ref (q 0), .int (nI k)]) ++ List.replicate (2 - (lg_sl ([.ref (q 0), .int (nI k)])).length) Slot.unset).toArray = ls at hl ⊢
  have hl : lv_has ls 2 [(0, .ref (q 0)), (1, .int (nI k))] := hl
  obtain ⟨bP, bN, bR, bO, bW, bL, bF⟩ := id hW
  refine lv_iload_n hx hb dX1_isOrder_0 rfl (lv_at hl 1 rfl) ?_
  refine o_if_lt (tgt := 16) hx hb dX1_isOrder_1 (by decide) (by omega) ?_
  refine lv_iload_n hx hb dX1_isOrder_4 rfl (lv_at hl 1 rfl) ?_
  refine lv_aload_n hx hb dX1_isOrder_5 rfl (lv_at hl 0 rfl) ?_
  refine va_get (D := G) (ci := 0) (v := .int (nI (mN M))) (C := RX1) (T := TX1) (N := 13) hx hb hts iX1_isOrder_X1 hown hK hP 0 rfl rfl 5 (by decide) (hts (.fieldLink RX1 51 "NailedOrders$Door" "orders" "I") (by decide +kernel)) (fun _ h9 => h9) rfl dX1_isOrder_6 ?_
  refine o_icmp_ge (tgt := 16) hx hb dX1_isOrder_9 (by decide) (by omega) (by omega) (fun c9 => ?_) (fun c9 => ?_)
  · refine lv_iconst (v := nI 0) hx hb dX1_isOrder_16 (by decide +kernel) ?_
    exact o_endZ hx hb hr hlocks dX1_isOrder_17 (by decide) ((by rw [bI_f (by omega)]; decide))
  · refine lv_iconst (v := nI 1) hx hb dX1_isOrder_12 (by decide +kernel) ?_
    refine lv_goto (tgt := 17) hx hb dX1_isOrder_13 (by decide) ?_
    exact o_endZ hx hb hr hlocks dX1_isOrder_17 (by decide) ((by rw [bI_t (by omega)]; decide))

set_option maxRecDepth 100000 in
theorem iX1_hangs_X1 : ∀ w ∈ u_ws RX1 TX1 13, w ∈ wsX1_hangs := by decide +kernel
set_option maxHeartbeats 4000000 in
set_option maxRecDepth 100000 in
theorem kX1_hangs (l : Launch) (G : va_G) (cy : Nat → ClassId) {H0 : Heap} {q : Nat → Nat} {M : MT} (hW : WB M) (hP : va_P G vwCl (wDo cy q M) H0) (k : Nat) (hk : k < 40) : MetI l yX1_hangs wsX1_hangs 0 0 [.ref (q 0), .int (nI k)] H0 G cy (bI (mF M k = 1)) := by
  refine Met.ofW (cc := cX1_hangs) (maxL := 2) (ret := (some .boolean)) (by decide) rfl ?_
  intro p e s m args below meth c s₁ B hml hv
  obtain ⟨rfl, hH, hK⟩ := hv
  subst hH
  have hx := B.exec
  have hb := B.bytes
  have hr := B.returns
  have hts := atoms_spec (ws := wsX1_hangs) B.pre
  have hown : s.vm.findClass RX1 = some m.cls := findClass_of_methodNamed B.named
  have hlocks := B.notSynchronized
  have hl := lv_entry ([.ref (q 0), .int (nI k)]) (n := 2) (Nat.le_of_ble_eq_true rfl)
  rw [lg_entry_eq]
  generalize (lg_sl ([.ref (q 0), .int (nI k)]) ++ List.replicate (2 - (lg_sl ([.ref (q 0), .int (nI k)])).length) Slot.unset).toArray = ls at hl ⊢
  have hl : lv_has ls 2 [(0, .ref (q 0)), (1, .int (nI k))] := hl
  obtain ⟨bP, bN, bR, bO, bW, bL, bF⟩ := id hW
  have b1 := bF k
  refine lv_aload_n hx hb dX1_hangs_0 rfl (lv_at hl 0 rfl) ?_
  refine va_get (D := G) (ci := 0) (v := .ref (q 12)) (C := RX1) (T := TX1) (N := 13) hx hb hts iX1_hangs_X1 hown hK hP 0 rfl rfl 12 (by decide) (hts (.fieldLink RX1 34 "NailedOrders$Door" "fates" "[I") (by decide +kernel)) (fun _ h9 => h9) rfl dX1_hangs_1 ?_
  refine lv_iload_n hx hb dX1_hangs_4 rfl (lv_at hl 1 rfl) ?_
  refine o_iald hx hb hK hP 8 0 rfl rfl k (by omega) (by decide) dX1_hangs_5 ?_
  refine lv_iconst (v := nI 1) hx hb dX1_hangs_6 (by decide +kernel) ?_
  refine o_icmp_ne (tgt := 14) hx hb dX1_hangs_7 (by decide) (by omega) (by omega) (fun c7 => ?_) (fun c7 => ?_)
  · refine lv_iconst (v := nI 0) hx hb dX1_hangs_14 (by decide +kernel) ?_
    exact o_endZ hx hb hr hlocks dX1_hangs_15 (by decide) ((by rw [bI_f (by omega)]; decide))
  · refine lv_iconst (v := nI 1) hx hb dX1_hangs_10 (by decide +kernel) ?_
    refine lv_goto (tgt := 15) hx hb dX1_hangs_11 (by decide) ?_
    exact o_endZ hx hb hr hlocks dX1_hangs_15 (by decide) ((by rw [bI_t (by omega)]; decide))

set_option maxRecDepth 100000 in
theorem iX1_hangsFor_X1 : ∀ w ∈ u_ws RX1 TX1 13, w ∈ wsX1_hangsFor := by decide +kernel
set_option maxHeartbeats 4000000 in
set_option maxRecDepth 100000 in
theorem kX1_hangsFor (l : Launch) (G : va_G) (cy : Nat → ClassId) {H0 : Heap} {q : Nat → Nat} {M : MT} (hW : WB M) (hP : va_P G vwCl (wDo cy q M) H0) (k w : Nat) (hk : k < 40) (hw : w < 16) : MetI l yX1_hangsFor wsX1_hangsFor 1 21 [.ref (q 0), .int (nI k), .int (nI w)] H0 G cy (bI (mF M k = 1 ∧ mW M k = w)) := by
  refine Met.ofW (cc := cX1_hangsFor) (maxL := 3) (ret := (some .boolean)) (by decide) rfl ?_
  intro p e s m args below meth c s₁ B hml hv
  obtain ⟨rfl, hH, hK⟩ := hv
  subst hH
  have hx := B.exec
  have hb := B.bytes
  have hr := B.returns
  have hts := atoms_spec (ws := wsX1_hangsFor) B.pre
  have hown : s.vm.findClass RX1 = some m.cls := findClass_of_methodNamed B.named
  have hlocks := B.notSynchronized
  have hl := lv_entry ([.ref (q 0), .int (nI k), .int (nI w)]) (n := 3) (Nat.le_of_ble_eq_true rfl)
  rw [lg_entry_eq]
  generalize (lg_sl ([.ref (q 0), .int (nI k), .int (nI w)]) ++ List.replicate (3 - (lg_sl ([.ref (q 0), .int (nI k), .int (nI w)])).length) Slot.unset).toArray = ls at hl ⊢
  have hl : lv_has ls 3 [(0, .ref (q 0)), (1, .int (nI k)), (2, .int (nI w))] := hl
  obtain ⟨bP, bN, bR, bO, bW, bL, bF⟩ := id hW
  have b1 := bW k
  refine lv_aload_n hx hb dX1_hangsFor_0 rfl (lv_at hl 0 rfl) ?_
  refine lv_iload_n hx hb dX1_hangsFor_1 rfl (lv_at hl 1 rfl) ?_
  refine o_VI (As := [.int (nI k)]) (rest := []) ⟨hx, hb, hml, hown, hts⟩ (kX1_hangs l G cy hW hP k hk) (cwV 1 hts gX1_hangsFor_X1_hangs rfl rfl rfl (by decide +kernel) ⟨Nat.le_of_ble_eq_true rfl, Nat.le_of_ble_eq_true rfl⟩) hK (va_recv hK hP (ci := 0) (q0 := 0) rfl rfl) rfl hl.1 rfl (Nat.le_of_ble_eq_true rfl) dX1_hangsFor_2 ⟨Nat.zero_le _, Nat.zero_le _⟩ ?_
  refine o_ifb_eq (tgt := 22) hx hb dX1_hangsFor_5 (by decide) (fun c5 => ?_) (fun c5 => ?_)
  · refine lv_iconst (v := nI 0) hx hb dX1_hangsFor_22 (by decide +kernel) ?_
    exact o_endZ hx hb hr hlocks dX1_hangsFor_23 (by decide) ((by rw [bI_f (by omega)]; decide))
  · refine lv_aload_n hx hb dX1_hangsFor_8 rfl (lv_at hl 0 rfl) ?_
    refine va_get (D := G) (ci := 0) (v := .ref (q 7)) (C := RX1) (T := TX1) (N := 13) hx hb hts iX1_hangsFor_X1 hown hK hP 0 rfl rfl 7 (by decide) (hts (.fieldLink RX1 18 "NailedOrders$Door" "words" "[I") (by decide +kernel)) (fun _ h9 => h9) rfl dX1_hangsFor_9 ?_
    refine lv_iload_n hx hb dX1_hangsFor_12 rfl (lv_at hl 1 rfl) ?_
    refine o_iald hx hb hK hP 3 0 rfl rfl k (by omega) (by decide) dX1_hangsFor_13 ?_
    refine lv_iload_n hx hb dX1_hangsFor_14 rfl (lv_at hl 2 rfl) ?_
    refine o_icmp_ne (tgt := 22) hx hb dX1_hangsFor_15 (by decide) (by omega) (by omega) (fun c15 => ?_) (fun c15 => ?_)
    · refine lv_iconst (v := nI 0) hx hb dX1_hangsFor_22 (by decide +kernel) ?_
      exact o_endZ hx hb hr hlocks dX1_hangsFor_23 (by decide) ((by rw [bI_f (by omega)]; decide))
    · refine lv_iconst (v := nI 1) hx hb dX1_hangsFor_18 (by decide +kernel) ?_
      refine lv_goto (tgt := 23) hx hb dX1_hangsFor_19 (by decide) ?_
      exact o_endZ hx hb hr hlocks dX1_hangsFor_23 (by decide) ((by rw [bI_t (by omega)]; decide))

set_option maxRecDepth 100000 in
theorem iX1_rankOf_X1 : ∀ w ∈ u_ws RX1 TX1 13, w ∈ wsX1_rankOf := by decide +kernel
set_option maxHeartbeats 4000000 in
set_option maxRecDepth 100000 in
theorem kX1_rankOf (l : Launch) (G : va_G) (cy : Nat → ClassId) {H0 : Heap} {q : Nat → Nat} {M : MT} (hW : WB M) (hP : va_P G vwCl (wDo cy q M) H0) (k : Nat) (hk : k < 40) : MetI l yX1_rankOf wsX1_rankOf 0 0 [.ref (q 0), .int (nI k)] H0 G cy (nI (mR M (mO M k))) := by
  refine Met.ofW (cc := cX1_rankOf) (maxL := 2) (ret := (some .int)) (by decide) rfl ?_
  intro p e s m args below meth c s₁ B hml hv
  obtain ⟨rfl, hH, hK⟩ := hv
  subst hH
  have hx := B.exec
  have hb := B.bytes
  have hr := B.returns
  have hts := atoms_spec (ws := wsX1_rankOf) B.pre
  have hown : s.vm.findClass RX1 = some m.cls := findClass_of_methodNamed B.named
  have hlocks := B.notSynchronized
  have hl := lv_entry ([.ref (q 0), .int (nI k)]) (n := 2) (Nat.le_of_ble_eq_true rfl)
  rw [lg_entry_eq]
  generalize (lg_sl ([.ref (q 0), .int (nI k)]) ++ List.replicate (2 - (lg_sl ([.ref (q 0), .int (nI k)])).length) Slot.unset).toArray = ls at hl ⊢
  have hl : lv_has ls 2 [(0, .ref (q 0)), (1, .int (nI k))] := hl
  obtain ⟨bP, bN, bR, bO, bW, bL, bF⟩ := id hW
  have b1 := bO k
  refine lv_aload_n hx hb dX1_rankOf_0 rfl (lv_at hl 0 rfl) ?_
  refine va_get (D := G) (ci := 0) (v := .ref (q 1)) (C := RX1) (T := TX1) (N := 13) hx hb hts iX1_rankOf_X1 hown hK hP 0 rfl rfl 1 (by decide) (hts (.fieldLink RX1 9 "NailedOrders$Door" "ranks" "[I") (by decide +kernel)) (fun _ h9 => h9) rfl dX1_rankOf_1 ?_
  refine lv_aload_n hx hb dX1_rankOf_4 rfl (lv_at hl 0 rfl) ?_
  refine va_get (D := G) (ci := 0) (v := .ref (q 6)) (C := RX1) (T := TX1) (N := 13) hx hb hts iX1_rankOf_X1 hown hK hP 0 rfl rfl 6 (by decide) (hts (.fieldLink RX1 15 "NailedOrders$Door" "owners" "[I") (by decide +kernel)) (fun _ h9 => h9) rfl dX1_rankOf_5 ?_
  refine lv_iload_n hx hb dX1_rankOf_8 rfl (lv_at hl 1 rfl) ?_
  refine o_iald hx hb hK hP 2 0 rfl rfl k (by omega) (by decide) dX1_rankOf_9 ?_
  refine o_iald hx hb hK hP 1 0 rfl rfl (mO M k) (by omega) (by decide) dX1_rankOf_10 ?_
  exact o_endI hx hb hr hlocks dX1_rankOf_11 rfl

set_option maxRecDepth 100000 in
theorem iX1_hundredthsOfStrength_X1 : ∀ w ∈ u_ws RX1 TX1 13, w ∈ wsX1_hundredthsOfStrength := by decide +kernel
set_option maxHeartbeats 4000000 in
set_option maxRecDepth 100000 in
theorem kX1_hundredthsOfStrength (l : Launch) (G : va_G) (cy : Nat → ClassId) {H0 : Heap} {q : Nat → Nat} {M : MT} (hW : WB M) (hP : va_P G vwCl (wDo cy q M) H0) (k : Nat) (hk : k < 40) (hn : vf_n32 (FP.fmul (mH M k) 1120403456)) : MetI l yX1_hundredthsOfStrength wsX1_hundredthsOfStrength 0 0 [.ref (q 0), .int (nI k)] H0 G cy (FP.f2i (FP.fmul (mH M k) 1120403456)) := by
  refine Met.ofW (cc := cX1_hundredthsOfStrength) (maxL := 2) (ret := (some .int)) (by decide) rfl ?_
  intro p e s m args below meth c s₁ B hml hv
  obtain ⟨rfl, hH, hK⟩ := hv
  subst hH
  have hx := B.exec
  have hb := B.bytes
  have hr := B.returns
  have hts := atoms_spec (ws := wsX1_hundredthsOfStrength) B.pre
  have hown : s.vm.findClass RX1 = some m.cls := findClass_of_methodNamed B.named
  have hlocks := B.notSynchronized
  have hl := lv_entry ([.ref (q 0), .int (nI k)]) (n := 2) (Nat.le_of_ble_eq_true rfl)
  rw [lg_entry_eq]
  generalize (lg_sl ([.ref (q 0), .int (nI k)]) ++ List.replicate (2 - (lg_sl ([.ref (q 0), .int (nI k)])).length) Slot.unset).toArray = ls at hl ⊢
  have hl : lv_has ls 2 [(0, .ref (q 0)), (1, .int (nI k))] := hl
  obtain ⟨bP, bN, bR, bO, bW, bL, bF⟩ := id hW
  refine lv_aload_n hx hb dX1_hundredthsOfStrength_0 rfl (lv_at hl 0 rfl) ?_
  refine va_get (D := G) (ci := 0) (v := .ref (q 11)) (C := RX1) (T := TX1) (N := 13) hx hb hts iX1_hundredthsOfStrength_X1 hown hK hP 0 rfl rfl 11 (by decide) (hts (.fieldLink RX1 31 "NailedOrders$Door" "strengths" "[F") (by decide +kernel)) (fun _ h9 => h9) rfl dX1_hundredthsOfStrength_1 ?_
  refine lv_iload_n hx hb dX1_hundredthsOfStrength_4 rfl (lv_at hl 1 rfl) ?_
  refine o_fald hx hb hK hP 7 1 rfl rfl k (by omega) (by decide) dX1_hundredthsOfStrength_5 ?_
  refine lv_ldcf hx hb hown (hts (.constantFloat RX1 68 (1120403456)) (by decide +kernel)) dX1_hundredthsOfStrength_6 ?_
  refine lv_fmul hx hb dX1_hundredthsOfStrength_8 hn ?_
  refine lv_f2i hx hb dX1_hundredthsOfStrength_9 ?_
  exact o_endI hx hb hr hlocks dX1_hundredthsOfStrength_10 rfl

set_option maxRecDepth 100000 in
theorem iX1_hangingBetween_X1 : ∀ w ∈ u_ws RX1 TX1 13, w ∈ wsX1_hangingBetween := by decide +kernel
set_option maxHeartbeats 4000000 in
set_option maxRecDepth 100000 in
theorem kX1_hangingBetween (l : Launch) (G : va_G) (cy : Nat → ClassId) {H0 : Heap} {q : Nat → Nat} {M : MT} (hW : WB M) (hP : va_P G vwCl (wDo cy q M) H0) (f j w : Nat) (hj : f + j ≤ 40) (hw : w < 16) : MetI l yX1_hangingBetween wsX1_hangingBetween 2 43 [.ref (q 0), .int (nI f), .int (nI (f + j)), .int (nI w)] H0 G cy (nI (cR (hfB M w) f j)) := by
  refine Met.ofW (cc := cX1_hangingBetween) (maxL := 6) (ret := (some .int)) (by decide) rfl ?_
  intro p e s m args below meth c s₁ B hml hv
  obtain ⟨rfl, hH, hK⟩ := hv
  subst hH
  have hx := B.exec
  have hb := B.bytes
  have hr := B.returns
  have hts := atoms_spec (ws := wsX1_hangingBetween) B.pre
  have hown : s.vm.findClass RX1 = some m.cls := findClass_of_methodNamed B.named
  have hlocks := B.notSynchronized
  have hl := lv_entry ([.ref (q 0), .int (nI f), .int (nI (f + j)), .int (nI w)]) (n := 6) (Nat.le_of_ble_eq_true rfl)
  rw [lg_entry_eq]
  generalize (lg_sl ([.ref (q 0), .int (nI f), .int (nI (f + j)), .int (nI w)]) ++ List.replicate (6 - (lg_sl ([.ref (q 0), .int (nI f), .int (nI (f + j)), .int (nI w)])).length) Slot.unset).toArray = ls at hl ⊢
  have hl : lv_has ls 6 [(0, .ref (q 0)), (1, .int (nI f)), (2, .int (nI (f + j))), (3, .int (nI w))] := hl
  obtain ⟨bP, bN, bR, bO, bW, bL, bF⟩ := id hW
  refine lv_iconst (v := nI 0) hx hb dX1_hangingBetween_0 (by decide +kernel) ?_
  refine lv_istore (lv' := [(4, .int (nI 0)), (0, .ref (q 0)), (1, .int (nI f)), (2, .int (nI (f + j))), (3, .int (nI w))]) hx hb dX1_hangingBetween_1 hl (by decide) rfl (fun ls hl => ?_)
  refine lv_iload_n hx hb dX1_hangingBetween_3 rfl (lv_at hl 2 rfl) ?_
  refine lv_istore (lv' := [(5, .int (nI f)), (4, .int (nI 0)), (0, .ref (q 0)), (1, .int (nI f)), (2, .int (nI (f + j))), (3, .int (nI w))]) hx hb dX1_hangingBetween_4 hl (by decide) rfl (fun ls hl => ?_)
  refine o_loop (σ := Nat) (fun (i : Nat) => i ≤ j) (fun (i : Nat) => [(4, .int (nI (cR (hfB M w) f i))), (5, .int (nI (f + i))), (0, .ref (q 0)), (1, .int (nI f)), (2, .int (nI (f + j))), (3, .int (nI w))]) (fun (i : Nat) => j - i) 0 (Nat.zero_le _) (lv_sub hl [1, 0, 2, 3, 4, 5] rfl) ?_
  rintro i ls h1 hl ih6
  have hl : lv_has ls 6 [(4, .int (nI (cR (hfB M w) f i))), (5, .int (nI (f + i))), (0, .ref (q 0)), (1, .int (nI f)), (2, .int (nI (f + j))), (3, .int (nI w))] := hl
  refine lv_iload hx hb dX1_hangingBetween_6 (lv_at hl 1 rfl) ?_
  refine lv_iload_n hx hb dX1_hangingBetween_8 rfl (lv_at hl 4 rfl) ?_
  refine o_icmp_ge (tgt := 31) hx hb dX1_hangingBetween_9 (by decide) (by omega) (by omega) (fun c9 => ?_) (fun c9 => ?_)
  · obtain rfl : i = j := by omega
    refine lv_iload hx hb dX1_hangingBetween_31 (lv_at hl 0 rfl) ?_
    exact o_endI hx hb hr hlocks dX1_hangingBetween_33 rfl
  · refine lv_aload_n hx hb dX1_hangingBetween_12 rfl (lv_at hl 2 rfl) ?_
    refine lv_iload hx hb dX1_hangingBetween_13 (lv_at hl 1 rfl) ?_
    refine lv_iload_n hx hb dX1_hangingBetween_15 rfl (lv_at hl 5 rfl) ?_
    refine o_VI (As := [.int (nI (f + i)), .int (nI w)]) (rest := []) ⟨hx, hb, hml, hown, hts⟩ (kX1_hangsFor l G cy hW hP (f + i) w (by omega) hw) (cwV 2 hts gX1_hangingBetween_X1_hangsFor rfl rfl rfl (by decide +kernel) ⟨Nat.le_of_ble_eq_true rfl, Nat.le_of_ble_eq_true rfl⟩) hK (va_recv hK hP (ci := 0) (q0 := 0) rfl rfl) rfl hl.1 rfl (Nat.le_of_ble_eq_true rfl) dX1_hangingBetween_16 ⟨Nat.zero_le _, Nat.zero_le _⟩ ?_
    refine o_ifb_eq (tgt := 25) hx hb dX1_hangingBetween_19 (by decide) (fun c19 => ?_) (fun c19 => ?_)
    · refine lv_iinc (v := nI (f + i + 1)) (lv' := [(5, .int (nI (f + i + 1))), (4, .int (nI (cR (hfB M w) f i))), (0, .ref (q 0)), (1, .int (nI f)), (2, .int (nI (f + j))), (3, .int (nI w))]) hx hb dX1_hangingBetween_25 hl (k := 1) rfl (nI_1 (f + i)) (by decide) rfl (fun ls hl => ?_)
      refine lv_goto (tgt := 6) hx hb dX1_hangingBetween_28 (by decide) ?_
      refine ih6 (i + 1) ls ?_ ?_ ?_
      · omega
      · show lv_has ls 6 [(4, .int (nI (cR (hfB M w) f (i + 1)))), (5, .int (nI (f + (i + 1)))), (0, .ref (q 0)), (1, .int (nI f)), (2, .int (nI (f + j))), (3, .int (nI w))]
        rw [cR_f (p := hfB M w) (f := f) (j := i) (fun z => c19 (hfB_iff.mp z))]
        exact lv_sub hl [1, 0, 2, 3, 4, 5] rfl
      · omega
    · refine lv_iinc (v := nI (cR (hfB M w) f i + 1)) (lv' := [(4, .int (nI (cR (hfB M w) f i + 1))), (5, .int (nI (f + i))), (0, .ref (q 0)), (1, .int (nI f)), (2, .int (nI (f + j))), (3, .int (nI w))]) hx hb dX1_hangingBetween_22 hl (k := 0) rfl (nI_1 (cR (hfB M w) f i)) (by decide) rfl (fun ls hl => ?_)
      refine lv_iinc (v := nI (f + i + 1)) (lv' := [(5, .int (nI (f + i + 1))), (4, .int (nI (cR (hfB M w) f i + 1))), (0, .ref (q 0)), (1, .int (nI f)), (2, .int (nI (f + j))), (3, .int (nI w))]) hx hb dX1_hangingBetween_25 hl (k := 1) rfl (nI_1 (f + i)) (by decide) rfl (fun ls hl => ?_)
      refine lv_goto (tgt := 6) hx hb dX1_hangingBetween_28 (by decide) ?_
      refine ih6 (i + 1) ls ?_ ?_ ?_
      · omega
      · show lv_has ls 6 [(4, .int (nI (cR (hfB M w) f (i + 1)))), (5, .int (nI (f + (i + 1)))), (0, .ref (q 0)), (1, .int (nI f)), (2, .int (nI (f + j))), (3, .int (nI w))]
        rw [cR_t (p := hfB M w) (f := f) (j := i) (hfB_iff.mpr c19)]
        exact lv_sub hl [1, 0, 2, 3, 4, 5] rfl
      · omega
theorem kX1_hB (l : Launch) (G : va_G) (cy : Nat → ClassId) {H0 : Heap} {q : Nat → Nat} {M : MT} (hW : WB M) (hP : va_P G vwCl (wDo cy q M) H0) (f e w : Nat) (hfe : f ≤ e) (he : e ≤ 40) (hw : w < 16) : MetI l yX1_hangingBetween wsX1_hangingBetween 2 43 [.ref (q 0), .int (nI f), .int (nI e), .int (nI w)] H0 G cy (nI (cR (hfB M w) f (e - f))) := by
  obtain ⟨j, rfl⟩ := Nat.exists_eq_add_of_le hfe
  rw [Nat.add_sub_cancel_left]
  exact kX1_hangingBetween l G cy hW hP f j w he hw

set_option maxRecDepth 100000 in
theorem iX1_over_X1 : ∀ w ∈ u_ws RX1 TX1 13, w ∈ wsX1_over := by decide +kernel
set_option maxHeartbeats 4000000 in
set_option maxRecDepth 100000 in
theorem kX1_over (l : Launch) (G : va_G) (cy : Nat → ClassId) {H0 : Heap} {q : Nat → Nat} {M : MT} (hW : WB M) (hP : va_P G vwCl (wDo cy q M) H0) (k : Nat) (hk : k < mN M) : MetI l yX1_over wsX1_over 3 68 [.ref (q 0), .int (nI k)] H0 G cy (nI (cR (hfB M (mW M k)) (k + 1) (mN M - (k + 1)))) := by
  refine Met.ofW (cc := cX1_over) (maxL := 2) (ret := (some .int)) (by decide) rfl ?_
  intro p e s m args below meth c s₁ B hml hv
  obtain ⟨rfl, hH, hK⟩ := hv
  subst hH
  have hx := B.exec
  have hb := B.bytes
  have hr := B.returns
  have hts := atoms_spec (ws := wsX1_over) B.pre
  have hown : s.vm.findClass RX1 = some m.cls := findClass_of_methodNamed B.named
  have hlocks := B.notSynchronized
  have hl := lv_entry ([.ref (q 0), .int (nI k)]) (n := 2) (Nat.le_of_ble_eq_true rfl)
  rw [lg_entry_eq]
  generalize (lg_sl ([.ref (q 0), .int (nI k)]) ++ List.replicate (2 - (lg_sl ([.ref (q 0), .int (nI k)])).length) Slot.unset).toArray = ls at hl ⊢
  have hl : lv_has ls 2 [(0, .ref (q 0)), (1, .int (nI k))] := hl
  obtain ⟨bP, bN, bR, bO, bW, bL, bF⟩ := id hW
  have b1 := bW k
  refine lv_aload_n hx hb dX1_over_0 rfl (lv_at hl 0 rfl) ?_
  refine lv_iload_n hx hb dX1_over_1 rfl (lv_at hl 1 rfl) ?_
  refine lv_iconst (v := nI 1) hx hb dX1_over_2 (by decide +kernel) ?_
  refine lv_iadd hx hb dX1_over_3 ?_
  rw [nI_add]
  refine lv_aload_n hx hb dX1_over_4 rfl (lv_at hl 0 rfl) ?_
  refine va_get (D := G) (ci := 0) (v := .int (nI (mN M))) (C := RX1) (T := TX1) (N := 13) hx hb hts iX1_over_X1 hown hK hP 0 rfl rfl 5 (by decide) (hts (.fieldLink RX1 51 "NailedOrders$Door" "orders" "I") (by decide +kernel)) (fun _ h9 => h9) rfl dX1_over_5 ?_
  refine lv_aload_n hx hb dX1_over_8 rfl (lv_at hl 0 rfl) ?_
  refine va_get (D := G) (ci := 0) (v := .ref (q 7)) (C := RX1) (T := TX1) (N := 13) hx hb hts iX1_over_X1 hown hK hP 0 rfl rfl 7 (by decide) (hts (.fieldLink RX1 18 "NailedOrders$Door" "words" "[I") (by decide +kernel)) (fun _ h9 => h9) rfl dX1_over_9 ?_
  refine lv_iload_n hx hb dX1_over_12 rfl (lv_at hl 1 rfl) ?_
  refine o_iald hx hb hK hP 3 0 rfl rfl k (by omega) (by decide) dX1_over_13 ?_
  refine o_VI (As := [.int (nI (k + 1)), .int (nI (mN M)), .int (nI (mW M k))]) (rest := []) ⟨hx, hb, hml, hown, hts⟩ (kX1_hB l G cy hW hP (k + 1) (mN M) (mW M k) hk bN b1) (cwV 3 hts gX1_over_X1_hangingBetween rfl rfl rfl (by decide +kernel) ⟨Nat.le_of_ble_eq_true rfl, Nat.le_of_ble_eq_true rfl⟩) hK (va_recv hK hP (ci := 0) (q0 := 0) rfl rfl) rfl hl.1 rfl (Nat.le_of_ble_eq_true rfl) dX1_over_14 ⟨Nat.zero_le _, Nat.zero_le _⟩ ?_
  exact o_endI hx hb hr hlocks dX1_over_17 rfl

set_option maxRecDepth 100000 in
theorem iX1_beneath_X1 : ∀ w ∈ u_ws RX1 TX1 13, w ∈ wsX1_beneath := by decide +kernel
set_option maxHeartbeats 4000000 in
set_option maxRecDepth 100000 in
theorem kX1_beneath (l : Launch) (G : va_G) (cy : Nat → ClassId) {H0 : Heap} {q : Nat → Nat} {M : MT} (hW : WB M) (hP : va_P G vwCl (wDo cy q M) H0) (k : Nat) (hk : k < 40) : MetI l yX1_beneath wsX1_beneath 3 68 [.ref (q 0), .int (nI k)] H0 G cy (nI (cR (hfB M (mW M k)) 0 k)) := by
  refine Met.ofW (cc := cX1_beneath) (maxL := 2) (ret := (some .int)) (by decide) rfl ?_
  intro p e s m args below meth c s₁ B hml hv
  obtain ⟨rfl, hH, hK⟩ := hv
  subst hH
  have hx := B.exec
  have hb := B.bytes
  have hr := B.returns
  have hts := atoms_spec (ws := wsX1_beneath) B.pre
  have hown : s.vm.findClass RX1 = some m.cls := findClass_of_methodNamed B.named
  have hlocks := B.notSynchronized
  have hl := lv_entry ([.ref (q 0), .int (nI k)]) (n := 2) (Nat.le_of_ble_eq_true rfl)
  rw [lg_entry_eq]
  generalize (lg_sl ([.ref (q 0), .int (nI k)]) ++ List.replicate (2 - (lg_sl ([.ref (q 0), .int (nI k)])).length) Slot.unset).toArray = ls at hl ⊢
  have hl : lv_has ls 2 [(0, .ref (q 0)), (1, .int (nI k))] := hl
  obtain ⟨bP, bN, bR, bO, bW, bL, bF⟩ := id hW
  have b1 := bW k
  refine lv_aload_n hx hb dX1_beneath_0 rfl (lv_at hl 0 rfl) ?_
  refine lv_iconst (v := nI 0) hx hb dX1_beneath_1 (by decide +kernel) ?_
  refine lv_iload_n hx hb dX1_beneath_2 rfl (lv_at hl 1 rfl) ?_
  refine lv_aload_n hx hb dX1_beneath_3 rfl (lv_at hl 0 rfl) ?_
  refine va_get (D := G) (ci := 0) (v := .ref (q 7)) (C := RX1) (T := TX1) (N := 13) hx hb hts iX1_beneath_X1 hown hK hP 0 rfl rfl 7 (by decide) (hts (.fieldLink RX1 18 "NailedOrders$Door" "words" "[I") (by decide +kernel)) (fun _ h9 => h9) rfl dX1_beneath_4 ?_
  refine lv_iload_n hx hb dX1_beneath_7 rfl (lv_at hl 1 rfl) ?_
  refine o_iald hx hb hK hP 3 0 rfl rfl k (by omega) (by decide) dX1_beneath_8 ?_
  refine o_VI (As := [.int (nI 0), .int (nI k), .int (nI (mW M k))]) (rest := []) ⟨hx, hb, hml, hown, hts⟩ (kX1_hB l G cy hW hP 0 k (mW M k) (Nat.zero_le _) (by omega) b1) (cwV 3 hts gX1_beneath_X1_hangingBetween rfl rfl rfl (by decide +kernel) ⟨Nat.le_of_ble_eq_true rfl, Nat.le_of_ble_eq_true rfl⟩) hK (va_recv hK hP (ci := 0) (q0 := 0) rfl rfl) rfl hl.1 rfl (Nat.le_of_ble_eq_true rfl) dX1_beneath_9 ⟨Nat.zero_le _, Nat.zero_le _⟩ ?_
  exact o_endI hx hb hr hlocks dX1_beneath_12 rfl

set_option maxRecDepth 100000 in
theorem iX1_hangingFor_X1 : ∀ w ∈ u_ws RX1 TX1 13, w ∈ wsX1_hangingFor := by decide +kernel
set_option maxHeartbeats 4000000 in
set_option maxRecDepth 100000 in
theorem kX1_hangingFor (l : Launch) (G : va_G) (cy : Nat → ClassId) {H0 : Heap} {q : Nat → Nat} {M : MT} (hW : WB M) (hP : va_P G vwCl (wDo cy q M) H0) (w : Nat) (hw : w < 16) : MetI l yX1_hangingFor wsX1_hangingFor 3 68 [.ref (q 0), .int (nI w)] H0 G cy (nI (cR (hfB M w) 0 (mN M))) := by
  refine Met.ofW (cc := cX1_hangingFor) (maxL := 2) (ret := (some .int)) (by decide) rfl ?_
  intro p e s m args below meth c s₁ B hml hv
  obtain ⟨rfl, hH, hK⟩ := hv
  subst hH
  have hx := B.exec
  have hb := B.bytes
  have hr := B.returns
  have hts := atoms_spec (ws := wsX1_hangingFor) B.pre
  have hown : s.vm.findClass RX1 = some m.cls := findClass_of_methodNamed B.named
  have hlocks := B.notSynchronized
  have hl := lv_entry ([.ref (q 0), .int (nI w)]) (n := 2) (Nat.le_of_ble_eq_true rfl)
  rw [lg_entry_eq]
  generalize (lg_sl ([.ref (q 0), .int (nI w)]) ++ List.replicate (2 - (lg_sl ([.ref (q 0), .int (nI w)])).length) Slot.unset).toArray = ls at hl ⊢
  have hl : lv_has ls 2 [(0, .ref (q 0)), (1, .int (nI w))] := hl
  obtain ⟨bP, bN, bR, bO, bW, bL, bF⟩ := id hW
  refine lv_aload_n hx hb dX1_hangingFor_0 rfl (lv_at hl 0 rfl) ?_
  refine lv_iconst (v := nI 0) hx hb dX1_hangingFor_1 (by decide +kernel) ?_
  refine lv_aload_n hx hb dX1_hangingFor_2 rfl (lv_at hl 0 rfl) ?_
  refine va_get (D := G) (ci := 0) (v := .int (nI (mN M))) (C := RX1) (T := TX1) (N := 13) hx hb hts iX1_hangingFor_X1 hown hK hP 0 rfl rfl 5 (by decide) (hts (.fieldLink RX1 51 "NailedOrders$Door" "orders" "I") (by decide +kernel)) (fun _ h9 => h9) rfl dX1_hangingFor_3 ?_
  refine lv_iload_n hx hb dX1_hangingFor_6 rfl (lv_at hl 1 rfl) ?_
  refine o_VI (As := [.int (nI 0), .int (nI (mN M)), .int (nI w)]) (rest := []) ⟨hx, hb, hml, hown, hts⟩ (kX1_hB l G cy hW hP 0 (mN M) w (Nat.zero_le _) bN hw) (cwV 3 hts gX1_hangingFor_X1_hangingBetween rfl rfl rfl (by decide +kernel) ⟨Nat.le_of_ble_eq_true rfl, Nat.le_of_ble_eq_true rfl⟩) hK (va_recv hK hP (ci := 0) (q0 := 0) rfl rfl) rfl hl.1 rfl (Nat.le_of_ble_eq_true rfl) dX1_hangingFor_7 ⟨Nat.zero_le _, Nat.zero_le _⟩ ?_
  exact o_endI hx hb hr hlocks dX1_hangingFor_10 rfl

set_option maxRecDepth 100000 in
theorem iX1_hangingAt_X1 : ∀ w ∈ u_ws RX1 TX1 13, w ∈ wsX1_hangingAt := by decide +kernel
set_option maxHeartbeats 4000000 in
set_option maxRecDepth 100000 in
theorem kX1_hangingAt (l : Launch) (G : va_G) (cy : Nat → ClassId) {H0 : Heap} {q : Nat → Nat} {M : MT} (hW : WB M) (hP : va_P G vwCl (wDo cy q M) H0) (w pl : Nat) (hw : w < 16) (hpl : pl < 2 ^ 31) : MetI l yX1_hangingAt wsX1_hangingAt 2 43 [.ref (q 0), .int (nI w), .int (nI pl)] H0 G cy (hAt (hfB M w) (mN M) pl) := by
  refine Met.ofW (cc := cX1_hangingAt) (maxL := 5) (ret := (some .int)) (by decide) rfl ?_
  intro p e s m args below meth c s₁ B hml hv
  obtain ⟨rfl, hH, hK⟩ := hv
  subst hH
  have hx := B.exec
  have hb := B.bytes
  have hr := B.returns
  have hts := atoms_spec (ws := wsX1_hangingAt) B.pre
  have hown : s.vm.findClass RX1 = some m.cls := findClass_of_methodNamed B.named
  have hlocks := B.notSynchronized
  have hl := lv_entry ([.ref (q 0), .int (nI w), .int (nI pl)]) (n := 5) (Nat.le_of_ble_eq_true rfl)
  rw [lg_entry_eq]
  generalize (lg_sl ([.ref (q 0), .int (nI w), .int (nI pl)]) ++ List.replicate (5 - (lg_sl ([.ref (q 0), .int (nI w), .int (nI pl)])).length) Slot.unset).toArray = ls at hl ⊢
  have hl : lv_has ls 5 [(0, .ref (q 0)), (1, .int (nI w)), (2, .int (nI pl))] := hl
  obtain ⟨bP, bN, bR, bO, bW, bL, bF⟩ := id hW
  refine lv_iload_n hx hb dX1_hangingAt_0 rfl (lv_at hl 2 rfl) ?_
  refine lv_istore_n (lv' := [(3, .int (nI pl)), (0, .ref (q 0)), (1, .int (nI w)), (2, .int (nI pl))]) hx hb dX1_hangingAt_1 rfl hl (by decide) rfl (fun ls hl => ?_)
  refine lv_aload_n hx hb dX1_hangingAt_2 rfl (lv_at hl 1 rfl) ?_
  refine va_get (D := G) (ci := 0) (v := .int (nI (mN M))) (C := RX1) (T := TX1) (N := 13) hx hb hts iX1_hangingAt_X1 hown hK hP 0 rfl rfl 5 (by decide) (hts (.fieldLink RX1 51 "NailedOrders$Door" "orders" "I") (by decide +kernel)) (fun _ h9 => h9) rfl dX1_hangingAt_3 ?_
  refine lv_iconst (v := nI 1) hx hb dX1_hangingAt_6 (by decide +kernel) ?_
  refine lv_isub hx hb dX1_hangingAt_7 ?_
  rw [show nI (mN M) - nI 1 = dI (mN M) from rfl]
  refine lv_istore (lv' := [(4, .int (dI (mN M))), (3, .int (nI pl)), (0, .ref (q 0)), (1, .int (nI w)), (2, .int (nI pl))]) hx hb dX1_hangingAt_8 hl (by decide) rfl (fun ls hl => ?_)
  refine o_loop (σ := Nat × Nat) (fun (x_ : Nat × Nat) => match x_ with | (i, r) => i ≤ mN M ∧ r ≤ pl ∧ hAt (hfB M w) i r = hAt (hfB M w) (mN M) pl) (fun (x_ : Nat × Nat) => match x_ with | (i, r) => [(4, .int (dI i)), (3, .int (nI r)), (0, .ref (q 0)), (1, .int (nI w))]) (fun (x_ : Nat × Nat) => match x_ with | (i, r) => i) (mN M, pl) ⟨Nat.le_refl _, Nat.le_refl _, rfl⟩ (lv_sub hl [0, 1, 2, 3] rfl) ?_
  rintro ⟨i, r⟩ ls ⟨h1, h2, h3⟩ hl ih10
  have hl : lv_has ls 5 [(4, .int (dI i)), (3, .int (nI r)), (0, .ref (q 0)), (1, .int (nI w))] := hl
  refine lv_iload hx hb dX1_hangingAt_10 (lv_at hl 0 rfl) ?_
  refine o_ifd_lt (tgt := 41) hx hb dX1_hangingAt_12 (by decide) (by omega) (fun c12 => ?_) (fun c12 => ?_)
  · subst c12
    refine lv_bipush (v := (-5)) hx hb dX1_hangingAt_41 (by decide +kernel) ?_
    exact o_endI hx hb hr hlocks dX1_hangingAt_43 ((by rw [← h3]; rfl))
  · obtain ⟨i, rfl⟩ := c12
    rw [dI_succ] at hl
    refine lv_aload_n hx hb dX1_hangingAt_15 rfl (lv_at hl 2 rfl) ?_
    refine lv_iload hx hb dX1_hangingAt_16 (lv_at hl 0 rfl) ?_
    refine lv_iload_n hx hb dX1_hangingAt_18 rfl (lv_at hl 3 rfl) ?_
    refine o_VI (As := [.int (nI i), .int (nI w)]) (rest := []) ⟨hx, hb, hml, hown, hts⟩ (kX1_hangsFor l G cy hW hP i w (by omega) hw) (cwV 2 hts gX1_hangingAt_X1_hangsFor rfl rfl rfl (by decide +kernel) ⟨Nat.le_of_ble_eq_true rfl, Nat.le_of_ble_eq_true rfl⟩) hK (va_recv hK hP (ci := 0) (q0 := 0) rfl rfl) rfl hl.1 rfl (Nat.le_of_ble_eq_true rfl) dX1_hangingAt_19 ⟨Nat.zero_le _, Nat.zero_le _⟩ ?_
    refine o_ifb_eq (tgt := 35) hx hb dX1_hangingAt_22 (by decide) (fun c22 => ?_) (fun c22 => ?_)
    · refine lv_iinc (v := dI i) (lv' := [(4, .int (dI i)), (3, .int (nI r)), (0, .ref (q 0)), (1, .int (nI w))]) hx hb dX1_hangingAt_35 hl (k := 0) rfl (dI_dec i) (by decide) rfl (fun ls hl => ?_)
      refine lv_goto (tgt := 10) hx hb dX1_hangingAt_38 (by decide) ?_
      refine ih10 (i, r) ls ?_ ?_ ?_
      · exact ⟨by omega, h2, by rw [← h3, hAt_n (fun z => c22 (hfB_iff.mp z))]⟩
      · show lv_has ls 5 [(4, .int (dI i)), (3, .int (nI r)), (0, .ref (q 0)), (1, .int (nI w))]
        exact lv_sub hl [0, 1, 2, 3] rfl
      · exact Nat.lt_succ_self i
    · refine lv_iload_n hx hb dX1_hangingAt_25 rfl (lv_at hl 1 rfl) ?_
      refine o_if_ne (tgt := 32) hx hb dX1_hangingAt_26 (by decide) (by omega) (fun c26 => ?_) (fun c26 => ?_)
      · refine lv_iinc (v := nI (r - 1)) (lv' := [(3, .int (nI (r - 1))), (4, .int (nI i)), (0, .ref (q 0)), (1, .int (nI w))]) hx hb dX1_hangingAt_32 hl (k := 1) rfl (by obtain ⟨r, rfl⟩ : ∃ k, r = k + 1 := ⟨r - 1, by omega⟩; exact pk_m1 r) (by decide) rfl (fun ls hl => ?_)
        refine lv_iinc (v := dI i) (lv' := [(4, .int (dI i)), (3, .int (nI (r - 1))), (0, .ref (q 0)), (1, .int (nI w))]) hx hb dX1_hangingAt_35 hl (k := 1) rfl (dI_dec i) (by decide) rfl (fun ls hl => ?_)
        refine lv_goto (tgt := 10) hx hb dX1_hangingAt_38 (by decide) ?_
        refine ih10 (i, r - 1) ls ?_ ?_ ?_
        · exact ⟨by omega, by omega, by rw [← h3, hAt_s (hfB_iff.mpr c22) c26]⟩
        · show lv_has ls 5 [(4, .int (dI i)), (3, .int (nI (r - 1))), (0, .ref (q 0)), (1, .int (nI w))]
          exact lv_sub hl [0, 1, 2, 3] rfl
        · exact Nat.lt_succ_self i
      · subst c26
        refine lv_iload hx hb dX1_hangingAt_29 (lv_at hl 0 rfl) ?_
        exact o_endI hx hb hr hlocks dX1_hangingAt_31 ((by rw [← h3]; exact (hAt_0 (hfB_iff.mpr c22)).symm))

set_option maxRecDepth 100000 in
theorem iX1_withFate_X1 : ∀ w ∈ u_ws RX1 TX1 13, w ∈ wsX1_withFate := by decide +kernel
set_option maxHeartbeats 4000000 in
set_option maxRecDepth 100000 in
theorem kX1_withFate (l : Launch) (G : va_G) (cy : Nat → ClassId) {H0 : Heap} {q : Nat → Nat} {M : MT} (hW : WB M) (hP : va_P G vwCl (wDo cy q M) H0) (x : Nat) (hx1 : x < 4) : MetI l yX1_withFate wsX1_withFate 0 0 [.ref (q 0), .int (nI x)] H0 G cy (nI (cR (ftB M x) 0 (mN M))) := by
  refine Met.ofW (cc := cX1_withFate) (maxL := 4) (ret := (some .int)) (by decide) rfl ?_
  intro p e s m args below meth c s₁ B hml hv
  obtain ⟨rfl, hH, hK⟩ := hv
  subst hH
  have hx := B.exec
  have hb := B.bytes
  have hr := B.returns
  have hts := atoms_spec (ws := wsX1_withFate) B.pre
  have hown : s.vm.findClass RX1 = some m.cls := findClass_of_methodNamed B.named
  have hlocks := B.notSynchronized
  have hl := lv_entry ([.ref (q 0), .int (nI x)]) (n := 4) (Nat.le_of_ble_eq_true rfl)
  rw [lg_entry_eq]
  generalize (lg_sl ([.ref (q 0), .int (nI x)]) ++ List.replicate (4 - (lg_sl ([.ref (q 0), .int (nI x)])).length) Slot.unset).toArray = ls at hl ⊢
  have hl : lv_has ls 4 [(0, .ref (q 0)), (1, .int (nI x))] := hl
  obtain ⟨bP, bN, bR, bO, bW, bL, bF⟩ := id hW
  refine lv_iconst (v := nI 0) hx hb dX1_withFate_0 (by decide +kernel) ?_
  refine lv_istore_n (lv' := [(2, .int (nI 0)), (0, .ref (q 0)), (1, .int (nI x))]) hx hb dX1_withFate_1 rfl hl (by decide) rfl (fun ls hl => ?_)
  refine lv_iconst (v := nI 0) hx hb dX1_withFate_2 (by decide +kernel) ?_
  refine lv_istore_n (lv' := [(3, .int (nI 0)), (2, .int (nI 0)), (0, .ref (q 0)), (1, .int (nI x))]) hx hb dX1_withFate_3 rfl hl (by decide) rfl (fun ls hl => ?_)
  refine o_loop (σ := Nat) (fun (i : Nat) => i ≤ mN M) (fun (i : Nat) => [(3, .int (nI i)), (2, .int (nI (cR (ftB M x) 0 i))), (0, .ref (q 0)), (1, .int (nI x))]) (fun (i : Nat) => mN M - i) 0 (Nat.zero_le _) (lv_sub hl [0, 1, 2, 3] rfl) ?_
  rintro i ls h1 hl ih4
  have hl : lv_has ls 4 [(3, .int (nI i)), (2, .int (nI (cR (ftB M x) 0 i))), (0, .ref (q 0)), (1, .int (nI x))] := hl
  have b2 := bF i
  have b3 := bO i
  have b4 := bW i
  refine lv_iload_n hx hb dX1_withFate_4 rfl (lv_at hl 0 rfl) ?_
  refine lv_aload_n hx hb dX1_withFate_5 rfl (lv_at hl 2 rfl) ?_
  refine va_get (D := G) (ci := 0) (v := .int (nI (mN M))) (C := RX1) (T := TX1) (N := 13) hx hb hts iX1_withFate_X1 hown hK hP 0 rfl rfl 5 (by decide) (hts (.fieldLink RX1 51 "NailedOrders$Door" "orders" "I") (by decide +kernel)) (fun _ h9 => h9) rfl dX1_withFate_6 ?_
  refine o_icmp_ge (tgt := 31) hx hb dX1_withFate_9 (by decide) (by omega) (by omega) (fun c9 => ?_) (fun c9 => ?_)
  · obtain rfl : i = mN M := by omega
    refine lv_iload_n hx hb dX1_withFate_31 rfl (lv_at hl 1 rfl) ?_
    exact o_endI hx hb hr hlocks dX1_withFate_32 rfl
  · refine lv_aload_n hx hb dX1_withFate_12 rfl (lv_at hl 2 rfl) ?_
    refine va_get (D := G) (ci := 0) (v := .ref (q 12)) (C := RX1) (T := TX1) (N := 13) hx hb hts iX1_withFate_X1 hown hK hP 0 rfl rfl 12 (by decide) (hts (.fieldLink RX1 34 "NailedOrders$Door" "fates" "[I") (by decide +kernel)) (fun _ h9 => h9) rfl dX1_withFate_13 ?_
    refine lv_iload_n hx hb dX1_withFate_16 rfl (lv_at hl 0 rfl) ?_
    refine o_iald hx hb hK hP 8 0 rfl rfl i (by omega) (by decide) dX1_withFate_17 ?_
    refine lv_iload_n hx hb dX1_withFate_18 rfl (lv_at hl 3 rfl) ?_
    refine o_icmp_ne (tgt := 25) hx hb dX1_withFate_19 (by decide) (by omega) (by omega) (fun c19 => ?_) (fun c19 => ?_)
    · refine lv_iinc (v := nI (i + 1)) (lv' := [(3, .int (nI (i + 1))), (2, .int (nI (cR (ftB M x) 0 i))), (0, .ref (q 0)), (1, .int (nI x))]) hx hb dX1_withFate_25 hl (k := 0) rfl (nI_1 i) (by decide) rfl (fun ls hl => ?_)
      refine lv_goto (tgt := 4) hx hb dX1_withFate_28 (by decide) ?_
      refine ih4 (i + 1) ls ?_ ?_ ?_
      · omega
      · show lv_has ls 4 [(3, .int (nI (i + 1))), (2, .int (nI (cR (ftB M x) 0 (i + 1)))), (0, .ref (q 0)), (1, .int (nI x))]
        rw [cZ_f (p := (ftB M x)) (j := i) (fun z => absurd (ftB_iff.mp z) (c19))]
        exact lv_sub hl [0, 1, 2, 3] rfl
      · omega
    · refine lv_iinc (v := nI (cR (ftB M x) 0 i + 1)) (lv' := [(2, .int (nI (cR (ftB M x) 0 i + 1))), (3, .int (nI i)), (0, .ref (q 0)), (1, .int (nI x))]) hx hb dX1_withFate_22 hl (k := 1) rfl (nI_1 (cR (ftB M x) 0 i)) (by decide) rfl (fun ls hl => ?_)
      refine lv_iinc (v := nI (i + 1)) (lv' := [(3, .int (nI (i + 1))), (2, .int (nI (cR (ftB M x) 0 i + 1))), (0, .ref (q 0)), (1, .int (nI x))]) hx hb dX1_withFate_25 hl (k := 1) rfl (nI_1 i) (by decide) rfl (fun ls hl => ?_)
      refine lv_goto (tgt := 4) hx hb dX1_withFate_28 (by decide) ?_
      refine ih4 (i + 1) ls ?_ ?_ ?_
      · omega
      · show lv_has ls 4 [(3, .int (nI (i + 1))), (2, .int (nI (cR (ftB M x) 0 (i + 1)))), (0, .ref (q 0)), (1, .int (nI x))]
        rw [cZ_t (p := (ftB M x)) (j := i) (ftB_iff.mpr c19)]
        exact lv_sub hl [0, 1, 2, 3] rfl
      · omega

set_option maxRecDepth 100000 in
theorem iX1_nailedBy_X1 : ∀ w ∈ u_ws RX1 TX1 13, w ∈ wsX1_nailedBy := by decide +kernel
set_option maxHeartbeats 4000000 in
set_option maxRecDepth 100000 in
theorem kX1_nailedBy (l : Launch) (G : va_G) (cy : Nat → ClassId) {H0 : Heap} {q : Nat → Nat} {M : MT} (hW : WB M) (hP : va_P G vwCl (wDo cy q M) H0) (x : Nat) (hx1 : x < 6) : MetI l yX1_nailedBy wsX1_nailedBy 0 0 [.ref (q 0), .int (nI x)] H0 G cy (nI (cR (owB M x) 0 (mN M))) := by
  refine Met.ofW (cc := cX1_nailedBy) (maxL := 4) (ret := (some .int)) (by decide) rfl ?_
  intro p e s m args below meth c s₁ B hml hv
  obtain ⟨rfl, hH, hK⟩ := hv
  subst hH
  have hx := B.exec
  have hb := B.bytes
  have hr := B.returns
  have hts := atoms_spec (ws := wsX1_nailedBy) B.pre
  have hown : s.vm.findClass RX1 = some m.cls := findClass_of_methodNamed B.named
  have hlocks := B.notSynchronized
  have hl := lv_entry ([.ref (q 0), .int (nI x)]) (n := 4) (Nat.le_of_ble_eq_true rfl)
  rw [lg_entry_eq]
  generalize (lg_sl ([.ref (q 0), .int (nI x)]) ++ List.replicate (4 - (lg_sl ([.ref (q 0), .int (nI x)])).length) Slot.unset).toArray = ls at hl ⊢
  have hl : lv_has ls 4 [(0, .ref (q 0)), (1, .int (nI x))] := hl
  obtain ⟨bP, bN, bR, bO, bW, bL, bF⟩ := id hW
  refine lv_iconst (v := nI 0) hx hb dX1_nailedBy_0 (by decide +kernel) ?_
  refine lv_istore_n (lv' := [(2, .int (nI 0)), (0, .ref (q 0)), (1, .int (nI x))]) hx hb dX1_nailedBy_1 rfl hl (by decide) rfl (fun ls hl => ?_)
  refine lv_iconst (v := nI 0) hx hb dX1_nailedBy_2 (by decide +kernel) ?_
  refine lv_istore_n (lv' := [(3, .int (nI 0)), (2, .int (nI 0)), (0, .ref (q 0)), (1, .int (nI x))]) hx hb dX1_nailedBy_3 rfl hl (by decide) rfl (fun ls hl => ?_)
  refine o_loop (σ := Nat) (fun (i : Nat) => i ≤ mN M) (fun (i : Nat) => [(3, .int (nI i)), (2, .int (nI (cR (owB M x) 0 i))), (0, .ref (q 0)), (1, .int (nI x))]) (fun (i : Nat) => mN M - i) 0 (Nat.zero_le _) (lv_sub hl [0, 1, 2, 3] rfl) ?_
  rintro i ls h1 hl ih4
  have hl : lv_has ls 4 [(3, .int (nI i)), (2, .int (nI (cR (owB M x) 0 i))), (0, .ref (q 0)), (1, .int (nI x))] := hl
  have b2 := bF i
  have b3 := bO i
  have b4 := bW i
  refine lv_iload_n hx hb dX1_nailedBy_4 rfl (lv_at hl 0 rfl) ?_
  refine lv_aload_n hx hb dX1_nailedBy_5 rfl (lv_at hl 2 rfl) ?_
  refine va_get (D := G) (ci := 0) (v := .int (nI (mN M))) (C := RX1) (T := TX1) (N := 13) hx hb hts iX1_nailedBy_X1 hown hK hP 0 rfl rfl 5 (by decide) (hts (.fieldLink RX1 51 "NailedOrders$Door" "orders" "I") (by decide +kernel)) (fun _ h9 => h9) rfl dX1_nailedBy_6 ?_
  refine o_icmp_ge (tgt := 31) hx hb dX1_nailedBy_9 (by decide) (by omega) (by omega) (fun c9 => ?_) (fun c9 => ?_)
  · obtain rfl : i = mN M := by omega
    refine lv_iload_n hx hb dX1_nailedBy_31 rfl (lv_at hl 1 rfl) ?_
    exact o_endI hx hb hr hlocks dX1_nailedBy_32 rfl
  · refine lv_aload_n hx hb dX1_nailedBy_12 rfl (lv_at hl 2 rfl) ?_
    refine va_get (D := G) (ci := 0) (v := .ref (q 6)) (C := RX1) (T := TX1) (N := 13) hx hb hts iX1_nailedBy_X1 hown hK hP 0 rfl rfl 6 (by decide) (hts (.fieldLink RX1 15 "NailedOrders$Door" "owners" "[I") (by decide +kernel)) (fun _ h9 => h9) rfl dX1_nailedBy_13 ?_
    refine lv_iload_n hx hb dX1_nailedBy_16 rfl (lv_at hl 0 rfl) ?_
    refine o_iald hx hb hK hP 2 0 rfl rfl i (by omega) (by decide) dX1_nailedBy_17 ?_
    refine lv_iload_n hx hb dX1_nailedBy_18 rfl (lv_at hl 3 rfl) ?_
    refine o_icmp_ne (tgt := 25) hx hb dX1_nailedBy_19 (by decide) (by omega) (by omega) (fun c19 => ?_) (fun c19 => ?_)
    · refine lv_iinc (v := nI (i + 1)) (lv' := [(3, .int (nI (i + 1))), (2, .int (nI (cR (owB M x) 0 i))), (0, .ref (q 0)), (1, .int (nI x))]) hx hb dX1_nailedBy_25 hl (k := 0) rfl (nI_1 i) (by decide) rfl (fun ls hl => ?_)
      refine lv_goto (tgt := 4) hx hb dX1_nailedBy_28 (by decide) ?_
      refine ih4 (i + 1) ls ?_ ?_ ?_
      · omega
      · show lv_has ls 4 [(3, .int (nI (i + 1))), (2, .int (nI (cR (owB M x) 0 (i + 1)))), (0, .ref (q 0)), (1, .int (nI x))]
        rw [cZ_f (p := (owB M x)) (j := i) (fun z => absurd (owB_iff.mp z) (c19))]
        exact lv_sub hl [0, 1, 2, 3] rfl
      · omega
    · refine lv_iinc (v := nI (cR (owB M x) 0 i + 1)) (lv' := [(2, .int (nI (cR (owB M x) 0 i + 1))), (3, .int (nI i)), (0, .ref (q 0)), (1, .int (nI x))]) hx hb dX1_nailedBy_22 hl (k := 1) rfl (nI_1 (cR (owB M x) 0 i)) (by decide) rfl (fun ls hl => ?_)
      refine lv_iinc (v := nI (i + 1)) (lv' := [(3, .int (nI (i + 1))), (2, .int (nI (cR (owB M x) 0 i + 1))), (0, .ref (q 0)), (1, .int (nI x))]) hx hb dX1_nailedBy_25 hl (k := 1) rfl (nI_1 i) (by decide) rfl (fun ls hl => ?_)
      refine lv_goto (tgt := 4) hx hb dX1_nailedBy_28 (by decide) ?_
      refine ih4 (i + 1) ls ?_ ?_ ?_
      · omega
      · show lv_has ls 4 [(3, .int (nI (i + 1))), (2, .int (nI (cR (owB M x) 0 (i + 1)))), (0, .ref (q 0)), (1, .int (nI x))]
        rw [cZ_t (p := (owB M x)) (j := i) (owB_iff.mpr c19)]
        exact lv_sub hl [0, 1, 2, 3] rfl
      · omega

set_option maxRecDepth 100000 in
theorem iX1_hangingBy_X1 : ∀ w ∈ u_ws RX1 TX1 13, w ∈ wsX1_hangingBy := by decide +kernel
set_option maxHeartbeats 4000000 in
set_option maxRecDepth 100000 in
theorem kX1_hangingBy (l : Launch) (G : va_G) (cy : Nat → ClassId) {H0 : Heap} {q : Nat → Nat} {M : MT} (hW : WB M) (hP : va_P G vwCl (wDo cy q M) H0) (x : Nat) (hx1 : x < 6) : MetI l yX1_hangingBy wsX1_hangingBy 1 21 [.ref (q 0), .int (nI x)] H0 G cy (nI (cR (hoB M x) 0 (mN M))) := by
  refine Met.ofW (cc := cX1_hangingBy) (maxL := 4) (ret := (some .int)) (by decide) rfl ?_
  intro p e s m args below meth c s₁ B hml hv
  obtain ⟨rfl, hH, hK⟩ := hv
  subst hH
  have hx := B.exec
  have hb := B.bytes
  have hr := B.returns
  have hts := atoms_spec (ws := wsX1_hangingBy) B.pre
  have hown : s.vm.findClass RX1 = some m.cls := findClass_of_methodNamed B.named
  have hlocks := B.notSynchronized
  have hl := lv_entry ([.ref (q 0), .int (nI x)]) (n := 4) (Nat.le_of_ble_eq_true rfl)
  rw [lg_entry_eq]
  generalize (lg_sl ([.ref (q 0), .int (nI x)]) ++ List.replicate (4 - (lg_sl ([.ref (q 0), .int (nI x)])).length) Slot.unset).toArray = ls at hl ⊢
  have hl : lv_has ls 4 [(0, .ref (q 0)), (1, .int (nI x))] := hl
  obtain ⟨bP, bN, bR, bO, bW, bL, bF⟩ := id hW
  refine lv_iconst (v := nI 0) hx hb dX1_hangingBy_0 (by decide +kernel) ?_
  refine lv_istore_n (lv' := [(2, .int (nI 0)), (0, .ref (q 0)), (1, .int (nI x))]) hx hb dX1_hangingBy_1 rfl hl (by decide) rfl (fun ls hl => ?_)
  refine lv_iconst (v := nI 0) hx hb dX1_hangingBy_2 (by decide +kernel) ?_
  refine lv_istore_n (lv' := [(3, .int (nI 0)), (2, .int (nI 0)), (0, .ref (q 0)), (1, .int (nI x))]) hx hb dX1_hangingBy_3 rfl hl (by decide) rfl (fun ls hl => ?_)
  refine o_loop (σ := Nat) (fun (i : Nat) => i ≤ mN M) (fun (i : Nat) => [(3, .int (nI i)), (2, .int (nI (cR (hoB M x) 0 i))), (0, .ref (q 0)), (1, .int (nI x))]) (fun (i : Nat) => mN M - i) 0 (Nat.zero_le _) (lv_sub hl [0, 1, 2, 3] rfl) ?_
  rintro i ls h1 hl ih4
  have hl : lv_has ls 4 [(3, .int (nI i)), (2, .int (nI (cR (hoB M x) 0 i))), (0, .ref (q 0)), (1, .int (nI x))] := hl
  have b2 := bF i
  have b3 := bO i
  have b4 := bW i
  refine lv_iload_n hx hb dX1_hangingBy_4 rfl (lv_at hl 0 rfl) ?_
  refine lv_aload_n hx hb dX1_hangingBy_5 rfl (lv_at hl 2 rfl) ?_
  refine va_get (D := G) (ci := 0) (v := .int (nI (mN M))) (C := RX1) (T := TX1) (N := 13) hx hb hts iX1_hangingBy_X1 hown hK hP 0 rfl rfl 5 (by decide) (hts (.fieldLink RX1 51 "NailedOrders$Door" "orders" "I") (by decide +kernel)) (fun _ h9 => h9) rfl dX1_hangingBy_6 ?_
  refine o_icmp_ge (tgt := 39) hx hb dX1_hangingBy_9 (by decide) (by omega) (by omega) (fun c9 => ?_) (fun c9 => ?_)
  · obtain rfl : i = mN M := by omega
    refine lv_iload_n hx hb dX1_hangingBy_39 rfl (lv_at hl 1 rfl) ?_
    exact o_endI hx hb hr hlocks dX1_hangingBy_40 rfl
  · refine lv_aload_n hx hb dX1_hangingBy_12 rfl (lv_at hl 2 rfl) ?_
    refine lv_iload_n hx hb dX1_hangingBy_13 rfl (lv_at hl 0 rfl) ?_
    refine o_VI (As := [.int (nI i)]) (rest := []) ⟨hx, hb, hml, hown, hts⟩ (kX1_hangs l G cy hW hP i (by omega)) (cwV 1 hts gX1_hangingBy_X1_hangs rfl rfl rfl (by decide +kernel) ⟨Nat.le_of_ble_eq_true rfl, Nat.le_of_ble_eq_true rfl⟩) hK (va_recv hK hP (ci := 0) (q0 := 0) rfl rfl) rfl hl.1 rfl (Nat.le_of_ble_eq_true rfl) dX1_hangingBy_14 ⟨Nat.zero_le _, Nat.zero_le _⟩ ?_
    refine o_ifb_eq (tgt := 33) hx hb dX1_hangingBy_17 (by decide) (fun c17 => ?_) (fun c17 => ?_)
    · have c27 : ¬ (mF M i = 1 ∧ mO M i = x) := fun z => c17 z.1
      refine lv_iinc (v := nI (i + 1)) (lv' := [(3, .int (nI (i + 1))), (2, .int (nI (cR (hoB M x) 0 i))), (0, .ref (q 0)), (1, .int (nI x))]) hx hb dX1_hangingBy_33 hl (k := 0) rfl (nI_1 i) (by decide) rfl (fun ls hl => ?_)
      refine lv_goto (tgt := 4) hx hb dX1_hangingBy_36 (by decide) ?_
      refine ih4 (i + 1) ls ?_ ?_ ?_
      · omega
      · show lv_has ls 4 [(3, .int (nI (i + 1))), (2, .int (nI (cR (hoB M x) 0 (i + 1)))), (0, .ref (q 0)), (1, .int (nI x))]
        rw [cZ_f (p := (hoB M x)) (j := i) (fun z => absurd (hoB_iff.mp z) (c27))]
        exact lv_sub hl [0, 1, 2, 3] rfl
      · omega
    · refine lv_aload_n hx hb dX1_hangingBy_20 rfl (lv_at hl 2 rfl) ?_
      refine va_get (D := G) (ci := 0) (v := .ref (q 6)) (C := RX1) (T := TX1) (N := 13) hx hb hts iX1_hangingBy_X1 hown hK hP 0 rfl rfl 6 (by decide) (hts (.fieldLink RX1 15 "NailedOrders$Door" "owners" "[I") (by decide +kernel)) (fun _ h9 => h9) rfl dX1_hangingBy_21 ?_
      refine lv_iload_n hx hb dX1_hangingBy_24 rfl (lv_at hl 0 rfl) ?_
      refine o_iald hx hb hK hP 2 0 rfl rfl i (by omega) (by decide) dX1_hangingBy_25 ?_
      refine lv_iload_n hx hb dX1_hangingBy_26 rfl (lv_at hl 3 rfl) ?_
      refine o_icmp_ne (tgt := 33) hx hb dX1_hangingBy_27 (by decide) (by omega) (by omega) (fun c26 => ?_) (fun c26 => ?_)
      · have c27 : ¬ (mF M i = 1 ∧ mO M i = x) := fun z => c26 z.2
        refine lv_iinc (v := nI (i + 1)) (lv' := [(3, .int (nI (i + 1))), (2, .int (nI (cR (hoB M x) 0 i))), (0, .ref (q 0)), (1, .int (nI x))]) hx hb dX1_hangingBy_33 hl (k := 0) rfl (nI_1 i) (by decide) rfl (fun ls hl => ?_)
        refine lv_goto (tgt := 4) hx hb dX1_hangingBy_36 (by decide) ?_
        refine ih4 (i + 1) ls ?_ ?_ ?_
        · omega
        · show lv_has ls 4 [(3, .int (nI (i + 1))), (2, .int (nI (cR (hoB M x) 0 (i + 1)))), (0, .ref (q 0)), (1, .int (nI x))]
          rw [cZ_f (p := (hoB M x)) (j := i) (fun z => absurd (hoB_iff.mp z) (c27))]
          exact lv_sub hl [0, 1, 2, 3] rfl
        · omega
      · have c27 : mF M i = 1 ∧ mO M i = x := ⟨c17, c26⟩
        refine lv_iinc (v := nI (cR (hoB M x) 0 i + 1)) (lv' := [(2, .int (nI (cR (hoB M x) 0 i + 1))), (3, .int (nI i)), (0, .ref (q 0)), (1, .int (nI x))]) hx hb dX1_hangingBy_30 hl (k := 1) rfl (nI_1 (cR (hoB M x) 0 i)) (by decide) rfl (fun ls hl => ?_)
        refine lv_iinc (v := nI (i + 1)) (lv' := [(3, .int (nI (i + 1))), (2, .int (nI (cR (hoB M x) 0 i + 1))), (0, .ref (q 0)), (1, .int (nI x))]) hx hb dX1_hangingBy_33 hl (k := 1) rfl (nI_1 i) (by decide) rfl (fun ls hl => ?_)
        refine lv_goto (tgt := 4) hx hb dX1_hangingBy_36 (by decide) ?_
        refine ih4 (i + 1) ls ?_ ?_ ?_
        · omega
        · show lv_has ls 4 [(3, .int (nI (i + 1))), (2, .int (nI (cR (hoB M x) 0 (i + 1)))), (0, .ref (q 0)), (1, .int (nI x))]
          rw [cZ_t (p := (hoB M x)) (j := i) (hoB_iff.mpr c27)]
          exact lv_sub hl [0, 1, 2, 3] rfl
        · omega

set_option maxRecDepth 100000 in
theorem iX1_wordsOf_X1 : ∀ w ∈ u_ws RX1 TX1 13, w ∈ wsX1_wordsOf := by decide +kernel
set_option maxHeartbeats 4000000 in
set_option maxRecDepth 100000 in
theorem kX1_wordsOf (l : Launch) (G : va_G) (cy : Nat → ClassId) {H0 : Heap} {q : Nat → Nat} {M : MT} (hW : WB M) (hP : va_P G vwCl (wDo cy q M) H0) (x : Nat) (hx1 : x < 6) : MetI l yX1_wordsOf wsX1_wordsOf 1 21 [.ref (q 0), .int (nI x)] H0 G cy (wBt M x (mN M)) := by
  refine Met.ofW (cc := cX1_wordsOf) (maxL := 4) (ret := (some .int)) (by decide) rfl ?_
  intro p e s m args below meth c s₁ B hml hv
  obtain ⟨rfl, hH, hK⟩ := hv
  subst hH
  have hx := B.exec
  have hb := B.bytes
  have hr := B.returns
  have hts := atoms_spec (ws := wsX1_wordsOf) B.pre
  have hown : s.vm.findClass RX1 = some m.cls := findClass_of_methodNamed B.named
  have hlocks := B.notSynchronized
  have hl := lv_entry ([.ref (q 0), .int (nI x)]) (n := 4) (Nat.le_of_ble_eq_true rfl)
  rw [lg_entry_eq]
  generalize (lg_sl ([.ref (q 0), .int (nI x)]) ++ List.replicate (4 - (lg_sl ([.ref (q 0), .int (nI x)])).length) Slot.unset).toArray = ls at hl ⊢
  have hl : lv_has ls 4 [(0, .ref (q 0)), (1, .int (nI x))] := hl
  obtain ⟨bP, bN, bR, bO, bW, bL, bF⟩ := id hW
  refine lv_iconst (v := nI 0) hx hb dX1_wordsOf_0 (by decide +kernel) ?_
  refine lv_istore_n (lv' := [(2, .int (nI 0)), (0, .ref (q 0)), (1, .int (nI x))]) hx hb dX1_wordsOf_1 rfl hl (by decide) rfl (fun ls hl => ?_)
  refine lv_iconst (v := nI 0) hx hb dX1_wordsOf_2 (by decide +kernel) ?_
  refine lv_istore_n (lv' := [(3, .int (nI 0)), (2, .int (nI 0)), (0, .ref (q 0)), (1, .int (nI x))]) hx hb dX1_wordsOf_3 rfl hl (by decide) rfl (fun ls hl => ?_)
  refine o_loop (σ := Nat) (fun (i : Nat) => i ≤ mN M) (fun (i : Nat) => [(3, .int (nI i)), (2, .int (wBt M x i)), (0, .ref (q 0)), (1, .int (nI x))]) (fun (i : Nat) => mN M - i) 0 (Nat.zero_le _) (lv_sub hl [0, 1, 2, 3] rfl) ?_
  rintro i ls h1 hl ih4
  have hl : lv_has ls 4 [(3, .int (nI i)), (2, .int (wBt M x i)), (0, .ref (q 0)), (1, .int (nI x))] := hl
  have b3 := bO i
  have b4 := bW i
  refine lv_iload_n hx hb dX1_wordsOf_4 rfl (lv_at hl 0 rfl) ?_
  refine lv_aload_n hx hb dX1_wordsOf_5 rfl (lv_at hl 2 rfl) ?_
  refine va_get (D := G) (ci := 0) (v := .int (nI (mN M))) (C := RX1) (T := TX1) (N := 13) hx hb hts iX1_wordsOf_X1 hown hK hP 0 rfl rfl 5 (by decide) (hts (.fieldLink RX1 51 "NailedOrders$Door" "orders" "I") (by decide +kernel)) (fun _ h9 => h9) rfl dX1_wordsOf_6 ?_
  refine o_icmp_ge (tgt := 47) hx hb dX1_wordsOf_9 (by decide) (by omega) (by omega) (fun c9 => ?_) (fun c9 => ?_)
  · obtain rfl : i = mN M := by omega
    refine lv_iload_n hx hb dX1_wordsOf_47 rfl (lv_at hl 1 rfl) ?_
    exact o_endI hx hb hr hlocks dX1_wordsOf_48 rfl
  · refine lv_aload_n hx hb dX1_wordsOf_12 rfl (lv_at hl 2 rfl) ?_
    refine lv_iload_n hx hb dX1_wordsOf_13 rfl (lv_at hl 0 rfl) ?_
    refine o_VI (As := [.int (nI i)]) (rest := []) ⟨hx, hb, hml, hown, hts⟩ (kX1_hangs l G cy hW hP i (by omega)) (cwV 1 hts gX1_wordsOf_X1_hangs rfl rfl rfl (by decide +kernel) ⟨Nat.le_of_ble_eq_true rfl, Nat.le_of_ble_eq_true rfl⟩) hK (va_recv hK hP (ci := 0) (q0 := 0) rfl rfl) rfl hl.1 rfl (Nat.le_of_ble_eq_true rfl) dX1_wordsOf_14 ⟨Nat.zero_le _, Nat.zero_le _⟩ ?_
    refine o_ifb_eq (tgt := 41) hx hb dX1_wordsOf_17 (by decide) (fun c17 => ?_) (fun c17 => ?_)
    · have c27 : ¬ (mF M i = 1 ∧ mO M i = x) := fun z => c17 z.1
      refine lv_iinc (v := nI (i + 1)) (lv' := [(3, .int (nI (i + 1))), (2, .int (wBt M x i)), (0, .ref (q 0)), (1, .int (nI x))]) hx hb dX1_wordsOf_41 hl (k := 0) rfl (nI_1 i) (by decide) rfl (fun ls hl => ?_)
      refine lv_goto (tgt := 4) hx hb dX1_wordsOf_44 (by decide) ?_
      refine ih4 (i + 1) ls ?_ ?_ ?_
      · omega
      · show lv_has ls 4 [(3, .int (nI (i + 1))), (2, .int (wBt M x (i + 1))), (0, .ref (q 0)), (1, .int (nI x))]
        rw [wBt_f c27]
        exact lv_sub hl [0, 1, 2, 3] rfl
      · omega
    · refine lv_aload_n hx hb dX1_wordsOf_20 rfl (lv_at hl 2 rfl) ?_
      refine va_get (D := G) (ci := 0) (v := .ref (q 6)) (C := RX1) (T := TX1) (N := 13) hx hb hts iX1_wordsOf_X1 hown hK hP 0 rfl rfl 6 (by decide) (hts (.fieldLink RX1 15 "NailedOrders$Door" "owners" "[I") (by decide +kernel)) (fun _ h9 => h9) rfl dX1_wordsOf_21 ?_
      refine lv_iload_n hx hb dX1_wordsOf_24 rfl (lv_at hl 0 rfl) ?_
      refine o_iald hx hb hK hP 2 0 rfl rfl i (by omega) (by decide) dX1_wordsOf_25 ?_
      refine lv_iload_n hx hb dX1_wordsOf_26 rfl (lv_at hl 3 rfl) ?_
      refine o_icmp_ne (tgt := 41) hx hb dX1_wordsOf_27 (by decide) (by omega) (by omega) (fun c26 => ?_) (fun c26 => ?_)
      · have c27 : ¬ (mF M i = 1 ∧ mO M i = x) := fun z => c26 z.2
        refine lv_iinc (v := nI (i + 1)) (lv' := [(3, .int (nI (i + 1))), (2, .int (wBt M x i)), (0, .ref (q 0)), (1, .int (nI x))]) hx hb dX1_wordsOf_41 hl (k := 0) rfl (nI_1 i) (by decide) rfl (fun ls hl => ?_)
        refine lv_goto (tgt := 4) hx hb dX1_wordsOf_44 (by decide) ?_
        refine ih4 (i + 1) ls ?_ ?_ ?_
        · omega
        · show lv_has ls 4 [(3, .int (nI (i + 1))), (2, .int (wBt M x (i + 1))), (0, .ref (q 0)), (1, .int (nI x))]
          rw [wBt_f c27]
          exact lv_sub hl [0, 1, 2, 3] rfl
        · omega
      · have c27 : mF M i = 1 ∧ mO M i = x := ⟨c17, c26⟩
        refine lv_iload_n hx hb dX1_wordsOf_30 rfl (lv_at hl 1 rfl) ?_
        refine lv_iconst (v := nI 1) hx hb dX1_wordsOf_31 (by decide +kernel) ?_
        refine lv_aload_n hx hb dX1_wordsOf_32 rfl (lv_at hl 2 rfl) ?_
        refine va_get (D := G) (ci := 0) (v := .ref (q 7)) (C := RX1) (T := TX1) (N := 13) hx hb hts iX1_wordsOf_X1 hown hK hP 0 rfl rfl 7 (by decide) (hts (.fieldLink RX1 18 "NailedOrders$Door" "words" "[I") (by decide +kernel)) (fun _ h9 => h9) rfl dX1_wordsOf_33 ?_
        refine lv_iload_n hx hb dX1_wordsOf_36 rfl (lv_at hl 0 rfl) ?_
        refine o_iald hx hb hK hP 3 0 rfl rfl i (by omega) (by decide) dX1_wordsOf_37 ?_
        refine lv_ishl hx hb dX1_wordsOf_38 ?_
        refine lv_ior hx hb dX1_wordsOf_39 ?_
        refine lv_istore_n (lv' := [(2, .int (wBt M x i ||| (nI 1 <<< (nI (mW M i) &&& 31)))), (3, .int (nI i)), (0, .ref (q 0)), (1, .int (nI x))]) hx hb dX1_wordsOf_40 rfl hl (by decide) rfl (fun ls hl => ?_)
        refine lv_iinc (v := nI (i + 1)) (lv' := [(3, .int (nI (i + 1))), (2, .int (wBt M x i ||| (nI 1 <<< (nI (mW M i) &&& 31)))), (0, .ref (q 0)), (1, .int (nI x))]) hx hb dX1_wordsOf_41 hl (k := 1) rfl (nI_1 i) (by decide) rfl (fun ls hl => ?_)
        refine lv_goto (tgt := 4) hx hb dX1_wordsOf_44 (by decide) ?_
        refine ih4 (i + 1) ls ?_ ?_ ?_
        · omega
        · show lv_has ls 4 [(3, .int (nI (i + 1))), (2, .int (wBt M x (i + 1))), (0, .ref (q 0)), (1, .int (nI x))]
          rw [wBt_t c27]
          exact lv_sub hl [0, 1, 2, 3] rfl
        · omega

set_option maxRecDepth 100000 in
theorem iX1_hanging_X1 : ∀ w ∈ u_ws RX1 TX1 13, w ∈ wsX1_hanging := by decide +kernel
set_option maxHeartbeats 4000000 in
set_option maxRecDepth 100000 in
theorem kX1_hanging (l : Launch) (G : va_G) (cy : Nat → ClassId) {H0 : Heap} {q : Nat → Nat} {M : MT} (hW : WB M) (hP : va_P G vwCl (wDo cy q M) H0) : MetI l yX1_hanging wsX1_hanging 1 23 [.ref (q 0)] H0 G cy (nI (cR (ftB M 1) 0 (mN M))) := by
  refine Met.ofW (cc := cX1_hanging) (maxL := 1) (ret := (some .int)) (by decide) rfl ?_
  intro p e s m args below meth c s₁ B hml hv
  obtain ⟨rfl, hH, hK⟩ := hv
  subst hH
  have hx := B.exec
  have hb := B.bytes
  have hr := B.returns
  have hts := atoms_spec (ws := wsX1_hanging) B.pre
  have hown : s.vm.findClass RX1 = some m.cls := findClass_of_methodNamed B.named
  have hlocks := B.notSynchronized
  have hl := lv_entry ([.ref (q 0)]) (n := 1) (Nat.le_of_ble_eq_true rfl)
  rw [lg_entry_eq]
  generalize (lg_sl ([.ref (q 0)]) ++ List.replicate (1 - (lg_sl ([.ref (q 0)])).length) Slot.unset).toArray = ls at hl ⊢
  have hl : lv_has ls 1 [(0, .ref (q 0))] := hl
  obtain ⟨bP, bN, bR, bO, bW, bL, bF⟩ := id hW
  refine lv_aload_n hx hb dX1_hanging_0 rfl (lv_at hl 0 rfl) ?_
  refine lv_iconst (v := nI 1) hx hb dX1_hanging_1 (by decide +kernel) ?_
  refine o_VI (As := [.int (nI 1)]) (rest := []) ⟨hx, hb, hml, hown, hts⟩ (kX1_withFate l G cy hW hP 1 (by decide)) (cwV 1 hts gX1_hanging_X1_withFate rfl rfl rfl (by decide +kernel) ⟨Nat.le_of_ble_eq_true rfl, Nat.le_of_ble_eq_true rfl⟩) hK (va_recv hK hP (ci := 0) (q0 := 0) rfl rfl) rfl hl.1 rfl (Nat.le_of_ble_eq_true rfl) dX1_hanging_2 ⟨Nat.zero_le _, Nat.zero_le _⟩ ?_
  exact o_endI hx hb hr hlocks dX1_hanging_5 rfl

set_option maxRecDepth 100000 in
theorem iX1_hasRoomAfter_X1 : ∀ w ∈ u_ws RX1 TX1 13, w ∈ wsX1_hasRoomAfter := by decide +kernel
set_option maxHeartbeats 4000000 in
set_option maxRecDepth 100000 in
theorem kX1_hasRoomAfter (l : Launch) (G : va_G) (cy : Nat → ClassId) {H0 : Heap} {q : Nat → Nat} {M : MT} (hW : WB M) (hP : va_P G vwCl (wDo cy q M) H0) (r : Nat) (hr9 : r ≤ 9) : MetI l yX1_hasRoomAfter wsX1_hasRoomAfter 2 43 [.ref (q 0), .int (nI r)] H0 G cy (bI (cR (ftB M 1) 0 (mN M) + r < 24 ∧ mN M + r < 40)) := by
  refine Met.ofW (cc := cX1_hasRoomAfter) (maxL := 2) (ret := (some .boolean)) (by decide) rfl ?_
  intro p e s m args below meth c s₁ B hml hv
  obtain ⟨rfl, hH, hK⟩ := hv
  subst hH
  have hx := B.exec
  have hb := B.bytes
  have hr := B.returns
  have hts := atoms_spec (ws := wsX1_hasRoomAfter) B.pre
  have hown : s.vm.findClass RX1 = some m.cls := findClass_of_methodNamed B.named
  have hlocks := B.notSynchronized
  have hl := lv_entry ([.ref (q 0), .int (nI r)]) (n := 2) (Nat.le_of_ble_eq_true rfl)
  rw [lg_entry_eq]
  generalize (lg_sl ([.ref (q 0), .int (nI r)]) ++ List.replicate (2 - (lg_sl ([.ref (q 0), .int (nI r)])).length) Slot.unset).toArray = ls at hl ⊢
  have hl : lv_has ls 2 [(0, .ref (q 0)), (1, .int (nI r))] := hl
  obtain ⟨bP, bN, bR, bO, bW, bL, bF⟩ := id hW
  have b1 := cR_le (ftB M 1) 0 (mN M)
  refine lv_aload_n hx hb dX1_hasRoomAfter_0 rfl (lv_at hl 0 rfl) ?_
  refine o_VI (As := []) (rest := []) ⟨hx, hb, hml, hown, hts⟩ (kX1_hanging l G cy hW hP) (cwV 0 hts gX1_hasRoomAfter_X1_hanging rfl rfl rfl (by decide +kernel) ⟨Nat.le_of_ble_eq_true rfl, Nat.le_of_ble_eq_true rfl⟩) hK (va_recv hK hP (ci := 0) (q0 := 0) rfl rfl) rfl hl.1 rfl (Nat.le_of_ble_eq_true rfl) dX1_hasRoomAfter_1 ⟨Nat.zero_le _, Nat.zero_le _⟩ ?_
  refine lv_iload_n hx hb dX1_hasRoomAfter_4 rfl (lv_at hl 1 rfl) ?_
  refine lv_iadd hx hb dX1_hasRoomAfter_5 ?_
  rw [nI_add]
  refine lv_bipush (v := nI 24) hx hb dX1_hasRoomAfter_6 (by decide +kernel) ?_
  refine o_icmp_ge (tgt := 26) hx hb dX1_hasRoomAfter_8 (by decide) (by omega) (by omega) (fun c8 => ?_) (fun c8 => ?_)
  · refine lv_iconst (v := nI 0) hx hb dX1_hasRoomAfter_26 (by decide +kernel) ?_
    exact o_endZ hx hb hr hlocks dX1_hasRoomAfter_27 (by decide) ((by rw [bI_f (by omega)]; decide))
  · refine lv_aload_n hx hb dX1_hasRoomAfter_11 rfl (lv_at hl 0 rfl) ?_
    refine va_get (D := G) (ci := 0) (v := .int (nI (mN M))) (C := RX1) (T := TX1) (N := 13) hx hb hts iX1_hasRoomAfter_X1 hown hK hP 0 rfl rfl 5 (by decide) (hts (.fieldLink RX1 51 "NailedOrders$Door" "orders" "I") (by decide +kernel)) (fun _ h9 => h9) rfl dX1_hasRoomAfter_12 ?_
    refine lv_iload_n hx hb dX1_hasRoomAfter_15 rfl (lv_at hl 1 rfl) ?_
    refine lv_iadd hx hb dX1_hasRoomAfter_16 ?_
    rw [nI_add]
    refine lv_bipush (v := nI 40) hx hb dX1_hasRoomAfter_17 (by decide +kernel) ?_
    refine o_icmp_ge (tgt := 26) hx hb dX1_hasRoomAfter_19 (by decide) (by omega) (by omega) (fun c19 => ?_) (fun c19 => ?_)
    · refine lv_iconst (v := nI 0) hx hb dX1_hasRoomAfter_26 (by decide +kernel) ?_
      exact o_endZ hx hb hr hlocks dX1_hasRoomAfter_27 (by decide) ((by rw [bI_f (by omega)]; decide))
    · refine lv_iconst (v := nI 1) hx hb dX1_hasRoomAfter_22 (by decide +kernel) ?_
      refine lv_goto (tgt := 27) hx hb dX1_hasRoomAfter_23 (by decide) ?_
      exact o_endZ hx hb hr hlocks dX1_hasRoomAfter_27 (by decide) ((by rw [bI_t (by omega)]; decide))
end
section
/-! the walk's own rows: writes -/
theorem o_fnV {cA : ClassId} {n : Nat} {f g : Nat → Value} (h : ∀ j, j < n → f j = g j) : arrV cA n f = arrV cA n g := by
  have e : (fun j : Fin n => f j.val) = fun j : Fin n => g j.val := funext fun j => h j.val j.isLt
  show ({ cls := cA, slots := Array.ofFn (n := n) fun j => f j.val, vm := .none } : Cell) = { cls := cA, slots := Array.ofFn (n := n) fun j => g j.val, vm := .none }
  rw [e]
theorem o_cellI {D : va_G} {cl : List vw_C} {a : Nat} {cA : ClassId} {n : Nat} {f g : Nat → Int32} {H : Heap} (h : ∀ j, j < n → f j = g j) (hp : va_at D cl (a, .inl (cA, n, .inl f)) H) : va_at D cl (a, .inl (cA, n, .inl g)) H := by
  show H[a]? = some (vp_cell cA (n, .inl g))
  have hq : H[a]? = some (vp_cell cA (n, .inl f)) := hp
  rw [hq, vp_cell_i, vp_cell_i, o_fnV (fun j hj => by rw [h j hj])]
theorem o_cellF {D : va_G} {cl : List vw_C} {a : Nat} {cA : ClassId} {n : Nat} {f g : Nat → UInt32} {H : Heap} (h : ∀ j, j < n → f j = g j) (hp : va_at D cl (a, .inl (cA, n, .inr (.inr (.inl f)))) H) : va_at D cl (a, .inl (cA, n, .inr (.inr (.inl g)))) H := by
  show H[a]? = some (vp_cell cA (n, .inr (.inr (.inl g))))
  have hq : H[a]? = some (vp_cell cA (n, .inr (.inr (.inl f)))) := hp
  rw [hq, vp_cell_f, vp_cell_f, o_fnV (fun j hj => by rw [h j hj])]
theorem o_cellD {D : va_G} {cl : List vw_C} {a : Nat} {cA : ClassId} {n : Nat} {f g : Nat → UInt64} {H : Heap} (h : ∀ j, j < n → f j = g j) (hp : va_at D cl (a, .inl (cA, n, .inr (.inr (.inr (.inl f))))) H) : va_at D cl (a, .inl (cA, n, .inr (.inr (.inr (.inl g))))) H := by
  show H[a]? = some (vp_cell cA (n, .inr (.inr (.inr (.inl g)))))
  have hq : H[a]? = some (vp_cell cA (n, .inr (.inr (.inr (.inl f))))) := hp
  rw [hq, vp_cell_d, vp_cell_d, o_fnV (fun j hj => by rw [h j hj])]
theorem o_cellR {D : va_G} {cl : List vw_C} {a : Nat} {cA : ClassId} {n : Nat} {f g : Nat → Option Nat} {H : Heap} (h : ∀ j, j < n → f j = g j) (hp : va_at D cl (a, .inl (cA, n, .inr (.inr (.inr (.inr f))))) H) : va_at D cl (a, .inl (cA, n, .inr (.inr (.inr (.inr g))))) H := by
  show H[a]? = some (vp_cell cA (n, .inr (.inr (.inr (.inr g)))))
  have hq : H[a]? = some (vp_cell cA (n, .inr (.inr (.inr (.inr f))))) := hp
  rw [hq, vp_cell_q, vp_cell_q, o_fnV (fun j hj => by rw [h j hj])]
/-- one entry said otherwise -/
theorem o_set {D : va_G} {cl : List vw_C} {ws : va_W} {p : Nat} {x y : Nat × va_E} {H : Heap} (hP : va_P D cl (ws.set p x) H) (h : va_at D cl x H → va_at D cl y H) : va_P D cl (ws.set p y) H := by
  intro k q hk
  by_cases hkp : k = p
  · subst hkp
    by_cases hl : k < ws.length
    · rw [List.getElem?_set_self hl] at hk
      cases hk
      exact h (hP k x (List.getElem?_set_self hl))
    · rw [List.getElem?_eq_none (by rw [List.length_set]; omega)] at hk
      cases hk
  · rw [List.getElem?_set_ne (Ne.symm hkp)] at hk
    exact hP k q (by rw [List.getElem?_set_ne (Ne.symm hkp)]; exact hk)
/-- the same addresses in the same order are as much apart -/
theorem vd_same {A : Nat → Prop} {ws ws' : va_W} (hD : va_D A ws) (h : ws.map (·.1) = ws'.map (·.1)) : va_D A ws' := by
  have key : ∀ (k : Nat) (q : Nat × va_E), ws'[k]? = some q → ∃ e, ws[k]? = some (q.1, e) := by
    intro k q hk
    have h1 : (ws.map (·.1))[k]? = some q.1 := by rw [h, List.getElem?_map, hk]; rfl
    rw [List.getElem?_map] at h1
    cases hw : ws[k]? with
    | none => rw [hw] at h1; cases h1
    | some x => rw [hw] at h1; exact ⟨x.2, by rw [show x = (x.1, x.2) from rfl, show x.1 = q.1 from Option.some.inj h1]⟩
  refine ⟨fun i j x y hi hj hxy => ?_, fun k q hk => ?_⟩
  · obtain ⟨e1, h1⟩ := key i x hi
    obtain ⟨e2, h2⟩ := key j y hj
    exact hD.1 i j _ _ h1 h2 hxy
  · obtain ⟨e1, h1⟩ := key k q hk
    exact hD.2 k (q.1, e1) h1
/-- behind a call that writes: the caller's other cells, and the callee's as they are now -/
theorem o_join {A0 : Nat → Prop} {D : va_G} {cl : List vw_C} {ws wc wr w1 : va_W} {H H1 : Heap} (hP : va_P D cl ws H) (hD : va_D A0 ws) (isC isR : List Nat) (hC : isC.map (fun i => ws[i]?) = wc.map some) (hR : isR.map (fun i => ws[i]?) = wr.map some) (hn : va_nd isR = true) (hnC : va_nd isC = true) (hdis : ∀ i ∈ isR, i ∉ isC)
    (hk : ∀ q : Nat, q < H.size → ¬ va_A wc H.size q → H1[q]? = H[q]?) (hF : ∀ q, va_A wc H.size q → A0 q) (hP1 : va_P D cl w1 H1) (hf : wc.map (·.1) = w1.map (·.1)) : va_P D cl (wr ++ w1) H1 :=
  (va_join hP hD isC isR hC hR hn hdis hk hF hP1 (vd_same ((hD.sub isC hnC hC).self) hf)).1
theorem upd_nI (m : Nat → Nat) (k v : Nat) : upd (fun j => nI (m j)) k (nI v) = fun j => nI (va_up m k v j) := by
  funext j
  unfold upd va_up
  split <;> rfl
theorem upd_lk (m : Nat → Option Nat) (k : Nat) (v : Option Nat) : upd (fun j => lkI (m j)) k (lkI v) = fun j => lkI (va_up m k v j) := by
  funext j
  unfold upd va_up
  split <;> rfl
theorem upd_bI (m : Nat → Bool) (k : Nat) (v : Bool) : upd (fun j => bI (m j = true)) k (bI (v = true)) = fun j => bI (va_up m k v j = true) := by
  funext j
  unfold upd va_up
  by_cases h : j = k
  · simp only [h, if_true]
  · simp only [h, if_false]
section OK4
variable {p : Program} {l : Launch} {e : Env} {R : Room} {s : State} {m : MethodId} {args : Array Value} {below : List Frame} {meth : Method} {c : Code} {H H0 : Heap} {locs : List Loc} {cells slots : Nat} {Q : State → Prop}
variable {pc : Nat} {ls : Array Slot} {rest : List Value} {cc : ByteArray} {D : va_G} {cl : List vw_C} {tys : List (ClassId × FieldType)} {ws : va_W} {A : Nat → Prop} {a : Nat} {cA : ClassId} {n : Nat}
theorem o_iast (hx : p.tables.exec = Jvm.exec) (hb : c.code = cc) (hK : va_K D cl tys s) (hP : va_P D cl ws H) (hD : va_D A ws) (hS : va_S A H0 H locs) (q0 t0 : Nat) {f : Nat → Int32} (ha : ws[q0]? = some (a, .inl (cA, n, .inl f))) (ht : tys[t0]? = some (cA, .int)) (k : Nat) (hk : k < n) (hn : n < 2 ^ 31) {x : Int32} {g : Nat → Int32} (hg : upd f k x = g) (hdg : decode cc pc = .ok (.iastore, 1))
    (kk : ∀ (H1 : Heap) (locs1 : List Loc), va_P D cl (ws.set q0 (a, .inl (cA, n, .inl g))) H1 → va_D A (ws.set q0 (a, .inl (cA, n, .inl g))) → va_S A H0 H1 locs1 → W p l e R s m args below meth c H1 locs1 cells slots Q (F0 m (pc + 1) ls rest)) : W p l e R s m args below meth c H locs cells slots Q (F0 m pc ls (.int x :: .int (nI k) :: .ref a :: rest)) := by
  refine va_iast hx hb hK hP hD hS q0 t0 ha ht (vp_in_nI hk hn) hdg ?_
  rw [nI_clamp (Nat.lt_trans hk hn), hg]
  exact kk
theorem o_zast (hx : p.tables.exec = Jvm.exec) (hb : c.code = cc) (hK : va_K D cl tys s) (hP : va_P D cl ws H) (hD : va_D A ws) (hS : va_S A H0 H locs) (q0 t0 : Nat) {f : Nat → Int32} (ha : ws[q0]? = some (a, .inl (cA, n, .inl f))) (ht : tys[t0]? = some (cA, .boolean)) (k : Nat) (hk : k < n) (hn : n < 2 ^ 31) {x : Int32} {g : Nat → Int32} (hg : upd f k (vp_nar .boolean x) = g) (hdg : decode cc pc = .ok (.bastore, 1))
    (kk : ∀ (H1 : Heap) (locs1 : List Loc), va_P D cl (ws.set q0 (a, .inl (cA, n, .inl g))) H1 → va_D A (ws.set q0 (a, .inl (cA, n, .inl g))) → va_S A H0 H1 locs1 → W p l e R s m args below meth c H1 locs1 cells slots Q (F0 m (pc + 1) ls rest)) : W p l e R s m args below meth c H locs cells slots Q (F0 m pc ls (.int x :: .int (nI k) :: .ref a :: rest)) := by
  refine va_zast hx hb hK hP hD hS q0 t0 ha ht (vp_in_nI hk hn) hdg ?_
  rw [nI_clamp (Nat.lt_trans hk hn), hg]
  exact kk
theorem o_fast (hx : p.tables.exec = Jvm.exec) (hb : c.code = cc) (hK : va_K D cl tys s) (hP : va_P D cl ws H) (hD : va_D A ws) (hS : va_S A H0 H locs) (q0 t0 : Nat) {f : Nat → UInt32} (ha : ws[q0]? = some (a, .inl (cA, n, .inr (.inr (.inl f))))) (ht : tys[t0]? = some (cA, .float)) (k : Nat) (hk : k < n) (hn : n < 2 ^ 31) {x : UInt32} {g : Nat → UInt32} (hg : va_up f k x = g) (hdg : decode cc pc = .ok (.fastore, 1))
    (kk : ∀ (H1 : Heap) (locs1 : List Loc), va_P D cl (ws.set q0 (a, .inl (cA, n, .inr (.inr (.inl g))))) H1 → va_D A (ws.set q0 (a, .inl (cA, n, .inr (.inr (.inl g))))) → va_S A H0 H1 locs1 → W p l e R s m args below meth c H1 locs1 cells slots Q (F0 m (pc + 1) ls rest)) : W p l e R s m args below meth c H locs cells slots Q (F0 m pc ls (.float x :: .int (nI k) :: .ref a :: rest)) := by
  refine va_fast hx hb hK hP hD hS q0 t0 ha ht (vp_in_nI hk hn) hdg ?_
  rw [nI_clamp (Nat.lt_trans hk hn), show vf_upd f k x = g from hg]
  exact kk
theorem o_dast (hx : p.tables.exec = Jvm.exec) (hb : c.code = cc) (hK : va_K D cl tys s) (hP : va_P D cl ws H) (hD : va_D A ws) (hS : va_S A H0 H locs) (q0 t0 : Nat) {f : Nat → UInt64} (ha : ws[q0]? = some (a, .inl (cA, n, .inr (.inr (.inr (.inl f)))))) (ht : tys[t0]? = some (cA, .double)) (k : Nat) (hk : k < n) (hn : n < 2 ^ 31) {x : UInt64} {g : Nat → UInt64} (hg : va_up f k x = g) (hdg : decode cc pc = .ok (.dastore, 1))
    (kk : ∀ (H1 : Heap) (locs1 : List Loc), va_P D cl (ws.set q0 (a, .inl (cA, n, .inr (.inr (.inr (.inl g)))))) H1 → va_D A (ws.set q0 (a, .inl (cA, n, .inr (.inr (.inr (.inl g)))))) → va_S A H0 H1 locs1 → W p l e R s m args below meth c H1 locs1 cells slots Q (F0 m (pc + 1) ls rest)) : W p l e R s m args below meth c H locs cells slots Q (F0 m pc ls (.double x :: .int (nI k) :: .ref a :: rest)) := by
  refine va_dast hx hb hK hP hD hS q0 t0 ha ht (vp_in_nI hk hn) hdg ?_
  rw [nI_clamp (Nat.lt_trans hk hn), show vf_upd f k x = g from hg]
  exact kk
theorem cpy_all {α : Type} (f g : Nat → α) (n j : Nat) (h : j < n) : va_cpy f g 0 0 n j = f j := by
  unfold va_cpy
  rw [if_pos ⟨Nat.zero_le _, by omega⟩, Nat.sub_zero, Nat.zero_add]
/-- a whole row copied -/
theorem o_copyi (hx : p.tables.exec = Jvm.exec) (hb : c.code = cc) (hml : c.maxLocals = ls.size) {own : String} {index : Nat} (hown : s.vm.findClass own = some m.cls) (hlink : (Cond.methodLink own index arraycopyName).before args s = true) (hnat : (Cond.native arraycopyName).before args s = true) (hstat : (Cond.static arraycopyName).before args s = true) (hini : (Cond.initialized "java/lang/System").before args s = true)
    (hK : va_K D cl tys s) (hP : va_P D cl ws H) (hD : va_D A ws) (hS : va_S A H0 H locs) (q0 q1 t0 : Nat) {a0 : Nat} {f g : Nat → Int32} (ha0 : ws[q0]? = some (a0, .inl (cA, n, .inl f))) (ha1 : ws[q1]? = some (a, .inl (cA, n, .inl g))) (ht0 : tys[t0]? = some (cA, .int)) (hn : n < 2 ^ 31)
    (hframes : 1 ≤ R.frames) (hlocals : (rest.map fun v => v.category).sum + (nativeFrameWords "java/lang/System" "arraycopy" 5 + 11) ≤ R.locals) (hdg : decode cc pc = .ok (.invokestatic index, 3))
    (kk : ∀ (H1 : Heap) (locs1 : List Loc), va_P D cl (ws.set q1 (a, .inl (cA, n, .inl f))) H1 → va_D A (ws.set q1 (a, .inl (cA, n, .inl f))) → va_S A H0 H1 locs1 → W p l e R s m args below meth c H1 locs1 cells slots Q (F0 m (pc + 3) ls rest)) : W p l e R s m args below meth c H locs cells slots Q (F0 m pc ls (.int (nI n) :: .int (nI 0) :: .ref a :: .int (nI 0) :: .ref a0 :: rest)) := by
  have e0 : (nI 0).toNatClampNeg = 0 := by decide
  have en : (nI n).toNatClampNeg = n := nI_clamp hn
  refine va_copyi hx hb hml hown hlink hnat hstat hini hK hP hD hS q0 q1 t0 t0 ha0 ha1 ht0 ht0 rfl (by decide) (by decide) (nI_pos hn) (by rw [e0, en]; omega) (by rw [e0, en]; omega) (fun i hi => rfl) hframes hlocals hdg (fun H1 locs1 hP1 hD1 hS1 => ?_)
  rw [e0, en] at hP1
  exact kk H1 locs1 (o_set hP1 (o_cellI (fun j hj => cpy_all f g n j hj))) (vd_same hD1 (by rw [List.map_set, List.map_set])) hS1
theorem o_copyf (hx : p.tables.exec = Jvm.exec) (hb : c.code = cc) (hml : c.maxLocals = ls.size) {own : String} {index : Nat} (hown : s.vm.findClass own = some m.cls) (hlink : (Cond.methodLink own index arraycopyName).before args s = true) (hnat : (Cond.native arraycopyName).before args s = true) (hstat : (Cond.static arraycopyName).before args s = true) (hini : (Cond.initialized "java/lang/System").before args s = true)
    (hK : va_K D cl tys s) (hP : va_P D cl ws H) (hD : va_D A ws) (hS : va_S A H0 H locs) (q0 q1 t0 : Nat) {a0 : Nat} {f g : Nat → UInt32} (ha0 : ws[q0]? = some (a0, .inl (cA, n, .inr (.inr (.inl f))))) (ha1 : ws[q1]? = some (a, .inl (cA, n, .inr (.inr (.inl g))))) (ht0 : tys[t0]? = some (cA, .float)) (hn : n < 2 ^ 31)
    (hframes : 1 ≤ R.frames) (hlocals : (rest.map fun v => v.category).sum + (nativeFrameWords "java/lang/System" "arraycopy" 5 + 11) ≤ R.locals) (hdg : decode cc pc = .ok (.invokestatic index, 3))
    (kk : ∀ (H1 : Heap) (locs1 : List Loc), va_P D cl (ws.set q1 (a, .inl (cA, n, .inr (.inr (.inl f))))) H1 → va_D A (ws.set q1 (a, .inl (cA, n, .inr (.inr (.inl f))))) → va_S A H0 H1 locs1 → W p l e R s m args below meth c H1 locs1 cells slots Q (F0 m (pc + 3) ls rest)) : W p l e R s m args below meth c H locs cells slots Q (F0 m pc ls (.int (nI n) :: .int (nI 0) :: .ref a :: .int (nI 0) :: .ref a0 :: rest)) := by
  have e0 : (nI 0).toNatClampNeg = 0 := by decide
  have en : (nI n).toNatClampNeg = n := nI_clamp hn
  refine va_copyf hx hb hml hown hlink hnat hstat hini hK hP hD hS q0 q1 t0 t0 ha0 ha1 ht0 ht0 rfl (by decide) (by decide) (nI_pos hn) (by rw [e0, en]; omega) (by rw [e0, en]; omega) (fun i hi => rfl) hframes hlocals hdg (fun H1 locs1 hP1 hD1 hS1 => ?_)
  rw [e0, en] at hP1
  exact kk H1 locs1 (o_set hP1 (o_cellF (fun j hj => cpy_all f g n j hj))) (vd_same hD1 (by rw [List.map_set, List.map_set])) hS1
end OK4
/-- a method that writes its world W0, which is W1 afterwards -/
abbrev qVm (A : Nat → Prop) (W1 : va_W) (G : va_G) : Array Value → State → Outcome → State → Prop := va_Qv (fun (_ : Unit) => True) (fun _ t => va_P G vwCl W1 t.heap) A
abbrev qIm (A : Nat → Prop) (v : Int32) (W1 : va_W) (G : va_G) : Array Value → State → Outcome → State → Prop := va_Qi (fun r (_ : Unit) => r = v) (fun _ t => va_P G vwCl W1 t.heap) A
abbrev MutV (l : Launch) (y : MethodName) (ws : List Cond) (f lo : Nat) (av : List Value) (H0 : Heap) (G : va_G) (cy : Nat → ClassId) (W0 W1 : va_W) : Prop := Met l y ws (oR f lo) (pR av H0 G cy) (qVm (va_A W0 H0.size) W1 G) 0 0 (va_A W0 H0.size)
abbrev MutI (l : Launch) (y : MethodName) (ws : List Cond) (f lo : Nat) (av : List Value) (H0 : Heap) (G : va_G) (cy : Nat → ClassId) (v : Int32) (W0 W1 : va_W) : Prop := Met l y ws (oR f lo) (pR av H0 G cy) (qIm (va_A W0 H0.size) v W1 G) 0 0 (va_A W0 H0.size)
section OK5
variable {p : Program} {l : Launch} {e : Env} {R : Room} {s : State} {m : MethodId} {args : Array Value} {below : List Frame} {meth : Method} {c : Code} {H : Heap} {locs : List Loc} {cells slots : Nat} {Q : State → Prop}
variable {pc : Nat} {ls : Array Slot} {rest st0 As : List Value} {cc bytes : ByteArray} {G : va_G} {cy : Nat → ClassId} {y : MethodName} {ws : List Cond} {f lo maxL nL n index : Nat} {ret : Option FieldType} {Ts : List Cond} {own C : String} {b : Addr} {a : Array Value} {A : Nat → Prop} {W1 : va_W}
theorem o_endVm (hx : p.tables.exec = Jvm.exec) (hb : c.code = cc) (hr : meth.sig.returnType = none) (hlocks : meth.locks = false) (hdg : decode cc pc = .ok (.return_, 1)) (hP : va_P G vwCl W1 H) (hS : va_S A s.heap H locs) :
    W p l e R s m args below meth c H locs 0 0 (MQ below (qVm A W1 G) args s 0 0 A) (F0 m pc ls []) :=
  W.vret hx hb hr (fun t ht hW => ⟨⟨(), rfl, trivial, by show va_P G vwCl W1 t.heap; rw [ht]; exact hP⟩, hS.F ht⟩) hS.2.2 hdg hlocks
theorem o_endIm {v v' : Int32} (hx : p.tables.exec = Jvm.exec) (hb : c.code = cc) (hr : meth.sig.returnType = some .int) (hlocks : meth.locks = false) (hdg : decode cc pc = .ok (.ireturn, 1)) (hP : va_P G vwCl W1 H) (hS : va_S A s.heap H locs) (hv : v = v') :
    W p l e R s m args below meth c H locs 0 0 (MQ below (qIm A v' W1 G) args s 0 0 A) (F0 m pc ls [.int v]) :=
  W.iret hx hb hr (fun t ht hW => ⟨⟨v, (), rfl, hv, by show va_P G vwCl W1 t.heap; rw [ht]; exact hP⟩, hS.F ht⟩) hS.2.2 hdg hlocks
end OK5
end
section
set_option maxRecDepth 100000 in
theorem iX1_admit_X1 : ∀ w ∈ u_ws RX1 TX1 13, w ∈ wsX1_admit := by decide +kernel
set_option maxHeartbeats 4000000 in
set_option maxRecDepth 100000 in
theorem kX1_admit (l : Launch) (G : va_G) (cy : Nat → ClassId) {H0 : Heap} {q : Nat → Nat} {M : MT} {A0 : Nat → Prop} (hW : WB M) (hP : va_P G vwCl (wDo cy q M) H0) (hD0 : va_D A0 (wDo cy q M)) (r : Nat) (hp : mP M < 6) : MutI l yX1_admit wsX1_admit 0 0 [.ref (q 0), .int (nI r)] H0 G cy (nI (mP M)) (wDo cy q M) (wDo cy q (mP M + 1, mN M, mS M, mB M, mT M, va_up (mR M) (mP M) r, mO M, mW M, mL M, mF M, mA M, mU M, mH M)) := by
  refine Met.ofW (cc := cX1_admit) (maxL := 3) (ret := (some .int)) (by decide) rfl ?_
  intro p e s m args below meth c s₁ B hml hv
  obtain ⟨rfl, hH, hK⟩ := hv
  subst hH
  have hx := B.exec
  have hb := B.bytes
  have hr := B.returns
  have hts := atoms_spec (ws := wsX1_admit) B.pre
  have hown : s.vm.findClass RX1 = some m.cls := findClass_of_methodNamed B.named
  have hlocks := B.notSynchronized
  have hl := lv_entry ([.ref (q 0), .int (nI r)]) (n := 3) (Nat.le_of_ble_eq_true rfl)
  rw [lg_entry_eq]
  generalize (lg_sl ([.ref (q 0), .int (nI r)]) ++ List.replicate (3 - (lg_sl ([.ref (q 0), .int (nI r)])).length) Slot.unset).toArray = ls at hl ⊢
  have hl : lv_has ls 3 [(0, .ref (q 0)), (1, .int (nI r))] := hl
  obtain ⟨bP, bN, bR, bO, bW, bL, bF⟩ := id hW
  have hD := hD0.self (sz := s.heap.size)
  generalize hAe : va_A (wDo cy q M) s.heap.size = A at hD ⊢
  have hA : ∀ q : Nat, s.heap.size ≤ q → A q := fun q h => by rw [← hAe]; exact Or.inr h
  have hS : va_S A s.heap s.heap [] := va_S.rf
  refine lv_aload_n hx hb dX1_admit_0 rfl (lv_at hl 0 rfl) ?_
  refine va_get (D := G) (ci := 0) (v := .int (nI (mP M))) (C := RX1) (T := TX1) (N := 13) hx hb hts iX1_admit_X1 hown hK hP 0 rfl rfl 0 (by decide) (hts (.fieldLink RX1 37 "NailedOrders$Door" "persons" "I") (by decide +kernel)) (fun _ h9 => h9) rfl dX1_admit_1 ?_
  refine lv_istore_n (lv' := [(2, .int (nI (mP M))), (0, .ref (q 0)), (1, .int (nI r))]) hx hb dX1_admit_4 rfl hl (by decide) rfl (fun ls hl => ?_)
  refine lv_aload_n hx hb dX1_admit_5 rfl (lv_at hl 1 rfl) ?_
  refine va_get (D := G) (ci := 0) (v := .ref (q 1)) (C := RX1) (T := TX1) (N := 13) hx hb hts iX1_admit_X1 hown hK hP 0 rfl rfl 1 (by decide) (hts (.fieldLink RX1 9 "NailedOrders$Door" "ranks" "[I") (by decide +kernel)) (fun _ h9 => h9) rfl dX1_admit_6 ?_
  refine lv_iload_n hx hb dX1_admit_9 rfl (lv_at hl 0 rfl) ?_
  refine lv_iload_n hx hb dX1_admit_10 rfl (lv_at hl 2 rfl) ?_
  refine o_iast hx hb hK hP hD hS 1 0 rfl rfl (mP M) (by omega) (by decide) (upd_nI (mR M) (mP M) r) dX1_admit_11 (fun H locs hP hD hS => ?_)
  have hP : va_P G vwCl (wDo cy q (mP M, mN M, mS M, mB M, mT M, va_up (mR M) (mP M) r, mO M, mW M, mL M, mF M, mA M, mU M, mH M)) H := hP
  have hD : va_D A (wDo cy q (mP M, mN M, mS M, mB M, mT M, va_up (mR M) (mP M) r, mO M, mW M, mL M, mF M, mA M, mU M, mH M)) := hD
  refine lv_aload_n hx hb dX1_admit_12 rfl (lv_at hl 1 rfl) ?_
  refine lv_dup hx hb dX1_admit_13 rfl ?_
  refine va_get (D := G) (ci := 0) (v := .int (nI (mP M))) (C := RX1) (T := TX1) (N := 13) hx hb hts iX1_admit_X1 hown hK hP 0 rfl rfl 0 (by decide) (hts (.fieldLink RX1 37 "NailedOrders$Door" "persons" "I") (by decide +kernel)) (fun _ h9 => h9) rfl dX1_admit_14 ?_
  refine lv_iconst (v := nI 1) hx hb dX1_admit_17 (by decide +kernel) ?_
  refine lv_iadd hx hb dX1_admit_18 ?_
  rw [nI_add]
  refine va_put (D := G) (ci := 0) (v := .int (nI ((mP M) + 1))) (ty := .int) (C := RX1) (T := TX1) (N := 13) hx hb hts iX1_admit_X1 tyX1 tyX1_ok nmX1 hown hK hP hD hS 0 rfl rfl 0 (by decide) (hts (.fieldLink RX1 37 "NailedOrders$Door" "persons" "I") (by decide +kernel)) (fun _ h9 => h9) rfl (by decide +kernel) rfl rfl (Nat.le_of_ble_eq_true rfl) dX1_admit_19 (fun H locs hP hD hS => ?_)
  have hP : va_P G vwCl (wDo cy q ((mP M) + 1, mN M, mS M, mB M, mT M, va_up (mR M) (mP M) r, mO M, mW M, mL M, mF M, mA M, mU M, mH M)) H := hP
  have hD : va_D A (wDo cy q ((mP M) + 1, mN M, mS M, mB M, mT M, va_up (mR M) (mP M) r, mO M, mW M, mL M, mF M, mA M, mU M, mH M)) := hD
  refine lv_iload_n hx hb dX1_admit_22 rfl (lv_at hl 0 rfl) ?_
  exact o_endIm hx hb hr hlocks dX1_admit_23 hP hS rfl

set_option maxRecDepth 100000 in
theorem iX1_hang_X1 : ∀ w ∈ u_ws RX1 TX1 13, w ∈ wsX1_hang := by decide +kernel
set_option maxHeartbeats 4000000 in
set_option maxRecDepth 100000 in
theorem kX1_hang (l : Launch) (G : va_G) (cy : Nat → ClassId) {H0 : Heap} {q : Nat → Nat} {M : MT} {A0 : Nat → Prop} (hW : WB M) (hP : va_P G vwCl (wDo cy q M) H0) (hD0 : va_D A0 (wDo cy q M)) (x w : Nat) (k : Option Nat) (fa nu st : UInt32) (hn : mN M < 40) : MutI l yX1_hang wsX1_hang 0 0 [.ref (q 0), .int (nI x), .int (nI w), .int (lkI k), .float fa, .float nu, .float st] H0 G cy (nI (mN M)) (wDo cy q M) (wDo cy q (mP M, mN M + 1, mS M, mB M, mT M, mR M, va_up (mO M) (mN M) x, va_up (mW M) (mN M) w, va_up (mL M) (mN M) k, va_up (mF M) (mN M) 1, va_up (mA M) (mN M) fa, va_up (mU M) (mN M) nu, va_up (mH M) (mN M) st)) := by
  refine Met.ofW (cc := cX1_hang) (maxL := 8) (ret := (some .int)) (by decide) rfl ?_
  intro p e s m args below meth c s₁ B hml hv
  obtain ⟨rfl, hH, hK⟩ := hv
  subst hH
  have hx := B.exec
  have hb := B.bytes
  have hr := B.returns
  have hts := atoms_spec (ws := wsX1_hang) B.pre
  have hown : s.vm.findClass RX1 = some m.cls := findClass_of_methodNamed B.named
  have hlocks := B.notSynchronized
  have hl := lv_entry ([.ref (q 0), .int (nI x), .int (nI w), .int (lkI k), .float fa, .float nu, .float st]) (n := 8) (Nat.le_of_ble_eq_true rfl)
  rw [lg_entry_eq]
  generalize (lg_sl ([.ref (q 0), .int (nI x), .int (nI w), .int (lkI k), .float fa, .float nu, .float st]) ++ List.replicate (8 - (lg_sl ([.ref (q 0), .int (nI x), .int (nI w), .int (lkI k), .float fa, .float nu, .float st])).length) Slot.unset).toArray = ls at hl ⊢
  have hl : lv_has ls 8 [(0, .ref (q 0)), (1, .int (nI x)), (2, .int (nI w)), (3, .int (lkI k)), (4, .float fa), (5, .float nu), (6, .float st)] := hl
  obtain ⟨bP, bN, bR, bO, bW, bL, bF⟩ := id hW
  have hD := hD0.self (sz := s.heap.size)
  generalize hAe : va_A (wDo cy q M) s.heap.size = A at hD ⊢
  have hA : ∀ q : Nat, s.heap.size ≤ q → A q := fun q h => by rw [← hAe]; exact Or.inr h
  have hS : va_S A s.heap s.heap [] := va_S.rf
  refine lv_aload_n hx hb dX1_hang_0 rfl (lv_at hl 0 rfl) ?_
  refine va_get (D := G) (ci := 0) (v := .int (nI (mN M))) (C := RX1) (T := TX1) (N := 13) hx hb hts iX1_hang_X1 hown hK hP 0 rfl rfl 5 (by decide) (hts (.fieldLink RX1 51 "NailedOrders$Door" "orders" "I") (by decide +kernel)) (fun _ h9 => h9) rfl dX1_hang_1 ?_
  refine lv_istore (lv' := [(7, .int (nI (mN M))), (0, .ref (q 0)), (1, .int (nI x)), (2, .int (nI w)), (3, .int (lkI k)), (4, .float fa), (5, .float nu), (6, .float st)]) hx hb dX1_hang_4 hl (by decide) rfl (fun ls hl => ?_)
  refine lv_aload_n hx hb dX1_hang_6 rfl (lv_at hl 1 rfl) ?_
  refine va_get (D := G) (ci := 0) (v := .ref (q 6)) (C := RX1) (T := TX1) (N := 13) hx hb hts iX1_hang_X1 hown hK hP 0 rfl rfl 6 (by decide) (hts (.fieldLink RX1 15 "NailedOrders$Door" "owners" "[I") (by decide +kernel)) (fun _ h9 => h9) rfl dX1_hang_7 ?_
  refine lv_iload hx hb dX1_hang_10 (lv_at hl 0 rfl) ?_
  refine lv_iload_n hx hb dX1_hang_12 rfl (lv_at hl 2 rfl) ?_
  refine o_iast hx hb hK hP hD hS 2 0 rfl rfl (mN M) (by omega) (by decide) (upd_nI (mO M) (mN M) x) dX1_hang_13 (fun H locs hP hD hS => ?_)
  have hP : va_P G vwCl (wDo cy q (mP M, mN M, mS M, mB M, mT M, mR M, va_up (mO M) (mN M) x, mW M, mL M, mF M, mA M, mU M, mH M)) H := hP
  have hD : va_D A (wDo cy q (mP M, mN M, mS M, mB M, mT M, mR M, va_up (mO M) (mN M) x, mW M, mL M, mF M, mA M, mU M, mH M)) := hD
  refine lv_aload_n hx hb dX1_hang_14 rfl (lv_at hl 1 rfl) ?_
  refine va_get (D := G) (ci := 0) (v := .ref (q 7)) (C := RX1) (T := TX1) (N := 13) hx hb hts iX1_hang_X1 hown hK hP 0 rfl rfl 7 (by decide) (hts (.fieldLink RX1 18 "NailedOrders$Door" "words" "[I") (by decide +kernel)) (fun _ h9 => h9) rfl dX1_hang_15 ?_
  refine lv_iload hx hb dX1_hang_18 (lv_at hl 0 rfl) ?_
  refine lv_iload_n hx hb dX1_hang_20 rfl (lv_at hl 3 rfl) ?_
  refine o_iast hx hb hK hP hD hS 3 0 rfl rfl (mN M) (by omega) (by decide) (upd_nI (mW M) (mN M) w) dX1_hang_21 (fun H locs hP hD hS => ?_)
  have hP : va_P G vwCl (wDo cy q (mP M, mN M, mS M, mB M, mT M, mR M, va_up (mO M) (mN M) x, va_up (mW M) (mN M) w, mL M, mF M, mA M, mU M, mH M)) H := hP
  have hD : va_D A (wDo cy q (mP M, mN M, mS M, mB M, mT M, mR M, va_up (mO M) (mN M) x, va_up (mW M) (mN M) w, mL M, mF M, mA M, mU M, mH M)) := hD
  refine lv_aload_n hx hb dX1_hang_22 rfl (lv_at hl 1 rfl) ?_
  refine va_get (D := G) (ci := 0) (v := .ref (q 8)) (C := RX1) (T := TX1) (N := 13) hx hb hts iX1_hang_X1 hown hK hP 0 rfl rfl 8 (by decide) (hts (.fieldLink RX1 21 "NailedOrders$Door" "links" "[I") (by decide +kernel)) (fun _ h9 => h9) rfl dX1_hang_23 ?_
  refine lv_iload hx hb dX1_hang_26 (lv_at hl 0 rfl) ?_
  refine lv_iload_n hx hb dX1_hang_28 rfl (lv_at hl 4 rfl) ?_
  refine o_iast hx hb hK hP hD hS 4 0 rfl rfl (mN M) (by omega) (by decide) (upd_lk (mL M) (mN M) k) dX1_hang_29 (fun H locs hP hD hS => ?_)
  have hP : va_P G vwCl (wDo cy q (mP M, mN M, mS M, mB M, mT M, mR M, va_up (mO M) (mN M) x, va_up (mW M) (mN M) w, va_up (mL M) (mN M) k, mF M, mA M, mU M, mH M)) H := hP
  have hD : va_D A (wDo cy q (mP M, mN M, mS M, mB M, mT M, mR M, va_up (mO M) (mN M) x, va_up (mW M) (mN M) w, va_up (mL M) (mN M) k, mF M, mA M, mU M, mH M)) := hD
  refine lv_aload_n hx hb dX1_hang_30 rfl (lv_at hl 1 rfl) ?_
  refine va_get (D := G) (ci := 0) (v := .ref (q 9)) (C := RX1) (T := TX1) (N := 13) hx hb hts iX1_hang_X1 hown hK hP 0 rfl rfl 9 (by decide) (hts (.fieldLink RX1 24 "NailedOrders$Door" "factors" "[F") (by decide +kernel)) (fun _ h9 => h9) rfl dX1_hang_31 ?_
  refine lv_iload hx hb dX1_hang_34 (lv_at hl 0 rfl) ?_
  refine lv_fload hx hb dX1_hang_36 (lv_at hl 5 rfl) ?_
  refine o_fast hx hb hK hP hD hS 5 1 rfl rfl (mN M) (by omega) (by decide) rfl dX1_hang_38 (fun H locs hP hD hS => ?_)
  have hP : va_P G vwCl (wDo cy q (mP M, mN M, mS M, mB M, mT M, mR M, va_up (mO M) (mN M) x, va_up (mW M) (mN M) w, va_up (mL M) (mN M) k, mF M, va_up (mA M) (mN M) fa, mU M, mH M)) H := hP
  have hD : va_D A (wDo cy q (mP M, mN M, mS M, mB M, mT M, mR M, va_up (mO M) (mN M) x, va_up (mW M) (mN M) w, va_up (mL M) (mN M) k, mF M, va_up (mA M) (mN M) fa, mU M, mH M)) := hD
  refine lv_aload_n hx hb dX1_hang_39 rfl (lv_at hl 1 rfl) ?_
  refine va_get (D := G) (ci := 0) (v := .ref (q 10)) (C := RX1) (T := TX1) (N := 13) hx hb hts iX1_hang_X1 hown hK hP 0 rfl rfl 10 (by decide) (hts (.fieldLink RX1 28 "NailedOrders$Door" "numbers" "[F") (by decide +kernel)) (fun _ h9 => h9) rfl dX1_hang_40 ?_
  refine lv_iload hx hb dX1_hang_43 (lv_at hl 0 rfl) ?_
  refine lv_fload hx hb dX1_hang_45 (lv_at hl 6 rfl) ?_
  refine o_fast hx hb hK hP hD hS 6 1 rfl rfl (mN M) (by omega) (by decide) rfl dX1_hang_47 (fun H locs hP hD hS => ?_)
  have hP : va_P G vwCl (wDo cy q (mP M, mN M, mS M, mB M, mT M, mR M, va_up (mO M) (mN M) x, va_up (mW M) (mN M) w, va_up (mL M) (mN M) k, mF M, va_up (mA M) (mN M) fa, va_up (mU M) (mN M) nu, mH M)) H := hP
  have hD : va_D A (wDo cy q (mP M, mN M, mS M, mB M, mT M, mR M, va_up (mO M) (mN M) x, va_up (mW M) (mN M) w, va_up (mL M) (mN M) k, mF M, va_up (mA M) (mN M) fa, va_up (mU M) (mN M) nu, mH M)) := hD
  refine lv_aload_n hx hb dX1_hang_48 rfl (lv_at hl 1 rfl) ?_
  refine va_get (D := G) (ci := 0) (v := .ref (q 11)) (C := RX1) (T := TX1) (N := 13) hx hb hts iX1_hang_X1 hown hK hP 0 rfl rfl 11 (by decide) (hts (.fieldLink RX1 31 "NailedOrders$Door" "strengths" "[F") (by decide +kernel)) (fun _ h9 => h9) rfl dX1_hang_49 ?_
  refine lv_iload hx hb dX1_hang_52 (lv_at hl 0 rfl) ?_
  refine lv_fload hx hb dX1_hang_54 (lv_at hl 7 rfl) ?_
  refine o_fast hx hb hK hP hD hS 7 1 rfl rfl (mN M) (by omega) (by decide) rfl dX1_hang_56 (fun H locs hP hD hS => ?_)
  have hP : va_P G vwCl (wDo cy q (mP M, mN M, mS M, mB M, mT M, mR M, va_up (mO M) (mN M) x, va_up (mW M) (mN M) w, va_up (mL M) (mN M) k, mF M, va_up (mA M) (mN M) fa, va_up (mU M) (mN M) nu, va_up (mH M) (mN M) st)) H := hP
  have hD : va_D A (wDo cy q (mP M, mN M, mS M, mB M, mT M, mR M, va_up (mO M) (mN M) x, va_up (mW M) (mN M) w, va_up (mL M) (mN M) k, mF M, va_up (mA M) (mN M) fa, va_up (mU M) (mN M) nu, va_up (mH M) (mN M) st)) := hD
  refine lv_aload_n hx hb dX1_hang_57 rfl (lv_at hl 1 rfl) ?_
  refine va_get (D := G) (ci := 0) (v := .ref (q 12)) (C := RX1) (T := TX1) (N := 13) hx hb hts iX1_hang_X1 hown hK hP 0 rfl rfl 12 (by decide) (hts (.fieldLink RX1 34 "NailedOrders$Door" "fates" "[I") (by decide +kernel)) (fun _ h9 => h9) rfl dX1_hang_58 ?_
  refine lv_iload hx hb dX1_hang_61 (lv_at hl 0 rfl) ?_
  refine lv_iconst (v := nI 1) hx hb dX1_hang_63 (by decide +kernel) ?_
  refine o_iast hx hb hK hP hD hS 8 0 rfl rfl (mN M) (by omega) (by decide) (upd_nI (mF M) (mN M) 1) dX1_hang_64 (fun H locs hP hD hS => ?_)
  have hP : va_P G vwCl (wDo cy q (mP M, mN M, mS M, mB M, mT M, mR M, va_up (mO M) (mN M) x, va_up (mW M) (mN M) w, va_up (mL M) (mN M) k, va_up (mF M) (mN M) 1, va_up (mA M) (mN M) fa, va_up (mU M) (mN M) nu, va_up (mH M) (mN M) st)) H := hP
  have hD : va_D A (wDo cy q (mP M, mN M, mS M, mB M, mT M, mR M, va_up (mO M) (mN M) x, va_up (mW M) (mN M) w, va_up (mL M) (mN M) k, va_up (mF M) (mN M) 1, va_up (mA M) (mN M) fa, va_up (mU M) (mN M) nu, va_up (mH M) (mN M) st)) := hD
  refine lv_aload_n hx hb dX1_hang_65 rfl (lv_at hl 1 rfl) ?_
  refine lv_dup hx hb dX1_hang_66 rfl ?_
  refine va_get (D := G) (ci := 0) (v := .int (nI (mN M))) (C := RX1) (T := TX1) (N := 13) hx hb hts iX1_hang_X1 hown hK hP 0 rfl rfl 5 (by decide) (hts (.fieldLink RX1 51 "NailedOrders$Door" "orders" "I") (by decide +kernel)) (fun _ h9 => h9) rfl dX1_hang_67 ?_
  refine lv_iconst (v := nI 1) hx hb dX1_hang_70 (by decide +kernel) ?_
  refine lv_iadd hx hb dX1_hang_71 ?_
  rw [nI_add]
  refine va_put (D := G) (ci := 0) (v := .int (nI ((mN M) + 1))) (ty := .int) (C := RX1) (T := TX1) (N := 13) hx hb hts iX1_hang_X1 tyX1 tyX1_ok nmX1 hown hK hP hD hS 0 rfl rfl 5 (by decide) (hts (.fieldLink RX1 51 "NailedOrders$Door" "orders" "I") (by decide +kernel)) (fun _ h9 => h9) rfl (by decide +kernel) rfl rfl (Nat.le_of_ble_eq_true rfl) dX1_hang_72 (fun H locs hP hD hS => ?_)
  have hP : va_P G vwCl (wDo cy q (mP M, (mN M) + 1, mS M, mB M, mT M, mR M, va_up (mO M) (mN M) x, va_up (mW M) (mN M) w, va_up (mL M) (mN M) k, va_up (mF M) (mN M) 1, va_up (mA M) (mN M) fa, va_up (mU M) (mN M) nu, va_up (mH M) (mN M) st)) H := hP
  have hD : va_D A (wDo cy q (mP M, (mN M) + 1, mS M, mB M, mT M, mR M, va_up (mO M) (mN M) x, va_up (mW M) (mN M) w, va_up (mL M) (mN M) k, va_up (mF M) (mN M) 1, va_up (mA M) (mN M) fa, va_up (mU M) (mN M) nu, va_up (mH M) (mN M) st)) := hD
  refine lv_iload hx hb dX1_hang_75 (lv_at hl 0 rfl) ?_
  exact o_endIm hx hb hr hlocks dX1_hang_77 hP hS rfl

set_option maxRecDepth 100000 in
theorem iX1_become_X1 : ∀ w ∈ u_ws RX1 TX1 13, w ∈ wsX1_become := by decide +kernel
set_option maxHeartbeats 4000000 in
set_option maxRecDepth 100000 in
theorem kX1_become (l : Launch) (G : va_G) (cy : Nat → ClassId) {H0 : Heap} {q q' : Nat → Nat} {M M' : MT} {A0 : Nat → Prop} (hP : va_P G vwCl (wDo cy q M ++ wDo cy q' M') H0) (hD0 : va_D A0 (wDo cy q M ++ wDo cy q' M')) : MutV l yX1_become wsX1_become 1 40 [.ref (q 0), .ref (q' 0)] H0 G cy (wDo cy q M ++ wDo cy q' M') (wDo cy q M' ++ wDo cy q' M') := by
  refine Met.ofW (cc := cX1_become) (maxL := 2) (ret := none) (by decide) rfl ?_
  intro p e s m args below meth c s₁ B hml hv
  obtain ⟨rfl, hH, hK⟩ := hv
  subst hH
  have hx := B.exec
  have hb := B.bytes
  have hr := B.returns
  have hts := atoms_spec (ws := wsX1_become) B.pre
  have hown : s.vm.findClass RX1 = some m.cls := findClass_of_methodNamed B.named
  have hlocks := B.notSynchronized
  have hl := lv_entry ([.ref (q 0), .ref (q' 0)]) (n := 2) (Nat.le_of_ble_eq_true rfl)
  rw [lg_entry_eq]
  generalize (lg_sl ([.ref (q 0), .ref (q' 0)]) ++ List.replicate (2 - (lg_sl ([.ref (q 0), .ref (q' 0)])).length) Slot.unset).toArray = ls at hl ⊢
  have hl : lv_has ls 2 [(0, .ref (q 0)), (1, .ref (q' 0))] := hl
  have hD := hD0.self (sz := s.heap.size)
  generalize hAe : va_A (wDo cy q M ++ wDo cy q' M') s.heap.size = A at hD ⊢
  have hA : ∀ q : Nat, s.heap.size ≤ q → A q := fun q h => by rw [← hAe]; exact Or.inr h
  have hS : va_S A s.heap s.heap [] := va_S.rf
  refine lv_aload_n hx hb dX1_become_0 rfl (lv_at hl 0 rfl) ?_
  refine lv_aload_n hx hb dX1_become_1 rfl (lv_at hl 1 rfl) ?_
  refine va_get (D := G) (ci := 0) (v := .int (nI (mP M'))) (C := RX1) (T := TX1) (N := 13) hx hb hts iX1_become_X1 hown hK hP 9 rfl rfl 0 (by decide) (hts (.fieldLink RX1 37 "NailedOrders$Door" "persons" "I") (by decide +kernel)) (fun _ h9 => h9) rfl dX1_become_2 ?_
  refine va_put (D := G) (ci := 0) (v := .int (nI (mP M'))) (ty := .int) (C := RX1) (T := TX1) (N := 13) hx hb hts iX1_become_X1 tyX1 tyX1_ok nmX1 hown hK hP hD hS 0 rfl rfl 0 (by decide) (hts (.fieldLink RX1 37 "NailedOrders$Door" "persons" "I") (by decide +kernel)) (fun _ h9 => h9) rfl (by decide +kernel) rfl rfl (Nat.le_of_ble_eq_true rfl) dX1_become_5 (fun H locs hP hD hS => ?_)
  have hP : va_P G vwCl (wDo cy q (mP M', mN M, mS M, mB M, mT M, mR M, mO M, mW M, mL M, mF M, mA M, mU M, mH M) ++ wDo cy q' M') H := hP
  have hD : va_D A (wDo cy q (mP M', mN M, mS M, mB M, mT M, mR M, mO M, mW M, mL M, mF M, mA M, mU M, mH M) ++ wDo cy q' M') := hD
  refine lv_aload_n hx hb dX1_become_8 rfl (lv_at hl 0 rfl) ?_
  refine lv_aload_n hx hb dX1_become_9 rfl (lv_at hl 1 rfl) ?_
  refine va_get (D := G) (ci := 0) (v := .int (mB M')) (C := RX1) (T := TX1) (N := 13) hx hb hts iX1_become_X1 hown hK hP 9 rfl rfl 2 (by decide) (hts (.fieldLink RX1 41 "NailedOrders$Door" "toleranceBits" "I") (by decide +kernel)) (fun _ h9 => h9) rfl dX1_become_10 ?_
  refine va_put (D := G) (ci := 0) (v := .int (mB M')) (ty := .int) (C := RX1) (T := TX1) (N := 13) hx hb hts iX1_become_X1 tyX1 tyX1_ok nmX1 hown hK hP hD hS 0 rfl rfl 2 (by decide) (hts (.fieldLink RX1 41 "NailedOrders$Door" "toleranceBits" "I") (by decide +kernel)) (fun _ h9 => h9) rfl (by decide +kernel) rfl rfl (Nat.le_of_ble_eq_true rfl) dX1_become_13 (fun H locs hP hD hS => ?_)
  have hP : va_P G vwCl (wDo cy q (mP M', mN M, mS M, mB M', mT M, mR M, mO M, mW M, mL M, mF M, mA M, mU M, mH M) ++ wDo cy q' M') H := hP
  have hD : va_D A (wDo cy q (mP M', mN M, mS M, mB M', mT M, mR M, mO M, mW M, mL M, mF M, mA M, mU M, mH M) ++ wDo cy q' M') := hD
  refine lv_aload_n hx hb dX1_become_16 rfl (lv_at hl 0 rfl) ?_
  refine lv_aload_n hx hb dX1_become_17 rfl (lv_at hl 1 rfl) ?_
  refine va_get (D := G) (ci := 0) (v := .float (mT M')) (C := RX1) (T := TX1) (N := 13) hx hb hts iX1_become_X1 hown hK hP 9 rfl rfl 3 (by decide) (hts (.fieldLink RX1 44 "NailedOrders$Door" "tolerance" "F") (by decide +kernel)) (fun _ h9 => h9) rfl dX1_become_18 ?_
  refine va_put (D := G) (ci := 0) (v := .float (mT M')) (ty := .float) (C := RX1) (T := TX1) (N := 13) hx hb hts iX1_become_X1 tyX1 tyX1_ok nmX1 hown hK hP hD hS 0 rfl rfl 3 (by decide) (hts (.fieldLink RX1 44 "NailedOrders$Door" "tolerance" "F") (by decide +kernel)) (fun _ h9 => h9) rfl (by decide +kernel) rfl rfl (Nat.le_of_ble_eq_true rfl) dX1_become_21 (fun H locs hP hD hS => ?_)
  have hP : va_P G vwCl (wDo cy q (mP M', mN M, mS M, mB M', mT M', mR M, mO M, mW M, mL M, mF M, mA M, mU M, mH M) ++ wDo cy q' M') H := hP
  have hD : va_D A (wDo cy q (mP M', mN M, mS M, mB M', mT M', mR M, mO M, mW M, mL M, mF M, mA M, mU M, mH M) ++ wDo cy q' M') := hD
  refine lv_aload_n hx hb dX1_become_24 rfl (lv_at hl 0 rfl) ?_
  refine lv_aload_n hx hb dX1_become_25 rfl (lv_at hl 1 rfl) ?_
  refine va_get (D := G) (ci := 0) (v := .int (nI (mS M'))) (C := RX1) (T := TX1) (N := 13) hx hb hts iX1_become_X1 hown hK hP 9 rfl rfl 4 (by decide) (hts (.fieldLink RX1 48 "NailedOrders$Door" "storms" "I") (by decide +kernel)) (fun _ h9 => h9) rfl dX1_become_26 ?_
  refine va_put (D := G) (ci := 0) (v := .int (nI (mS M'))) (ty := .int) (C := RX1) (T := TX1) (N := 13) hx hb hts iX1_become_X1 tyX1 tyX1_ok nmX1 hown hK hP hD hS 0 rfl rfl 4 (by decide) (hts (.fieldLink RX1 48 "NailedOrders$Door" "storms" "I") (by decide +kernel)) (fun _ h9 => h9) rfl (by decide +kernel) rfl rfl (Nat.le_of_ble_eq_true rfl) dX1_become_29 (fun H locs hP hD hS => ?_)
  have hP : va_P G vwCl (wDo cy q (mP M', mN M, mS M', mB M', mT M', mR M, mO M, mW M, mL M, mF M, mA M, mU M, mH M) ++ wDo cy q' M') H := hP
  have hD : va_D A (wDo cy q (mP M', mN M, mS M', mB M', mT M', mR M, mO M, mW M, mL M, mF M, mA M, mU M, mH M) ++ wDo cy q' M') := hD
  refine lv_aload_n hx hb dX1_become_32 rfl (lv_at hl 0 rfl) ?_
  refine lv_aload_n hx hb dX1_become_33 rfl (lv_at hl 1 rfl) ?_
  refine va_get (D := G) (ci := 0) (v := .int (nI (mN M'))) (C := RX1) (T := TX1) (N := 13) hx hb hts iX1_become_X1 hown hK hP 9 rfl rfl 5 (by decide) (hts (.fieldLink RX1 51 "NailedOrders$Door" "orders" "I") (by decide +kernel)) (fun _ h9 => h9) rfl dX1_become_34 ?_
  refine va_put (D := G) (ci := 0) (v := .int (nI (mN M'))) (ty := .int) (C := RX1) (T := TX1) (N := 13) hx hb hts iX1_become_X1 tyX1 tyX1_ok nmX1 hown hK hP hD hS 0 rfl rfl 5 (by decide) (hts (.fieldLink RX1 51 "NailedOrders$Door" "orders" "I") (by decide +kernel)) (fun _ h9 => h9) rfl (by decide +kernel) rfl rfl (Nat.le_of_ble_eq_true rfl) dX1_become_37 (fun H locs hP hD hS => ?_)
  have hP : va_P G vwCl (wDo cy q (mP M', mN M', mS M', mB M', mT M', mR M, mO M, mW M, mL M, mF M, mA M, mU M, mH M) ++ wDo cy q' M') H := hP
  have hD : va_D A (wDo cy q (mP M', mN M', mS M', mB M', mT M', mR M, mO M, mW M, mL M, mF M, mA M, mU M, mH M) ++ wDo cy q' M') := hD
  refine lv_aload_n hx hb dX1_become_40 rfl (lv_at hl 1 rfl) ?_
  refine va_get (D := G) (ci := 0) (v := .ref (q' 1)) (C := RX1) (T := TX1) (N := 13) hx hb hts iX1_become_X1 hown hK hP 9 rfl rfl 1 (by decide) (hts (.fieldLink RX1 9 "NailedOrders$Door" "ranks" "[I") (by decide +kernel)) (fun _ h9 => h9) rfl dX1_become_41 ?_
  refine lv_iconst (v := nI 0) hx hb dX1_become_44 (by decide +kernel) ?_
  refine lv_aload_n hx hb dX1_become_45 rfl (lv_at hl 0 rfl) ?_
  refine va_get (D := G) (ci := 0) (v := .ref (q 1)) (C := RX1) (T := TX1) (N := 13) hx hb hts iX1_become_X1 hown hK hP 0 rfl rfl 1 (by decide) (hts (.fieldLink RX1 9 "NailedOrders$Door" "ranks" "[I") (by decide +kernel)) (fun _ h9 => h9) rfl dX1_become_46 ?_
  refine lv_iconst (v := nI 0) hx hb dX1_become_49 (by decide +kernel) ?_
  refine lv_bipush (v := nI 6) hx hb dX1_become_50 (by decide +kernel) ?_
  refine o_copyi hx hb (hml.trans hl.1.symm) hown (hts (.methodLink RX1 54 arraycopyName) (by decide +kernel)) (hts (.native arraycopyName) (by decide +kernel)) (hts (.static arraycopyName) (by decide +kernel)) (hts (.initialized "java/lang/System") (by decide +kernel)) hK hP hD hS 10 1 0 rfl rfl rfl (by decide) (Nat.le_of_ble_eq_true rfl) (by decide +kernel) dX1_become_52 (fun H locs hP hD hS => ?_)
  have hP : va_P G vwCl (wDo cy q (mP M', mN M', mS M', mB M', mT M', mR M', mO M, mW M, mL M, mF M, mA M, mU M, mH M) ++ wDo cy q' M') H := hP
  have hD : va_D A (wDo cy q (mP M', mN M', mS M', mB M', mT M', mR M', mO M, mW M, mL M, mF M, mA M, mU M, mH M) ++ wDo cy q' M') := hD
  refine lv_aload_n hx hb dX1_become_55 rfl (lv_at hl 1 rfl) ?_
  refine va_get (D := G) (ci := 0) (v := .ref (q' 6)) (C := RX1) (T := TX1) (N := 13) hx hb hts iX1_become_X1 hown hK hP 9 rfl rfl 6 (by decide) (hts (.fieldLink RX1 15 "NailedOrders$Door" "owners" "[I") (by decide +kernel)) (fun _ h9 => h9) rfl dX1_become_56 ?_
  refine lv_iconst (v := nI 0) hx hb dX1_become_59 (by decide +kernel) ?_
  refine lv_aload_n hx hb dX1_become_60 rfl (lv_at hl 0 rfl) ?_
  refine va_get (D := G) (ci := 0) (v := .ref (q 6)) (C := RX1) (T := TX1) (N := 13) hx hb hts iX1_become_X1 hown hK hP 0 rfl rfl 6 (by decide) (hts (.fieldLink RX1 15 "NailedOrders$Door" "owners" "[I") (by decide +kernel)) (fun _ h9 => h9) rfl dX1_become_61 ?_
  refine lv_iconst (v := nI 0) hx hb dX1_become_64 (by decide +kernel) ?_
  refine lv_bipush (v := nI 40) hx hb dX1_become_65 (by decide +kernel) ?_
  refine o_copyi hx hb (hml.trans hl.1.symm) hown (hts (.methodLink RX1 54 arraycopyName) (by decide +kernel)) (hts (.native arraycopyName) (by decide +kernel)) (hts (.static arraycopyName) (by decide +kernel)) (hts (.initialized "java/lang/System") (by decide +kernel)) hK hP hD hS 11 2 0 rfl rfl rfl (by decide) (Nat.le_of_ble_eq_true rfl) (by decide +kernel) dX1_become_67 (fun H locs hP hD hS => ?_)
  have hP : va_P G vwCl (wDo cy q (mP M', mN M', mS M', mB M', mT M', mR M', mO M', mW M, mL M, mF M, mA M, mU M, mH M) ++ wDo cy q' M') H := hP
  have hD : va_D A (wDo cy q (mP M', mN M', mS M', mB M', mT M', mR M', mO M', mW M, mL M, mF M, mA M, mU M, mH M) ++ wDo cy q' M') := hD
  refine lv_aload_n hx hb dX1_become_70 rfl (lv_at hl 1 rfl) ?_
  refine va_get (D := G) (ci := 0) (v := .ref (q' 7)) (C := RX1) (T := TX1) (N := 13) hx hb hts iX1_become_X1 hown hK hP 9 rfl rfl 7 (by decide) (hts (.fieldLink RX1 18 "NailedOrders$Door" "words" "[I") (by decide +kernel)) (fun _ h9 => h9) rfl dX1_become_71 ?_
  refine lv_iconst (v := nI 0) hx hb dX1_become_74 (by decide +kernel) ?_
  refine lv_aload_n hx hb dX1_become_75 rfl (lv_at hl 0 rfl) ?_
  refine va_get (D := G) (ci := 0) (v := .ref (q 7)) (C := RX1) (T := TX1) (N := 13) hx hb hts iX1_become_X1 hown hK hP 0 rfl rfl 7 (by decide) (hts (.fieldLink RX1 18 "NailedOrders$Door" "words" "[I") (by decide +kernel)) (fun _ h9 => h9) rfl dX1_become_76 ?_
  refine lv_iconst (v := nI 0) hx hb dX1_become_79 (by decide +kernel) ?_
  refine lv_bipush (v := nI 40) hx hb dX1_become_80 (by decide +kernel) ?_
  refine o_copyi hx hb (hml.trans hl.1.symm) hown (hts (.methodLink RX1 54 arraycopyName) (by decide +kernel)) (hts (.native arraycopyName) (by decide +kernel)) (hts (.static arraycopyName) (by decide +kernel)) (hts (.initialized "java/lang/System") (by decide +kernel)) hK hP hD hS 12 3 0 rfl rfl rfl (by decide) (Nat.le_of_ble_eq_true rfl) (by decide +kernel) dX1_become_82 (fun H locs hP hD hS => ?_)
  have hP : va_P G vwCl (wDo cy q (mP M', mN M', mS M', mB M', mT M', mR M', mO M', mW M', mL M, mF M, mA M, mU M, mH M) ++ wDo cy q' M') H := hP
  have hD : va_D A (wDo cy q (mP M', mN M', mS M', mB M', mT M', mR M', mO M', mW M', mL M, mF M, mA M, mU M, mH M) ++ wDo cy q' M') := hD
  refine lv_aload_n hx hb dX1_become_85 rfl (lv_at hl 1 rfl) ?_
  refine va_get (D := G) (ci := 0) (v := .ref (q' 8)) (C := RX1) (T := TX1) (N := 13) hx hb hts iX1_become_X1 hown hK hP 9 rfl rfl 8 (by decide) (hts (.fieldLink RX1 21 "NailedOrders$Door" "links" "[I") (by decide +kernel)) (fun _ h9 => h9) rfl dX1_become_86 ?_
  refine lv_iconst (v := nI 0) hx hb dX1_become_89 (by decide +kernel) ?_
  refine lv_aload_n hx hb dX1_become_90 rfl (lv_at hl 0 rfl) ?_
  refine va_get (D := G) (ci := 0) (v := .ref (q 8)) (C := RX1) (T := TX1) (N := 13) hx hb hts iX1_become_X1 hown hK hP 0 rfl rfl 8 (by decide) (hts (.fieldLink RX1 21 "NailedOrders$Door" "links" "[I") (by decide +kernel)) (fun _ h9 => h9) rfl dX1_become_91 ?_
  refine lv_iconst (v := nI 0) hx hb dX1_become_94 (by decide +kernel) ?_
  refine lv_bipush (v := nI 40) hx hb dX1_become_95 (by decide +kernel) ?_
  refine o_copyi hx hb (hml.trans hl.1.symm) hown (hts (.methodLink RX1 54 arraycopyName) (by decide +kernel)) (hts (.native arraycopyName) (by decide +kernel)) (hts (.static arraycopyName) (by decide +kernel)) (hts (.initialized "java/lang/System") (by decide +kernel)) hK hP hD hS 13 4 0 rfl rfl rfl (by decide) (Nat.le_of_ble_eq_true rfl) (by decide +kernel) dX1_become_97 (fun H locs hP hD hS => ?_)
  have hP : va_P G vwCl (wDo cy q (mP M', mN M', mS M', mB M', mT M', mR M', mO M', mW M', mL M', mF M, mA M, mU M, mH M) ++ wDo cy q' M') H := hP
  have hD : va_D A (wDo cy q (mP M', mN M', mS M', mB M', mT M', mR M', mO M', mW M', mL M', mF M, mA M, mU M, mH M) ++ wDo cy q' M') := hD
  refine lv_aload_n hx hb dX1_become_100 rfl (lv_at hl 1 rfl) ?_
  refine va_get (D := G) (ci := 0) (v := .ref (q' 9)) (C := RX1) (T := TX1) (N := 13) hx hb hts iX1_become_X1 hown hK hP 9 rfl rfl 9 (by decide) (hts (.fieldLink RX1 24 "NailedOrders$Door" "factors" "[F") (by decide +kernel)) (fun _ h9 => h9) rfl dX1_become_101 ?_
  refine lv_iconst (v := nI 0) hx hb dX1_become_104 (by decide +kernel) ?_
  refine lv_aload_n hx hb dX1_become_105 rfl (lv_at hl 0 rfl) ?_
  refine va_get (D := G) (ci := 0) (v := .ref (q 9)) (C := RX1) (T := TX1) (N := 13) hx hb hts iX1_become_X1 hown hK hP 0 rfl rfl 9 (by decide) (hts (.fieldLink RX1 24 "NailedOrders$Door" "factors" "[F") (by decide +kernel)) (fun _ h9 => h9) rfl dX1_become_106 ?_
  refine lv_iconst (v := nI 0) hx hb dX1_become_109 (by decide +kernel) ?_
  refine lv_bipush (v := nI 40) hx hb dX1_become_110 (by decide +kernel) ?_
  refine o_copyf hx hb (hml.trans hl.1.symm) hown (hts (.methodLink RX1 54 arraycopyName) (by decide +kernel)) (hts (.native arraycopyName) (by decide +kernel)) (hts (.static arraycopyName) (by decide +kernel)) (hts (.initialized "java/lang/System") (by decide +kernel)) hK hP hD hS 14 5 1 rfl rfl rfl (by decide) (Nat.le_of_ble_eq_true rfl) (by decide +kernel) dX1_become_112 (fun H locs hP hD hS => ?_)
  have hP : va_P G vwCl (wDo cy q (mP M', mN M', mS M', mB M', mT M', mR M', mO M', mW M', mL M', mF M, mA M', mU M, mH M) ++ wDo cy q' M') H := hP
  have hD : va_D A (wDo cy q (mP M', mN M', mS M', mB M', mT M', mR M', mO M', mW M', mL M', mF M, mA M', mU M, mH M) ++ wDo cy q' M') := hD
  refine lv_aload_n hx hb dX1_become_115 rfl (lv_at hl 1 rfl) ?_
  refine va_get (D := G) (ci := 0) (v := .ref (q' 10)) (C := RX1) (T := TX1) (N := 13) hx hb hts iX1_become_X1 hown hK hP 9 rfl rfl 10 (by decide) (hts (.fieldLink RX1 28 "NailedOrders$Door" "numbers" "[F") (by decide +kernel)) (fun _ h9 => h9) rfl dX1_become_116 ?_
  refine lv_iconst (v := nI 0) hx hb dX1_become_119 (by decide +kernel) ?_
  refine lv_aload_n hx hb dX1_become_120 rfl (lv_at hl 0 rfl) ?_
  refine va_get (D := G) (ci := 0) (v := .ref (q 10)) (C := RX1) (T := TX1) (N := 13) hx hb hts iX1_become_X1 hown hK hP 0 rfl rfl 10 (by decide) (hts (.fieldLink RX1 28 "NailedOrders$Door" "numbers" "[F") (by decide +kernel)) (fun _ h9 => h9) rfl dX1_become_121 ?_
  refine lv_iconst (v := nI 0) hx hb dX1_become_124 (by decide +kernel) ?_
  refine lv_bipush (v := nI 40) hx hb dX1_become_125 (by decide +kernel) ?_
  refine o_copyf hx hb (hml.trans hl.1.symm) hown (hts (.methodLink RX1 54 arraycopyName) (by decide +kernel)) (hts (.native arraycopyName) (by decide +kernel)) (hts (.static arraycopyName) (by decide +kernel)) (hts (.initialized "java/lang/System") (by decide +kernel)) hK hP hD hS 15 6 1 rfl rfl rfl (by decide) (Nat.le_of_ble_eq_true rfl) (by decide +kernel) dX1_become_127 (fun H locs hP hD hS => ?_)
  have hP : va_P G vwCl (wDo cy q (mP M', mN M', mS M', mB M', mT M', mR M', mO M', mW M', mL M', mF M, mA M', mU M', mH M) ++ wDo cy q' M') H := hP
  have hD : va_D A (wDo cy q (mP M', mN M', mS M', mB M', mT M', mR M', mO M', mW M', mL M', mF M, mA M', mU M', mH M) ++ wDo cy q' M') := hD
  refine lv_aload_n hx hb dX1_become_130 rfl (lv_at hl 1 rfl) ?_
  refine va_get (D := G) (ci := 0) (v := .ref (q' 11)) (C := RX1) (T := TX1) (N := 13) hx hb hts iX1_become_X1 hown hK hP 9 rfl rfl 11 (by decide) (hts (.fieldLink RX1 31 "NailedOrders$Door" "strengths" "[F") (by decide +kernel)) (fun _ h9 => h9) rfl dX1_become_131 ?_
  refine lv_iconst (v := nI 0) hx hb dX1_become_134 (by decide +kernel) ?_
  refine lv_aload_n hx hb dX1_become_135 rfl (lv_at hl 0 rfl) ?_
  refine va_get (D := G) (ci := 0) (v := .ref (q 11)) (C := RX1) (T := TX1) (N := 13) hx hb hts iX1_become_X1 hown hK hP 0 rfl rfl 11 (by decide) (hts (.fieldLink RX1 31 "NailedOrders$Door" "strengths" "[F") (by decide +kernel)) (fun _ h9 => h9) rfl dX1_become_136 ?_
  refine lv_iconst (v := nI 0) hx hb dX1_become_139 (by decide +kernel) ?_
  refine lv_bipush (v := nI 40) hx hb dX1_become_140 (by decide +kernel) ?_
  refine o_copyf hx hb (hml.trans hl.1.symm) hown (hts (.methodLink RX1 54 arraycopyName) (by decide +kernel)) (hts (.native arraycopyName) (by decide +kernel)) (hts (.static arraycopyName) (by decide +kernel)) (hts (.initialized "java/lang/System") (by decide +kernel)) hK hP hD hS 16 7 1 rfl rfl rfl (by decide) (Nat.le_of_ble_eq_true rfl) (by decide +kernel) dX1_become_142 (fun H locs hP hD hS => ?_)
  have hP : va_P G vwCl (wDo cy q (mP M', mN M', mS M', mB M', mT M', mR M', mO M', mW M', mL M', mF M, mA M', mU M', mH M') ++ wDo cy q' M') H := hP
  have hD : va_D A (wDo cy q (mP M', mN M', mS M', mB M', mT M', mR M', mO M', mW M', mL M', mF M, mA M', mU M', mH M') ++ wDo cy q' M') := hD
  refine lv_aload_n hx hb dX1_become_145 rfl (lv_at hl 1 rfl) ?_
  refine va_get (D := G) (ci := 0) (v := .ref (q' 12)) (C := RX1) (T := TX1) (N := 13) hx hb hts iX1_become_X1 hown hK hP 9 rfl rfl 12 (by decide) (hts (.fieldLink RX1 34 "NailedOrders$Door" "fates" "[I") (by decide +kernel)) (fun _ h9 => h9) rfl dX1_become_146 ?_
  refine lv_iconst (v := nI 0) hx hb dX1_become_149 (by decide +kernel) ?_
  refine lv_aload_n hx hb dX1_become_150 rfl (lv_at hl 0 rfl) ?_
  refine va_get (D := G) (ci := 0) (v := .ref (q 12)) (C := RX1) (T := TX1) (N := 13) hx hb hts iX1_become_X1 hown hK hP 0 rfl rfl 12 (by decide) (hts (.fieldLink RX1 34 "NailedOrders$Door" "fates" "[I") (by decide +kernel)) (fun _ h9 => h9) rfl dX1_become_151 ?_
  refine lv_iconst (v := nI 0) hx hb dX1_become_154 (by decide +kernel) ?_
  refine lv_bipush (v := nI 40) hx hb dX1_become_155 (by decide +kernel) ?_
  refine o_copyi hx hb (hml.trans hl.1.symm) hown (hts (.methodLink RX1 54 arraycopyName) (by decide +kernel)) (hts (.native arraycopyName) (by decide +kernel)) (hts (.static arraycopyName) (by decide +kernel)) (hts (.initialized "java/lang/System") (by decide +kernel)) hK hP hD hS 17 8 0 rfl rfl rfl (by decide) (Nat.le_of_ble_eq_true rfl) (by decide +kernel) dX1_become_157 (fun H locs hP hD hS => ?_)
  have hP : va_P G vwCl (wDo cy q M' ++ wDo cy q' M') H := hP
  have hD : va_D A (wDo cy q M' ++ wDo cy q' M') := hD
  exact o_endVm hx hb hr hlocks dX1_become_160 hP hS
end
section
/-! the history: four doors, whose order in the row turns -/
abbrev wHi (cy : Nat → ClassId) (h : Nat → Nat) (k : Nat) (d : Nat → Nat → Nat) (E : Nat → MT) : va_W := [(h 0, .inr (1, [.ref (h 1), .int (nI k)])), (h 1, eR cy 4 (fun i => some (d i 0)))] ++ (wDo cy (d 0) (E 0) ++ (wDo cy (d 1) (E 1) ++ (wDo cy (d 2) (E 2) ++ wDo cy (d 3) (E 3))))
def rot {α : Type} (f : Nat → α) : Nat → α := fun i => if i = 3 then f 0 else f (i + 1)
abbrev HT : Type := Nat × (Nat → Nat → Nat) × (Nat → MT)
/-- the history's own end: which doors it holds then, and that they are apart -/
abbrev qVh (A : Nat → Prop) (B : Nat → Prop) (cy : Nat → ClassId) (h : Nat → Nat) (X : va_W) (G : va_G) : Array Value → State → Outcome → State → Prop := va_Qv (fun (u : HT) => B u.1) (fun u t => va_P G vwCl (wHi cy h u.1 u.2.1 u.2.2 ++ X) t.heap ∧ va_D A (wHi cy h u.1 u.2.1 u.2.2 ++ X)) A
abbrev MutH (l : Launch) (y : MethodName) (ws : List Cond) (f lo : Nat) (av : List Value) (H0 : Heap) (G : va_G) (cy : Nat → ClassId) (B : Nat → Prop) (h : Nat → Nat) (W0 X : va_W) : Prop := Met l y ws (oR f lo) (pR av H0 G cy) (qVh (va_A W0 H0.size) B cy h X G) 0 0 (va_A W0 H0.size)
section OK6
variable {p : Program} {l : Launch} {e : Env} {R : Room} {s : State} {m : MethodId} {args : Array Value} {below : List Frame} {meth : Method} {c : Code} {H H0 : Heap} {locs : List Loc} {cells slots : Nat} {Q : State → Prop}
variable {pc : Nat} {ls : Array Slot} {rest : List Value} {cc : ByteArray} {D : va_G} {cl : List vw_C} {tys : List (ClassId × FieldType)} {ws : va_W} {A : Nat → Prop} {a : Nat} {cA : ClassId} {n : Nat}
theorem o_aldq (hx : p.tables.exec = Jvm.exec) (hb : c.code = cc) (hK : va_K D cl tys s) (hP : va_P D cl ws H) (q0 t0 : Nat) {C : String} {f : Nat → Option Nat} (ha : ws[q0]? = some (a, .inl (cA, n, .inr (.inr (.inr (.inr f)))))) (ht : tys[t0]? = some (cA, .object C)) (k : Nat) (hk : k < n) (hn : n < 2 ^ 31) {v : Value} (hv : va_rf (f k) = v) (hdg : decode cc pc = .ok (.aaload, 1))
    (kk : W p l e R s m args below meth c H locs cells slots Q (F0 m (pc + 1) ls (v :: rest))) : W p l e R s m args below meth c H locs cells slots Q (F0 m pc ls (.int (nI k) :: .ref a :: rest)) :=
  va_aldq hx hb hK hP q0 t0 ha ht (vp_in_nI hk hn) hdg (by rw [nI_clamp (Nat.lt_trans hk hn), hv]; exact kk)
theorem o_astq (hx : p.tables.exec = Jvm.exec) (hb : c.code = cc) (hK : va_K D cl tys s) (hP : va_P D cl ws H) (hD : va_D A ws) (hS : va_S A H0 H locs) (q0 t0 qk ci : Nat) {r : vw_C} {v : Nat} {vs : List Value} {f : Nat → Option Nat} (ha : ws[q0]? = some (a, .inl (cA, n, .inr (.inr (.inr (.inr f)))))) (ht : tys[t0]? = some (cA, .object r.1)) (hv : ws[qk]? = some (v, .inr (ci, vs))) (hc : cl[ci]? = some r) (k : Nat) (hk : k < n) (hn : n < 2 ^ 31) (hdg : decode cc pc = .ok (.aastore, 1))
    (kk : ∀ (H1 : Heap) (locs1 : List Loc), va_P D cl (ws.set q0 (a, .inl (cA, n, .inr (.inr (.inr (.inr (va_up f k (some v)))))))) H1 → va_D A (ws.set q0 (a, .inl (cA, n, .inr (.inr (.inr (.inr (va_up f k (some v)))))))) → va_S A H0 H1 locs1 → W p l e R s m args below meth c H1 locs1 cells slots Q (F0 m (pc + 1) ls rest)) : W p l e R s m args below meth c H locs cells slots Q (F0 m pc ls (.ref v :: .int (nI k) :: .ref a :: rest)) := by
  refine va_astq hx hb hK hP hD hS q0 t0 qk ci ha ht hv hc (vp_in_nI hk hn) hdg ?_
  rw [nI_clamp (Nat.lt_trans hk hn)]
  exact kk
end OK6
end
section
set_option maxRecDepth 100000 in
theorem iX2_dropOldest_X2 : ∀ w ∈ u_ws RX2 TX2 2, w ∈ wsX2_dropOldest := by decide +kernel
set_option maxHeartbeats 4000000 in
set_option maxRecDepth 100000 in
theorem kX2_dropOldest (l : Launch) (G : va_G) (cy : Nat → ClassId) {H0 : Heap} {h : Nat → Nat} {d : Nat → Nat → Nat} {E : Nat → MT} {A0 : Nat → Prop} (hP : va_P G vwCl (wHi cy h 4 d E) H0) (hD0 : va_D A0 (wHi cy h 4 d E)) : MutH l yX2_dropOldest wsX2_dropOldest 0 0 [.ref (h 0)] H0 G cy (fun k => k = 3) h (wHi cy h 4 d E) ([]) := by
  refine Met.ofW (cc := cX2_dropOldest) (maxL := 3) (ret := none) (by decide) rfl ?_
  intro p e s m args below meth c s₁ B hml hv
  obtain ⟨rfl, hH, hK⟩ := hv
  subst hH
  have hx := B.exec
  have hb := B.bytes
  have hr := B.returns
  have hts := atoms_spec (ws := wsX2_dropOldest) B.pre
  have hown : s.vm.findClass RX2 = some m.cls := findClass_of_methodNamed B.named
  have hlocks := B.notSynchronized
  have hl := lv_entry ([.ref (h 0)]) (n := 3) (Nat.le_of_ble_eq_true rfl)
  rw [lg_entry_eq]
  generalize (lg_sl ([.ref (h 0)]) ++ List.replicate (3 - (lg_sl ([.ref (h 0)])).length) Slot.unset).toArray = ls at hl ⊢
  have hl : lv_has ls 3 [(0, .ref (h 0))] := hl
  have hD := hD0.self (sz := s.heap.size)
  generalize hAe : va_A (wHi cy h 4 d E) s.heap.size = A at hD ⊢
  have hA : ∀ q : Nat, s.heap.size ≤ q → A q := fun q h => by rw [← hAe]; exact Or.inr h
  have hS : va_S A s.heap s.heap [] := va_S.rf
  refine lv_aload_n hx hb dX2_dropOldest_0 rfl (lv_at hl 0 rfl) ?_
  refine va_get (D := G) (ci := 1) (v := .ref (h 1)) (C := RX2) (T := TX2) (N := 2) hx hb hts iX2_dropOldest_X2 hown hK hP 0 rfl rfl 0 (by decide) (hts (.fieldLink RX2 11 "NailedOrders$History" "doors" "[LNailedOrders$Door;") (by decide +kernel)) (fun _ h9 => h9) rfl dX2_dropOldest_1 ?_
  refine lv_iconst (v := nI 0) hx hb dX2_dropOldest_4 (by decide +kernel) ?_
  refine o_aldq hx hb hK hP 1 4 rfl rfl 0 (by decide) (by decide) (v := .ref ((d 0) 0)) rfl dX2_dropOldest_5 ?_
  refine lv_astore_n (lv' := [(1, .ref ((d 0) 0)), (0, .ref (h 0))]) hx hb dX2_dropOldest_6 rfl hl (by decide) rfl (fun ls hl => ?_)
  refine lv_iconst (v := nI 1) hx hb dX2_dropOldest_7 (by decide +kernel) ?_
  refine lv_istore_n (lv' := [(2, .int (nI 1)), (1, .ref ((d 0) 0)), (0, .ref (h 0))]) hx hb dX2_dropOldest_8 rfl hl (by decide) rfl (fun ls hl => ?_)
  refine lv_iload_n hx hb dX2_dropOldest_9 rfl (lv_at hl 0 rfl) ?_
  refine lv_iconst (v := nI 4) hx hb dX2_dropOldest_10 (by decide +kernel) ?_
  refine o_icmp_ge (tgt := 34) hx hb dX2_dropOldest_11 (by decide) (by omega) (by omega) (fun c11 => ?_) (fun c11 => ?_)
  · exact absurd c11 (by decide)
  · refine lv_aload_n hx hb dX2_dropOldest_14 rfl (lv_at hl 2 rfl) ?_
    refine va_get (D := G) (ci := 1) (v := .ref (h 1)) (C := RX2) (T := TX2) (N := 2) hx hb hts iX2_dropOldest_X2 hown hK hP 0 rfl rfl 0 (by decide) (hts (.fieldLink RX2 11 "NailedOrders$History" "doors" "[LNailedOrders$Door;") (by decide +kernel)) (fun _ h9 => h9) rfl dX2_dropOldest_15 ?_
    refine lv_iload_n hx hb dX2_dropOldest_18 rfl (lv_at hl 0 rfl) ?_
    refine lv_iconst (v := nI 1) hx hb dX2_dropOldest_19 (by decide +kernel) ?_
    refine lv_isub hx hb dX2_dropOldest_20 ?_
    rw [pk_sub (a := 1) (b := 1) (by decide)]
    refine lv_aload_n hx hb dX2_dropOldest_21 rfl (lv_at hl 2 rfl) ?_
    refine va_get (D := G) (ci := 1) (v := .ref (h 1)) (C := RX2) (T := TX2) (N := 2) hx hb hts iX2_dropOldest_X2 hown hK hP 0 rfl rfl 0 (by decide) (hts (.fieldLink RX2 11 "NailedOrders$History" "doors" "[LNailedOrders$Door;") (by decide +kernel)) (fun _ h9 => h9) rfl dX2_dropOldest_22 ?_
    refine lv_iload_n hx hb dX2_dropOldest_25 rfl (lv_at hl 0 rfl) ?_
    refine o_aldq hx hb hK hP 1 4 rfl rfl 1 (by decide) (by decide) (v := .ref ((d 1) 0)) rfl dX2_dropOldest_26 ?_
    refine o_astq hx hb hK hP hD hS 1 4 11 0 rfl rfl rfl rfl (1 - 1) (by decide) (by decide) dX2_dropOldest_27 (fun H locs hP hD hS => ?_)
    have hP : va_P G vwCl ([(h 0, .inr (1, [.ref (h 1), .int (nI 4)])), (h 1, eR cy 4 (va_up (fun i => some (d i 0)) (1 - 1) (some ((d 1) 0))))] ++ wDo cy (d 0) (E 0) ++ wDo cy (d 1) (E 1) ++ wDo cy (d 2) (E 2) ++ wDo cy (d 3) (E 3)) H := hP
    have hD : va_D A ([(h 0, .inr (1, [.ref (h 1), .int (nI 4)])), (h 1, eR cy 4 (va_up (fun i => some (d i 0)) (1 - 1) (some ((d 1) 0))))] ++ wDo cy (d 0) (E 0) ++ wDo cy (d 1) (E 1) ++ wDo cy (d 2) (E 2) ++ wDo cy (d 3) (E 3)) := hD
    refine lv_iinc (v := nI (1 + 1)) (lv' := [(2, .int (nI (1 + 1))), (1, .ref ((d 0) 0)), (0, .ref (h 0))]) hx hb dX2_dropOldest_28 hl (k := 0) rfl (nI_1 1) (by decide) rfl (fun ls hl => ?_)
    refine lv_goto (tgt := 9) hx hb dX2_dropOldest_31 (by decide) ?_
    refine lv_iload_n hx hb dX2_dropOldest_9 rfl (lv_at hl 0 rfl) ?_
    refine lv_iconst (v := nI 4) hx hb dX2_dropOldest_10 (by decide +kernel) ?_
    refine o_icmp_ge (tgt := 34) hx hb dX2_dropOldest_11 (by decide) (by omega) (by omega) (fun c11 => ?_) (fun c11 => ?_)
    · exact absurd c11 (by decide)
    · refine lv_aload_n hx hb dX2_dropOldest_14 rfl (lv_at hl 2 rfl) ?_
      refine va_get (D := G) (ci := 1) (v := .ref (h 1)) (C := RX2) (T := TX2) (N := 2) hx hb hts iX2_dropOldest_X2 hown hK hP 0 rfl rfl 0 (by decide) (hts (.fieldLink RX2 11 "NailedOrders$History" "doors" "[LNailedOrders$Door;") (by decide +kernel)) (fun _ h9 => h9) rfl dX2_dropOldest_15 ?_
      refine lv_iload_n hx hb dX2_dropOldest_18 rfl (lv_at hl 0 rfl) ?_
      refine lv_iconst (v := nI 1) hx hb dX2_dropOldest_19 (by decide +kernel) ?_
      refine lv_isub hx hb dX2_dropOldest_20 ?_
      rw [pk_sub (a := 1 + 1) (b := 1) (by decide)]
      refine lv_aload_n hx hb dX2_dropOldest_21 rfl (lv_at hl 2 rfl) ?_
      refine va_get (D := G) (ci := 1) (v := .ref (h 1)) (C := RX2) (T := TX2) (N := 2) hx hb hts iX2_dropOldest_X2 hown hK hP 0 rfl rfl 0 (by decide) (hts (.fieldLink RX2 11 "NailedOrders$History" "doors" "[LNailedOrders$Door;") (by decide +kernel)) (fun _ h9 => h9) rfl dX2_dropOldest_22 ?_
      refine lv_iload_n hx hb dX2_dropOldest_25 rfl (lv_at hl 0 rfl) ?_
      refine o_aldq hx hb hK hP 1 4 rfl rfl (1 + 1) (by decide) (by decide) (v := .ref ((d 2) 0)) rfl dX2_dropOldest_26 ?_
      refine o_astq hx hb hK hP hD hS 1 4 20 0 rfl rfl rfl rfl ((1 + 1) - 1) (by decide) (by decide) dX2_dropOldest_27 (fun H locs hP hD hS => ?_)
      have hP : va_P G vwCl ([(h 0, .inr (1, [.ref (h 1), .int (nI 4)])), (h 1, eR cy 4 (va_up (va_up (fun i => some (d i 0)) (1 - 1) (some ((d 1) 0))) ((1 + 1) - 1) (some ((d 2) 0))))] ++ wDo cy (d 0) (E 0) ++ wDo cy (d 1) (E 1) ++ wDo cy (d 2) (E 2) ++ wDo cy (d 3) (E 3)) H := hP
      have hD : va_D A ([(h 0, .inr (1, [.ref (h 1), .int (nI 4)])), (h 1, eR cy 4 (va_up (va_up (fun i => some (d i 0)) (1 - 1) (some ((d 1) 0))) ((1 + 1) - 1) (some ((d 2) 0))))] ++ wDo cy (d 0) (E 0) ++ wDo cy (d 1) (E 1) ++ wDo cy (d 2) (E 2) ++ wDo cy (d 3) (E 3)) := hD
      refine lv_iinc (v := nI (1 + 1 + 1)) (lv' := [(2, .int (nI (1 + 1 + 1))), (1, .ref ((d 0) 0)), (0, .ref (h 0))]) hx hb dX2_dropOldest_28 hl (k := 0) rfl (nI_1 (1 + 1)) (by decide) rfl (fun ls hl => ?_)
      refine lv_goto (tgt := 9) hx hb dX2_dropOldest_31 (by decide) ?_
      refine lv_iload_n hx hb dX2_dropOldest_9 rfl (lv_at hl 0 rfl) ?_
      refine lv_iconst (v := nI 4) hx hb dX2_dropOldest_10 (by decide +kernel) ?_
      refine o_icmp_ge (tgt := 34) hx hb dX2_dropOldest_11 (by decide) (by omega) (by omega) (fun c11 => ?_) (fun c11 => ?_)
      · exact absurd c11 (by decide)
      · refine lv_aload_n hx hb dX2_dropOldest_14 rfl (lv_at hl 2 rfl) ?_
        refine va_get (D := G) (ci := 1) (v := .ref (h 1)) (C := RX2) (T := TX2) (N := 2) hx hb hts iX2_dropOldest_X2 hown hK hP 0 rfl rfl 0 (by decide) (hts (.fieldLink RX2 11 "NailedOrders$History" "doors" "[LNailedOrders$Door;") (by decide +kernel)) (fun _ h9 => h9) rfl dX2_dropOldest_15 ?_
        refine lv_iload_n hx hb dX2_dropOldest_18 rfl (lv_at hl 0 rfl) ?_
        refine lv_iconst (v := nI 1) hx hb dX2_dropOldest_19 (by decide +kernel) ?_
        refine lv_isub hx hb dX2_dropOldest_20 ?_
        rw [pk_sub (a := 1 + 1 + 1) (b := 1) (by decide)]
        refine lv_aload_n hx hb dX2_dropOldest_21 rfl (lv_at hl 2 rfl) ?_
        refine va_get (D := G) (ci := 1) (v := .ref (h 1)) (C := RX2) (T := TX2) (N := 2) hx hb hts iX2_dropOldest_X2 hown hK hP 0 rfl rfl 0 (by decide) (hts (.fieldLink RX2 11 "NailedOrders$History" "doors" "[LNailedOrders$Door;") (by decide +kernel)) (fun _ h9 => h9) rfl dX2_dropOldest_22 ?_
        refine lv_iload_n hx hb dX2_dropOldest_25 rfl (lv_at hl 0 rfl) ?_
        refine o_aldq hx hb hK hP 1 4 rfl rfl (1 + 1 + 1) (by decide) (by decide) (v := .ref ((d 3) 0)) rfl dX2_dropOldest_26 ?_
        refine o_astq hx hb hK hP hD hS 1 4 29 0 rfl rfl rfl rfl ((1 + 1 + 1) - 1) (by decide) (by decide) dX2_dropOldest_27 (fun H locs hP hD hS => ?_)
        have hP : va_P G vwCl ([(h 0, .inr (1, [.ref (h 1), .int (nI 4)])), (h 1, eR cy 4 (va_up (va_up (va_up (fun i => some (d i 0)) (1 - 1) (some ((d 1) 0))) ((1 + 1) - 1) (some ((d 2) 0))) ((1 + 1 + 1) - 1) (some ((d 3) 0))))] ++ wDo cy (d 0) (E 0) ++ wDo cy (d 1) (E 1) ++ wDo cy (d 2) (E 2) ++ wDo cy (d 3) (E 3)) H := hP
        have hD : va_D A ([(h 0, .inr (1, [.ref (h 1), .int (nI 4)])), (h 1, eR cy 4 (va_up (va_up (va_up (fun i => some (d i 0)) (1 - 1) (some ((d 1) 0))) ((1 + 1) - 1) (some ((d 2) 0))) ((1 + 1 + 1) - 1) (some ((d 3) 0))))] ++ wDo cy (d 0) (E 0) ++ wDo cy (d 1) (E 1) ++ wDo cy (d 2) (E 2) ++ wDo cy (d 3) (E 3)) := hD
        refine lv_iinc (v := nI (1 + 1 + 1 + 1)) (lv' := [(2, .int (nI (1 + 1 + 1 + 1))), (1, .ref ((d 0) 0)), (0, .ref (h 0))]) hx hb dX2_dropOldest_28 hl (k := 0) rfl (nI_1 (1 + 1 + 1)) (by decide) rfl (fun ls hl => ?_)
        refine lv_goto (tgt := 9) hx hb dX2_dropOldest_31 (by decide) ?_
        refine lv_iload_n hx hb dX2_dropOldest_9 rfl (lv_at hl 0 rfl) ?_
        refine lv_iconst (v := nI 4) hx hb dX2_dropOldest_10 (by decide +kernel) ?_
        refine o_icmp_ge (tgt := 34) hx hb dX2_dropOldest_11 (by decide) (by omega) (by omega) (fun c11 => ?_) (fun c11 => ?_)
        · refine lv_aload_n hx hb dX2_dropOldest_34 rfl (lv_at hl 2 rfl) ?_
          refine va_get (D := G) (ci := 1) (v := .ref (h 1)) (C := RX2) (T := TX2) (N := 2) hx hb hts iX2_dropOldest_X2 hown hK hP 0 rfl rfl 0 (by decide) (hts (.fieldLink RX2 11 "NailedOrders$History" "doors" "[LNailedOrders$Door;") (by decide +kernel)) (fun _ h9 => h9) rfl dX2_dropOldest_35 ?_
          refine lv_iconst (v := nI 3) hx hb dX2_dropOldest_38 (by decide +kernel) ?_
          refine lv_aload_n hx hb dX2_dropOldest_39 rfl (lv_at hl 1 rfl) ?_
          refine o_astq hx hb hK hP hD hS 1 4 2 0 rfl rfl rfl rfl 3 (by decide) (by decide) dX2_dropOldest_40 (fun H locs hP hD hS => ?_)
          have hP : va_P G vwCl ([(h 0, .inr (1, [.ref (h 1), .int (nI 4)])), (h 1, eR cy 4 (va_up (va_up (va_up (va_up (fun i => some (d i 0)) (1 - 1) (some ((d 1) 0))) ((1 + 1) - 1) (some ((d 2) 0))) ((1 + 1 + 1) - 1) (some ((d 3) 0))) 3 (some ((d 0) 0))))] ++ wDo cy (d 0) (E 0) ++ wDo cy (d 1) (E 1) ++ wDo cy (d 2) (E 2) ++ wDo cy (d 3) (E 3)) H := hP
          have hD : va_D A ([(h 0, .inr (1, [.ref (h 1), .int (nI 4)])), (h 1, eR cy 4 (va_up (va_up (va_up (va_up (fun i => some (d i 0)) (1 - 1) (some ((d 1) 0))) ((1 + 1) - 1) (some ((d 2) 0))) ((1 + 1 + 1) - 1) (some ((d 3) 0))) 3 (some ((d 0) 0))))] ++ wDo cy (d 0) (E 0) ++ wDo cy (d 1) (E 1) ++ wDo cy (d 2) (E 2) ++ wDo cy (d 3) (E 3)) := hD
          refine lv_aload_n hx hb dX2_dropOldest_41 rfl (lv_at hl 2 rfl) ?_
          refine lv_dup hx hb dX2_dropOldest_42 rfl ?_
          refine va_get (D := G) (ci := 1) (v := .int (nI 4)) (C := RX2) (T := TX2) (N := 2) hx hb hts iX2_dropOldest_X2 hown hK hP 0 rfl rfl 1 (by decide) (hts (.fieldLink RX2 18 "NailedOrders$History" "states" "I") (by decide +kernel)) (fun _ h9 => h9) rfl dX2_dropOldest_43 ?_
          refine lv_iconst (v := nI 1) hx hb dX2_dropOldest_46 (by decide +kernel) ?_
          refine lv_isub hx hb dX2_dropOldest_47 ?_
          rw [pk_sub (a := 4) (b := 1) (by decide)]
          refine va_put (D := G) (ci := 1) (v := .int (nI (4 - 1))) (ty := .int) (C := RX2) (T := TX2) (N := 2) hx hb hts iX2_dropOldest_X2 tyX2 tyX2_ok nmX2 hown hK hP hD hS 0 rfl rfl 1 (by decide) (hts (.fieldLink RX2 18 "NailedOrders$History" "states" "I") (by decide +kernel)) (fun _ h9 => h9) rfl (by decide +kernel) rfl rfl (Nat.le_of_ble_eq_true rfl) dX2_dropOldest_48 (fun H locs hP hD hS => ?_)
          have hP : va_P G vwCl ([(h 0, .inr (1, [.ref (h 1), .int (nI (4 - 1))])), (h 1, eR cy 4 (va_up (va_up (va_up (va_up (fun i => some (d i 0)) (1 - 1) (some ((d 1) 0))) ((1 + 1) - 1) (some ((d 2) 0))) ((1 + 1 + 1) - 1) (some ((d 3) 0))) 3 (some ((d 0) 0))))] ++ wDo cy (d 0) (E 0) ++ wDo cy (d 1) (E 1) ++ wDo cy (d 2) (E 2) ++ wDo cy (d 3) (E 3)) H := hP
          have hD : va_D A ([(h 0, .inr (1, [.ref (h 1), .int (nI (4 - 1))])), (h 1, eR cy 4 (va_up (va_up (va_up (va_up (fun i => some (d i 0)) (1 - 1) (some ((d 1) 0))) ((1 + 1) - 1) (some ((d 2) 0))) ((1 + 1 + 1) - 1) (some ((d 3) 0))) 3 (some ((d 0) 0))))] ++ wDo cy (d 0) (E 0) ++ wDo cy (d 1) (E 1) ++ wDo cy (d 2) (E 2) ++ wDo cy (d 3) (E 3)) := hD
          have hP9 := (o_set (ws := [(h 0, .inr (1, [.ref (h 1), .int (nI (4 - 1))])), (h 1, eR cy 4 (va_up (va_up (va_up (va_up (fun i => some (d i 0)) (1 - 1) (some ((d 1) 0))) ((1 + 1) - 1) (some ((d 2) 0))) ((1 + 1 + 1) - 1) (some ((d 3) 0))) 3 (some ((d 0) 0))))] ++ wDo cy (d 0) (E 0) ++ wDo cy (d 1) (E 1) ++ wDo cy (d 2) (E 2) ++ wDo cy (d 3) (E 3)) (p := 1) (x := (h 1, eR cy 4 (va_up (va_up (va_up (va_up (fun i => some (d i 0)) (1 - 1) (some ((d 1) 0))) ((1 + 1) - 1) (some ((d 2) 0))) ((1 + 1 + 1) - 1) (some ((d 3) 0))) 3 (some ((d 0) 0))))) (y := (h 1, eR cy 4 (fun i => some (rot d i 0)))) hP (o_cellR (fun j hj => by match j, hj with | 0, _ => rfl | 1, _ => rfl | 2, _ => rfl | 3, _ => rfl))).sub (ws' := wHi cy h 3 (rot d) (rot E)) [0, 1, 11, 12, 13, 14, 15, 16, 17, 18, 19, 20, 21, 22, 23, 24, 25, 26, 27, 28, 29, 30, 31, 32, 33, 34, 35, 36, 37, 2, 3, 4, 5, 6, 7, 8, 9, 10] rfl
          have hD9 : va_D A (wHi cy h 3 (rot d) (rot E)) := vd_same (hD.sub (ws' := [(h 0, .inr (1, [.ref (h 1), .int (nI (4 - 1))])), (h 1, eR cy 4 (va_up (va_up (va_up (va_up (fun i => some (d i 0)) (1 - 1) (some ((d 1) 0))) ((1 + 1) - 1) (some ((d 2) 0))) ((1 + 1 + 1) - 1) (some ((d 3) 0))) 3 (some ((d 0) 0))))] ++ (wDo cy (d 1) (E 1) ++ (wDo cy (d 2) (E 2) ++ (wDo cy (d 3) (E 3) ++ wDo cy (d 0) (E 0))))) [0, 1, 11, 12, 13, 14, 15, 16, 17, 18, 19, 20, 21, 22, 23, 24, 25, 26, 27, 28, 29, 30, 31, 32, 33, 34, 35, 36, 37, 2, 3, 4, 5, 6, 7, 8, 9, 10] (by decide) rfl) rfl
          exact W.vret hx hb hr (fun t ht hW => ⟨⟨(3, rot d, rot E), rfl, rfl, by show va_P G vwCl _ t.heap; rw [ht, List.append_nil]; exact hP9, by rw [List.append_nil]; exact hD9⟩, hS.F ht⟩) hS.2.2 dX2_dropOldest_51 hlocks
        · exact absurd c11 (by decide)

set_option maxRecDepth 100000 in
theorem iX2_record_X1 : ∀ w ∈ u_ws RX1 TX1 13, w ∈ wsX2_record := by decide +kernel
set_option maxRecDepth 100000 in
theorem iX2_record_X2 : ∀ w ∈ u_ws RX2 TX2 2, w ∈ wsX2_record := by decide +kernel
set_option maxHeartbeats 4000000 in
set_option maxRecDepth 100000 in
theorem kX2_record_0 (l : Launch) (G : va_G) (cy : Nat → ClassId) {H0 : Heap} {h : Nat → Nat} {d : Nat → Nat → Nat} {E : Nat → MT} {A0 : Nat → Prop} {q : Nat → Nat} {M : MT} (hP : va_P G vwCl (wHi cy h 0 d E ++ wDo cy q M) H0) (hD0 : va_D A0 (wHi cy h 0 d E ++ wDo cy q M)) : MutH l yX2_record wsX2_record 2 80 [.ref (h 0), .ref (q 0)] H0 G cy (fun k => k ≤ 4) h (wHi cy h 0 d E ++ wDo cy q M) (wDo cy q M) := by
  refine Met.ofW (cc := cX2_record) (maxL := 2) (ret := none) (by decide) rfl ?_
  intro p e s m args below meth c s₁ B hml hv
  obtain ⟨rfl, hH, hK⟩ := hv
  subst hH
  have hx := B.exec
  have hb := B.bytes
  have hr := B.returns
  have hts := atoms_spec (ws := wsX2_record) B.pre
  have hown : s.vm.findClass RX2 = some m.cls := findClass_of_methodNamed B.named
  have hlocks := B.notSynchronized
  have hl := lv_entry ([.ref (h 0), .ref (q 0)]) (n := 2) (Nat.le_of_ble_eq_true rfl)
  rw [lg_entry_eq]
  generalize (lg_sl ([.ref (h 0), .ref (q 0)]) ++ List.replicate (2 - (lg_sl ([.ref (h 0), .ref (q 0)])).length) Slot.unset).toArray = ls at hl ⊢
  have hl : lv_has ls 2 [(0, .ref (h 0)), (1, .ref (q 0))] := hl
  have hD := hD0.self (sz := s.heap.size)
  generalize hAe : va_A (wHi cy h 0 d E ++ wDo cy q M) s.heap.size = A at hD ⊢
  have hA : ∀ q : Nat, s.heap.size ≤ q → A q := fun q h => by rw [← hAe]; exact Or.inr h
  have hS : va_S A s.heap s.heap [] := va_S.rf
  refine lv_aload_n hx hb dX2_record_0 rfl (lv_at hl 0 rfl) ?_
  refine va_get (D := G) (ci := 1) (v := .int (nI 0)) (C := RX2) (T := TX2) (N := 2) hx hb hts iX2_record_X2 hown hK hP 0 rfl rfl 1 (by decide) (hts (.fieldLink RX2 18 "NailedOrders$History" "states" "I") (by decide +kernel)) (fun _ h9 => h9) rfl dX2_record_1 ?_
  refine lv_iconst (v := nI 4) hx hb dX2_record_4 (by decide +kernel) ?_
  refine o_icmp_ne (tgt := 12) hx hb dX2_record_5 (by decide) (by omega) (by omega) (fun c5 => ?_) (fun c5 => ?_)
  · refine lv_aload_n hx hb dX2_record_12 rfl (lv_at hl 0 rfl) ?_
    refine va_get (D := G) (ci := 1) (v := .ref (h 1)) (C := RX2) (T := TX2) (N := 2) hx hb hts iX2_record_X2 hown hK hP 0 rfl rfl 0 (by decide) (hts (.fieldLink RX2 11 "NailedOrders$History" "doors" "[LNailedOrders$Door;") (by decide +kernel)) (fun _ h9 => h9) rfl dX2_record_13 ?_
    refine lv_aload_n hx hb dX2_record_16 rfl (lv_at hl 0 rfl) ?_
    refine va_get (D := G) (ci := 1) (v := .int (nI 0)) (C := RX2) (T := TX2) (N := 2) hx hb hts iX2_record_X2 hown hK hP 0 rfl rfl 1 (by decide) (hts (.fieldLink RX2 18 "NailedOrders$History" "states" "I") (by decide +kernel)) (fun _ h9 => h9) rfl dX2_record_17 ?_
    refine o_aldq hx hb hK hP 1 4 rfl rfl 0 (by decide) (by decide) (v := .ref ((d 0) 0)) rfl dX2_record_20 ?_
    refine lv_aload_n hx hb dX2_record_21 rfl (lv_at hl 1 rfl) ?_
    have hPc := hP.sub (ws' := wDo cy (d 0) (E 0) ++ wDo cy q M) [2, 3, 4, 5, 6, 7, 8, 9, 10, 38, 39, 40, 41, 42, 43, 44, 45, 46] rfl
    have hDc := hD.sub (ws' := wDo cy (d 0) (E 0) ++ wDo cy q M) [2, 3, 4, 5, 6, 7, 8, 9, 10, 38, 39, 40, 41, 42, 43, 44, 45, 46] (by decide) rfl
    have hFc := va_free (wc := wDo cy (d 0) (E 0) ++ wDo cy q M) hD hS hA [2, 3, 4, 5, 6, 7, 8, 9, 10, 38, 39, 40, 41, 42, 43, 44, 45, 46] rfl
    refine va_callv (va_runV (As := [.ref (q 0)]) (rest := []) ⟨hx, hb, hml, hown, hts⟩ (kX1_become l G cy hPc hDc) (cwV 1 hts gX2_record_X1_become rfl rfl rfl (by decide +kernel) ⟨Nat.le_of_ble_eq_true rfl, Nat.le_of_ble_eq_true rfl⟩) ⟨pR_blind, va_recv hK hP (ci := 0) (q0 := 2) rfl rfl, pR_at hK⟩ rfl rfl hl.1 rfl (lv_room (Nat.le_of_ble_eq_true rfl)) dX2_record_22 ⟨Nat.zero_le _, Nat.zero_le _⟩) hS (fun q _ h => hFc q h) hFc (fun u t H locs ht hvm hw hB hz1 hk1 hS => ?_)
    rw [ht] at hB
    have hP : va_P G vwCl ([(h 0, .inr (1, [.ref (h 1), .int (nI 0)])), (h 1, eR cy 4 (fun i => some (d i 0)))] ++ wDo cy (d 0) M ++ wDo cy (d 1) (E 1) ++ wDo cy (d 2) (E 2) ++ wDo cy (d 3) (E 3) ++ wDo cy q M) H := (o_join hP hD [2, 3, 4, 5, 6, 7, 8, 9, 10, 38, 39, 40, 41, 42, 43, 44, 45, 46] [0, 1, 11, 12, 13, 14, 15, 16, 17, 18, 19, 20, 21, 22, 23, 24, 25, 26, 27, 28, 29, 30, 31, 32, 33, 34, 35, 36, 37] rfl (wr := [(h 0, .inr (1, [.ref (h 1), .int (nI 0)])), (h 1, eR cy 4 (fun i => some (d i 0)))] ++ wDo cy (d 1) (E 1) ++ wDo cy (d 2) (E 2) ++ wDo cy (d 3) (E 3)) rfl (by decide) (by decide) (by decide) hk1 hFc hB rfl).sub [0, 1, 29, 30, 31, 32, 33, 34, 35, 36, 37, 2, 3, 4, 5, 6, 7, 8, 9, 10, 11, 12, 13, 14, 15, 16, 17, 18, 19, 20, 21, 22, 23, 24, 25, 26, 27, 28, 38, 39, 40, 41, 42, 43, 44, 45, 46] rfl
    have hD : va_D A ([(h 0, .inr (1, [.ref (h 1), .int (nI 0)])), (h 1, eR cy 4 (fun i => some (d i 0)))] ++ wDo cy (d 0) M ++ wDo cy (d 1) (E 1) ++ wDo cy (d 2) (E 2) ++ wDo cy (d 3) (E 3) ++ wDo cy q M) := vd_same hD rfl
    refine lv_aload_n hx hb dX2_record_25 rfl (lv_at hl 0 rfl) ?_
    refine lv_dup hx hb dX2_record_26 rfl ?_
    refine va_get (D := G) (ci := 1) (v := .int (nI 0)) (C := RX2) (T := TX2) (N := 2) hx hb hts iX2_record_X2 hown hK hP 0 rfl rfl 1 (by decide) (hts (.fieldLink RX2 18 "NailedOrders$History" "states" "I") (by decide +kernel)) (fun _ h9 => h9) rfl dX2_record_27 ?_
    refine lv_iconst (v := nI 1) hx hb dX2_record_30 (by decide +kernel) ?_
    refine lv_iadd hx hb dX2_record_31 ?_
    rw [nI_add]
    refine va_put (D := G) (ci := 1) (v := .int (nI (0 + 1))) (ty := .int) (C := RX2) (T := TX2) (N := 2) hx hb hts iX2_record_X2 tyX2 tyX2_ok nmX2 hown hK hP hD hS 0 rfl rfl 1 (by decide) (hts (.fieldLink RX2 18 "NailedOrders$History" "states" "I") (by decide +kernel)) (fun _ h9 => h9) rfl (by decide +kernel) rfl rfl (Nat.le_of_ble_eq_true rfl) dX2_record_32 (fun H locs hP hD hS => ?_)
    have hP : va_P G vwCl ([(h 0, .inr (1, [.ref (h 1), .int (nI (0 + 1))])), (h 1, eR cy 4 (fun i => some (d i 0)))] ++ wDo cy (d 0) M ++ wDo cy (d 1) (E 1) ++ wDo cy (d 2) (E 2) ++ wDo cy (d 3) (E 3) ++ wDo cy q M) H := hP
    have hD : va_D A ([(h 0, .inr (1, [.ref (h 1), .int (nI (0 + 1))])), (h 1, eR cy 4 (fun i => some (d i 0)))] ++ wDo cy (d 0) M ++ wDo cy (d 1) (E 1) ++ wDo cy (d 2) (E 2) ++ wDo cy (d 3) (E 3) ++ wDo cy q M) := hD
    exact W.vret hx hb hr (fun t ht hW => ⟨⟨(1, d, va_up E 0 M), rfl, (show 1 ≤ 4 by decide), by show va_P G vwCl (wHi cy h 1 d (va_up E 0 M) ++ wDo cy q M) t.heap; rw [ht]; exact hP, hD⟩, hS.F ht⟩) hS.2.2 dX2_record_35 hlocks
  · exact absurd c5 (by decide)

set_option maxHeartbeats 4000000 in
set_option maxRecDepth 100000 in
theorem kX2_record_1 (l : Launch) (G : va_G) (cy : Nat → ClassId) {H0 : Heap} {h : Nat → Nat} {d : Nat → Nat → Nat} {E : Nat → MT} {A0 : Nat → Prop} {q : Nat → Nat} {M : MT} (hP : va_P G vwCl (wHi cy h 1 d E ++ wDo cy q M) H0) (hD0 : va_D A0 (wHi cy h 1 d E ++ wDo cy q M)) : MutH l yX2_record wsX2_record 2 80 [.ref (h 0), .ref (q 0)] H0 G cy (fun k => k ≤ 4) h (wHi cy h 1 d E ++ wDo cy q M) (wDo cy q M) := by
  refine Met.ofW (cc := cX2_record) (maxL := 2) (ret := none) (by decide) rfl ?_
  intro p e s m args below meth c s₁ B hml hv
  obtain ⟨rfl, hH, hK⟩ := hv
  subst hH
  have hx := B.exec
  have hb := B.bytes
  have hr := B.returns
  have hts := atoms_spec (ws := wsX2_record) B.pre
  have hown : s.vm.findClass RX2 = some m.cls := findClass_of_methodNamed B.named
  have hlocks := B.notSynchronized
  have hl := lv_entry ([.ref (h 0), .ref (q 0)]) (n := 2) (Nat.le_of_ble_eq_true rfl)
  rw [lg_entry_eq]
  generalize (lg_sl ([.ref (h 0), .ref (q 0)]) ++ List.replicate (2 - (lg_sl ([.ref (h 0), .ref (q 0)])).length) Slot.unset).toArray = ls at hl ⊢
  have hl : lv_has ls 2 [(0, .ref (h 0)), (1, .ref (q 0))] := hl
  have hD := hD0.self (sz := s.heap.size)
  generalize hAe : va_A (wHi cy h 1 d E ++ wDo cy q M) s.heap.size = A at hD ⊢
  have hA : ∀ q : Nat, s.heap.size ≤ q → A q := fun q h => by rw [← hAe]; exact Or.inr h
  have hS : va_S A s.heap s.heap [] := va_S.rf
  refine lv_aload_n hx hb dX2_record_0 rfl (lv_at hl 0 rfl) ?_
  refine va_get (D := G) (ci := 1) (v := .int (nI 1)) (C := RX2) (T := TX2) (N := 2) hx hb hts iX2_record_X2 hown hK hP 0 rfl rfl 1 (by decide) (hts (.fieldLink RX2 18 "NailedOrders$History" "states" "I") (by decide +kernel)) (fun _ h9 => h9) rfl dX2_record_1 ?_
  refine lv_iconst (v := nI 4) hx hb dX2_record_4 (by decide +kernel) ?_
  refine o_icmp_ne (tgt := 12) hx hb dX2_record_5 (by decide) (by omega) (by omega) (fun c5 => ?_) (fun c5 => ?_)
  · refine lv_aload_n hx hb dX2_record_12 rfl (lv_at hl 0 rfl) ?_
    refine va_get (D := G) (ci := 1) (v := .ref (h 1)) (C := RX2) (T := TX2) (N := 2) hx hb hts iX2_record_X2 hown hK hP 0 rfl rfl 0 (by decide) (hts (.fieldLink RX2 11 "NailedOrders$History" "doors" "[LNailedOrders$Door;") (by decide +kernel)) (fun _ h9 => h9) rfl dX2_record_13 ?_
    refine lv_aload_n hx hb dX2_record_16 rfl (lv_at hl 0 rfl) ?_
    refine va_get (D := G) (ci := 1) (v := .int (nI 1)) (C := RX2) (T := TX2) (N := 2) hx hb hts iX2_record_X2 hown hK hP 0 rfl rfl 1 (by decide) (hts (.fieldLink RX2 18 "NailedOrders$History" "states" "I") (by decide +kernel)) (fun _ h9 => h9) rfl dX2_record_17 ?_
    refine o_aldq hx hb hK hP 1 4 rfl rfl 1 (by decide) (by decide) (v := .ref ((d 1) 0)) rfl dX2_record_20 ?_
    refine lv_aload_n hx hb dX2_record_21 rfl (lv_at hl 1 rfl) ?_
    have hPc := hP.sub (ws' := wDo cy (d 1) (E 1) ++ wDo cy q M) [11, 12, 13, 14, 15, 16, 17, 18, 19, 38, 39, 40, 41, 42, 43, 44, 45, 46] rfl
    have hDc := hD.sub (ws' := wDo cy (d 1) (E 1) ++ wDo cy q M) [11, 12, 13, 14, 15, 16, 17, 18, 19, 38, 39, 40, 41, 42, 43, 44, 45, 46] (by decide) rfl
    have hFc := va_free (wc := wDo cy (d 1) (E 1) ++ wDo cy q M) hD hS hA [11, 12, 13, 14, 15, 16, 17, 18, 19, 38, 39, 40, 41, 42, 43, 44, 45, 46] rfl
    refine va_callv (va_runV (As := [.ref (q 0)]) (rest := []) ⟨hx, hb, hml, hown, hts⟩ (kX1_become l G cy hPc hDc) (cwV 1 hts gX2_record_X1_become rfl rfl rfl (by decide +kernel) ⟨Nat.le_of_ble_eq_true rfl, Nat.le_of_ble_eq_true rfl⟩) ⟨pR_blind, va_recv hK hP (ci := 0) (q0 := 11) rfl rfl, pR_at hK⟩ rfl rfl hl.1 rfl (lv_room (Nat.le_of_ble_eq_true rfl)) dX2_record_22 ⟨Nat.zero_le _, Nat.zero_le _⟩) hS (fun q _ h => hFc q h) hFc (fun u t H locs ht hvm hw hB hz1 hk1 hS => ?_)
    rw [ht] at hB
    have hP : va_P G vwCl ([(h 0, .inr (1, [.ref (h 1), .int (nI 1)])), (h 1, eR cy 4 (fun i => some (d i 0)))] ++ wDo cy (d 0) (E 0) ++ wDo cy (d 1) M ++ wDo cy (d 2) (E 2) ++ wDo cy (d 3) (E 3) ++ wDo cy q M) H := (o_join hP hD [11, 12, 13, 14, 15, 16, 17, 18, 19, 38, 39, 40, 41, 42, 43, 44, 45, 46] [0, 1, 2, 3, 4, 5, 6, 7, 8, 9, 10, 20, 21, 22, 23, 24, 25, 26, 27, 28, 29, 30, 31, 32, 33, 34, 35, 36, 37] rfl (wr := [(h 0, .inr (1, [.ref (h 1), .int (nI 1)])), (h 1, eR cy 4 (fun i => some (d i 0)))] ++ wDo cy (d 0) (E 0) ++ wDo cy (d 2) (E 2) ++ wDo cy (d 3) (E 3)) rfl (by decide) (by decide) (by decide) hk1 hFc hB rfl).sub [0, 1, 2, 3, 4, 5, 6, 7, 8, 9, 10, 29, 30, 31, 32, 33, 34, 35, 36, 37, 11, 12, 13, 14, 15, 16, 17, 18, 19, 20, 21, 22, 23, 24, 25, 26, 27, 28, 38, 39, 40, 41, 42, 43, 44, 45, 46] rfl
    have hD : va_D A ([(h 0, .inr (1, [.ref (h 1), .int (nI 1)])), (h 1, eR cy 4 (fun i => some (d i 0)))] ++ wDo cy (d 0) (E 0) ++ wDo cy (d 1) M ++ wDo cy (d 2) (E 2) ++ wDo cy (d 3) (E 3) ++ wDo cy q M) := vd_same hD rfl
    refine lv_aload_n hx hb dX2_record_25 rfl (lv_at hl 0 rfl) ?_
    refine lv_dup hx hb dX2_record_26 rfl ?_
    refine va_get (D := G) (ci := 1) (v := .int (nI 1)) (C := RX2) (T := TX2) (N := 2) hx hb hts iX2_record_X2 hown hK hP 0 rfl rfl 1 (by decide) (hts (.fieldLink RX2 18 "NailedOrders$History" "states" "I") (by decide +kernel)) (fun _ h9 => h9) rfl dX2_record_27 ?_
    refine lv_iconst (v := nI 1) hx hb dX2_record_30 (by decide +kernel) ?_
    refine lv_iadd hx hb dX2_record_31 ?_
    rw [nI_add]
    refine va_put (D := G) (ci := 1) (v := .int (nI (1 + 1))) (ty := .int) (C := RX2) (T := TX2) (N := 2) hx hb hts iX2_record_X2 tyX2 tyX2_ok nmX2 hown hK hP hD hS 0 rfl rfl 1 (by decide) (hts (.fieldLink RX2 18 "NailedOrders$History" "states" "I") (by decide +kernel)) (fun _ h9 => h9) rfl (by decide +kernel) rfl rfl (Nat.le_of_ble_eq_true rfl) dX2_record_32 (fun H locs hP hD hS => ?_)
    have hP : va_P G vwCl ([(h 0, .inr (1, [.ref (h 1), .int (nI (1 + 1))])), (h 1, eR cy 4 (fun i => some (d i 0)))] ++ wDo cy (d 0) (E 0) ++ wDo cy (d 1) M ++ wDo cy (d 2) (E 2) ++ wDo cy (d 3) (E 3) ++ wDo cy q M) H := hP
    have hD : va_D A ([(h 0, .inr (1, [.ref (h 1), .int (nI (1 + 1))])), (h 1, eR cy 4 (fun i => some (d i 0)))] ++ wDo cy (d 0) (E 0) ++ wDo cy (d 1) M ++ wDo cy (d 2) (E 2) ++ wDo cy (d 3) (E 3) ++ wDo cy q M) := hD
    exact W.vret hx hb hr (fun t ht hW => ⟨⟨(2, d, va_up E 1 M), rfl, (show 2 ≤ 4 by decide), by show va_P G vwCl (wHi cy h 2 d (va_up E 1 M) ++ wDo cy q M) t.heap; rw [ht]; exact hP, hD⟩, hS.F ht⟩) hS.2.2 dX2_record_35 hlocks
  · exact absurd c5 (by decide)

set_option maxHeartbeats 4000000 in
set_option maxRecDepth 100000 in
theorem kX2_record_2 (l : Launch) (G : va_G) (cy : Nat → ClassId) {H0 : Heap} {h : Nat → Nat} {d : Nat → Nat → Nat} {E : Nat → MT} {A0 : Nat → Prop} {q : Nat → Nat} {M : MT} (hP : va_P G vwCl (wHi cy h 2 d E ++ wDo cy q M) H0) (hD0 : va_D A0 (wHi cy h 2 d E ++ wDo cy q M)) : MutH l yX2_record wsX2_record 2 80 [.ref (h 0), .ref (q 0)] H0 G cy (fun k => k ≤ 4) h (wHi cy h 2 d E ++ wDo cy q M) (wDo cy q M) := by
  refine Met.ofW (cc := cX2_record) (maxL := 2) (ret := none) (by decide) rfl ?_
  intro p e s m args below meth c s₁ B hml hv
  obtain ⟨rfl, hH, hK⟩ := hv
  subst hH
  have hx := B.exec
  have hb := B.bytes
  have hr := B.returns
  have hts := atoms_spec (ws := wsX2_record) B.pre
  have hown : s.vm.findClass RX2 = some m.cls := findClass_of_methodNamed B.named
  have hlocks := B.notSynchronized
  have hl := lv_entry ([.ref (h 0), .ref (q 0)]) (n := 2) (Nat.le_of_ble_eq_true rfl)
  rw [lg_entry_eq]
  generalize (lg_sl ([.ref (h 0), .ref (q 0)]) ++ List.replicate (2 - (lg_sl ([.ref (h 0), .ref (q 0)])).length) Slot.unset).toArray = ls at hl ⊢
  have hl : lv_has ls 2 [(0, .ref (h 0)), (1, .ref (q 0))] := hl
  have hD := hD0.self (sz := s.heap.size)
  generalize hAe : va_A (wHi cy h 2 d E ++ wDo cy q M) s.heap.size = A at hD ⊢
  have hA : ∀ q : Nat, s.heap.size ≤ q → A q := fun q h => by rw [← hAe]; exact Or.inr h
  have hS : va_S A s.heap s.heap [] := va_S.rf
  refine lv_aload_n hx hb dX2_record_0 rfl (lv_at hl 0 rfl) ?_
  refine va_get (D := G) (ci := 1) (v := .int (nI 2)) (C := RX2) (T := TX2) (N := 2) hx hb hts iX2_record_X2 hown hK hP 0 rfl rfl 1 (by decide) (hts (.fieldLink RX2 18 "NailedOrders$History" "states" "I") (by decide +kernel)) (fun _ h9 => h9) rfl dX2_record_1 ?_
  refine lv_iconst (v := nI 4) hx hb dX2_record_4 (by decide +kernel) ?_
  refine o_icmp_ne (tgt := 12) hx hb dX2_record_5 (by decide) (by omega) (by omega) (fun c5 => ?_) (fun c5 => ?_)
  · refine lv_aload_n hx hb dX2_record_12 rfl (lv_at hl 0 rfl) ?_
    refine va_get (D := G) (ci := 1) (v := .ref (h 1)) (C := RX2) (T := TX2) (N := 2) hx hb hts iX2_record_X2 hown hK hP 0 rfl rfl 0 (by decide) (hts (.fieldLink RX2 11 "NailedOrders$History" "doors" "[LNailedOrders$Door;") (by decide +kernel)) (fun _ h9 => h9) rfl dX2_record_13 ?_
    refine lv_aload_n hx hb dX2_record_16 rfl (lv_at hl 0 rfl) ?_
    refine va_get (D := G) (ci := 1) (v := .int (nI 2)) (C := RX2) (T := TX2) (N := 2) hx hb hts iX2_record_X2 hown hK hP 0 rfl rfl 1 (by decide) (hts (.fieldLink RX2 18 "NailedOrders$History" "states" "I") (by decide +kernel)) (fun _ h9 => h9) rfl dX2_record_17 ?_
    refine o_aldq hx hb hK hP 1 4 rfl rfl 2 (by decide) (by decide) (v := .ref ((d 2) 0)) rfl dX2_record_20 ?_
    refine lv_aload_n hx hb dX2_record_21 rfl (lv_at hl 1 rfl) ?_
    have hPc := hP.sub (ws' := wDo cy (d 2) (E 2) ++ wDo cy q M) [20, 21, 22, 23, 24, 25, 26, 27, 28, 38, 39, 40, 41, 42, 43, 44, 45, 46] rfl
    have hDc := hD.sub (ws' := wDo cy (d 2) (E 2) ++ wDo cy q M) [20, 21, 22, 23, 24, 25, 26, 27, 28, 38, 39, 40, 41, 42, 43, 44, 45, 46] (by decide) rfl
    have hFc := va_free (wc := wDo cy (d 2) (E 2) ++ wDo cy q M) hD hS hA [20, 21, 22, 23, 24, 25, 26, 27, 28, 38, 39, 40, 41, 42, 43, 44, 45, 46] rfl
    refine va_callv (va_runV (As := [.ref (q 0)]) (rest := []) ⟨hx, hb, hml, hown, hts⟩ (kX1_become l G cy hPc hDc) (cwV 1 hts gX2_record_X1_become rfl rfl rfl (by decide +kernel) ⟨Nat.le_of_ble_eq_true rfl, Nat.le_of_ble_eq_true rfl⟩) ⟨pR_blind, va_recv hK hP (ci := 0) (q0 := 20) rfl rfl, pR_at hK⟩ rfl rfl hl.1 rfl (lv_room (Nat.le_of_ble_eq_true rfl)) dX2_record_22 ⟨Nat.zero_le _, Nat.zero_le _⟩) hS (fun q _ h => hFc q h) hFc (fun u t H locs ht hvm hw hB hz1 hk1 hS => ?_)
    rw [ht] at hB
    have hP : va_P G vwCl ([(h 0, .inr (1, [.ref (h 1), .int (nI 2)])), (h 1, eR cy 4 (fun i => some (d i 0)))] ++ wDo cy (d 0) (E 0) ++ wDo cy (d 1) (E 1) ++ wDo cy (d 2) M ++ wDo cy (d 3) (E 3) ++ wDo cy q M) H := (o_join hP hD [20, 21, 22, 23, 24, 25, 26, 27, 28, 38, 39, 40, 41, 42, 43, 44, 45, 46] [0, 1, 2, 3, 4, 5, 6, 7, 8, 9, 10, 11, 12, 13, 14, 15, 16, 17, 18, 19, 29, 30, 31, 32, 33, 34, 35, 36, 37] rfl (wr := [(h 0, .inr (1, [.ref (h 1), .int (nI 2)])), (h 1, eR cy 4 (fun i => some (d i 0)))] ++ wDo cy (d 0) (E 0) ++ wDo cy (d 1) (E 1) ++ wDo cy (d 3) (E 3)) rfl (by decide) (by decide) (by decide) hk1 hFc hB rfl).sub [0, 1, 2, 3, 4, 5, 6, 7, 8, 9, 10, 11, 12, 13, 14, 15, 16, 17, 18, 19, 29, 30, 31, 32, 33, 34, 35, 36, 37, 20, 21, 22, 23, 24, 25, 26, 27, 28, 38, 39, 40, 41, 42, 43, 44, 45, 46] rfl
    have hD : va_D A ([(h 0, .inr (1, [.ref (h 1), .int (nI 2)])), (h 1, eR cy 4 (fun i => some (d i 0)))] ++ wDo cy (d 0) (E 0) ++ wDo cy (d 1) (E 1) ++ wDo cy (d 2) M ++ wDo cy (d 3) (E 3) ++ wDo cy q M) := vd_same hD rfl
    refine lv_aload_n hx hb dX2_record_25 rfl (lv_at hl 0 rfl) ?_
    refine lv_dup hx hb dX2_record_26 rfl ?_
    refine va_get (D := G) (ci := 1) (v := .int (nI 2)) (C := RX2) (T := TX2) (N := 2) hx hb hts iX2_record_X2 hown hK hP 0 rfl rfl 1 (by decide) (hts (.fieldLink RX2 18 "NailedOrders$History" "states" "I") (by decide +kernel)) (fun _ h9 => h9) rfl dX2_record_27 ?_
    refine lv_iconst (v := nI 1) hx hb dX2_record_30 (by decide +kernel) ?_
    refine lv_iadd hx hb dX2_record_31 ?_
    rw [nI_add]
    refine va_put (D := G) (ci := 1) (v := .int (nI (2 + 1))) (ty := .int) (C := RX2) (T := TX2) (N := 2) hx hb hts iX2_record_X2 tyX2 tyX2_ok nmX2 hown hK hP hD hS 0 rfl rfl 1 (by decide) (hts (.fieldLink RX2 18 "NailedOrders$History" "states" "I") (by decide +kernel)) (fun _ h9 => h9) rfl (by decide +kernel) rfl rfl (Nat.le_of_ble_eq_true rfl) dX2_record_32 (fun H locs hP hD hS => ?_)
    have hP : va_P G vwCl ([(h 0, .inr (1, [.ref (h 1), .int (nI (2 + 1))])), (h 1, eR cy 4 (fun i => some (d i 0)))] ++ wDo cy (d 0) (E 0) ++ wDo cy (d 1) (E 1) ++ wDo cy (d 2) M ++ wDo cy (d 3) (E 3) ++ wDo cy q M) H := hP
    have hD : va_D A ([(h 0, .inr (1, [.ref (h 1), .int (nI (2 + 1))])), (h 1, eR cy 4 (fun i => some (d i 0)))] ++ wDo cy (d 0) (E 0) ++ wDo cy (d 1) (E 1) ++ wDo cy (d 2) M ++ wDo cy (d 3) (E 3) ++ wDo cy q M) := hD
    exact W.vret hx hb hr (fun t ht hW => ⟨⟨(3, d, va_up E 2 M), rfl, (show 3 ≤ 4 by decide), by show va_P G vwCl (wHi cy h 3 d (va_up E 2 M) ++ wDo cy q M) t.heap; rw [ht]; exact hP, hD⟩, hS.F ht⟩) hS.2.2 dX2_record_35 hlocks
  · exact absurd c5 (by decide)

set_option maxHeartbeats 4000000 in
set_option maxRecDepth 100000 in
theorem kX2_record_3 (l : Launch) (G : va_G) (cy : Nat → ClassId) {H0 : Heap} {h : Nat → Nat} {d : Nat → Nat → Nat} {E : Nat → MT} {A0 : Nat → Prop} {q : Nat → Nat} {M : MT} (hP : va_P G vwCl (wHi cy h 3 d E ++ wDo cy q M) H0) (hD0 : va_D A0 (wHi cy h 3 d E ++ wDo cy q M)) : MutH l yX2_record wsX2_record 2 80 [.ref (h 0), .ref (q 0)] H0 G cy (fun k => k ≤ 4) h (wHi cy h 3 d E ++ wDo cy q M) (wDo cy q M) := by
  refine Met.ofW (cc := cX2_record) (maxL := 2) (ret := none) (by decide) rfl ?_
  intro p e s m args below meth c s₁ B hml hv
  obtain ⟨rfl, hH, hK⟩ := hv
  subst hH
  have hx := B.exec
  have hb := B.bytes
  have hr := B.returns
  have hts := atoms_spec (ws := wsX2_record) B.pre
  have hown : s.vm.findClass RX2 = some m.cls := findClass_of_methodNamed B.named
  have hlocks := B.notSynchronized
  have hl := lv_entry ([.ref (h 0), .ref (q 0)]) (n := 2) (Nat.le_of_ble_eq_true rfl)
  rw [lg_entry_eq]
  generalize (lg_sl ([.ref (h 0), .ref (q 0)]) ++ List.replicate (2 - (lg_sl ([.ref (h 0), .ref (q 0)])).length) Slot.unset).toArray = ls at hl ⊢
  have hl : lv_has ls 2 [(0, .ref (h 0)), (1, .ref (q 0))] := hl
  have hD := hD0.self (sz := s.heap.size)
  generalize hAe : va_A (wHi cy h 3 d E ++ wDo cy q M) s.heap.size = A at hD ⊢
  have hA : ∀ q : Nat, s.heap.size ≤ q → A q := fun q h => by rw [← hAe]; exact Or.inr h
  have hS : va_S A s.heap s.heap [] := va_S.rf
  refine lv_aload_n hx hb dX2_record_0 rfl (lv_at hl 0 rfl) ?_
  refine va_get (D := G) (ci := 1) (v := .int (nI 3)) (C := RX2) (T := TX2) (N := 2) hx hb hts iX2_record_X2 hown hK hP 0 rfl rfl 1 (by decide) (hts (.fieldLink RX2 18 "NailedOrders$History" "states" "I") (by decide +kernel)) (fun _ h9 => h9) rfl dX2_record_1 ?_
  refine lv_iconst (v := nI 4) hx hb dX2_record_4 (by decide +kernel) ?_
  refine o_icmp_ne (tgt := 12) hx hb dX2_record_5 (by decide) (by omega) (by omega) (fun c5 => ?_) (fun c5 => ?_)
  · refine lv_aload_n hx hb dX2_record_12 rfl (lv_at hl 0 rfl) ?_
    refine va_get (D := G) (ci := 1) (v := .ref (h 1)) (C := RX2) (T := TX2) (N := 2) hx hb hts iX2_record_X2 hown hK hP 0 rfl rfl 0 (by decide) (hts (.fieldLink RX2 11 "NailedOrders$History" "doors" "[LNailedOrders$Door;") (by decide +kernel)) (fun _ h9 => h9) rfl dX2_record_13 ?_
    refine lv_aload_n hx hb dX2_record_16 rfl (lv_at hl 0 rfl) ?_
    refine va_get (D := G) (ci := 1) (v := .int (nI 3)) (C := RX2) (T := TX2) (N := 2) hx hb hts iX2_record_X2 hown hK hP 0 rfl rfl 1 (by decide) (hts (.fieldLink RX2 18 "NailedOrders$History" "states" "I") (by decide +kernel)) (fun _ h9 => h9) rfl dX2_record_17 ?_
    refine o_aldq hx hb hK hP 1 4 rfl rfl 3 (by decide) (by decide) (v := .ref ((d 3) 0)) rfl dX2_record_20 ?_
    refine lv_aload_n hx hb dX2_record_21 rfl (lv_at hl 1 rfl) ?_
    have hPc := hP.sub (ws' := wDo cy (d 3) (E 3) ++ wDo cy q M) [29, 30, 31, 32, 33, 34, 35, 36, 37, 38, 39, 40, 41, 42, 43, 44, 45, 46] rfl
    have hDc := hD.sub (ws' := wDo cy (d 3) (E 3) ++ wDo cy q M) [29, 30, 31, 32, 33, 34, 35, 36, 37, 38, 39, 40, 41, 42, 43, 44, 45, 46] (by decide) rfl
    have hFc := va_free (wc := wDo cy (d 3) (E 3) ++ wDo cy q M) hD hS hA [29, 30, 31, 32, 33, 34, 35, 36, 37, 38, 39, 40, 41, 42, 43, 44, 45, 46] rfl
    refine va_callv (va_runV (As := [.ref (q 0)]) (rest := []) ⟨hx, hb, hml, hown, hts⟩ (kX1_become l G cy hPc hDc) (cwV 1 hts gX2_record_X1_become rfl rfl rfl (by decide +kernel) ⟨Nat.le_of_ble_eq_true rfl, Nat.le_of_ble_eq_true rfl⟩) ⟨pR_blind, va_recv hK hP (ci := 0) (q0 := 29) rfl rfl, pR_at hK⟩ rfl rfl hl.1 rfl (lv_room (Nat.le_of_ble_eq_true rfl)) dX2_record_22 ⟨Nat.zero_le _, Nat.zero_le _⟩) hS (fun q _ h => hFc q h) hFc (fun u t H locs ht hvm hw hB hz1 hk1 hS => ?_)
    rw [ht] at hB
    have hP : va_P G vwCl ([(h 0, .inr (1, [.ref (h 1), .int (nI 3)])), (h 1, eR cy 4 (fun i => some (d i 0)))] ++ wDo cy (d 0) (E 0) ++ wDo cy (d 1) (E 1) ++ wDo cy (d 2) (E 2) ++ wDo cy (d 3) M ++ wDo cy q M) H := (o_join hP hD [29, 30, 31, 32, 33, 34, 35, 36, 37, 38, 39, 40, 41, 42, 43, 44, 45, 46] [0, 1, 2, 3, 4, 5, 6, 7, 8, 9, 10, 11, 12, 13, 14, 15, 16, 17, 18, 19, 20, 21, 22, 23, 24, 25, 26, 27, 28] rfl (wr := [(h 0, .inr (1, [.ref (h 1), .int (nI 3)])), (h 1, eR cy 4 (fun i => some (d i 0)))] ++ wDo cy (d 0) (E 0) ++ wDo cy (d 1) (E 1) ++ wDo cy (d 2) (E 2)) rfl (by decide) (by decide) (by decide) hk1 hFc hB rfl).sub [0, 1, 2, 3, 4, 5, 6, 7, 8, 9, 10, 11, 12, 13, 14, 15, 16, 17, 18, 19, 20, 21, 22, 23, 24, 25, 26, 27, 28, 29, 30, 31, 32, 33, 34, 35, 36, 37, 38, 39, 40, 41, 42, 43, 44, 45, 46] rfl
    have hD : va_D A ([(h 0, .inr (1, [.ref (h 1), .int (nI 3)])), (h 1, eR cy 4 (fun i => some (d i 0)))] ++ wDo cy (d 0) (E 0) ++ wDo cy (d 1) (E 1) ++ wDo cy (d 2) (E 2) ++ wDo cy (d 3) M ++ wDo cy q M) := vd_same hD rfl
    refine lv_aload_n hx hb dX2_record_25 rfl (lv_at hl 0 rfl) ?_
    refine lv_dup hx hb dX2_record_26 rfl ?_
    refine va_get (D := G) (ci := 1) (v := .int (nI 3)) (C := RX2) (T := TX2) (N := 2) hx hb hts iX2_record_X2 hown hK hP 0 rfl rfl 1 (by decide) (hts (.fieldLink RX2 18 "NailedOrders$History" "states" "I") (by decide +kernel)) (fun _ h9 => h9) rfl dX2_record_27 ?_
    refine lv_iconst (v := nI 1) hx hb dX2_record_30 (by decide +kernel) ?_
    refine lv_iadd hx hb dX2_record_31 ?_
    rw [nI_add]
    refine va_put (D := G) (ci := 1) (v := .int (nI (3 + 1))) (ty := .int) (C := RX2) (T := TX2) (N := 2) hx hb hts iX2_record_X2 tyX2 tyX2_ok nmX2 hown hK hP hD hS 0 rfl rfl 1 (by decide) (hts (.fieldLink RX2 18 "NailedOrders$History" "states" "I") (by decide +kernel)) (fun _ h9 => h9) rfl (by decide +kernel) rfl rfl (Nat.le_of_ble_eq_true rfl) dX2_record_32 (fun H locs hP hD hS => ?_)
    have hP : va_P G vwCl ([(h 0, .inr (1, [.ref (h 1), .int (nI (3 + 1))])), (h 1, eR cy 4 (fun i => some (d i 0)))] ++ wDo cy (d 0) (E 0) ++ wDo cy (d 1) (E 1) ++ wDo cy (d 2) (E 2) ++ wDo cy (d 3) M ++ wDo cy q M) H := hP
    have hD : va_D A ([(h 0, .inr (1, [.ref (h 1), .int (nI (3 + 1))])), (h 1, eR cy 4 (fun i => some (d i 0)))] ++ wDo cy (d 0) (E 0) ++ wDo cy (d 1) (E 1) ++ wDo cy (d 2) (E 2) ++ wDo cy (d 3) M ++ wDo cy q M) := hD
    exact W.vret hx hb hr (fun t ht hW => ⟨⟨(4, d, va_up E 3 M), rfl, (show 4 ≤ 4 by decide), by show va_P G vwCl (wHi cy h 4 d (va_up E 3 M) ++ wDo cy q M) t.heap; rw [ht]; exact hP, hD⟩, hS.F ht⟩) hS.2.2 dX2_record_35 hlocks
  · exact absurd c5 (by decide)

set_option maxHeartbeats 4000000 in
set_option maxRecDepth 100000 in
theorem kX2_record_4 (l : Launch) (G : va_G) (cy : Nat → ClassId) {H0 : Heap} {h : Nat → Nat} {d : Nat → Nat → Nat} {E : Nat → MT} {A0 : Nat → Prop} {q : Nat → Nat} {M : MT} (hP : va_P G vwCl (wHi cy h 4 d E ++ wDo cy q M) H0) (hD0 : va_D A0 (wHi cy h 4 d E ++ wDo cy q M)) : MutH l yX2_record wsX2_record 2 80 [.ref (h 0), .ref (q 0)] H0 G cy (fun k => k ≤ 4) h (wHi cy h 4 d E ++ wDo cy q M) (wDo cy q M) := by
  refine Met.ofW (cc := cX2_record) (maxL := 2) (ret := none) (by decide) rfl ?_
  intro p e s m args below meth c s₁ B hml hv
  obtain ⟨rfl, hH, hK⟩ := hv
  subst hH
  have hx := B.exec
  have hb := B.bytes
  have hr := B.returns
  have hts := atoms_spec (ws := wsX2_record) B.pre
  have hown : s.vm.findClass RX2 = some m.cls := findClass_of_methodNamed B.named
  have hlocks := B.notSynchronized
  have hl := lv_entry ([.ref (h 0), .ref (q 0)]) (n := 2) (Nat.le_of_ble_eq_true rfl)
  rw [lg_entry_eq]
  generalize (lg_sl ([.ref (h 0), .ref (q 0)]) ++ List.replicate (2 - (lg_sl ([.ref (h 0), .ref (q 0)])).length) Slot.unset).toArray = ls at hl ⊢
  have hl : lv_has ls 2 [(0, .ref (h 0)), (1, .ref (q 0))] := hl
  have hD := hD0.self (sz := s.heap.size)
  generalize hAe : va_A (wHi cy h 4 d E ++ wDo cy q M) s.heap.size = A at hD ⊢
  have hA : ∀ q : Nat, s.heap.size ≤ q → A q := fun q h => by rw [← hAe]; exact Or.inr h
  have hS : va_S A s.heap s.heap [] := va_S.rf
  refine lv_aload_n hx hb dX2_record_0 rfl (lv_at hl 0 rfl) ?_
  refine va_get (D := G) (ci := 1) (v := .int (nI 4)) (C := RX2) (T := TX2) (N := 2) hx hb hts iX2_record_X2 hown hK hP 0 rfl rfl 1 (by decide) (hts (.fieldLink RX2 18 "NailedOrders$History" "states" "I") (by decide +kernel)) (fun _ h9 => h9) rfl dX2_record_1 ?_
  refine lv_iconst (v := nI 4) hx hb dX2_record_4 (by decide +kernel) ?_
  refine o_icmp_ne (tgt := 12) hx hb dX2_record_5 (by decide) (by omega) (by omega) (fun c5 => ?_) (fun c5 => ?_)
  · exact absurd rfl c5
  · refine lv_aload_n hx hb dX2_record_8 rfl (lv_at hl 0 rfl) ?_
    have hPc := hP.sub (ws' := wHi cy h 4 d E) [0, 1, 2, 3, 4, 5, 6, 7, 8, 9, 10, 11, 12, 13, 14, 15, 16, 17, 18, 19, 20, 21, 22, 23, 24, 25, 26, 27, 28, 29, 30, 31, 32, 33, 34, 35, 36, 37] rfl
    have hDc := hD.sub (ws' := wHi cy h 4 d E) [0, 1, 2, 3, 4, 5, 6, 7, 8, 9, 10, 11, 12, 13, 14, 15, 16, 17, 18, 19, 20, 21, 22, 23, 24, 25, 26, 27, 28, 29, 30, 31, 32, 33, 34, 35, 36, 37] (by decide) rfl
    have hFc := va_free (wc := wHi cy h 4 d E) hD hS hA [0, 1, 2, 3, 4, 5, 6, 7, 8, 9, 10, 11, 12, 13, 14, 15, 16, 17, 18, 19, 20, 21, 22, 23, 24, 25, 26, 27, 28, 29, 30, 31, 32, 33, 34, 35, 36, 37] rfl
    refine va_callv (va_runV (As := []) (rest := []) ⟨hx, hb, hml, hown, hts⟩ (kX2_dropOldest l G cy hPc hDc) (cwV 0 hts gX2_record_X2_dropOldest rfl rfl rfl (by decide +kernel) ⟨Nat.le_of_ble_eq_true rfl, Nat.le_of_ble_eq_true rfl⟩) ⟨pR_blind, va_recv hK hP (ci := 1) (q0 := 0) rfl rfl, pR_at hK⟩ rfl rfl hl.1 rfl (lv_room (Nat.le_of_ble_eq_true rfl)) dX2_record_9 ⟨Nat.zero_le _, Nat.zero_le _⟩) hS (fun q _ h => hFc q h) hFc (fun u t H locs ht hvm hw hB hz1 hk1 hS => ?_)
    obtain ⟨k1, d1, E1⟩ := u
    obtain rfl : k1 = 3 := hw
    have hB : va_P G vwCl (wHi cy h 3 d1 E1 ++ []) t.heap ∧ va_D (va_A (wHi cy h 4 d E) _) (wHi cy h 3 d1 E1 ++ []) := hB
    rw [ht, List.append_nil] at hB
    obtain ⟨hP1, hD1⟩ := hB
    obtain ⟨hP, hD⟩ := va_join (wr := wDo cy q M) hP hD [0, 1, 2, 3, 4, 5, 6, 7, 8, 9, 10, 11, 12, 13, 14, 15, 16, 17, 18, 19, 20, 21, 22, 23, 24, 25, 26, 27, 28, 29, 30, 31, 32, 33, 34, 35, 36, 37] [38, 39, 40, 41, 42, 43, 44, 45, 46] rfl rfl (by decide) (by decide) hk1 hFc hP1 hD1
    have hP : va_P G vwCl (wHi cy h 3 d1 E1 ++ wDo cy q M) H := hP.sub [9, 10, 11, 12, 13, 14, 15, 16, 17, 18, 19, 20, 21, 22, 23, 24, 25, 26, 27, 28, 29, 30, 31, 32, 33, 34, 35, 36, 37, 38, 39, 40, 41, 42, 43, 44, 45, 46, 0, 1, 2, 3, 4, 5, 6, 7, 8] rfl
    have hD : va_D A (wHi cy h 3 d1 E1 ++ wDo cy q M) := hD.sub [9, 10, 11, 12, 13, 14, 15, 16, 17, 18, 19, 20, 21, 22, 23, 24, 25, 26, 27, 28, 29, 30, 31, 32, 33, 34, 35, 36, 37, 38, 39, 40, 41, 42, 43, 44, 45, 46, 0, 1, 2, 3, 4, 5, 6, 7, 8] (by decide) rfl
    refine lv_aload_n hx hb dX2_record_12 rfl (lv_at hl 0 rfl) ?_
    refine va_get (D := G) (ci := 1) (v := .ref (h 1)) (C := RX2) (T := TX2) (N := 2) hx hb hts iX2_record_X2 hown hK hP 0 rfl rfl 0 (by decide) (hts (.fieldLink RX2 11 "NailedOrders$History" "doors" "[LNailedOrders$Door;") (by decide +kernel)) (fun _ h9 => h9) rfl dX2_record_13 ?_
    refine lv_aload_n hx hb dX2_record_16 rfl (lv_at hl 0 rfl) ?_
    refine va_get (D := G) (ci := 1) (v := .int (nI 3)) (C := RX2) (T := TX2) (N := 2) hx hb hts iX2_record_X2 hown hK hP 0 rfl rfl 1 (by decide) (hts (.fieldLink RX2 18 "NailedOrders$History" "states" "I") (by decide +kernel)) (fun _ h9 => h9) rfl dX2_record_17 ?_
    refine o_aldq hx hb hK hP 1 4 rfl rfl 3 (by decide) (by decide) (v := .ref ((d1 3) 0)) rfl dX2_record_20 ?_
    refine lv_aload_n hx hb dX2_record_21 rfl (lv_at hl 1 rfl) ?_
    have hPc := hP.sub (ws' := wDo cy (d1 3) (E1 3) ++ wDo cy q M) [29, 30, 31, 32, 33, 34, 35, 36, 37, 38, 39, 40, 41, 42, 43, 44, 45, 46] rfl
    have hDc := hD.sub (ws' := wDo cy (d1 3) (E1 3) ++ wDo cy q M) [29, 30, 31, 32, 33, 34, 35, 36, 37, 38, 39, 40, 41, 42, 43, 44, 45, 46] (by decide) rfl
    have hFc := va_free (wc := wDo cy (d1 3) (E1 3) ++ wDo cy q M) hD hS hA [29, 30, 31, 32, 33, 34, 35, 36, 37, 38, 39, 40, 41, 42, 43, 44, 45, 46] rfl
    refine va_callv (va_runV (As := [.ref (q 0)]) (rest := []) ⟨hx, hb, hml, hown, hts⟩ (kX1_become l G cy hPc hDc) (cwV 1 hts gX2_record_X1_become rfl rfl rfl (by decide +kernel) ⟨Nat.le_of_ble_eq_true rfl, Nat.le_of_ble_eq_true rfl⟩) ⟨pR_blind, va_recv hK hP (ci := 0) (q0 := 29) rfl rfl, pR_at hK⟩ rfl rfl hl.1 rfl (lv_room (Nat.le_of_ble_eq_true rfl)) dX2_record_22 ⟨Nat.zero_le _, Nat.zero_le _⟩) hS (fun q _ h => hFc q h) hFc (fun u t H locs ht hvm hw hB hz1 hk1 hS => ?_)
    rw [ht] at hB
    have hP : va_P G vwCl ([(h 0, .inr (1, [.ref (h 1), .int (nI 3)])), (h 1, eR cy 4 (fun i => some (d1 i 0)))] ++ wDo cy (d1 0) (E1 0) ++ wDo cy (d1 1) (E1 1) ++ wDo cy (d1 2) (E1 2) ++ wDo cy (d1 3) M ++ wDo cy q M) H := (o_join hP hD [29, 30, 31, 32, 33, 34, 35, 36, 37, 38, 39, 40, 41, 42, 43, 44, 45, 46] [0, 1, 2, 3, 4, 5, 6, 7, 8, 9, 10, 11, 12, 13, 14, 15, 16, 17, 18, 19, 20, 21, 22, 23, 24, 25, 26, 27, 28] rfl (wr := [(h 0, .inr (1, [.ref (h 1), .int (nI 3)])), (h 1, eR cy 4 (fun i => some (d1 i 0)))] ++ wDo cy (d1 0) (E1 0) ++ wDo cy (d1 1) (E1 1) ++ wDo cy (d1 2) (E1 2)) rfl (by decide) (by decide) (by decide) hk1 hFc hB rfl).sub [0, 1, 2, 3, 4, 5, 6, 7, 8, 9, 10, 11, 12, 13, 14, 15, 16, 17, 18, 19, 20, 21, 22, 23, 24, 25, 26, 27, 28, 29, 30, 31, 32, 33, 34, 35, 36, 37, 38, 39, 40, 41, 42, 43, 44, 45, 46] rfl
    have hD : va_D A ([(h 0, .inr (1, [.ref (h 1), .int (nI 3)])), (h 1, eR cy 4 (fun i => some (d1 i 0)))] ++ wDo cy (d1 0) (E1 0) ++ wDo cy (d1 1) (E1 1) ++ wDo cy (d1 2) (E1 2) ++ wDo cy (d1 3) M ++ wDo cy q M) := vd_same hD rfl
    refine lv_aload_n hx hb dX2_record_25 rfl (lv_at hl 0 rfl) ?_
    refine lv_dup hx hb dX2_record_26 rfl ?_
    refine va_get (D := G) (ci := 1) (v := .int (nI 3)) (C := RX2) (T := TX2) (N := 2) hx hb hts iX2_record_X2 hown hK hP 0 rfl rfl 1 (by decide) (hts (.fieldLink RX2 18 "NailedOrders$History" "states" "I") (by decide +kernel)) (fun _ h9 => h9) rfl dX2_record_27 ?_
    refine lv_iconst (v := nI 1) hx hb dX2_record_30 (by decide +kernel) ?_
    refine lv_iadd hx hb dX2_record_31 ?_
    rw [nI_add]
    refine va_put (D := G) (ci := 1) (v := .int (nI (3 + 1))) (ty := .int) (C := RX2) (T := TX2) (N := 2) hx hb hts iX2_record_X2 tyX2 tyX2_ok nmX2 hown hK hP hD hS 0 rfl rfl 1 (by decide) (hts (.fieldLink RX2 18 "NailedOrders$History" "states" "I") (by decide +kernel)) (fun _ h9 => h9) rfl (by decide +kernel) rfl rfl (Nat.le_of_ble_eq_true rfl) dX2_record_32 (fun H locs hP hD hS => ?_)
    have hP : va_P G vwCl ([(h 0, .inr (1, [.ref (h 1), .int (nI (3 + 1))])), (h 1, eR cy 4 (fun i => some (d1 i 0)))] ++ wDo cy (d1 0) (E1 0) ++ wDo cy (d1 1) (E1 1) ++ wDo cy (d1 2) (E1 2) ++ wDo cy (d1 3) M ++ wDo cy q M) H := hP
    have hD : va_D A ([(h 0, .inr (1, [.ref (h 1), .int (nI (3 + 1))])), (h 1, eR cy 4 (fun i => some (d1 i 0)))] ++ wDo cy (d1 0) (E1 0) ++ wDo cy (d1 1) (E1 1) ++ wDo cy (d1 2) (E1 2) ++ wDo cy (d1 3) M ++ wDo cy q M) := hD
    exact W.vret hx hb hr (fun t ht hW => ⟨⟨(4, d1, va_up E1 3 M), rfl, (show 4 ≤ 4 by decide), by show va_P G vwCl (wHi cy h 4 d1 (va_up E1 3 M) ++ wDo cy q M) t.heap; rw [ht]; exact hP, hD⟩, hS.F ht⟩) hS.2.2 dX2_record_35 hlocks
theorem kX2_record (l : Launch) (G : va_G) (cy : Nat → ClassId) {H0 : Heap} {h : Nat → Nat} {d : Nat → Nat → Nat} {E : Nat → MT} {A0 : Nat → Prop} {q : Nat → Nat} {M : MT} (k : Nat) (hk : k ≤ 4) (hP : va_P G vwCl (wHi cy h k d E ++ wDo cy q M) H0) (hD0 : va_D A0 (wHi cy h k d E ++ wDo cy q M)) : MutH l yX2_record wsX2_record 2 80 [.ref (h 0), .ref (q 0)] H0 G cy (fun k => k ≤ 4) h (wHi cy h k d E ++ wDo cy q M) (wDo cy q M) := by
  match k, hk with
  | 0, _ => exact kX2_record_0 l G cy hP hD0
  | 1, _ => exact kX2_record_1 l G cy hP hD0
  | 2, _ => exact kX2_record_2 l G cy hP hD0
  | 3, _ => exact kX2_record_3 l G cy hP hD0
  | 4, _ => exact kX2_record_4 l G cy hP hD0
end
section
/-! floats: what the walks need of them -/
abbrev Fin32 (x : UInt32) : Prop := FP.Core.FFin x
theorem n32_of {a : UInt32} (h : FP.Core.fIsNaN a = false) : vf_n32 a := by
  have h1 : ¬ (2139095040 < a.toNat % 2 ^ 31) := fun z => by rw [(FP.Core.isNaN_bits32 a).mpr z] at h; cases h
  show a &&& 0x7fffffff ≤ 0x7f800000
  rw [UInt32.le_iff_toNat_le, FP.Core.mask_toNat32]
  show _ ≤ 2139095040
  omega
theorem n64_of {a : UInt64} (h : FP.Core.dIsNaN a = false) : vf_n64 a := by
  have h1 : ¬ (9218868437227405312 < a.toNat % 2 ^ 63) := fun z => by rw [(FP.Core.isNaN_bits a).mpr z] at h; cases h
  show a &&& 0x7fffffffffffffff ≤ 0x7ff0000000000000
  rw [UInt64.le_iff_toNat_le, FP.Core.mask_toNat]
  show _ ≤ 9218868437227405312
  omega
theorem mul_n {a b : UInt32} (ha : Fin32 a) (hb : Fin32 b) : FP.Core.fIsNaN (FP.fmul a b) = false := FP.Core.fmul_out ha hb
theorem madd_n {v a b : UInt32} (hv : Fin32 v) (ha : Fin32 a) (hb : Fin32 b) : FP.Core.fIsNaN (FP.fadd (FP.fmul v a) b) = false := FP.Core.fadd_out (mul_n hv ha) hb
/-- from minus to plus a thousand million -/
def rngB (x : UInt32) : Bool := decide (¬ Op.cmpValue (FP.fcmp x 3463342888) .l < 0 ∧ ¬ 0 < Op.cmpValue (FP.fcmp x 1315859240) .g)
theorem rngB_iff {x : UInt32} : rngB x = true ↔ ¬ Op.cmpValue (FP.fcmp x 3463342888) .l < 0 ∧ ¬ 0 < Op.cmpValue (FP.fcmp x 1315859240) .g := by unfold rngB; exact decide_eq_true_iff
theorem rng_fin {x : UInt32} (h : rngB x = true) : Fin32 x := by
  obtain ⟨h1, h2⟩ := rngB_iff.mp h
  cases hv : FP.Core.val32 x with
  | nan =>
    exfalso
    have e : FP.fcmp x 3463342888 = none := (FP.Core.fcmp_none _ _).mpr (Or.inl hv)
    rw [e] at h1
    exact h1 (by decide)
  | inf s =>
    exfalso
    have hx : x = (if s then 4286578688 else 2139095040) := FP.Core.val32_inj (by rw [hv]; intro z; cases z) (by rw [hv, FP.Core.val32_inf])
    cases s with
    | true =>
      subst hx
      exact h1 (by decide +kernel)
    | false =>
      subst hx
      exact h2 (by decide +kernel)
  | fin s c q => exact ⟨s, c, q, hv⟩
theorem fin_0 : Fin32 0 := ⟨false, 0, _, FP.Core.val32_zero⟩
end
section
/-! a reckoning: rulers, known, values -/
abbrev wRe (cy : Nat → ClassId) (r : Nat → Nat) (d : Nat) (ru : Nat → Option Nat) (kn : Nat → Bool) (va : Nat → UInt32) : va_W := [(r 0, .inr (3, [.ref d, .ref (r 1), .ref (r 2), .ref (r 3)])), (r 1, eI cy 16 (fun w => lkI (ru w))), (r 2, eZ cy 16 (fun w => bI (kn w = true))), (r 3, eF cy 16 va)]
/-- the numbers and factors of all orders are numbers -/
def WF (M : MT) : Prop := (∀ k, Fin32 (mA M k)) ∧ ∀ k, Fin32 (mU M k)
def oVal (M : MT) (va : Nat → UInt32) (k : Nat) : UInt32 := match mL M k with
  | none => mU M k
  | some w => FP.fadd (FP.fmul (va w) (mA M k)) (mU M k)
def oHas (M : MT) (kn : Nat → Bool) (va : Nat → UInt32) (k : Nat) : Bool := (match mL M k with
  | none => true
  | some w => kn w) && rngB (oVal M va k)
theorem oVal_n {M : MT} {va : Nat → UInt32} {k : Nat} (h : mL M k = none) : oVal M va k = mU M k := by unfold oVal; rw [h]
theorem oVal_s {M : MT} {va : Nat → UInt32} {k w : Nat} (h : mL M k = some w) : oVal M va k = FP.fadd (FP.fmul (va w) (mA M k)) (mU M k) := by unfold oVal; rw [h]
theorem oHas_n {M : MT} {kn : Nat → Bool} {va : Nat → UInt32} {k : Nat} (h : mL M k = none) : oHas M kn va k = true ↔ rngB (oVal M va k) = true := by unfold oHas; rw [h]; simp
theorem oHas_s {M : MT} {kn : Nat → Bool} {va : Nat → UInt32} {k w : Nat} (h : mL M k = some w) : oHas M kn va k = true ↔ kn w = true ∧ rngB (oVal M va k) = true := by unfold oHas; rw [h]; simp
theorem oHas_rng {M : MT} {kn : Nat → Bool} {va : Nat → UInt32} {k : Nat} (h : oHas M kn va k = true) : rngB (oVal M va k) = true := by unfold oHas at h; simp only [Bool.and_eq_true] at h; exact h.2
/-- how far two values are apart, against the tolerance -/
def absF (d : UInt32) : UInt32 := if 0 ≤ Op.cmpValue (FP.fcmp d FP.fconst0) .g then d else FP.fneg d
def farB (tol x y : UInt32) : Bool := decide (¬ Op.cmpValue (FP.fcmp (absF (FP.fsub x y)) tol) .l ≤ 0)
theorem absF_t {d : UInt32} (h : 0 ≤ Op.cmpValue (FP.fcmp d FP.fconst0) .g) : absF d = d := if_pos h
theorem absF_f {d : UInt32} (h : ¬ 0 ≤ Op.cmpValue (FP.fcmp d FP.fconst0) .g) : absF d = FP.fneg d := if_neg h
theorem farB_iff {t x y : UInt32} : farB t x y = true ↔ ¬ Op.cmpValue (FP.fcmp (absF (FP.fsub x y)) t) .l ≤ 0 := by unfold farB; exact decide_eq_true_iff
/-- whether two orders are in conflict -/
def rivB (M : MT) (kn : Nat → Bool) (va : Nat → UInt32) (j o : Nat) : Bool := decide (mO M j ≠ mO M o ∧ mR M (mO M j) = mR M (mO M o)) && ((oHas M kn va j != oHas M kn va o) || (oHas M kn va j && farB (mT M) (oVal M va j) (oVal M va o)))
/-- the topmost order below n that hangs for w and is in conflict with o -/
def topR (M : MT) (kn : Nat → Bool) (va : Nat → UInt32) (w o : Nat) : Nat → Option Nat
  | 0 => none
  | j + 1 => if hfB M w j && rivB M kn va j o then some j else topR M kn va w o j
theorem topR_t {M : MT} {kn : Nat → Bool} {va : Nat → UInt32} {w o j : Nat} (h1 : hfB M w j = true) (h2 : rivB M kn va j o = true) : topR M kn va w o (j + 1) = some j := by show (if hfB M w j && rivB M kn va j o then some j else topR M kn va w o j) = _; rw [h1, h2]; rfl
theorem topR_f {M : MT} {kn : Nat → Bool} {va : Nat → UInt32} {w o j : Nat} (h : ¬ (hfB M w j = true ∧ rivB M kn va j o = true)) : topR M kn va w o (j + 1) = topR M kn va w o j := by
  show (if hfB M w j && rivB M kn va j o then some j else topR M kn va w o j) = _
  rw [if_neg]
  intro z
  simp only [Bool.and_eq_true] at z
  exact h z
def rivOf (M : MT) (ru : Nat → Option Nat) (kn : Nat → Bool) (va : Nat → UInt32) (w : Nat) : Option Nat := match ru w with
  | none => none
  | some o => topR M kn va w o (mN M)
theorem topR_lt {M : MT} {kn : Nat → Bool} {va : Nat → UInt32} {w o : Nat} : ∀ {n j : Nat}, topR M kn va w o n = some j → j < n
  | 0, j, h => by cases h
  | n + 1, j, h => by
    by_cases z : hfB M w n = true ∧ rivB M kn va n o = true
    · rw [topR_t z.1 z.2] at h
      cases h
      omega
    · rw [topR_f z] at h
      have := topR_lt h
      omega
theorem rivOf_lt {M : MT} {ru : Nat → Option Nat} {kn : Nat → Bool} {va : Nat → UInt32} {w j : Nat} (h : rivOf M ru kn va w = some j) : j < mN M := by
  unfold rivOf at h
  split at h
  · cases h
  · exact topR_lt h
/-- the rulers after i orders -/
def rlN (M : MT) : Nat → Nat → Option Nat
  | 0 => fun _ => none
  | i + 1 => if mF M i = 1 then (match rlN M i (mW M i) with
      | none => va_up (rlN M i) (mW M i) (some i)
      | some b => if mR M (mO M b) ≤ mR M (mO M i) then va_up (rlN M i) (mW M i) (some i) else rlN M i) else rlN M i
theorem rlN_u {M : MT} {i : Nat} (h : ¬ mF M i = 1) : rlN M (i + 1) = rlN M i := if_neg h
theorem rlN_n {M : MT} {i : Nat} (h : mF M i = 1) (h1 : rlN M i (mW M i) = none) : rlN M (i + 1) = va_up (rlN M i) (mW M i) (some i) := by
  show (if mF M i = 1 then _ else _) = _
  rw [if_pos h, h1]
theorem rlN_t {M : MT} {i b : Nat} (h : mF M i = 1) (h1 : rlN M i (mW M i) = some b) (h2 : mR M (mO M b) ≤ mR M (mO M i)) : rlN M (i + 1) = va_up (rlN M i) (mW M i) (some i) := by
  show (if mF M i = 1 then _ else _) = _
  rw [if_pos h, h1]
  exact if_pos h2
theorem rlN_f {M : MT} {i b : Nat} (h : mF M i = 1) (h1 : rlN M i (mW M i) = some b) (h2 : ¬ mR M (mO M b) ≤ mR M (mO M i)) : rlN M (i + 1) = rlN M i := by
  show (if mF M i = 1 then _ else _) = _
  rw [if_pos h, h1]
  exact if_neg h2
theorem rlN_lt {M : MT} : ∀ (i : Nat) {w o : Nat}, rlN M i w = some o → o < i
  | 0, w, o, h => by cases h
  | i + 1, w, o, h => by
    have ih := @rlN_lt M i
    have up : ∀ {w o}, va_up (rlN M i) (mW M i) (some i) w = some o → o < i + 1 := by
      intro w o h
      unfold va_up at h
      split at h
      · cases h; omega
      · have := ih h; omega
    by_cases h1 : mF M i = 1
    · cases h2 : rlN M i (mW M i) with
      | none => rw [rlN_n h1 h2] at h; exact up h
      | some b =>
        by_cases h3 : mR M (mO M b) ≤ mR M (mO M i)
        · rw [rlN_t h1 h2 h3] at h; exact up h
        · rw [rlN_f h1 h2 h3] at h; have := ih h; omega
    · rw [rlN_u h1] at h; have := ih h; omega
section OK7
variable {p : Program} {l : Launch} {e : Env} {R : Room} {s : State} {m : MethodId} {args : Array Value} {below : List Frame} {meth : Method} {c : Code} {H : Heap} {locs : List Loc} {cells slots : Nat} {Q : State → Prop}
variable {pc : Nat} {ls : Array Slot} {rest : List Value} {cc : ByteArray}
/-- branches on what may be none (-5) -/
theorem o_lk_ge {x : Option Nat} (hx : p.tables.exec = Jvm.exec) (hb : c.code = cc) {off : Int} {tgt : Nat} (hdg : decode cc pc = .ok (.ifCond .ge off, 3)) (ht : (pc : Int) + off = (tgt : Int)) (h1 : ∀ j, x = some j → j < 2 ^ 31)
    (kt : (∃ j, x = some j) → W p l e R s m args below meth c H locs cells slots Q (F0 m tgt ls rest)) (kf : x = none → W p l e R s m args below meth c H locs cells slots Q (F0 m (pc + 3) ls rest)) : W p l e R s m args below meth c H locs cells slots Q (F0 m pc ls (.int (lkI x) :: rest)) := by
  cases x with
  | none => exact lv_if_ge hx hb hdg ht (fun h => absurd h (by decide)) (fun _ => kf rfl)
  | some j => exact lv_if_ge hx hb hdg ht (fun _ => kt ⟨j, rfl⟩) (fun h => absurd (nI_pos' (n := j) (h1 j rfl)) h)
theorem o_lk_lt {x : Option Nat} (hx : p.tables.exec = Jvm.exec) (hb : c.code = cc) {off : Int} {tgt : Nat} (hdg : decode cc pc = .ok (.ifCond .lt off, 3)) (ht : (pc : Int) + off = (tgt : Int)) (h1 : ∀ j, x = some j → j < 2 ^ 31)
    (kt : x = none → W p l e R s m args below meth c H locs cells slots Q (F0 m tgt ls rest)) (kf : (∃ j, x = some j) → W p l e R s m args below meth c H locs cells slots Q (F0 m (pc + 3) ls rest)) : W p l e R s m args below meth c H locs cells slots Q (F0 m pc ls (.int (lkI x) :: rest)) := by
  cases x with
  | none => exact lv_if_lt hx hb hdg ht (fun _ => kt rfl) (fun h => absurd (by decide) h)
  | some j => exact lv_if_lt hx hb hdg ht (fun h => absurd h (nI_pos (n := j) (h1 j rfl))) (fun _ => kf ⟨j, rfl⟩)
/-- two truth values against each other -/
theorem o_icmpb_eq {P R' : Prop} [Decidable P] [Decidable R'] (hx : p.tables.exec = Jvm.exec) (hb : c.code = cc) {off : Int} {tgt : Nat} (hdg : decode cc pc = .ok (.if_icmp .eq off, 3)) (ht : (pc : Int) + off = (tgt : Int))
    (kt : (P ↔ R') → W p l e R s m args below meth c H locs cells slots Q (F0 m tgt ls rest)) (kf : ¬ (P ↔ R') → W p l e R s m args below meth c H locs cells slots Q (F0 m (pc + 3) ls rest)) : W p l e R s m args below meth c H locs cells slots Q (F0 m pc ls (.int (bI R') :: .int (bI P) :: rest)) :=
  lv_icmp_eq hx hb hdg ht (fun h => kt (by
    by_cases a : P
    · by_cases b : R'
      · exact ⟨fun _ => b, fun _ => a⟩
      · rw [bI_t a, bI_f b] at h; exact absurd h (by decide)
    · by_cases b : R'
      · rw [bI_f a, bI_t b] at h; exact absurd h (by decide)
      · exact ⟨fun z => absurd z a, fun z => absurd z b⟩)) (fun h => kf (fun z => h (bI_congr z)))
end OK7
theorem rivB_o {M : MT} {kn : Nat → Bool} {va : Nat → UInt32} {j o : Nat} (h : mO M j = mO M o) : ¬ rivB M kn va j o = true := fun z => by
  unfold rivB at z
  simp only [Bool.and_eq_true, decide_eq_true_eq] at z
  exact z.1.1 h
theorem rivB_r {M : MT} {kn : Nat → Bool} {va : Nat → UInt32} {j o : Nat} (h : mR M (mO M j) ≠ mR M (mO M o)) : ¬ rivB M kn va j o = true := fun z => by
  unfold rivB at z
  simp only [Bool.and_eq_true, decide_eq_true_eq] at z
  exact h z.1.2
theorem rivB_d {M : MT} {kn : Nat → Bool} {va : Nat → UInt32} {j o : Nat} (h1 : mO M j ≠ mO M o) (h2 : mR M (mO M j) = mR M (mO M o)) (h3 : ¬ (oHas M kn va j = true ↔ oHas M kn va o = true)) : rivB M kn va j o = true := by
  unfold rivB
  simp only [Bool.and_eq_true, decide_eq_true_eq, Bool.or_eq_true]
  refine ⟨⟨h1, h2⟩, Or.inl ?_⟩
  cases hj : oHas M kn va j <;> cases ho : oHas M kn va o <;> simp_all
theorem rivB_e {M : MT} {kn : Nat → Bool} {va : Nat → UInt32} {j o : Nat} (h1 : mO M j ≠ mO M o) (h2 : mR M (mO M j) = mR M (mO M o)) (h3 : oHas M kn va j = true ↔ oHas M kn va o = true) : rivB M kn va j o = true ↔ oHas M kn va j = true ∧ farB (mT M) (oVal M va j) (oVal M va o) = true := by
  have e : (oHas M kn va j != oHas M kn va o) = false := by
    cases hj : oHas M kn va j <;> cases ho : oHas M kn va o <;> simp_all
  unfold rivB
  rw [e]
  simp only [Bool.and_eq_true, decide_eq_true_eq, Bool.false_or]
  exact ⟨fun z => z.2, fun z => ⟨⟨h1, h2⟩, z⟩⟩
theorem rivOf_s {M : MT} {ru : Nat → Option Nat} {kn : Nat → Bool} {va : Nat → UInt32} {w o : Nat} (h : ru w = some o) : rivOf M ru kn va w = topR M kn va w o (mN M) := by unfold rivOf; rw [h]
theorem rivOf_n {M : MT} {ru : Nat → Option Nat} {kn : Nat → Bool} {va : Nat → UInt32} {w : Nat} (h : ru w = none) : rivOf M ru kn va w = none := by unfold rivOf; rw [h]
def rwB (ru : Nat → Option Nat) (kn : Nat → Bool) (w : Nat) : Bool := decide (ru w ≠ none ∧ ¬ kn w = true)
theorem rwB_iff {ru : Nat → Option Nat} {kn : Nat → Bool} {w : Nat} : rwB ru kn w = true ↔ ru w ≠ none ∧ ¬ kn w = true := by unfold rwB; exact decide_eq_true_iff
def cfB (M : MT) (ru : Nat → Option Nat) (kn : Nat → Bool) (va : Nat → UInt32) (w : Nat) : Bool := decide (rivOf M ru kn va w ≠ none)
theorem cfB_iff {M : MT} {ru : Nat → Option Nat} {kn : Nat → Bool} {va : Nat → UInt32} {w : Nat} : cfB M ru kn va w = true ↔ rivOf M ru kn va w ≠ none := by unfold cfB; exact decide_eq_true_iff
end
section
set_option maxRecDepth 100000 in
theorem iX4_orderValue_X4 : ∀ w ∈ u_ws RX4 TX4 4, w ∈ wsX4_orderValue := by decide +kernel
set_option maxRecDepth 100000 in
theorem iX4_orderValue_X1 : ∀ w ∈ u_ws RX1 TX1 13, w ∈ wsX4_orderValue := by decide +kernel
set_option maxHeartbeats 4000000 in
set_option maxRecDepth 100000 in
theorem kX4_orderValue (l : Launch) (G : va_G) (cy : Nat → ClassId) {H0 : Heap} {q r : Nat → Nat} {M : MT} {ru : Nat → Option Nat} {kn : Nat → Bool} {va : Nat → UInt32} (hW : WB M) (hF : WF M) (hV : ∀ w, Fin32 (va w)) (hR : ∀ w o, ru w = some o → o < mN M) (hP : va_P G vwCl (wRe cy r (q 0) ru kn va ++ wDo cy q M) H0) (k : Nat) (hk : k < 40) : MetF l yX4_orderValue wsX4_orderValue 0 0 [.ref (r 0), .int (nI k)] H0 G cy (oVal M va k) := by
  refine Met.ofW (cc := cX4_orderValue) (maxL := 3) (ret := (some .float)) (by decide) rfl ?_
  intro p e s m args below meth c s₁ B hml hv
  obtain ⟨rfl, hH, hK⟩ := hv
  subst hH
  have hx := B.exec
  have hb := B.bytes
  have hr := B.returns
  have hts := atoms_spec (ws := wsX4_orderValue) B.pre
  have hown : s.vm.findClass RX4 = some m.cls := findClass_of_methodNamed B.named
  have hlocks := B.notSynchronized
  have hl := lv_entry ([.ref (r 0), .int (nI k)]) (n := 3) (Nat.le_of_ble_eq_true rfl)
  rw [lg_entry_eq]
  generalize (lg_sl ([.ref (r 0), .int (nI k)]) ++ List.replicate (3 - (lg_sl ([.ref (r 0), .int (nI k)])).length) Slot.unset).toArray = ls at hl ⊢
  have hl : lv_has ls 3 [(0, .ref (r 0)), (1, .int (nI k))] := hl
  obtain ⟨bP, bN, bR, bO, bW, bL, bF⟩ := id hW
  have hPd := hP.sub (ws' := wDo cy q M) [4, 5, 6, 7, 8, 9, 10, 11, 12] rfl
  refine lv_aload_n hx hb dX4_orderValue_0 rfl (lv_at hl 0 rfl) ?_
  refine va_get (D := G) (ci := 3) (v := .ref (q 0)) (C := RX4) (T := TX4) (N := 4) hx hb hts iX4_orderValue_X4 hown hK hP 0 rfl rfl 0 (by decide) (hts (.fieldLink RX4 23 "NailedOrders$Reckoning" "door" "LNailedOrders$Door;") (by decide +kernel)) (fun _ h9 => h9) rfl dX4_orderValue_1 ?_
  refine va_get (D := G) (ci := 0) (v := .ref (q 8)) (C := RX1) (T := TX1) (N := 13) hx hb hts iX4_orderValue_X1 hown hK hP 4 rfl rfl 8 (by decide) (hts (.fieldLink RX4 58 "NailedOrders$Door" "links" "[I") (by decide +kernel)) (fun _ h9 => h9) rfl dX4_orderValue_4 ?_
  refine lv_iload_n hx hb dX4_orderValue_7 rfl (lv_at hl 1 rfl) ?_
  refine o_iald hx hb hK hP 8 0 rfl rfl k (by omega) (by decide) dX4_orderValue_8 ?_
  refine lv_istore_n (lv' := [(2, .int (lkI (mL M k))), (0, .ref (r 0)), (1, .int (nI k))]) hx hb dX4_orderValue_9 rfl hl (by decide) rfl (fun ls hl => ?_)
  refine lv_iload_n hx hb dX4_orderValue_10 rfl (lv_at hl 0 rfl) ?_
  refine o_lk_ge (tgt := 24) hx hb dX4_orderValue_11 (by decide) (fun j hj => by have := bL k j hj; omega) (fun c11 => ?_) (fun c11 => ?_)
  · obtain ⟨j, hj⟩ := c11
    rw [hj] at hl
    have hl : lv_has ls 3 [(2, .int (nI j)), (0, .ref (r 0)), (1, .int (nI k))] := hl
    have b1 := bL k j hj
    refine lv_aload_n hx hb dX4_orderValue_24 rfl (lv_at hl 1 rfl) ?_
    refine va_get (D := G) (ci := 3) (v := .ref (r 3)) (C := RX4) (T := TX4) (N := 4) hx hb hts iX4_orderValue_X4 hown hK hP 0 rfl rfl 3 (by decide) (hts (.fieldLink RX4 19 "NailedOrders$Reckoning" "values" "[F") (by decide +kernel)) (fun _ h9 => h9) rfl dX4_orderValue_25 ?_
    refine lv_iload_n hx hb dX4_orderValue_28 rfl (lv_at hl 0 rfl) ?_
    refine o_fald hx hb hK hP 3 1 rfl rfl j (by omega) (by decide) dX4_orderValue_29 ?_
    refine lv_aload_n hx hb dX4_orderValue_30 rfl (lv_at hl 1 rfl) ?_
    refine va_get (D := G) (ci := 3) (v := .ref (q 0)) (C := RX4) (T := TX4) (N := 4) hx hb hts iX4_orderValue_X4 hown hK hP 0 rfl rfl 0 (by decide) (hts (.fieldLink RX4 23 "NailedOrders$Reckoning" "door" "LNailedOrders$Door;") (by decide +kernel)) (fun _ h9 => h9) rfl dX4_orderValue_31 ?_
    refine va_get (D := G) (ci := 0) (v := .ref (q 9)) (C := RX1) (T := TX1) (N := 13) hx hb hts iX4_orderValue_X1 hown hK hP 4 rfl rfl 9 (by decide) (hts (.fieldLink RX4 66 "NailedOrders$Door" "factors" "[F") (by decide +kernel)) (fun _ h9 => h9) rfl dX4_orderValue_34 ?_
    refine lv_iload_n hx hb dX4_orderValue_37 rfl (lv_at hl 2 rfl) ?_
    refine o_fald hx hb hK hP 9 1 rfl rfl k (by omega) (by decide) dX4_orderValue_38 ?_
    refine lv_fmul hx hb dX4_orderValue_39 (n32_of (mul_n (hV j) (hF.1 k))) ?_
    refine lv_aload_n hx hb dX4_orderValue_40 rfl (lv_at hl 1 rfl) ?_
    refine va_get (D := G) (ci := 3) (v := .ref (q 0)) (C := RX4) (T := TX4) (N := 4) hx hb hts iX4_orderValue_X4 hown hK hP 0 rfl rfl 0 (by decide) (hts (.fieldLink RX4 23 "NailedOrders$Reckoning" "door" "LNailedOrders$Door;") (by decide +kernel)) (fun _ h9 => h9) rfl dX4_orderValue_41 ?_
    refine va_get (D := G) (ci := 0) (v := .ref (q 10)) (C := RX1) (T := TX1) (N := 13) hx hb hts iX4_orderValue_X1 hown hK hP 4 rfl rfl 10 (by decide) (hts (.fieldLink RX4 63 "NailedOrders$Door" "numbers" "[F") (by decide +kernel)) (fun _ h9 => h9) rfl dX4_orderValue_44 ?_
    refine lv_iload_n hx hb dX4_orderValue_47 rfl (lv_at hl 2 rfl) ?_
    refine o_fald hx hb hK hP 10 1 rfl rfl k (by omega) (by decide) dX4_orderValue_48 ?_
    refine lv_fadd hx hb dX4_orderValue_49 (n32_of (madd_n (hV j) (hF.1 k) (hF.2 k))) ?_
    exact o_endF hx hb hr hlocks dX4_orderValue_50 ((oVal_s hj).symm)
  · refine lv_aload_n hx hb dX4_orderValue_14 rfl (lv_at hl 1 rfl) ?_
    refine va_get (D := G) (ci := 3) (v := .ref (q 0)) (C := RX4) (T := TX4) (N := 4) hx hb hts iX4_orderValue_X4 hown hK hP 0 rfl rfl 0 (by decide) (hts (.fieldLink RX4 23 "NailedOrders$Reckoning" "door" "LNailedOrders$Door;") (by decide +kernel)) (fun _ h9 => h9) rfl dX4_orderValue_15 ?_
    refine va_get (D := G) (ci := 0) (v := .ref (q 10)) (C := RX1) (T := TX1) (N := 13) hx hb hts iX4_orderValue_X1 hown hK hP 4 rfl rfl 10 (by decide) (hts (.fieldLink RX4 63 "NailedOrders$Door" "numbers" "[F") (by decide +kernel)) (fun _ h9 => h9) rfl dX4_orderValue_18 ?_
    refine lv_iload_n hx hb dX4_orderValue_21 rfl (lv_at hl 2 rfl) ?_
    refine o_fald hx hb hK hP 10 1 rfl rfl k (by omega) (by decide) dX4_orderValue_22 ?_
    exact o_endF hx hb hr hlocks dX4_orderValue_23 ((oVal_n c11).symm)

set_option maxRecDepth 100000 in
theorem iX4_orderHasValue_X4 : ∀ w ∈ u_ws RX4 TX4 4, w ∈ wsX4_orderHasValue := by decide +kernel
set_option maxRecDepth 100000 in
theorem iX4_orderHasValue_X1 : ∀ w ∈ u_ws RX1 TX1 13, w ∈ wsX4_orderHasValue := by decide +kernel
set_option maxHeartbeats 4000000 in
set_option maxRecDepth 100000 in
theorem kX4_orderHasValue (l : Launch) (G : va_G) (cy : Nat → ClassId) {H0 : Heap} {q r : Nat → Nat} {M : MT} {ru : Nat → Option Nat} {kn : Nat → Bool} {va : Nat → UInt32} (hW : WB M) (hF : WF M) (hV : ∀ w, Fin32 (va w)) (hR : ∀ w o, ru w = some o → o < mN M) (hP : va_P G vwCl (wRe cy r (q 0) ru kn va ++ wDo cy q M) H0) (k : Nat) (hk : k < 40) : MetI l yX4_orderHasValue wsX4_orderHasValue 1 22 [.ref (r 0), .int (nI k)] H0 G cy (bI (oHas M kn va k = true)) := by
  refine Met.ofW (cc := cX4_orderHasValue) (maxL := 4) (ret := (some .boolean)) (by decide) rfl ?_
  intro p e s m args below meth c s₁ B hml hv
  obtain ⟨rfl, hH, hK⟩ := hv
  subst hH
  have hx := B.exec
  have hb := B.bytes
  have hr := B.returns
  have hts := atoms_spec (ws := wsX4_orderHasValue) B.pre
  have hown : s.vm.findClass RX4 = some m.cls := findClass_of_methodNamed B.named
  have hlocks := B.notSynchronized
  have hl := lv_entry ([.ref (r 0), .int (nI k)]) (n := 4) (Nat.le_of_ble_eq_true rfl)
  rw [lg_entry_eq]
  generalize (lg_sl ([.ref (r 0), .int (nI k)]) ++ List.replicate (4 - (lg_sl ([.ref (r 0), .int (nI k)])).length) Slot.unset).toArray = ls at hl ⊢
  have hl : lv_has ls 4 [(0, .ref (r 0)), (1, .int (nI k))] := hl
  obtain ⟨bP, bN, bR, bO, bW, bL, bF⟩ := id hW
  have hPd := hP.sub (ws' := wDo cy q M) [4, 5, 6, 7, 8, 9, 10, 11, 12] rfl
  refine lv_aload_n hx hb dX4_orderHasValue_0 rfl (lv_at hl 0 rfl) ?_
  refine va_get (D := G) (ci := 3) (v := .ref (q 0)) (C := RX4) (T := TX4) (N := 4) hx hb hts iX4_orderHasValue_X4 hown hK hP 0 rfl rfl 0 (by decide) (hts (.fieldLink RX4 23 "NailedOrders$Reckoning" "door" "LNailedOrders$Door;") (by decide +kernel)) (fun _ h9 => h9) rfl dX4_orderHasValue_1 ?_
  refine va_get (D := G) (ci := 0) (v := .ref (q 8)) (C := RX1) (T := TX1) (N := 13) hx hb hts iX4_orderHasValue_X1 hown hK hP 4 rfl rfl 8 (by decide) (hts (.fieldLink RX4 58 "NailedOrders$Door" "links" "[I") (by decide +kernel)) (fun _ h9 => h9) rfl dX4_orderHasValue_4 ?_
  refine lv_iload_n hx hb dX4_orderHasValue_7 rfl (lv_at hl 1 rfl) ?_
  refine o_iald hx hb hK hP 8 0 rfl rfl k (by omega) (by decide) dX4_orderHasValue_8 ?_
  refine lv_istore_n (lv' := [(2, .int (lkI (mL M k))), (0, .ref (r 0)), (1, .int (nI k))]) hx hb dX4_orderHasValue_9 rfl hl (by decide) rfl (fun ls hl => ?_)
  refine lv_iload_n hx hb dX4_orderHasValue_10 rfl (lv_at hl 0 rfl) ?_
  refine o_lk_lt (tgt := 25) hx hb dX4_orderHasValue_11 (by decide) (fun j hj => by have := bL k j hj; omega) (fun c11 => ?_) (fun c11 => ?_)
  · refine lv_aload_n hx hb dX4_orderHasValue_25 rfl (lv_at hl 1 rfl) ?_
    refine lv_iload_n hx hb dX4_orderHasValue_26 rfl (lv_at hl 2 rfl) ?_
    refine o_VF (As := [.int (nI k)]) (rest := []) ⟨hx, hb, hml, hown, hts⟩ (kX4_orderValue l G cy hW hF hV hR hP k hk) (cwV 1 hts gX4_orderHasValue_X4_orderValue rfl rfl rfl (by decide +kernel) ⟨Nat.le_of_ble_eq_true rfl, Nat.le_of_ble_eq_true rfl⟩) hK (va_recv hK hP (ci := 3) (q0 := 0) rfl rfl) rfl hl.1 rfl (Nat.le_of_ble_eq_true rfl) dX4_orderHasValue_27 ⟨Nat.zero_le _, Nat.zero_le _⟩ ?_
    refine lv_fstore_n (lv' := [(3, .float (oVal M va k)), (2, .int (lkI (mL M k))), (0, .ref (r 0)), (1, .int (nI k))]) hx hb dX4_orderHasValue_30 rfl hl (by decide) rfl (fun ls hl => ?_)
    refine lv_fload_n hx hb dX4_orderHasValue_31 rfl (lv_at hl 0 rfl) ?_
    refine lv_ldcf hx hb hown (hts (.constantFloat RX4 61 (3463342888)) (by decide +kernel)) dX4_orderHasValue_32 ?_
    refine lv_fcmp hx hb dX4_orderHasValue_34 ?_
    refine lv_if_lt (tgt := 49) hx hb dX4_orderHasValue_35 (by decide) (fun c35 => ?_) (fun c35 => ?_)
    · refine lv_iconst (v := nI 0) hx hb dX4_orderHasValue_49 (by decide +kernel) ?_
      exact o_endZ hx hb hr hlocks dX4_orderHasValue_50 (by decide) ((by rw [bI_f (fun z => (rngB_iff.mp (oHas_rng z)).1 c35)]; decide))
    · refine lv_fload_n hx hb dX4_orderHasValue_38 rfl (lv_at hl 0 rfl) ?_
      refine lv_ldcf hx hb hown (hts (.constantFloat RX4 62 (1315859240)) (by decide +kernel)) dX4_orderHasValue_39 ?_
      refine lv_fcmp hx hb dX4_orderHasValue_41 ?_
      refine lv_if_gt (tgt := 49) hx hb dX4_orderHasValue_42 (by decide) (fun c42 => ?_) (fun c42 => ?_)
      · refine lv_iconst (v := nI 0) hx hb dX4_orderHasValue_49 (by decide +kernel) ?_
        exact o_endZ hx hb hr hlocks dX4_orderHasValue_50 (by decide) ((by rw [bI_f (fun z => (rngB_iff.mp (oHas_rng z)).2 c42)]; decide))
      · refine lv_iconst (v := nI 1) hx hb dX4_orderHasValue_45 (by decide +kernel) ?_
        refine lv_goto (tgt := 50) hx hb dX4_orderHasValue_46 (by decide) ?_
        exact o_endZ hx hb hr hlocks dX4_orderHasValue_50 (by decide) ((by rw [bI_t ((oHas_n c11).mpr (rngB_iff.mpr ⟨c35, c42⟩))]; decide))
  · obtain ⟨j, hj⟩ := c11
    rw [hj] at hl
    have hl : lv_has ls 4 [(2, .int (nI j)), (0, .ref (r 0)), (1, .int (nI k))] := hl
    have b1 := bL k j hj
    refine lv_aload_n hx hb dX4_orderHasValue_14 rfl (lv_at hl 1 rfl) ?_
    refine va_get (D := G) (ci := 3) (v := .ref (r 2)) (C := RX4) (T := TX4) (N := 4) hx hb hts iX4_orderHasValue_X4 hown hK hP 0 rfl rfl 2 (by decide) (hts (.fieldLink RX4 15 "NailedOrders$Reckoning" "known" "[Z") (by decide +kernel)) (fun _ h9 => h9) rfl dX4_orderHasValue_15 ?_
    refine lv_iload_n hx hb dX4_orderHasValue_18 rfl (lv_at hl 0 rfl) ?_
    refine o_zald hx hb hK hP 2 2 rfl rfl j (by omega) (by decide) dX4_orderHasValue_19 ?_
    refine o_ifb_ne (tgt := 25) hx hb dX4_orderHasValue_20 (by decide) (fun c20 => ?_) (fun c20 => ?_)
    · refine lv_aload_n hx hb dX4_orderHasValue_25 rfl (lv_at hl 1 rfl) ?_
      refine lv_iload_n hx hb dX4_orderHasValue_26 rfl (lv_at hl 2 rfl) ?_
      refine o_VF (As := [.int (nI k)]) (rest := []) ⟨hx, hb, hml, hown, hts⟩ (kX4_orderValue l G cy hW hF hV hR hP k hk) (cwV 1 hts gX4_orderHasValue_X4_orderValue rfl rfl rfl (by decide +kernel) ⟨Nat.le_of_ble_eq_true rfl, Nat.le_of_ble_eq_true rfl⟩) hK (va_recv hK hP (ci := 3) (q0 := 0) rfl rfl) rfl hl.1 rfl (Nat.le_of_ble_eq_true rfl) dX4_orderHasValue_27 ⟨Nat.zero_le _, Nat.zero_le _⟩ ?_
      refine lv_fstore_n (lv' := [(3, .float (oVal M va k)), (2, .int (nI j)), (0, .ref (r 0)), (1, .int (nI k))]) hx hb dX4_orderHasValue_30 rfl hl (by decide) rfl (fun ls hl => ?_)
      refine lv_fload_n hx hb dX4_orderHasValue_31 rfl (lv_at hl 0 rfl) ?_
      refine lv_ldcf hx hb hown (hts (.constantFloat RX4 61 (3463342888)) (by decide +kernel)) dX4_orderHasValue_32 ?_
      refine lv_fcmp hx hb dX4_orderHasValue_34 ?_
      refine lv_if_lt (tgt := 49) hx hb dX4_orderHasValue_35 (by decide) (fun c35 => ?_) (fun c35 => ?_)
      · refine lv_iconst (v := nI 0) hx hb dX4_orderHasValue_49 (by decide +kernel) ?_
        exact o_endZ hx hb hr hlocks dX4_orderHasValue_50 (by decide) ((by rw [bI_f (fun z => (rngB_iff.mp (oHas_rng z)).1 c35)]; decide))
      · refine lv_fload_n hx hb dX4_orderHasValue_38 rfl (lv_at hl 0 rfl) ?_
        refine lv_ldcf hx hb hown (hts (.constantFloat RX4 62 (1315859240)) (by decide +kernel)) dX4_orderHasValue_39 ?_
        refine lv_fcmp hx hb dX4_orderHasValue_41 ?_
        refine lv_if_gt (tgt := 49) hx hb dX4_orderHasValue_42 (by decide) (fun c42 => ?_) (fun c42 => ?_)
        · refine lv_iconst (v := nI 0) hx hb dX4_orderHasValue_49 (by decide +kernel) ?_
          exact o_endZ hx hb hr hlocks dX4_orderHasValue_50 (by decide) ((by rw [bI_f (fun z => (rngB_iff.mp (oHas_rng z)).2 c42)]; decide))
        · refine lv_iconst (v := nI 1) hx hb dX4_orderHasValue_45 (by decide +kernel) ?_
          refine lv_goto (tgt := 50) hx hb dX4_orderHasValue_46 (by decide) ?_
          exact o_endZ hx hb hr hlocks dX4_orderHasValue_50 (by decide) ((by rw [bI_t ((oHas_s hj).mpr ⟨c20, rngB_iff.mpr ⟨c35, c42⟩⟩)]; decide))
    · refine lv_iconst (v := nI 0) hx hb dX4_orderHasValue_23 (by decide +kernel) ?_
      exact o_endZ hx hb hr hlocks dX4_orderHasValue_24 (by decide) ((by rw [bI_f (fun z => c20 ((oHas_s hj).mp z).1)]; decide))

set_option maxRecDepth 100000 in
theorem iX4_areFar_X4 : ∀ w ∈ u_ws RX4 TX4 4, w ∈ wsX4_areFar := by decide +kernel
set_option maxRecDepth 100000 in
theorem iX4_areFar_X1 : ∀ w ∈ u_ws RX1 TX1 13, w ∈ wsX4_areFar := by decide +kernel
set_option maxHeartbeats 4000000 in
set_option maxRecDepth 100000 in
theorem kX4_areFar (l : Launch) (G : va_G) (cy : Nat → ClassId) {H0 : Heap} {q r : Nat → Nat} {M : MT} {ru : Nat → Option Nat} {kn : Nat → Bool} {va : Nat → UInt32} (hW : WB M) (hF : WF M) (hV : ∀ w, Fin32 (va w)) (hR : ∀ w o, ru w = some o → o < mN M) (hP : va_P G vwCl (wRe cy r (q 0) ru kn va ++ wDo cy q M) H0) (x y : UInt32) (hfx : Fin32 x) (hfy : Fin32 y) : MetI l yX4_areFar wsX4_areFar 0 0 [.ref (r 0), .float x, .float y] H0 G cy (bI (farB (mT M) x y = true)) := by
  refine Met.ofW (cc := cX4_areFar) (maxL := 4) (ret := (some .boolean)) (by decide) rfl ?_
  intro p e s m args below meth c s₁ B hml hv
  obtain ⟨rfl, hH, hK⟩ := hv
  subst hH
  have hx := B.exec
  have hb := B.bytes
  have hr := B.returns
  have hts := atoms_spec (ws := wsX4_areFar) B.pre
  have hown : s.vm.findClass RX4 = some m.cls := findClass_of_methodNamed B.named
  have hlocks := B.notSynchronized
  have hl := lv_entry ([.ref (r 0), .float x, .float y]) (n := 4) (Nat.le_of_ble_eq_true rfl)
  rw [lg_entry_eq]
  generalize (lg_sl ([.ref (r 0), .float x, .float y]) ++ List.replicate (4 - (lg_sl ([.ref (r 0), .float x, .float y])).length) Slot.unset).toArray = ls at hl ⊢
  have hl : lv_has ls 4 [(0, .ref (r 0)), (1, .float x), (2, .float y)] := hl
  obtain ⟨bP, bN, bR, bO, bW, bL, bF⟩ := id hW
  have hPd := hP.sub (ws' := wDo cy q M) [4, 5, 6, 7, 8, 9, 10, 11, 12] rfl
  refine lv_fload_n hx hb dX4_areFar_0 rfl (lv_at hl 1 rfl) ?_
  refine lv_fload_n hx hb dX4_areFar_1 rfl (lv_at hl 2 rfl) ?_
  refine lv_fsub hx hb dX4_areFar_2 (n32_of (FP.Core.fsub_out (FP.Core.FFin.notNaN hfx) hfy)) ?_
  refine lv_fstore_n (lv' := [(3, .float (FP.fsub x y)), (0, .ref (r 0)), (1, .float x), (2, .float y)]) hx hb dX4_areFar_3 rfl hl (by decide) rfl (fun ls hl => ?_)
  refine lv_fload_n hx hb dX4_areFar_4 rfl (lv_at hl 0 rfl) ?_
  refine lv_fconst0 hx hb dX4_areFar_5 ?_
  refine lv_fcmp hx hb dX4_areFar_6 ?_
  refine lv_if_ge (tgt := 15) hx hb dX4_areFar_7 (by decide) (fun c7 => ?_) (fun c7 => ?_)
  · refine lv_fload_n hx hb dX4_areFar_15 rfl (lv_at hl 0 rfl) ?_
    rw [← absF_t c7]
    refine lv_aload_n hx hb dX4_areFar_16 rfl (lv_at hl 1 rfl) ?_
    refine va_get (D := G) (ci := 3) (v := .ref (q 0)) (C := RX4) (T := TX4) (N := 4) hx hb hts iX4_areFar_X4 hown hK hP 0 rfl rfl 0 (by decide) (hts (.fieldLink RX4 23 "NailedOrders$Reckoning" "door" "LNailedOrders$Door;") (by decide +kernel)) (fun _ h9 => h9) rfl dX4_areFar_17 ?_
    refine va_get (D := G) (ci := 0) (v := .float (mT M)) (C := RX1) (T := TX1) (N := 13) hx hb hts iX4_areFar_X1 hown hK hP 4 rfl rfl 3 (by decide) (hts (.fieldLink RX4 89 "NailedOrders$Door" "tolerance" "F") (by decide +kernel)) (fun _ h9 => h9) rfl dX4_areFar_20 ?_
    refine lv_fcmp hx hb dX4_areFar_23 ?_
    refine lv_if_le (tgt := 31) hx hb dX4_areFar_24 (by decide) (fun c24 => ?_) (fun c24 => ?_)
    · refine lv_iconst (v := nI 0) hx hb dX4_areFar_31 (by decide +kernel) ?_
      exact o_endZ hx hb hr hlocks dX4_areFar_32 (by decide) ((by rw [bI_f (fun z => farB_iff.mp z c24)]; decide))
    · refine lv_iconst (v := nI 1) hx hb dX4_areFar_27 (by decide +kernel) ?_
      refine lv_goto (tgt := 32) hx hb dX4_areFar_28 (by decide) ?_
      exact o_endZ hx hb hr hlocks dX4_areFar_32 (by decide) ((by rw [bI_t (farB_iff.mpr c24)]; decide))
  · refine lv_fload_n hx hb dX4_areFar_10 rfl (lv_at hl 0 rfl) ?_
    refine lv_fneg hx hb dX4_areFar_11 ?_
    refine lv_goto (tgt := 16) hx hb dX4_areFar_12 (by decide) ?_
    rw [← absF_f c7]
    refine lv_aload_n hx hb dX4_areFar_16 rfl (lv_at hl 1 rfl) ?_
    refine va_get (D := G) (ci := 3) (v := .ref (q 0)) (C := RX4) (T := TX4) (N := 4) hx hb hts iX4_areFar_X4 hown hK hP 0 rfl rfl 0 (by decide) (hts (.fieldLink RX4 23 "NailedOrders$Reckoning" "door" "LNailedOrders$Door;") (by decide +kernel)) (fun _ h9 => h9) rfl dX4_areFar_17 ?_
    refine va_get (D := G) (ci := 0) (v := .float (mT M)) (C := RX1) (T := TX1) (N := 13) hx hb hts iX4_areFar_X1 hown hK hP 4 rfl rfl 3 (by decide) (hts (.fieldLink RX4 89 "NailedOrders$Door" "tolerance" "F") (by decide +kernel)) (fun _ h9 => h9) rfl dX4_areFar_20 ?_
    refine lv_fcmp hx hb dX4_areFar_23 ?_
    refine lv_if_le (tgt := 31) hx hb dX4_areFar_24 (by decide) (fun c24 => ?_) (fun c24 => ?_)
    · refine lv_iconst (v := nI 0) hx hb dX4_areFar_31 (by decide +kernel) ?_
      exact o_endZ hx hb hr hlocks dX4_areFar_32 (by decide) ((by rw [bI_f (fun z => farB_iff.mp z c24)]; decide))
    · refine lv_iconst (v := nI 1) hx hb dX4_areFar_27 (by decide +kernel) ?_
      refine lv_goto (tgt := 32) hx hb dX4_areFar_28 (by decide) ?_
      exact o_endZ hx hb hr hlocks dX4_areFar_32 (by decide) ((by rw [bI_t (farB_iff.mpr c24)]; decide))

set_option maxRecDepth 100000 in
theorem iX4_areRivals_X4 : ∀ w ∈ u_ws RX4 TX4 4, w ∈ wsX4_areRivals := by decide +kernel
set_option maxRecDepth 100000 in
theorem iX4_areRivals_X1 : ∀ w ∈ u_ws RX1 TX1 13, w ∈ wsX4_areRivals := by decide +kernel
set_option maxHeartbeats 4000000 in
set_option maxRecDepth 100000 in
theorem kX4_areRivals (l : Launch) (G : va_G) (cy : Nat → ClassId) {H0 : Heap} {q r : Nat → Nat} {M : MT} {ru : Nat → Option Nat} {kn : Nat → Bool} {va : Nat → UInt32} (hW : WB M) (hF : WF M) (hV : ∀ w, Fin32 (va w)) (hR : ∀ w o, ru w = some o → o < mN M) (hP : va_P G vwCl (wRe cy r (q 0) ru kn va ++ wDo cy q M) H0) (j o : Nat) (hj : j < 40) (ho : o < 40) : MetI l yX4_areRivals wsX4_areRivals 2 45 [.ref (r 0), .int (nI j), .int (nI o)] H0 G cy (bI (rivB M kn va j o = true)) := by
  refine Met.ofW (cc := cX4_areRivals) (maxL := 4) (ret := (some .boolean)) (by decide) rfl ?_
  intro p e s m args below meth c s₁ B hml hv
  obtain ⟨rfl, hH, hK⟩ := hv
  subst hH
  have hx := B.exec
  have hb := B.bytes
  have hr := B.returns
  have hts := atoms_spec (ws := wsX4_areRivals) B.pre
  have hown : s.vm.findClass RX4 = some m.cls := findClass_of_methodNamed B.named
  have hlocks := B.notSynchronized
  have hl := lv_entry ([.ref (r 0), .int (nI j), .int (nI o)]) (n := 4) (Nat.le_of_ble_eq_true rfl)
  rw [lg_entry_eq]
  generalize (lg_sl ([.ref (r 0), .int (nI j), .int (nI o)]) ++ List.replicate (4 - (lg_sl ([.ref (r 0), .int (nI j), .int (nI o)])).length) Slot.unset).toArray = ls at hl ⊢
  have hl : lv_has ls 4 [(0, .ref (r 0)), (1, .int (nI j)), (2, .int (nI o))] := hl
  obtain ⟨bP, bN, bR, bO, bW, bL, bF⟩ := id hW
  have hPd := hP.sub (ws' := wDo cy q M) [4, 5, 6, 7, 8, 9, 10, 11, 12] rfl
  have b1 := bO j
  have b2 := bO o
  have b3 := bR (mO M j)
  have b4 := bR (mO M o)
  refine lv_aload_n hx hb dX4_areRivals_0 rfl (lv_at hl 0 rfl) ?_
  refine va_get (D := G) (ci := 3) (v := .ref (q 0)) (C := RX4) (T := TX4) (N := 4) hx hb hts iX4_areRivals_X4 hown hK hP 0 rfl rfl 0 (by decide) (hts (.fieldLink RX4 23 "NailedOrders$Reckoning" "door" "LNailedOrders$Door;") (by decide +kernel)) (fun _ h9 => h9) rfl dX4_areRivals_1 ?_
  refine va_get (D := G) (ci := 0) (v := .ref (q 6)) (C := RX1) (T := TX1) (N := 13) hx hb hts iX4_areRivals_X1 hown hK hP 4 rfl rfl 6 (by decide) (hts (.fieldLink RX4 82 "NailedOrders$Door" "owners" "[I") (by decide +kernel)) (fun _ h9 => h9) rfl dX4_areRivals_4 ?_
  refine lv_iload_n hx hb dX4_areRivals_7 rfl (lv_at hl 1 rfl) ?_
  refine o_iald hx hb hK hP 6 0 rfl rfl j (by omega) (by decide) dX4_areRivals_8 ?_
  refine lv_aload_n hx hb dX4_areRivals_9 rfl (lv_at hl 0 rfl) ?_
  refine va_get (D := G) (ci := 3) (v := .ref (q 0)) (C := RX4) (T := TX4) (N := 4) hx hb hts iX4_areRivals_X4 hown hK hP 0 rfl rfl 0 (by decide) (hts (.fieldLink RX4 23 "NailedOrders$Reckoning" "door" "LNailedOrders$Door;") (by decide +kernel)) (fun _ h9 => h9) rfl dX4_areRivals_10 ?_
  refine va_get (D := G) (ci := 0) (v := .ref (q 6)) (C := RX1) (T := TX1) (N := 13) hx hb hts iX4_areRivals_X1 hown hK hP 4 rfl rfl 6 (by decide) (hts (.fieldLink RX4 82 "NailedOrders$Door" "owners" "[I") (by decide +kernel)) (fun _ h9 => h9) rfl dX4_areRivals_13 ?_
  refine lv_iload_n hx hb dX4_areRivals_16 rfl (lv_at hl 2 rfl) ?_
  refine o_iald hx hb hK hP 6 0 rfl rfl o (by omega) (by decide) dX4_areRivals_17 ?_
  refine o_icmp_eq (tgt := 40) hx hb dX4_areRivals_18 (by decide) (by omega) (by omega) (fun c18 => ?_) (fun c18 => ?_)
  · refine lv_iconst (v := nI 0) hx hb dX4_areRivals_40 (by decide +kernel) ?_
    exact o_endZ hx hb hr hlocks dX4_areRivals_41 (by decide) ((by rw [bI_f (rivB_o c18)]; decide))
  · refine lv_aload_n hx hb dX4_areRivals_21 rfl (lv_at hl 0 rfl) ?_
    refine va_get (D := G) (ci := 3) (v := .ref (q 0)) (C := RX4) (T := TX4) (N := 4) hx hb hts iX4_areRivals_X4 hown hK hP 0 rfl rfl 0 (by decide) (hts (.fieldLink RX4 23 "NailedOrders$Reckoning" "door" "LNailedOrders$Door;") (by decide +kernel)) (fun _ h9 => h9) rfl dX4_areRivals_22 ?_
    refine lv_iload_n hx hb dX4_areRivals_25 rfl (lv_at hl 1 rfl) ?_
    refine o_VI (As := [.int (nI j)]) (rest := []) ⟨hx, hb, hml, hown, hts⟩ (kX1_rankOf l G cy hW hPd j (by omega)) (cwV 1 hts gX4_areRivals_X1_rankOf rfl rfl rfl (by decide +kernel) ⟨Nat.le_of_ble_eq_true rfl, Nat.le_of_ble_eq_true rfl⟩) hK (va_recv hK hP (ci := 0) (q0 := 4) rfl rfl) rfl hl.1 rfl (Nat.le_of_ble_eq_true rfl) dX4_areRivals_26 ⟨Nat.zero_le _, Nat.zero_le _⟩ ?_
    refine lv_aload_n hx hb dX4_areRivals_29 rfl (lv_at hl 0 rfl) ?_
    refine va_get (D := G) (ci := 3) (v := .ref (q 0)) (C := RX4) (T := TX4) (N := 4) hx hb hts iX4_areRivals_X4 hown hK hP 0 rfl rfl 0 (by decide) (hts (.fieldLink RX4 23 "NailedOrders$Reckoning" "door" "LNailedOrders$Door;") (by decide +kernel)) (fun _ h9 => h9) rfl dX4_areRivals_30 ?_
    refine lv_iload_n hx hb dX4_areRivals_33 rfl (lv_at hl 2 rfl) ?_
    refine o_VI (As := [.int (nI o)]) (rest := [.int (nI (mR M (mO M j)))]) ⟨hx, hb, hml, hown, hts⟩ (kX1_rankOf l G cy hW hPd o (by omega)) (cwV 1 hts gX4_areRivals_X1_rankOf rfl rfl rfl (by decide +kernel) ⟨Nat.le_of_ble_eq_true rfl, Nat.le_of_ble_eq_true rfl⟩) hK (va_recv hK hP (ci := 0) (q0 := 4) rfl rfl) rfl hl.1 rfl (Nat.le_of_ble_eq_true rfl) dX4_areRivals_34 ⟨Nat.zero_le _, Nat.zero_le _⟩ ?_
    refine o_icmp_eq (tgt := 42) hx hb dX4_areRivals_37 (by decide) (by omega) (by omega) (fun c37 => ?_) (fun c37 => ?_)
    · refine lv_aload_n hx hb dX4_areRivals_42 rfl (lv_at hl 0 rfl) ?_
      refine lv_iload_n hx hb dX4_areRivals_43 rfl (lv_at hl 1 rfl) ?_
      refine o_VI (As := [.int (nI j)]) (rest := []) ⟨hx, hb, hml, hown, hts⟩ (kX4_orderHasValue l G cy hW hF hV hR hP j (by omega)) (cwV 1 hts gX4_areRivals_X4_orderHasValue rfl rfl rfl (by decide +kernel) ⟨Nat.le_of_ble_eq_true rfl, Nat.le_of_ble_eq_true rfl⟩) hK (va_recv hK hP (ci := 3) (q0 := 0) rfl rfl) rfl hl.1 rfl (Nat.le_of_ble_eq_true rfl) dX4_areRivals_44 ⟨Nat.zero_le _, Nat.zero_le _⟩ ?_
      refine lv_istore_n (lv' := [(3, .int (bI (oHas M kn va j = true))), (0, .ref (r 0)), (1, .int (nI j)), (2, .int (nI o))]) hx hb dX4_areRivals_47 rfl hl (by decide) rfl (fun ls hl => ?_)
      refine lv_iload_n hx hb dX4_areRivals_48 rfl (lv_at hl 0 rfl) ?_
      refine lv_aload_n hx hb dX4_areRivals_49 rfl (lv_at hl 1 rfl) ?_
      refine lv_iload_n hx hb dX4_areRivals_50 rfl (lv_at hl 3 rfl) ?_
      refine o_VI (As := [.int (nI o)]) (rest := [.int (bI (oHas M kn va j = true))]) ⟨hx, hb, hml, hown, hts⟩ (kX4_orderHasValue l G cy hW hF hV hR hP o (by omega)) (cwV 1 hts gX4_areRivals_X4_orderHasValue rfl rfl rfl (by decide +kernel) ⟨Nat.le_of_ble_eq_true rfl, Nat.le_of_ble_eq_true rfl⟩) hK (va_recv hK hP (ci := 3) (q0 := 0) rfl rfl) rfl hl.1 rfl (Nat.le_of_ble_eq_true rfl) dX4_areRivals_51 ⟨Nat.zero_le _, Nat.zero_le _⟩ ?_
      refine o_icmpb_eq (tgt := 59) hx hb dX4_areRivals_54 (by decide) (fun c54 => ?_) (fun c54 => ?_)
      · refine lv_iload_n hx hb dX4_areRivals_59 rfl (lv_at hl 0 rfl) ?_
        refine o_ifb_eq (tgt := 84) hx hb dX4_areRivals_60 (by decide) (fun c60 => ?_) (fun c60 => ?_)
        · refine lv_iconst (v := nI 0) hx hb dX4_areRivals_84 (by decide +kernel) ?_
          exact o_endZ hx hb hr hlocks dX4_areRivals_85 (by decide) ((by rw [bI_f (fun z => c60 ((rivB_e c18 c37 c54).mp z).1)]; decide))
        · refine lv_aload_n hx hb dX4_areRivals_63 rfl (lv_at hl 1 rfl) ?_
          refine lv_aload_n hx hb dX4_areRivals_64 rfl (lv_at hl 1 rfl) ?_
          refine lv_iload_n hx hb dX4_areRivals_65 rfl (lv_at hl 2 rfl) ?_
          refine o_VF (As := [.int (nI j)]) (rest := [.ref (r 0)]) ⟨hx, hb, hml, hown, hts⟩ (kX4_orderValue l G cy hW hF hV hR hP j (by omega)) (cwV 1 hts gX4_areRivals_X4_orderValue rfl rfl rfl (by decide +kernel) ⟨Nat.le_of_ble_eq_true rfl, Nat.le_of_ble_eq_true rfl⟩) hK (va_recv hK hP (ci := 3) (q0 := 0) rfl rfl) rfl hl.1 rfl (Nat.le_of_ble_eq_true rfl) dX4_areRivals_66 ⟨Nat.zero_le _, Nat.zero_le _⟩ ?_
          refine lv_aload_n hx hb dX4_areRivals_69 rfl (lv_at hl 1 rfl) ?_
          refine lv_iload_n hx hb dX4_areRivals_70 rfl (lv_at hl 3 rfl) ?_
          refine o_VF (As := [.int (nI o)]) (rest := [.float (oVal M va j), .ref (r 0)]) ⟨hx, hb, hml, hown, hts⟩ (kX4_orderValue l G cy hW hF hV hR hP o (by omega)) (cwV 1 hts gX4_areRivals_X4_orderValue rfl rfl rfl (by decide +kernel) ⟨Nat.le_of_ble_eq_true rfl, Nat.le_of_ble_eq_true rfl⟩) hK (va_recv hK hP (ci := 3) (q0 := 0) rfl rfl) rfl hl.1 rfl (Nat.le_of_ble_eq_true rfl) dX4_areRivals_71 ⟨Nat.zero_le _, Nat.zero_le _⟩ ?_
          refine o_VI (As := [.float (oVal M va j), .float (oVal M va o)]) (rest := []) ⟨hx, hb, hml, hown, hts⟩ (kX4_areFar l G cy hW hF hV hR hP (oVal M va j) (oVal M va o) (rng_fin (oHas_rng c60)) (rng_fin (oHas_rng (c54.mp c60)))) (cwV 2 hts gX4_areRivals_X4_areFar rfl rfl rfl (by decide +kernel) ⟨Nat.le_of_ble_eq_true rfl, Nat.le_of_ble_eq_true rfl⟩) hK (va_recv hK hP (ci := 3) (q0 := 0) rfl rfl) rfl hl.1 rfl (Nat.le_of_ble_eq_true rfl) dX4_areRivals_74 ⟨Nat.zero_le _, Nat.zero_le _⟩ ?_
          refine o_ifb_eq (tgt := 84) hx hb dX4_areRivals_77 (by decide) (fun c77 => ?_) (fun c77 => ?_)
          · refine lv_iconst (v := nI 0) hx hb dX4_areRivals_84 (by decide +kernel) ?_
            exact o_endZ hx hb hr hlocks dX4_areRivals_85 (by decide) ((by rw [bI_f (fun z => c77 ((rivB_e c18 c37 c54).mp z).2)]; decide))
          · refine lv_iconst (v := nI 1) hx hb dX4_areRivals_80 (by decide +kernel) ?_
            refine lv_goto (tgt := 85) hx hb dX4_areRivals_81 (by decide) ?_
            exact o_endZ hx hb hr hlocks dX4_areRivals_85 (by decide) ((by rw [bI_t ((rivB_e c18 c37 c54).mpr ⟨c60, c77⟩)]; decide))
      · refine lv_iconst (v := nI 1) hx hb dX4_areRivals_57 (by decide +kernel) ?_
        exact o_endZ hx hb hr hlocks dX4_areRivals_58 (by decide) ((by rw [bI_t (rivB_d c18 c37 c54)]; decide))
    · refine lv_iconst (v := nI 0) hx hb dX4_areRivals_40 (by decide +kernel) ?_
      exact o_endZ hx hb hr hlocks dX4_areRivals_41 (by decide) ((by rw [bI_f (rivB_r c37)]; decide))

set_option maxRecDepth 100000 in
theorem iX4_topmostRival_X4 : ∀ w ∈ u_ws RX4 TX4 4, w ∈ wsX4_topmostRival := by decide +kernel
set_option maxRecDepth 100000 in
theorem iX4_topmostRival_X1 : ∀ w ∈ u_ws RX1 TX1 13, w ∈ wsX4_topmostRival := by decide +kernel
set_option maxHeartbeats 4000000 in
set_option maxRecDepth 100000 in
theorem kX4_topmostRival (l : Launch) (G : va_G) (cy : Nat → ClassId) {H0 : Heap} {q r : Nat → Nat} {M : MT} {ru : Nat → Option Nat} {kn : Nat → Bool} {va : Nat → UInt32} (hW : WB M) (hF : WF M) (hV : ∀ w, Fin32 (va w)) (hR : ∀ w o, ru w = some o → o < mN M) (hP : va_P G vwCl (wRe cy r (q 0) ru kn va ++ wDo cy q M) H0) (w : Nat) (hw : w < 16) : MetI l yX4_topmostRival wsX4_topmostRival 3 68 [.ref (r 0), .int (nI w)] H0 G cy (lkI (rivOf M ru kn va w)) := by
  refine Met.ofW (cc := cX4_topmostRival) (maxL := 4) (ret := (some .int)) (by decide) rfl ?_
  intro p e s m args below meth c s₁ B hml hv
  obtain ⟨rfl, hH, hK⟩ := hv
  subst hH
  have hx := B.exec
  have hb := B.bytes
  have hr := B.returns
  have hts := atoms_spec (ws := wsX4_topmostRival) B.pre
  have hown : s.vm.findClass RX4 = some m.cls := findClass_of_methodNamed B.named
  have hlocks := B.notSynchronized
  have hl := lv_entry ([.ref (r 0), .int (nI w)]) (n := 4) (Nat.le_of_ble_eq_true rfl)
  rw [lg_entry_eq]
  generalize (lg_sl ([.ref (r 0), .int (nI w)]) ++ List.replicate (4 - (lg_sl ([.ref (r 0), .int (nI w)])).length) Slot.unset).toArray = ls at hl ⊢
  have hl : lv_has ls 4 [(0, .ref (r 0)), (1, .int (nI w))] := hl
  obtain ⟨bP, bN, bR, bO, bW, bL, bF⟩ := id hW
  have hPd := hP.sub (ws' := wDo cy q M) [4, 5, 6, 7, 8, 9, 10, 11, 12] rfl
  refine lv_aload_n hx hb dX4_topmostRival_0 rfl (lv_at hl 0 rfl) ?_
  refine va_get (D := G) (ci := 3) (v := .ref (r 1)) (C := RX4) (T := TX4) (N := 4) hx hb hts iX4_topmostRival_X4 hown hK hP 0 rfl rfl 1 (by decide) (hts (.fieldLink RX4 9 "NailedOrders$Reckoning" "rulers" "[I") (by decide +kernel)) (fun _ h9 => h9) rfl dX4_topmostRival_1 ?_
  refine lv_iload_n hx hb dX4_topmostRival_4 rfl (lv_at hl 1 rfl) ?_
  refine o_iald hx hb hK hP 1 0 rfl rfl w (by omega) (by decide) dX4_topmostRival_5 ?_
  refine lv_istore_n (lv' := [(2, .int (lkI (ru w))), (0, .ref (r 0)), (1, .int (nI w))]) hx hb dX4_topmostRival_6 rfl hl (by decide) rfl (fun ls hl => ?_)
  refine lv_iload_n hx hb dX4_topmostRival_7 rfl (lv_at hl 0 rfl) ?_
  refine o_lk_ge (tgt := 14) hx hb dX4_topmostRival_8 (by decide) (fun j hj => by have := hR w j hj; omega) (fun c8 => ?_) (fun c8 => ?_)
  · obtain ⟨o, ho⟩ := c8
    rw [ho] at hl
    have hl : lv_has ls 4 [(2, .int (nI o)), (0, .ref (r 0)), (1, .int (nI w))] := hl
    have b1 := hR w o ho
    refine lv_aload_n hx hb dX4_topmostRival_14 rfl (lv_at hl 1 rfl) ?_
    refine va_get (D := G) (ci := 3) (v := .ref (q 0)) (C := RX4) (T := TX4) (N := 4) hx hb hts iX4_topmostRival_X4 hown hK hP 0 rfl rfl 0 (by decide) (hts (.fieldLink RX4 23 "NailedOrders$Reckoning" "door" "LNailedOrders$Door;") (by decide +kernel)) (fun _ h9 => h9) rfl dX4_topmostRival_15 ?_
    refine va_get (D := G) (ci := 0) (v := .int (nI (mN M))) (C := RX1) (T := TX1) (N := 13) hx hb hts iX4_topmostRival_X1 hown hK hP 4 rfl rfl 5 (by decide) (hts (.fieldLink RX4 34 "NailedOrders$Door" "orders" "I") (by decide +kernel)) (fun _ h9 => h9) rfl dX4_topmostRival_18 ?_
    refine lv_iconst (v := nI 1) hx hb dX4_topmostRival_21 (by decide +kernel) ?_
    refine lv_isub hx hb dX4_topmostRival_22 ?_
    rw [show nI (mN M) - nI 1 = dI (mN M) from rfl]
    refine lv_istore_n (lv' := [(3, .int (dI (mN M))), (2, .int (nI o)), (0, .ref (r 0)), (1, .int (nI w))]) hx hb dX4_topmostRival_23 rfl hl (by decide) rfl (fun ls hl => ?_)
    refine o_loop (σ := Nat) (fun (i : Nat) => i ≤ mN M ∧ topR M kn va w o i = topR M kn va w o (mN M)) (fun (i : Nat) => [(3, .int (dI i)), (0, .ref (r 0)), (1, .int (nI w)), (2, .int (nI o))]) (fun (i : Nat) => i) (mN M) ⟨Nat.le_refl _, rfl⟩ (lv_sub hl [0, 2, 3, 1] rfl) ?_
    rintro i ls ⟨h1, h2⟩ hl ih24
    have hl : lv_has ls 4 [(3, .int (dI i)), (0, .ref (r 0)), (1, .int (nI w)), (2, .int (nI o))] := hl
    refine lv_iload_n hx hb dX4_topmostRival_24 rfl (lv_at hl 0 rfl) ?_
    refine o_ifd_lt (tgt := 57) hx hb dX4_topmostRival_25 (by decide) (by omega) (fun c25 => ?_) (fun c25 => ?_)
    · subst c25
      refine lv_bipush (v := (-5)) hx hb dX4_topmostRival_57 (by decide +kernel) ?_
      exact o_endI hx hb hr hlocks dX4_topmostRival_59 ((by rw [rivOf_s ho, ← h2]; rfl))
    · obtain ⟨i, rfl⟩ := c25
      rw [dI_succ] at hl
      refine lv_aload_n hx hb dX4_topmostRival_28 rfl (lv_at hl 1 rfl) ?_
      refine va_get (D := G) (ci := 3) (v := .ref (q 0)) (C := RX4) (T := TX4) (N := 4) hx hb hts iX4_topmostRival_X4 hown hK hP 0 rfl rfl 0 (by decide) (hts (.fieldLink RX4 23 "NailedOrders$Reckoning" "door" "LNailedOrders$Door;") (by decide +kernel)) (fun _ h9 => h9) rfl dX4_topmostRival_29 ?_
      refine lv_iload_n hx hb dX4_topmostRival_32 rfl (lv_at hl 0 rfl) ?_
      refine lv_iload_n hx hb dX4_topmostRival_33 rfl (lv_at hl 2 rfl) ?_
      refine o_VI (As := [.int (nI i), .int (nI w)]) (rest := []) ⟨hx, hb, hml, hown, hts⟩ (kX1_hangsFor l G cy hW hPd i w (by omega) hw) (cwV 2 hts gX4_topmostRival_X1_hangsFor rfl rfl rfl (by decide +kernel) ⟨Nat.le_of_ble_eq_true rfl, Nat.le_of_ble_eq_true rfl⟩) hK (va_recv hK hP (ci := 0) (q0 := 4) rfl rfl) rfl hl.1 rfl (Nat.le_of_ble_eq_true rfl) dX4_topmostRival_34 ⟨Nat.zero_le _, Nat.zero_le _⟩ ?_
      refine o_ifb_eq (tgt := 51) hx hb dX4_topmostRival_37 (by decide) (fun c37 => ?_) (fun c37 => ?_)
      · refine lv_iinc (v := dI i) (lv' := [(3, .int (dI i)), (0, .ref (r 0)), (1, .int (nI w)), (2, .int (nI o))]) hx hb dX4_topmostRival_51 hl (k := 0) rfl (dI_dec i) (by decide) rfl (fun ls hl => ?_)
        refine lv_goto (tgt := 24) hx hb dX4_topmostRival_54 (by decide) ?_
        refine ih24 i ls ?_ ?_ ?_
        · exact ⟨by omega, by rw [← h2, topR_f (fun z => c37 (hfB_iff.mp z.1))]⟩
        · show lv_has ls 4 [(3, .int (dI i)), (0, .ref (r 0)), (1, .int (nI w)), (2, .int (nI o))]
          exact lv_sub hl [0, 1, 2, 3] rfl
        · exact Nat.lt_succ_self i
      · refine lv_aload_n hx hb dX4_topmostRival_40 rfl (lv_at hl 1 rfl) ?_
        refine lv_iload_n hx hb dX4_topmostRival_41 rfl (lv_at hl 0 rfl) ?_
        refine lv_iload_n hx hb dX4_topmostRival_42 rfl (lv_at hl 3 rfl) ?_
        refine o_VI (As := [.int (nI i), .int (nI o)]) (rest := []) ⟨hx, hb, hml, hown, hts⟩ (kX4_areRivals l G cy hW hF hV hR hP i o (by omega) (by omega)) (cwV 2 hts gX4_topmostRival_X4_areRivals rfl rfl rfl (by decide +kernel) ⟨Nat.le_of_ble_eq_true rfl, Nat.le_of_ble_eq_true rfl⟩) hK (va_recv hK hP (ci := 3) (q0 := 0) rfl rfl) rfl hl.1 rfl (Nat.le_of_ble_eq_true rfl) dX4_topmostRival_43 ⟨Nat.zero_le _, Nat.zero_le _⟩ ?_
        refine o_ifb_eq (tgt := 51) hx hb dX4_topmostRival_46 (by decide) (fun c46 => ?_) (fun c46 => ?_)
        · refine lv_iinc (v := dI i) (lv' := [(3, .int (dI i)), (0, .ref (r 0)), (1, .int (nI w)), (2, .int (nI o))]) hx hb dX4_topmostRival_51 hl (k := 0) rfl (dI_dec i) (by decide) rfl (fun ls hl => ?_)
          refine lv_goto (tgt := 24) hx hb dX4_topmostRival_54 (by decide) ?_
          refine ih24 i ls ?_ ?_ ?_
          · exact ⟨by omega, by rw [← h2, topR_f (fun z => c46 z.2)]⟩
          · show lv_has ls 4 [(3, .int (dI i)), (0, .ref (r 0)), (1, .int (nI w)), (2, .int (nI o))]
            exact lv_sub hl [0, 1, 2, 3] rfl
          · exact Nat.lt_succ_self i
        · refine lv_iload_n hx hb dX4_topmostRival_49 rfl (lv_at hl 0 rfl) ?_
          exact o_endI hx hb hr hlocks dX4_topmostRival_50 ((by rw [rivOf_s ho, ← h2, topR_t (hfB_iff.mpr c37) c46]; rfl))
  · refine lv_bipush (v := (-5)) hx hb dX4_topmostRival_11 (by decide +kernel) ?_
    exact o_endI hx hb hr hlocks dX4_topmostRival_13 ((by rw [rivOf_n c8]; rfl))

set_option maxRecDepth 100000 in
theorem iX4_wordsWithValue_X4 : ∀ w ∈ u_ws RX4 TX4 4, w ∈ wsX4_wordsWithValue := by decide +kernel
set_option maxHeartbeats 4000000 in
set_option maxRecDepth 100000 in
theorem kX4_wordsWithValue (l : Launch) (G : va_G) (cy : Nat → ClassId) {H0 : Heap} {q r : Nat → Nat} {M : MT} {ru : Nat → Option Nat} {kn : Nat → Bool} {va : Nat → UInt32} (hW : WB M) (hF : WF M) (hV : ∀ w, Fin32 (va w)) (hR : ∀ w o, ru w = some o → o < mN M) (hP : va_P G vwCl (wRe cy r (q 0) ru kn va ++ wDo cy q M) H0) : MetI l yX4_wordsWithValue wsX4_wordsWithValue 0 0 [.ref (r 0)] H0 G cy (nI (cR kn 0 16)) := by
  refine Met.ofW (cc := cX4_wordsWithValue) (maxL := 3) (ret := (some .int)) (by decide) rfl ?_
  intro p e s m args below meth c s₁ B hml hv
  obtain ⟨rfl, hH, hK⟩ := hv
  subst hH
  have hx := B.exec
  have hb := B.bytes
  have hr := B.returns
  have hts := atoms_spec (ws := wsX4_wordsWithValue) B.pre
  have hown : s.vm.findClass RX4 = some m.cls := findClass_of_methodNamed B.named
  have hlocks := B.notSynchronized
  have hl := lv_entry ([.ref (r 0)]) (n := 3) (Nat.le_of_ble_eq_true rfl)
  rw [lg_entry_eq]
  generalize (lg_sl ([.ref (r 0)]) ++ List.replicate (3 - (lg_sl ([.ref (r 0)])).length) Slot.unset).toArray = ls at hl ⊢
  have hl : lv_has ls 3 [(0, .ref (r 0))] := hl
  obtain ⟨bP, bN, bR, bO, bW, bL, bF⟩ := id hW
  have hPd := hP.sub (ws' := wDo cy q M) [4, 5, 6, 7, 8, 9, 10, 11, 12] rfl
  refine lv_iconst (v := nI 0) hx hb dX4_wordsWithValue_0 (by decide +kernel) ?_
  refine lv_istore_n (lv' := [(1, .int (nI 0)), (0, .ref (r 0))]) hx hb dX4_wordsWithValue_1 rfl hl (by decide) rfl (fun ls hl => ?_)
  refine lv_iconst (v := nI 0) hx hb dX4_wordsWithValue_2 (by decide +kernel) ?_
  refine lv_istore_n (lv' := [(2, .int (nI 0)), (1, .int (nI 0)), (0, .ref (r 0))]) hx hb dX4_wordsWithValue_3 rfl hl (by decide) rfl (fun ls hl => ?_)
  refine o_loop (σ := Nat) (fun (i : Nat) => i ≤ 16) (fun (i : Nat) => [(2, .int (nI i)), (1, .int (nI (cR kn 0 i))), (0, .ref (r 0))]) (fun (i : Nat) => 16 - i) 0 (Nat.zero_le _) (lv_sub hl [0, 1, 2] rfl) ?_
  rintro i ls h1 hl ih4
  have hl : lv_has ls 3 [(2, .int (nI i)), (1, .int (nI (cR kn 0 i))), (0, .ref (r 0))] := hl
  refine lv_iload_n hx hb dX4_wordsWithValue_4 rfl (lv_at hl 0 rfl) ?_
  refine lv_bipush (v := nI 16) hx hb dX4_wordsWithValue_5 (by decide +kernel) ?_
  refine o_icmp_ge (tgt := 28) hx hb dX4_wordsWithValue_7 (by decide) (by omega) (by omega) (fun c7 => ?_) (fun c7 => ?_)
  · obtain rfl : i = 16 := by omega
    refine lv_iload_n hx hb dX4_wordsWithValue_28 rfl (lv_at hl 1 rfl) ?_
    exact o_endI hx hb hr hlocks dX4_wordsWithValue_29 rfl
  · refine lv_aload_n hx hb dX4_wordsWithValue_10 rfl (lv_at hl 2 rfl) ?_
    refine va_get (D := G) (ci := 3) (v := .ref (r 2)) (C := RX4) (T := TX4) (N := 4) hx hb hts iX4_wordsWithValue_X4 hown hK hP 0 rfl rfl 2 (by decide) (hts (.fieldLink RX4 15 "NailedOrders$Reckoning" "known" "[Z") (by decide +kernel)) (fun _ h9 => h9) rfl dX4_wordsWithValue_11 ?_
    refine lv_iload_n hx hb dX4_wordsWithValue_14 rfl (lv_at hl 0 rfl) ?_
    refine o_zald hx hb hK hP 2 2 rfl rfl i (by omega) (by decide) dX4_wordsWithValue_15 ?_
    refine o_ifb_eq (tgt := 22) hx hb dX4_wordsWithValue_16 (by decide) (fun c16 => ?_) (fun c16 => ?_)
    · refine lv_iinc (v := nI (i + 1)) (lv' := [(2, .int (nI (i + 1))), (1, .int (nI (cR kn 0 i))), (0, .ref (r 0))]) hx hb dX4_wordsWithValue_22 hl (k := 0) rfl (nI_1 i) (by decide) rfl (fun ls hl => ?_)
      refine lv_goto (tgt := 4) hx hb dX4_wordsWithValue_25 (by decide) ?_
      refine ih4 (i + 1) ls ?_ ?_ ?_
      · omega
      · show lv_has ls 3 [(2, .int (nI (i + 1))), (1, .int (nI (cR kn 0 (i + 1)))), (0, .ref (r 0))]
        rw [cZ_f (p := kn) (j := i) (c16)]
        exact lv_sub hl [0, 1, 2] rfl
      · omega
    · refine lv_iinc (v := nI (cR kn 0 i + 1)) (lv' := [(1, .int (nI (cR kn 0 i + 1))), (2, .int (nI i)), (0, .ref (r 0))]) hx hb dX4_wordsWithValue_19 hl (k := 1) rfl (nI_1 (cR kn 0 i)) (by decide) rfl (fun ls hl => ?_)
      refine lv_iinc (v := nI (i + 1)) (lv' := [(2, .int (nI (i + 1))), (1, .int (nI (cR kn 0 i + 1))), (0, .ref (r 0))]) hx hb dX4_wordsWithValue_22 hl (k := 1) rfl (nI_1 i) (by decide) rfl (fun ls hl => ?_)
      refine lv_goto (tgt := 4) hx hb dX4_wordsWithValue_25 (by decide) ?_
      refine ih4 (i + 1) ls ?_ ?_ ?_
      · omega
      · show lv_has ls 3 [(2, .int (nI (i + 1))), (1, .int (nI (cR kn 0 (i + 1)))), (0, .ref (r 0))]
        rw [cZ_t (p := kn) (j := i) (c16)]
        exact lv_sub hl [0, 1, 2] rfl
      · omega

set_option maxRecDepth 100000 in
theorem iX4_wordsRuledWithoutValue_X4 : ∀ w ∈ u_ws RX4 TX4 4, w ∈ wsX4_wordsRuledWithoutValue := by decide +kernel
set_option maxHeartbeats 4000000 in
set_option maxRecDepth 100000 in
theorem kX4_wordsRuledWithoutValue (l : Launch) (G : va_G) (cy : Nat → ClassId) {H0 : Heap} {q r : Nat → Nat} {M : MT} {ru : Nat → Option Nat} {kn : Nat → Bool} {va : Nat → UInt32} (hW : WB M) (hF : WF M) (hV : ∀ w, Fin32 (va w)) (hR : ∀ w o, ru w = some o → o < mN M) (hP : va_P G vwCl (wRe cy r (q 0) ru kn va ++ wDo cy q M) H0) : MetI l yX4_wordsRuledWithoutValue wsX4_wordsRuledWithoutValue 0 0 [.ref (r 0)] H0 G cy (nI (cR (rwB ru kn) 0 16)) := by
  refine Met.ofW (cc := cX4_wordsRuledWithoutValue) (maxL := 3) (ret := (some .int)) (by decide) rfl ?_
  intro p e s m args below meth c s₁ B hml hv
  obtain ⟨rfl, hH, hK⟩ := hv
  subst hH
  have hx := B.exec
  have hb := B.bytes
  have hr := B.returns
  have hts := atoms_spec (ws := wsX4_wordsRuledWithoutValue) B.pre
  have hown : s.vm.findClass RX4 = some m.cls := findClass_of_methodNamed B.named
  have hlocks := B.notSynchronized
  have hl := lv_entry ([.ref (r 0)]) (n := 3) (Nat.le_of_ble_eq_true rfl)
  rw [lg_entry_eq]
  generalize (lg_sl ([.ref (r 0)]) ++ List.replicate (3 - (lg_sl ([.ref (r 0)])).length) Slot.unset).toArray = ls at hl ⊢
  have hl : lv_has ls 3 [(0, .ref (r 0))] := hl
  obtain ⟨bP, bN, bR, bO, bW, bL, bF⟩ := id hW
  have hPd := hP.sub (ws' := wDo cy q M) [4, 5, 6, 7, 8, 9, 10, 11, 12] rfl
  refine lv_iconst (v := nI 0) hx hb dX4_wordsRuledWithoutValue_0 (by decide +kernel) ?_
  refine lv_istore_n (lv' := [(1, .int (nI 0)), (0, .ref (r 0))]) hx hb dX4_wordsRuledWithoutValue_1 rfl hl (by decide) rfl (fun ls hl => ?_)
  refine lv_iconst (v := nI 0) hx hb dX4_wordsRuledWithoutValue_2 (by decide +kernel) ?_
  refine lv_istore_n (lv' := [(2, .int (nI 0)), (1, .int (nI 0)), (0, .ref (r 0))]) hx hb dX4_wordsRuledWithoutValue_3 rfl hl (by decide) rfl (fun ls hl => ?_)
  refine o_loop (σ := Nat) (fun (i : Nat) => i ≤ 16) (fun (i : Nat) => [(2, .int (nI i)), (1, .int (nI (cR (rwB ru kn) 0 i))), (0, .ref (r 0))]) (fun (i : Nat) => 16 - i) 0 (Nat.zero_le _) (lv_sub hl [0, 1, 2] rfl) ?_
  rintro i ls h1 hl ih4
  have hl : lv_has ls 3 [(2, .int (nI i)), (1, .int (nI (cR (rwB ru kn) 0 i))), (0, .ref (r 0))] := hl
  refine lv_iload_n hx hb dX4_wordsRuledWithoutValue_4 rfl (lv_at hl 0 rfl) ?_
  refine lv_bipush (v := nI 16) hx hb dX4_wordsRuledWithoutValue_5 (by decide +kernel) ?_
  refine o_icmp_ge (tgt := 37) hx hb dX4_wordsRuledWithoutValue_7 (by decide) (by omega) (by omega) (fun c7 => ?_) (fun c7 => ?_)
  · obtain rfl : i = 16 := by omega
    refine lv_iload_n hx hb dX4_wordsRuledWithoutValue_37 rfl (lv_at hl 1 rfl) ?_
    exact o_endI hx hb hr hlocks dX4_wordsRuledWithoutValue_38 rfl
  · refine lv_aload_n hx hb dX4_wordsRuledWithoutValue_10 rfl (lv_at hl 2 rfl) ?_
    refine va_get (D := G) (ci := 3) (v := .ref (r 1)) (C := RX4) (T := TX4) (N := 4) hx hb hts iX4_wordsRuledWithoutValue_X4 hown hK hP 0 rfl rfl 1 (by decide) (hts (.fieldLink RX4 9 "NailedOrders$Reckoning" "rulers" "[I") (by decide +kernel)) (fun _ h9 => h9) rfl dX4_wordsRuledWithoutValue_11 ?_
    refine lv_iload_n hx hb dX4_wordsRuledWithoutValue_14 rfl (lv_at hl 0 rfl) ?_
    refine o_iald hx hb hK hP 1 0 rfl rfl i (by omega) (by decide) dX4_wordsRuledWithoutValue_15 ?_
    refine o_lk_lt (tgt := 31) hx hb dX4_wordsRuledWithoutValue_16 (by decide) (fun j hj => by have := hR i j hj; omega) (fun c16 => ?_) (fun c16 => ?_)
    · refine lv_iinc (v := nI (i + 1)) (lv' := [(2, .int (nI (i + 1))), (1, .int (nI (cR (rwB ru kn) 0 i))), (0, .ref (r 0))]) hx hb dX4_wordsRuledWithoutValue_31 hl (k := 0) rfl (nI_1 i) (by decide) rfl (fun ls hl => ?_)
      refine lv_goto (tgt := 4) hx hb dX4_wordsRuledWithoutValue_34 (by decide) ?_
      refine ih4 (i + 1) ls ?_ ?_ ?_
      · omega
      · show lv_has ls 3 [(2, .int (nI (i + 1))), (1, .int (nI (cR (rwB ru kn) 0 (i + 1)))), (0, .ref (r 0))]
        rw [cZ_f (p := (rwB ru kn)) (j := i) (fun z => (rwB_iff.mp z).1 c16)]
        exact lv_sub hl [0, 1, 2] rfl
      · omega
    · obtain ⟨j, hj⟩ := c16
      refine lv_aload_n hx hb dX4_wordsRuledWithoutValue_19 rfl (lv_at hl 2 rfl) ?_
      refine va_get (D := G) (ci := 3) (v := .ref (r 2)) (C := RX4) (T := TX4) (N := 4) hx hb hts iX4_wordsRuledWithoutValue_X4 hown hK hP 0 rfl rfl 2 (by decide) (hts (.fieldLink RX4 15 "NailedOrders$Reckoning" "known" "[Z") (by decide +kernel)) (fun _ h9 => h9) rfl dX4_wordsRuledWithoutValue_20 ?_
      refine lv_iload_n hx hb dX4_wordsRuledWithoutValue_23 rfl (lv_at hl 0 rfl) ?_
      refine o_zald hx hb hK hP 2 2 rfl rfl i (by omega) (by decide) dX4_wordsRuledWithoutValue_24 ?_
      refine o_ifb_ne (tgt := 31) hx hb dX4_wordsRuledWithoutValue_25 (by decide) (fun c25 => ?_) (fun c25 => ?_)
      · refine lv_iinc (v := nI (i + 1)) (lv' := [(2, .int (nI (i + 1))), (1, .int (nI (cR (rwB ru kn) 0 i))), (0, .ref (r 0))]) hx hb dX4_wordsRuledWithoutValue_31 hl (k := 0) rfl (nI_1 i) (by decide) rfl (fun ls hl => ?_)
        refine lv_goto (tgt := 4) hx hb dX4_wordsRuledWithoutValue_34 (by decide) ?_
        refine ih4 (i + 1) ls ?_ ?_ ?_
        · omega
        · show lv_has ls 3 [(2, .int (nI (i + 1))), (1, .int (nI (cR (rwB ru kn) 0 (i + 1)))), (0, .ref (r 0))]
          rw [cZ_f (p := (rwB ru kn)) (j := i) (fun z => (rwB_iff.mp z).2 c25)]
          exact lv_sub hl [0, 1, 2] rfl
        · omega
      · refine lv_iinc (v := nI (cR (rwB ru kn) 0 i + 1)) (lv' := [(1, .int (nI (cR (rwB ru kn) 0 i + 1))), (2, .int (nI i)), (0, .ref (r 0))]) hx hb dX4_wordsRuledWithoutValue_28 hl (k := 1) rfl (nI_1 (cR (rwB ru kn) 0 i)) (by decide) rfl (fun ls hl => ?_)
        refine lv_iinc (v := nI (i + 1)) (lv' := [(2, .int (nI (i + 1))), (1, .int (nI (cR (rwB ru kn) 0 i + 1))), (0, .ref (r 0))]) hx hb dX4_wordsRuledWithoutValue_31 hl (k := 1) rfl (nI_1 i) (by decide) rfl (fun ls hl => ?_)
        refine lv_goto (tgt := 4) hx hb dX4_wordsRuledWithoutValue_34 (by decide) ?_
        refine ih4 (i + 1) ls ?_ ?_ ?_
        · omega
        · show lv_has ls 3 [(2, .int (nI (i + 1))), (1, .int (nI (cR (rwB ru kn) 0 (i + 1)))), (0, .ref (r 0))]
          rw [cZ_t (p := (rwB ru kn)) (j := i) (rwB_iff.mpr ⟨(by rw [hj]; intro z; cases z), c25⟩)]
          exact lv_sub hl [0, 1, 2] rfl
        · omega

set_option maxRecDepth 100000 in
theorem iX4_wordsInConflict_X4 : ∀ w ∈ u_ws RX4 TX4 4, w ∈ wsX4_wordsInConflict := by decide +kernel
set_option maxRecDepth 100000 in
theorem iX4_wordsInConflict_X1 : ∀ w ∈ u_ws RX1 TX1 13, w ∈ wsX4_wordsInConflict := by decide +kernel
set_option maxHeartbeats 4000000 in
set_option maxRecDepth 100000 in
theorem kX4_wordsInConflict (l : Launch) (G : va_G) (cy : Nat → ClassId) {H0 : Heap} {q r : Nat → Nat} {M : MT} {ru : Nat → Option Nat} {kn : Nat → Bool} {va : Nat → UInt32} (hW : WB M) (hF : WF M) (hV : ∀ w, Fin32 (va w)) (hR : ∀ w o, ru w = some o → o < mN M) (hP : va_P G vwCl (wRe cy r (q 0) ru kn va ++ wDo cy q M) H0) : MetI l yX4_wordsInConflict wsX4_wordsInConflict 4 91 [.ref (r 0)] H0 G cy (nI (cR (cfB M ru kn va) 0 16)) := by
  refine Met.ofW (cc := cX4_wordsInConflict) (maxL := 3) (ret := (some .int)) (by decide) rfl ?_
  intro p e s m args below meth c s₁ B hml hv
  obtain ⟨rfl, hH, hK⟩ := hv
  subst hH
  have hx := B.exec
  have hb := B.bytes
  have hr := B.returns
  have hts := atoms_spec (ws := wsX4_wordsInConflict) B.pre
  have hown : s.vm.findClass RX4 = some m.cls := findClass_of_methodNamed B.named
  have hlocks := B.notSynchronized
  have hl := lv_entry ([.ref (r 0)]) (n := 3) (Nat.le_of_ble_eq_true rfl)
  rw [lg_entry_eq]
  generalize (lg_sl ([.ref (r 0)]) ++ List.replicate (3 - (lg_sl ([.ref (r 0)])).length) Slot.unset).toArray = ls at hl ⊢
  have hl : lv_has ls 3 [(0, .ref (r 0))] := hl
  obtain ⟨bP, bN, bR, bO, bW, bL, bF⟩ := id hW
  have hPd := hP.sub (ws' := wDo cy q M) [4, 5, 6, 7, 8, 9, 10, 11, 12] rfl
  refine lv_iconst (v := nI 0) hx hb dX4_wordsInConflict_0 (by decide +kernel) ?_
  refine lv_istore_n (lv' := [(1, .int (nI 0)), (0, .ref (r 0))]) hx hb dX4_wordsInConflict_1 rfl hl (by decide) rfl (fun ls hl => ?_)
  refine lv_iconst (v := nI 0) hx hb dX4_wordsInConflict_2 (by decide +kernel) ?_
  refine lv_istore_n (lv' := [(2, .int (nI 0)), (1, .int (nI 0)), (0, .ref (r 0))]) hx hb dX4_wordsInConflict_3 rfl hl (by decide) rfl (fun ls hl => ?_)
  refine o_loop (σ := Nat) (fun (i : Nat) => i ≤ 16) (fun (i : Nat) => [(2, .int (nI i)), (1, .int (nI (cR (cfB M ru kn va) 0 i))), (0, .ref (r 0))]) (fun (i : Nat) => 16 - i) 0 (Nat.zero_le _) (lv_sub hl [0, 1, 2] rfl) ?_
  rintro i ls h1 hl ih4
  have hl : lv_has ls 3 [(2, .int (nI i)), (1, .int (nI (cR (cfB M ru kn va) 0 i))), (0, .ref (r 0))] := hl
  refine lv_iload_n hx hb dX4_wordsInConflict_4 rfl (lv_at hl 0 rfl) ?_
  refine lv_bipush (v := nI 16) hx hb dX4_wordsInConflict_5 (by decide +kernel) ?_
  refine o_icmp_ge (tgt := 27) hx hb dX4_wordsInConflict_7 (by decide) (by omega) (by omega) (fun c7 => ?_) (fun c7 => ?_)
  · obtain rfl : i = 16 := by omega
    refine lv_iload_n hx hb dX4_wordsInConflict_27 rfl (lv_at hl 1 rfl) ?_
    exact o_endI hx hb hr hlocks dX4_wordsInConflict_28 rfl
  · refine lv_aload_n hx hb dX4_wordsInConflict_10 rfl (lv_at hl 2 rfl) ?_
    refine lv_iload_n hx hb dX4_wordsInConflict_11 rfl (lv_at hl 0 rfl) ?_
    refine o_VI (As := [.int (nI i)]) (rest := []) ⟨hx, hb, hml, hown, hts⟩ (kX4_topmostRival l G cy hW hF hV hR hP i (by omega)) (cwV 1 hts gX4_wordsInConflict_X4_topmostRival rfl rfl rfl (by decide +kernel) ⟨Nat.le_of_ble_eq_true rfl, Nat.le_of_ble_eq_true rfl⟩) hK (va_recv hK hP (ci := 3) (q0 := 0) rfl rfl) rfl hl.1 rfl (Nat.le_of_ble_eq_true rfl) dX4_wordsInConflict_12 ⟨Nat.zero_le _, Nat.zero_le _⟩ ?_
    refine o_lk_lt (tgt := 21) hx hb dX4_wordsInConflict_15 (by decide) (fun j hj => by have := rivOf_lt hj; omega) (fun c15 => ?_) (fun c15 => ?_)
    · refine lv_iinc (v := nI (i + 1)) (lv' := [(2, .int (nI (i + 1))), (1, .int (nI (cR (cfB M ru kn va) 0 i))), (0, .ref (r 0))]) hx hb dX4_wordsInConflict_21 hl (k := 0) rfl (nI_1 i) (by decide) rfl (fun ls hl => ?_)
      refine lv_goto (tgt := 4) hx hb dX4_wordsInConflict_24 (by decide) ?_
      refine ih4 (i + 1) ls ?_ ?_ ?_
      · omega
      · show lv_has ls 3 [(2, .int (nI (i + 1))), (1, .int (nI (cR (cfB M ru kn va) 0 (i + 1)))), (0, .ref (r 0))]
        rw [cZ_f (p := (cfB M ru kn va)) (j := i) (fun z => (cfB_iff.mp z) c15)]
        exact lv_sub hl [0, 1, 2] rfl
      · omega
    · obtain ⟨j, hj⟩ := c15
      refine lv_iinc (v := nI (cR (cfB M ru kn va) 0 i + 1)) (lv' := [(1, .int (nI (cR (cfB M ru kn va) 0 i + 1))), (2, .int (nI i)), (0, .ref (r 0))]) hx hb dX4_wordsInConflict_18 hl (k := 1) rfl (nI_1 (cR (cfB M ru kn va) 0 i)) (by decide) rfl (fun ls hl => ?_)
      refine lv_iinc (v := nI (i + 1)) (lv' := [(2, .int (nI (i + 1))), (1, .int (nI (cR (cfB M ru kn va) 0 i + 1))), (0, .ref (r 0))]) hx hb dX4_wordsInConflict_21 hl (k := 1) rfl (nI_1 i) (by decide) rfl (fun ls hl => ?_)
      refine lv_goto (tgt := 4) hx hb dX4_wordsInConflict_24 (by decide) ?_
      refine ih4 (i + 1) ls ?_ ?_ ?_
      · omega
      · show lv_has ls 3 [(2, .int (nI (i + 1))), (1, .int (nI (cR (cfB M ru kn va) 0 (i + 1)))), (0, .ref (r 0))]
        rw [cZ_t (p := (cfB M ru kn va)) (j := i) (cfB_iff.mpr (by rw [hj]; intro z; cases z))]
        exact lv_sub hl [0, 1, 2] rfl
      · omega
end
section
/-! the values that come of rulers: by chains, and by rounds -/
def chk (v : UInt32) : Option UInt32 := if rngB v = true then some v else none
theorem chk_t {v : UInt32} (h : rngB v = true) : chk v = some v := if_pos h
theorem chk_s {v u : UInt32} (h : chk v = some u) : rngB v = true ∧ v = u := by
  unfold chk at h
  split at h
  · rename_i z
    cases h
    exact ⟨z, rfl⟩
  · cases h
def evo (M : MT) (f : Nat → Option UInt32) (o : Nat) : Option UInt32 := match mL M o with
  | none => chk (mU M o)
  | some x => match f x with
    | none => none
    | some v => chk (FP.fadd (FP.fmul v (mA M o)) (mU M o))
theorem evo_n {M : MT} {f : Nat → Option UInt32} {o : Nat} (h : mL M o = none) : evo M f o = chk (mU M o) := by unfold evo; rw [h]
theorem evo_s {M : MT} {f : Nat → Option UInt32} {o x : Nat} {v : UInt32} (h : mL M o = some x) (hv : f x = some v) : evo M f o = chk (FP.fadd (FP.fmul v (mA M o)) (mU M o)) := by unfold evo; rw [h]; simp only [hv]
theorem evo_0 {M : MT} {f : Nat → Option UInt32} {o x : Nat} (h : mL M o = some x) (hv : f x = none) : evo M f o = none := by unfold evo; rw [h]; simp only [hv]
def ev (M : MT) (ru : Nat → Option Nat) : Nat → Nat → Option UInt32
  | 0 => fun _ => none
  | n + 1 => fun w => match ru w with
    | none => none
    | some o => evo M (ev M ru n) o
theorem ev_n {M : MT} {ru : Nat → Option Nat} {n w : Nat} (h : ru w = none) : ev M ru (n + 1) w = none := by
  show (match ru w with | none => none | some o => evo M (ev M ru n) o) = _
  rw [h]
theorem ev_s {M : MT} {ru : Nat → Option Nat} {n w o : Nat} (h : ru w = some o) : ev M ru (n + 1) w = evo M (ev M ru n) o := by
  show (match ru w with | none => none | some o => evo M (ev M ru n) o) = _
  rw [h]
theorem evo_mono {M : MT} {f g : Nat → Option UInt32} (h : ∀ x v, f x = some v → g x = some v) {o : Nat} {v : UInt32} (hv : evo M f o = some v) : evo M g o = some v := by
  cases hl : mL M o with
  | none => rw [evo_n hl] at hv ⊢; exact hv
  | some x =>
    cases hx : f x with
    | none => rw [evo_0 hl hx] at hv; cases hv
    | some u => rw [evo_s hl hx] at hv; rw [evo_s hl (h x u hx)]; exact hv
theorem ev_mono1 {M : MT} {ru : Nat → Option Nat} : ∀ (n : Nat) {w : Nat} {v : UInt32}, ev M ru n w = some v → ev M ru (n + 1) w = some v
  | 0, w, v, h => by cases h
  | n + 1, w, v, h => by
    cases hr : ru w with
    | none => rw [ev_n hr] at h; cases h
    | some o =>
      rw [ev_s hr] at h ⊢
      exact evo_mono (fun x u hx => ev_mono1 n hx) h
theorem ev_mono {M : MT} {ru : Nat → Option Nat} {n m w : Nat} {v : UInt32} (hm : n ≤ m) (h : ev M ru n w = some v) : ev M ru m w = some v := by
  obtain ⟨d, rfl⟩ := Nat.exists_eq_add_of_le hm
  induction d with
  | zero => exact h
  | succ d ih => exact ev_mono1 (n + d) (ih (Nat.le_add_right _ _))
theorem ev_fin {M : MT} {ru : Nat → Option Nat} : ∀ {n w : Nat} {v : UInt32}, ev M ru n w = some v → rngB v = true
  | 0, w, v, h => by cases h
  | n + 1, w, v, h => by
    cases hr : ru w with
    | none => rw [ev_n hr] at h; cases h
    | some o =>
      rw [ev_s hr] at h
      cases hl : mL M o with
      | none => rw [evo_n hl] at h; obtain ⟨a, rfl⟩ := chk_s h; exact a
      | some x =>
        cases hx : ev M ru n x with
        | none => rw [evo_0 hl hx] at h; cases h
        | some u => rw [evo_s hl hx] at h; obtain ⟨a, rfl⟩ := chk_s h; exact a
theorem cR_up {p : Nat → Bool} {w : Nat} (h : p w = false) : ∀ n : Nat, cR (va_up p w true) 0 n = cR p 0 n + (if w < n then 1 else 0)
  | 0 => rfl
  | n + 1 => by
    show cR (va_up p w true) 0 n + (if va_up p w true (0 + n) then 1 else 0) = cR p 0 n + (if p (0 + n) then 1 else 0) + _
    rw [cR_up h n, Nat.zero_add]
    by_cases hn : n = w
    · subst hn
      have e : va_up p n true n = true := by unfold va_up; rw [if_pos rfl]
      rw [e, h]
      simp
    · have e : va_up p w true n = p n := by unfold va_up; rw [if_neg hn]
      rw [e]
      by_cases hw : w < n
      · rw [if_pos hw, if_pos (show w < n + 1 by omega)]; omega
      · rw [if_neg hw, if_neg (show ¬ w < n + 1 by omega)]; omega
/-- what every round keeps -/
def IvK (M : MT) (ru : Nat → Option Nat) (kn : Nat → Bool) (va : Nat → UInt32) : Prop := (∀ w, Fin32 (va w)) ∧ (∀ w, kn w = true → ev M ru (cR kn 0 16) w = some (va w)) ∧ ∀ w, kn w = false → va w = 0
def stk (M : MT) (ru : Nat → Option Nat) (kn : Nat → Bool) (va : Nat → UInt32) (w : Nat) : Prop := kn w = false → ∀ o, ru w = some o → ¬ oHas M kn va o = true
theorem IvK_0 {M : MT} {ru : Nat → Option Nat} : IvK M ru (fun _ => false) (fun _ => 0) := ⟨fun _ => fin_0, fun _ h => (by cases h), fun _ _ => rfl⟩
theorem oHas_ev {M : MT} {ru : Nat → Option Nat} {kn : Nat → Bool} {va : Nat → UInt32} {n o : Nat} (hk : ∀ x, kn x = true → ev M ru n x = some (va x)) (h : oHas M kn va o = true) : evo M (ev M ru n) o = some (oVal M va o) := by
  cases hl : mL M o with
  | none =>
    have hr := (oHas_n hl).mp h
    rw [evo_n hl, oVal_n hl] at *
    exact chk_t hr
  | some x =>
    obtain ⟨h1, h2⟩ := (oHas_s hl).mp h
    rw [evo_s hl (hk x h1)]
    rw [oVal_s hl] at h2 ⊢
    exact chk_t h2
theorem IvK_step {M : MT} {ru : Nat → Option Nat} {kn : Nat → Bool} {va : Nat → UInt32} {w o : Nat} (hI : IvK M ru kn va) (hw : w < 16) (hk : ¬ kn w = true) (hr : ru w = some o) (hh : oHas M kn va o = true) : IvK M ru (va_up kn w true) (va_up va w (oVal M va o)) ∧ cR (va_up kn w true) 0 16 = cR kn 0 16 + 1 := by
  have hk' : kn w = false := by cases h : kn w; rfl; exact absurd h hk
  have hc : cR (va_up kn w true) 0 16 = cR kn 0 16 + 1 := by rw [cR_up hk' 16, if_pos hw]
  refine ⟨⟨fun x => ?_, fun x hx => ?_, fun x hx => ?_⟩, hc⟩
  · unfold va_up
    split
    · exact rng_fin (oHas_rng hh)
    · exact hI.1 x
  · rw [hc]
    by_cases he : x = w
    · subst he
      rw [ev_s hr, oHas_ev hI.2.1 hh]
      unfold va_up
      rw [if_pos rfl]
    · have e1 : va_up kn w true x = kn x := by unfold va_up; rw [if_neg he]
      have e2 : va_up va w (oVal M va o) x = va x := by unfold va_up; rw [if_neg he]
      rw [e1] at hx
      rw [e2]
      exact ev_mono1 _ (hI.2.1 x hx)
  · by_cases he : x = w
    · subst he
      unfold va_up at hx
      rw [if_pos rfl] at hx
      cases hx
    · have e1 : va_up kn w true x = kn x := by unfold va_up; rw [if_neg he]
      have e2 : va_up va w (oVal M va o) x = va x := by unfold va_up; rw [if_neg he]
      rw [e1] at hx
      rw [e2]
      exact hI.2.2 x hx
def knF (M : MT) (ru : Nat → Option Nat) : Nat → Bool := fun w => (ev M ru 16 w).isSome
def vaF (M : MT) (ru : Nat → Option Nat) : Nat → UInt32 := fun w => (ev M ru 16 w).getD 0
theorem vaF_fin {M : MT} {ru : Nat → Option Nat} (w : Nat) : Fin32 (vaF M ru w) := by
  unfold vaF
  cases h : ev M ru 16 w with
  | none => exact fin_0
  | some v => exact rng_fin (ev_fin h)
theorem known_of_ev {M : MT} {ru : Nat → Option Nat} {kn : Nat → Bool} {va : Nat → UInt32} (hW : WB M) (hI : IvK M ru kn va) (hs : ∀ w, w < 16 → stk M ru kn va w) : ∀ (n w : Nat) (v : UInt32), w < 16 → ev M ru n w = some v → kn w = true ∧ va w = v
  | 0, w, v, _, h => by cases h
  | n + 1, w, v, hw, h => by
    have hkn : kn w = true := by
      cases hk : kn w with
      | true => rfl
      | false =>
        exfalso
        cases hr : ru w with
        | none => rw [ev_n hr] at h; cases h
        | some o =>
          refine hs w hw hk o hr ?_
          rw [ev_s hr] at h
          cases hl : mL M o with
          | none =>
            rw [evo_n hl] at h
            rw [oHas_n hl, oVal_n hl]
            exact (chk_s h).1
          | some x =>
            cases hx : ev M ru n x with
            | none => rw [evo_0 hl hx] at h; cases h
            | some u =>
              obtain ⟨h1, h2⟩ := known_of_ev hW hI hs n x u (hW.2.2.2.2.2.1 o x hl) hx
              rw [evo_s hl hx] at h
              rw [oHas_s hl, oVal_s hl, h2]
              exact ⟨h1, (chk_s h).1⟩
    refine ⟨hkn, ?_⟩
    have a := ev_mono (Nat.le_max_left (cR kn 0 16) (n + 1)) (hI.2.1 w hkn)
    have b := ev_mono (Nat.le_max_right (cR kn 0 16) (n + 1)) h
    rw [a] at b
    exact Option.some.inj b
theorem fix_known {M : MT} {ru : Nat → Option Nat} {kn : Nat → Bool} {va : Nat → UInt32} (hW : WB M) (hI : IvK M ru kn va) (hs : ∀ w, w < 16 → stk M ru kn va w) {w : Nat} (hw : w < 16) : kn w = knF M ru w ∧ va w = vaF M ru w := by
  cases hk : kn w with
  | true =>
    have h := ev_mono (cR_le kn 0 16) (hI.2.1 w hk)
    unfold knF vaF
    rw [h]
    exact ⟨rfl, rfl⟩
  | false =>
    cases h : ev M ru 16 w with
    | none =>
      unfold knF vaF
      rw [h]
      exact ⟨rfl, hI.2.2 w hk⟩
    | some v =>
      have := (known_of_ev hW hI hs 16 w v hw h).1
      rw [hk] at this
      cases this
theorem cR_full {p : Nat → Bool} : ∀ {n : Nat}, n ≤ cR p 0 n → ∀ w, w < n → p w = true
  | 0, _, w, h => absurd h (Nat.not_lt_zero w)
  | n + 1, h, w, hw => by
    have hle := cR_le p 0 n
    have hs : cR p 0 (n + 1) = cR p 0 n + (if p (0 + n) then 1 else 0) := rfl
    rw [hs, Nat.zero_add] at h
    by_cases hp : p n = true
    · rw [if_pos hp] at h
      by_cases he : w = n
      · rw [he]; exact hp
      · exact cR_full (n := n) (by omega) w (by omega)
    · rw [if_neg hp] at h
      omega
/-- the rulers, known words and values of a door as it stands -/
abbrev rl (M : MT) : Nat → Option Nat := rlN M (mN M)
abbrev kF (M : MT) : Nat → Bool := knF M (rl M)
abbrev vF (M : MT) : Nat → UInt32 := vaF M (rl M)
theorem rl_lt {M : MT} : ∀ w o, rl M w = some o → o < mN M := fun w o h => rlN_lt (mN M) h
theorem nI_m5 {i : Nat} (h : i < 2 ^ 31) : ¬ nI i = -5 := fun z => by
  have := nI_pos (n := i) h
  rw [z] at this
  exact this (by decide)
theorem o_reck {G : va_G} {cy : Nat → ClassId} {r : Nat → Nat} {d : Nat} {ru ru' : Nat → Option Nat} {kn kn' : Nat → Bool} {va va' : Nat → UInt32} {X : va_W} {H : Heap} (hP : va_P G vwCl (wRe cy r d ru kn va ++ X) H) (h1 : ∀ w, w < 16 → ru w = ru' w) (h2 : ∀ w, w < 16 → kn w = kn' w) (h3 : ∀ w, w < 16 → va w = va' w) : va_P G vwCl (wRe cy r d ru' kn' va' ++ X) H := by
  have a : va_P G vwCl (wRe cy r d ru' kn va ++ X) H := o_set (ws := wRe cy r d ru kn va ++ X) (p := 1) (x := (r 1, eI cy 16 (fun w => lkI (ru w)))) (y := (r 1, eI cy 16 (fun w => lkI (ru' w)))) hP (o_cellI (fun w hw => by show lkI (ru w) = lkI (ru' w); rw [h1 w hw]))
  have b : va_P G vwCl (wRe cy r d ru' kn' va ++ X) H := o_set (ws := wRe cy r d ru' kn va ++ X) (p := 2) (x := (r 2, eZ cy 16 (fun w => bI (kn w = true)))) (y := (r 2, eZ cy 16 (fun w => bI (kn' w = true)))) a (o_cellI (fun w hw => by show bI (kn w = true) = bI (kn' w = true); rw [h2 w hw]))
  exact o_set (ws := wRe cy r d ru' kn' va ++ X) (p := 3) (x := (r 3, eF cy 16 va)) (y := (r 3, eF cy 16 va')) b (o_cellF (fun w hw => h3 w hw))
end
section
set_option maxRecDepth 100000 in
theorem iX4_findRulers_X4 : ∀ w ∈ u_ws RX4 TX4 4, w ∈ wsX4_findRulers := by decide +kernel
set_option maxRecDepth 100000 in
theorem iX4_findRulers_X1 : ∀ w ∈ u_ws RX1 TX1 13, w ∈ wsX4_findRulers := by decide +kernel
set_option maxHeartbeats 4000000 in
set_option maxRecDepth 100000 in
theorem kX4_findRulers (l : Launch) (G : va_G) (cy : Nat → ClassId) {H0 : Heap} {q r : Nat → Nat} {M : MT} {ru : Nat → Option Nat} {kn : Nat → Bool} {va : Nat → UInt32} {A0 : Nat → Prop} (hW : WB M) (hP : va_P G vwCl (wRe cy r (q 0) (fun _ => none) kn va ++ wDo cy q M) H0) (hD0 : va_D A0 (wRe cy r (q 0) (fun _ => none) kn va ++ wDo cy q M)) : MutV l yX4_findRulers wsX4_findRulers 1 21 [.ref (r 0), .int ((-5))] H0 G cy (wRe cy r (q 0) (fun _ => none) kn va ++ wDo cy q M) (wRe cy r (q 0) (rl M) kn va ++ wDo cy q M) := by
  refine Met.ofW (cc := cX4_findRulers) (maxL := 5) (ret := none) (by decide) rfl ?_
  intro p e s m args below meth c s₁ B hml hv
  obtain ⟨rfl, hH, hK⟩ := hv
  subst hH
  have hx := B.exec
  have hb := B.bytes
  have hr := B.returns
  have hts := atoms_spec (ws := wsX4_findRulers) B.pre
  have hown : s.vm.findClass RX4 = some m.cls := findClass_of_methodNamed B.named
  have hlocks := B.notSynchronized
  have hl := lv_entry ([.ref (r 0), .int ((-5))]) (n := 5) (Nat.le_of_ble_eq_true rfl)
  rw [lg_entry_eq]
  generalize (lg_sl ([.ref (r 0), .int ((-5))]) ++ List.replicate (5 - (lg_sl ([.ref (r 0), .int ((-5))])).length) Slot.unset).toArray = ls at hl ⊢
  have hl : lv_has ls 5 [(0, .ref (r 0)), (1, .int ((-5)))] := hl
  obtain ⟨bP, bN, bR, bO, bW, bL, bF⟩ := id hW
  have hD := hD0.self (sz := s.heap.size)
  generalize hAe : va_A (wRe cy r (q 0) (fun _ => none) kn va ++ wDo cy q M) s.heap.size = A at hD ⊢
  have hA : ∀ q : Nat, s.heap.size ≤ q → A q := fun q h => by rw [← hAe]; exact Or.inr h
  have hS : va_S A s.heap s.heap [] := va_S.rf
  refine lv_iconst (v := nI 0) hx hb dX4_findRulers_0 (by decide +kernel) ?_
  refine lv_istore_n (lv' := [(2, .int (nI 0)), (0, .ref (r 0)), (1, .int ((-5)))]) hx hb dX4_findRulers_1 rfl hl (by decide) rfl (fun ls hl => ?_)
  refine o_loopM (σ := Nat) (fun (i : Nat) (H : Heap) (locs : List Loc) => i ≤ mN M ∧ va_P G vwCl (wRe cy r (q 0) (rlN M i) kn va ++ wDo cy q M) H ∧ va_D A (wRe cy r (q 0) (rlN M i) kn va ++ wDo cy q M) ∧ va_S A s.heap H locs) (fun (i : Nat) => [(2, .int (nI i)), (0, .ref (r 0)), (1, .int ((-5)))]) (fun (i : Nat) => mN M - i) 0 ⟨Nat.zero_le _, hP, hD, hS⟩ (lv_sub hl [0, 1, 2] rfl) ?_
  rintro i ls H locs ⟨h1, hP, hD, hS⟩ hl ih2
  have hl : lv_has ls 5 [(2, .int (nI i)), (0, .ref (r 0)), (1, .int ((-5)))] := hl
  have hPd := hP.sub (ws' := wDo cy q M) [4, 5, 6, 7, 8, 9, 10, 11, 12] rfl
  have b1 := bW i
  have b2 := bO i
  have b3 := bR (mO M i)
  refine lv_iload_n hx hb dX4_findRulers_2 rfl (lv_at hl 0 rfl) ?_
  refine lv_aload_n hx hb dX4_findRulers_3 rfl (lv_at hl 1 rfl) ?_
  refine va_get (D := G) (ci := 3) (v := .ref (q 0)) (C := RX4) (T := TX4) (N := 4) hx hb hts iX4_findRulers_X4 hown hK hP 0 rfl rfl 0 (by decide) (hts (.fieldLink RX4 23 "NailedOrders$Reckoning" "door" "LNailedOrders$Door;") (by decide +kernel)) (fun _ h9 => h9) rfl dX4_findRulers_4 ?_
  refine va_get (D := G) (ci := 0) (v := .int (nI (mN M))) (C := RX1) (T := TX1) (N := 13) hx hb hts iX4_findRulers_X1 hown hK hP 4 rfl rfl 5 (by decide) (hts (.fieldLink RX4 34 "NailedOrders$Door" "orders" "I") (by decide +kernel)) (fun _ h9 => h9) rfl dX4_findRulers_7 ?_
  refine o_icmp_ge (tgt := 85) hx hb dX4_findRulers_10 (by decide) (by omega) (by omega) (fun c10 => ?_) (fun c10 => ?_)
  · obtain rfl : i = mN M := by omega
    exact o_endVm hx hb hr hlocks dX4_findRulers_85 hP hS
  · refine lv_aload_n hx hb dX4_findRulers_13 rfl (lv_at hl 1 rfl) ?_
    refine va_get (D := G) (ci := 3) (v := .ref (q 0)) (C := RX4) (T := TX4) (N := 4) hx hb hts iX4_findRulers_X4 hown hK hP 0 rfl rfl 0 (by decide) (hts (.fieldLink RX4 23 "NailedOrders$Reckoning" "door" "LNailedOrders$Door;") (by decide +kernel)) (fun _ h9 => h9) rfl dX4_findRulers_14 ?_
    refine lv_iload_n hx hb dX4_findRulers_17 rfl (lv_at hl 0 rfl) ?_
    refine o_VI (As := [.int (nI i)]) (rest := []) ⟨hx, hb, hml, hown, hts⟩ (kX1_hangs l G cy hW hPd i (by omega)) (cwV 1 hts gX4_findRulers_X1_hangs rfl rfl rfl (by decide +kernel) ⟨Nat.le_of_ble_eq_true rfl, Nat.le_of_ble_eq_true rfl⟩) hK (va_recv hK hP (ci := 0) (q0 := 4) rfl rfl) rfl hl.1 rfl (Nat.le_of_ble_eq_true rfl) dX4_findRulers_18 ⟨Nat.zero_le _, Nat.zero_le _⟩ ?_
    refine o_ifb_eq (tgt := 79) hx hb dX4_findRulers_21 (by decide) (fun c21 => ?_) (fun c21 => ?_)
    · refine lv_iinc (v := nI (i + 1)) (lv' := [(2, .int (nI (i + 1))), (0, .ref (r 0)), (1, .int ((-5)))]) hx hb dX4_findRulers_79 hl (k := 0) rfl (nI_1 i) (by decide) rfl (fun ls hl => ?_)
      refine lv_goto (tgt := 2) hx hb dX4_findRulers_82 (by decide) ?_
      refine ih2 (i + 1) ls H locs ?_ ?_ ?_
      · have e := rlN_u c21; rw [e]; exact ⟨by omega, hP, hD, hS⟩
      · show lv_has ls 5 [(2, .int (nI (i + 1))), (0, .ref (r 0)), (1, .int ((-5)))]
        exact lv_sub hl [0, 1, 2] rfl
      · omega
    · refine lv_iload_n hx hb dX4_findRulers_24 rfl (lv_at hl 0 rfl) ?_
      refine lv_iload_n hx hb dX4_findRulers_25 rfl (lv_at hl 2 rfl) ?_
      refine lv_icmp_eq (tgt := 79) hx hb dX4_findRulers_26 (by decide) (fun c26 => ?_) (fun c26 => ?_)
      · exact absurd c26 (nI_m5 (by omega))
      · refine lv_aload_n hx hb dX4_findRulers_29 rfl (lv_at hl 1 rfl) ?_
        refine va_get (D := G) (ci := 3) (v := .ref (q 0)) (C := RX4) (T := TX4) (N := 4) hx hb hts iX4_findRulers_X4 hown hK hP 0 rfl rfl 0 (by decide) (hts (.fieldLink RX4 23 "NailedOrders$Reckoning" "door" "LNailedOrders$Door;") (by decide +kernel)) (fun _ h9 => h9) rfl dX4_findRulers_30 ?_
        refine va_get (D := G) (ci := 0) (v := .ref (q 7)) (C := RX1) (T := TX1) (N := 13) hx hb hts iX4_findRulers_X1 hown hK hP 4 rfl rfl 7 (by decide) (hts (.fieldLink RX4 44 "NailedOrders$Door" "words" "[I") (by decide +kernel)) (fun _ h9 => h9) rfl dX4_findRulers_33 ?_
        refine lv_iload_n hx hb dX4_findRulers_36 rfl (lv_at hl 0 rfl) ?_
        refine o_iald hx hb hK hP 7 0 rfl rfl i (by omega) (by decide) dX4_findRulers_37 ?_
        refine lv_istore_n (lv' := [(3, .int (nI (mW M i))), (2, .int (nI i)), (0, .ref (r 0)), (1, .int ((-5)))]) hx hb dX4_findRulers_38 rfl hl (by decide) rfl (fun ls hl => ?_)
        refine lv_aload_n hx hb dX4_findRulers_39 rfl (lv_at hl 2 rfl) ?_
        refine va_get (D := G) (ci := 3) (v := .ref (r 1)) (C := RX4) (T := TX4) (N := 4) hx hb hts iX4_findRulers_X4 hown hK hP 0 rfl rfl 1 (by decide) (hts (.fieldLink RX4 9 "NailedOrders$Reckoning" "rulers" "[I") (by decide +kernel)) (fun _ h9 => h9) rfl dX4_findRulers_40 ?_
        refine lv_iload_n hx hb dX4_findRulers_43 rfl (lv_at hl 0 rfl) ?_
        refine o_iald hx hb hK hP 1 0 rfl rfl (mW M i) (by omega) (by decide) dX4_findRulers_44 ?_
        refine lv_istore (lv' := [(4, .int (lkI ((rlN M i) (mW M i)))), (3, .int (nI (mW M i))), (2, .int (nI i)), (0, .ref (r 0)), (1, .int ((-5)))]) hx hb dX4_findRulers_45 hl (by decide) rfl (fun ls hl => ?_)
        refine lv_iload hx hb dX4_findRulers_47 (lv_at hl 0 rfl) ?_
        refine o_lk_lt (tgt := 72) hx hb dX4_findRulers_49 (by decide) (fun j hj => by have := rlN_lt i hj; omega) (fun c49 => ?_) (fun c49 => ?_)
        · refine lv_aload_n hx hb dX4_findRulers_72 rfl (lv_at hl 3 rfl) ?_
          refine va_get (D := G) (ci := 3) (v := .ref (r 1)) (C := RX4) (T := TX4) (N := 4) hx hb hts iX4_findRulers_X4 hown hK hP 0 rfl rfl 1 (by decide) (hts (.fieldLink RX4 9 "NailedOrders$Reckoning" "rulers" "[I") (by decide +kernel)) (fun _ h9 => h9) rfl dX4_findRulers_73 ?_
          refine lv_iload_n hx hb dX4_findRulers_76 rfl (lv_at hl 1 rfl) ?_
          refine lv_iload_n hx hb dX4_findRulers_77 rfl (lv_at hl 2 rfl) ?_
          refine o_iast hx hb hK hP hD hS 1 0 rfl rfl (mW M i) (by omega) (by decide) (upd_lk (rlN M i) (mW M i) (some i)) dX4_findRulers_78 (fun H locs hP hD hS => ?_)
          have hP : va_P G vwCl (wRe cy r (q 0) (va_up (rlN M i) (mW M i) (some i)) kn va ++ wDo cy q M) H := hP
          have hD : va_D A (wRe cy r (q 0) (va_up (rlN M i) (mW M i) (some i)) kn va ++ wDo cy q M) := hD
          refine lv_iinc (v := nI (i + 1)) (lv' := [(2, .int (nI (i + 1))), (4, .int (lkI ((rlN M i) (mW M i)))), (3, .int (nI (mW M i))), (0, .ref (r 0)), (1, .int ((-5)))]) hx hb dX4_findRulers_79 hl (k := 2) rfl (nI_1 i) (by decide) rfl (fun ls hl => ?_)
          refine lv_goto (tgt := 2) hx hb dX4_findRulers_82 (by decide) ?_
          refine ih2 (i + 1) ls H locs ?_ ?_ ?_
          · have e := rlN_n c21 c49; rw [e]; exact ⟨by omega, hP, hD, hS⟩
          · show lv_has ls 5 [(2, .int (nI (i + 1))), (0, .ref (r 0)), (1, .int ((-5)))]
            exact lv_sub hl [0, 3, 4] rfl
          · omega
        · obtain ⟨j, hj⟩ := c49
          rw [hj] at hl
          have hl : lv_has ls 5 [(4, .int (nI j)), (3, .int (nI (mW M i))), (2, .int (nI i)), (0, .ref (r 0)), (1, .int ((-5)))] := hl
          have b4 := rlN_lt i hj
          have b5 := bO j
          have b6 := bR (mO M j)
          refine lv_aload_n hx hb dX4_findRulers_52 rfl (lv_at hl 3 rfl) ?_
          refine va_get (D := G) (ci := 3) (v := .ref (q 0)) (C := RX4) (T := TX4) (N := 4) hx hb hts iX4_findRulers_X4 hown hK hP 0 rfl rfl 0 (by decide) (hts (.fieldLink RX4 23 "NailedOrders$Reckoning" "door" "LNailedOrders$Door;") (by decide +kernel)) (fun _ h9 => h9) rfl dX4_findRulers_53 ?_
          refine lv_iload_n hx hb dX4_findRulers_56 rfl (lv_at hl 2 rfl) ?_
          refine o_VI (As := [.int (nI i)]) (rest := []) ⟨hx, hb, hml, hown, hts⟩ (kX1_rankOf l G cy hW hPd i (by omega)) (cwV 1 hts gX4_findRulers_X1_rankOf rfl rfl rfl (by decide +kernel) ⟨Nat.le_of_ble_eq_true rfl, Nat.le_of_ble_eq_true rfl⟩) hK (va_recv hK hP (ci := 0) (q0 := 4) rfl rfl) rfl hl.1 rfl (Nat.le_of_ble_eq_true rfl) dX4_findRulers_57 ⟨Nat.zero_le _, Nat.zero_le _⟩ ?_
          refine lv_aload_n hx hb dX4_findRulers_60 rfl (lv_at hl 3 rfl) ?_
          refine va_get (D := G) (ci := 3) (v := .ref (q 0)) (C := RX4) (T := TX4) (N := 4) hx hb hts iX4_findRulers_X4 hown hK hP 0 rfl rfl 0 (by decide) (hts (.fieldLink RX4 23 "NailedOrders$Reckoning" "door" "LNailedOrders$Door;") (by decide +kernel)) (fun _ h9 => h9) rfl dX4_findRulers_61 ?_
          refine lv_iload hx hb dX4_findRulers_64 (lv_at hl 0 rfl) ?_
          refine o_VI (As := [.int (nI j)]) (rest := [.int (nI (mR M (mO M i)))]) ⟨hx, hb, hml, hown, hts⟩ (kX1_rankOf l G cy hW hPd j (by omega)) (cwV 1 hts gX4_findRulers_X1_rankOf rfl rfl rfl (by decide +kernel) ⟨Nat.le_of_ble_eq_true rfl, Nat.le_of_ble_eq_true rfl⟩) hK (va_recv hK hP (ci := 0) (q0 := 4) rfl rfl) rfl hl.1 rfl (Nat.le_of_ble_eq_true rfl) dX4_findRulers_66 ⟨Nat.zero_le _, Nat.zero_le _⟩ ?_
          refine o_icmp_lt (tgt := 79) hx hb dX4_findRulers_69 (by decide) (by omega) (by omega) (fun c69 => ?_) (fun c69 => ?_)
          · refine lv_iinc (v := nI (i + 1)) (lv' := [(2, .int (nI (i + 1))), (4, .int (nI j)), (3, .int (nI (mW M i))), (0, .ref (r 0)), (1, .int ((-5)))]) hx hb dX4_findRulers_79 hl (k := 2) rfl (nI_1 i) (by decide) rfl (fun ls hl => ?_)
            refine lv_goto (tgt := 2) hx hb dX4_findRulers_82 (by decide) ?_
            refine ih2 (i + 1) ls H locs ?_ ?_ ?_
            · have e := rlN_f c21 hj (by omega); rw [e]; exact ⟨by omega, hP, hD, hS⟩
            · show lv_has ls 5 [(2, .int (nI (i + 1))), (0, .ref (r 0)), (1, .int ((-5)))]
              exact lv_sub hl [0, 3, 4] rfl
            · omega
          · refine lv_aload_n hx hb dX4_findRulers_72 rfl (lv_at hl 3 rfl) ?_
            refine va_get (D := G) (ci := 3) (v := .ref (r 1)) (C := RX4) (T := TX4) (N := 4) hx hb hts iX4_findRulers_X4 hown hK hP 0 rfl rfl 1 (by decide) (hts (.fieldLink RX4 9 "NailedOrders$Reckoning" "rulers" "[I") (by decide +kernel)) (fun _ h9 => h9) rfl dX4_findRulers_73 ?_
            refine lv_iload_n hx hb dX4_findRulers_76 rfl (lv_at hl 1 rfl) ?_
            refine lv_iload_n hx hb dX4_findRulers_77 rfl (lv_at hl 2 rfl) ?_
            refine o_iast hx hb hK hP hD hS 1 0 rfl rfl (mW M i) (by omega) (by decide) (upd_lk (rlN M i) (mW M i) (some i)) dX4_findRulers_78 (fun H locs hP hD hS => ?_)
            have hP : va_P G vwCl (wRe cy r (q 0) (va_up (rlN M i) (mW M i) (some i)) kn va ++ wDo cy q M) H := hP
            have hD : va_D A (wRe cy r (q 0) (va_up (rlN M i) (mW M i) (some i)) kn va ++ wDo cy q M) := hD
            refine lv_iinc (v := nI (i + 1)) (lv' := [(2, .int (nI (i + 1))), (4, .int (nI j)), (3, .int (nI (mW M i))), (0, .ref (r 0)), (1, .int ((-5)))]) hx hb dX4_findRulers_79 hl (k := 2) rfl (nI_1 i) (by decide) rfl (fun ls hl => ?_)
            refine lv_goto (tgt := 2) hx hb dX4_findRulers_82 (by decide) ?_
            refine ih2 (i + 1) ls H locs ?_ ?_ ?_
            · have e := rlN_t c21 hj c69; rw [e]; exact ⟨by omega, hP, hD, hS⟩
            · show lv_has ls 5 [(2, .int (nI (i + 1))), (0, .ref (r 0)), (1, .int ((-5)))]
              exact lv_sub hl [0, 3, 4] rfl
            · omega

set_option maxRecDepth 100000 in
theorem iX4_findValues_X4 : ∀ w ∈ u_ws RX4 TX4 4, w ∈ wsX4_findValues := by decide +kernel
set_option maxHeartbeats 4000000 in
set_option maxRecDepth 100000 in
theorem kX4_findValues (l : Launch) (G : va_G) (cy : Nat → ClassId) {H0 : Heap} {q r : Nat → Nat} {M : MT} {ru : Nat → Option Nat} {kn : Nat → Bool} {va : Nat → UInt32} {A0 : Nat → Prop} (hW : WB M) (hF : WF M) (hR : ∀ w o, ru w = some o → o < mN M) (hP : va_P G vwCl (wRe cy r (q 0) ru (fun _ => false) (fun _ => 0) ++ wDo cy q M) H0) (hD0 : va_D A0 (wRe cy r (q 0) ru (fun _ => false) (fun _ => 0) ++ wDo cy q M)) : MutV l yX4_findValues wsX4_findValues 2 45 [.ref (r 0)] H0 G cy (wRe cy r (q 0) ru (fun _ => false) (fun _ => 0) ++ wDo cy q M) (wRe cy r (q 0) ru (knF M ru) (vaF M ru) ++ wDo cy q M) := by
  refine Met.ofW (cc := cX4_findValues) (maxL := 5) (ret := none) (by decide) rfl ?_
  intro p e s m args below meth c s₁ B hml hv
  obtain ⟨rfl, hH, hK⟩ := hv
  subst hH
  have hx := B.exec
  have hb := B.bytes
  have hr := B.returns
  have hts := atoms_spec (ws := wsX4_findValues) B.pre
  have hown : s.vm.findClass RX4 = some m.cls := findClass_of_methodNamed B.named
  have hlocks := B.notSynchronized
  have hl := lv_entry ([.ref (r 0)]) (n := 5) (Nat.le_of_ble_eq_true rfl)
  rw [lg_entry_eq]
  generalize (lg_sl ([.ref (r 0)]) ++ List.replicate (5 - (lg_sl ([.ref (r 0)])).length) Slot.unset).toArray = ls at hl ⊢
  have hl : lv_has ls 5 [(0, .ref (r 0))] := hl
  obtain ⟨bP, bN, bR, bO, bW, bL, bF⟩ := id hW
  have hD := hD0.self (sz := s.heap.size)
  generalize hAe : va_A (wRe cy r (q 0) ru (fun _ => false) (fun _ => 0) ++ wDo cy q M) s.heap.size = A at hD ⊢
  have hA : ∀ q : Nat, s.heap.size ≤ q → A q := fun q h => by rw [← hAe]; exact Or.inr h
  have hS : va_S A s.heap s.heap [] := va_S.rf
  refine lv_iconst (v := nI 1) hx hb dX4_findValues_0 (by decide +kernel) ?_
  refine lv_istore_n (lv' := [(1, .int (nI 1)), (0, .ref (r 0))]) hx hb dX4_findValues_1 rfl hl (by decide) rfl (fun ls hl => ?_)
  refine lv_iconst (v := nI 0) hx hb dX4_findValues_2 (by decide +kernel) ?_
  refine lv_istore_n (lv' := [(2, .int (nI 0)), (1, .int (nI 1)), (0, .ref (r 0))]) hx hb dX4_findValues_3 rfl hl (by decide) rfl (fun ls hl => ?_)
  refine o_loopM (σ := Nat × Bool × (Nat → Bool) × (Nat → UInt32)) (fun (x_ : Nat × Bool × (Nat → Bool) × (Nat → UInt32)) (H : Heap) (locs : List Loc) => match x_ with | (rd, g1, k1, v1) => rd ≤ 16 ∧ IvK M ru k1 v1 ∧ (g1 = true → rd ≤ cR k1 0 16) ∧ (g1 = false → ∀ w, w < 16 → stk M ru k1 v1 w) ∧ va_P G vwCl (wRe cy r (q 0) ru k1 v1 ++ wDo cy q M) H ∧ va_D A (wRe cy r (q 0) ru k1 v1 ++ wDo cy q M) ∧ va_S A s.heap H locs) (fun (x_ : Nat × Bool × (Nat → Bool) × (Nat → UInt32)) => match x_ with | (rd, g1, k1, v1) => [(1, .int (bI (g1 = true))), (2, .int (nI rd)), (0, .ref (r 0))]) (fun (x_ : Nat × Bool × (Nat → Bool) × (Nat → UInt32)) => match x_ with | (rd, g1, k1, v1) => 16 - rd) (0, true, (fun _ => false), (fun _ => 0)) ⟨Nat.zero_le _, IvK_0, fun _ => Nat.zero_le _, fun z => (by cases z), hP, hD, hS⟩ (lv_sub hl [1, 0, 2] rfl) ?_
  rintro ⟨rd, g1, k1, v1⟩ ls H locs ⟨hO1, hO2, hO3, hO4, hP, hD, hS⟩ hl ih4
  have hl : lv_has ls 5 [(1, .int (bI (g1 = true))), (2, .int (nI rd)), (0, .ref (r 0))] := hl
  refine lv_iload_n hx hb dX4_findValues_4 rfl (lv_at hl 1 rfl) ?_
  refine lv_bipush (v := nI 16) hx hb dX4_findValues_5 (by decide +kernel) ?_
  refine o_icmp_ge (tgt := 88) hx hb dX4_findValues_7 (by decide) (by omega) (by omega) (fun c7 => ?_) (fun c7 => ?_)
  · have hfx : ∀ w, w < 16 → stk M ru k1 v1 w := by
      cases g1
      · exact hO4 rfl
      · intro w hw hk; have h8 := hO3 rfl; rw [cR_full (p := k1) (n := 16) (by omega) w hw] at hk; cases hk
    have hP9 := o_reck hP (fun w _ => rfl) (fun w hw => (fix_known hW hO2 hfx hw).1) (fun w hw => (fix_known hW hO2 hfx hw).2)
    exact o_endVm hx hb hr hlocks dX4_findValues_88 hP9 hS
  · refine lv_iload_n hx hb dX4_findValues_10 rfl (lv_at hl 0 rfl) ?_
    refine o_ifb_eq (tgt := 88) hx hb dX4_findValues_11 (by decide) (fun c11 => ?_) (fun c11 => ?_)
    · have hfx : ∀ w, w < 16 → stk M ru k1 v1 w := hO4 (by cases g1; rfl; exact absurd rfl c11)
      have hP9 := o_reck hP (fun w _ => rfl) (fun w hw => (fix_known hW hO2 hfx hw).1) (fun w hw => (fix_known hW hO2 hfx hw).2)
      exact o_endVm hx hb hr hlocks dX4_findValues_88 hP9 hS
    · have hg1 := hO3 c11
      refine lv_iconst (v := nI 0) hx hb dX4_findValues_14 (by decide +kernel) ?_
      refine lv_istore_n (lv' := [(1, .int (nI 0)), (2, .int (nI rd)), (0, .ref (r 0))]) hx hb dX4_findValues_15 rfl hl (by decide) rfl (fun ls hl => ?_)
      refine lv_iconst (v := nI 0) hx hb dX4_findValues_16 (by decide +kernel) ?_
      refine lv_istore_n (lv' := [(3, .int (nI 0)), (1, .int (nI 0)), (2, .int (nI rd)), (0, .ref (r 0))]) hx hb dX4_findValues_17 rfl hl (by decide) rfl (fun ls hl => ?_)
      refine o_loopM (σ := Nat × Bool × (Nat → Bool) × (Nat → UInt32)) (fun (x_ : Nat × Bool × (Nat → Bool) × (Nat → UInt32)) (H : Heap) (locs : List Loc) => match x_ with | (j, g2, k2, v2) => j ≤ 16 ∧ IvK M ru k2 v2 ∧ (g2 = true → rd + 1 ≤ cR k2 0 16) ∧ (g2 = false → rd ≤ cR k2 0 16 ∧ ∀ w, w < j → stk M ru k2 v2 w) ∧ va_P G vwCl (wRe cy r (q 0) ru k2 v2 ++ wDo cy q M) H ∧ va_D A (wRe cy r (q 0) ru k2 v2 ++ wDo cy q M) ∧ va_S A s.heap H locs) (fun (x_ : Nat × Bool × (Nat → Bool) × (Nat → UInt32)) => match x_ with | (j, g2, k2, v2) => [(3, .int (nI j)), (1, .int (bI (g2 = true))), (2, .int (nI rd)), (0, .ref (r 0))]) (fun (x_ : Nat × Bool × (Nat → Bool) × (Nat → UInt32)) => match x_ with | (j, g2, k2, v2) => 16 - j) (0, false, k1, v1) ⟨Nat.zero_le _, hO2, fun z => (by cases z), fun _ => ⟨hg1, fun w h => absurd h (Nat.not_lt_zero w)⟩, hP, hD, hS⟩ (lv_sub hl [0, 1, 2, 3] rfl) ?_
      rintro ⟨j, g2, k2, v2⟩ ls H locs ⟨hi1, hi2, hi3, hi4, hP, hD, hS⟩ hl ih18
      have hl : lv_has ls 5 [(3, .int (nI j)), (1, .int (bI (g2 = true))), (2, .int (nI rd)), (0, .ref (r 0))] := hl
      refine lv_iload_n hx hb dX4_findValues_18 rfl (lv_at hl 0 rfl) ?_
      refine lv_bipush (v := nI 16) hx hb dX4_findValues_19 (by decide +kernel) ?_
      refine o_icmp_ge (tgt := 82) hx hb dX4_findValues_21 (by decide) (by omega) (by omega) (fun c21 => ?_) (fun c21 => ?_)
      · refine lv_iinc (v := nI (rd + 1)) (lv' := [(2, .int (nI (rd + 1))), (3, .int (nI j)), (1, .int (bI (g2 = true))), (0, .ref (r 0))]) hx hb dX4_findValues_82 hl (k := 2) rfl (nI_1 rd) (by decide) rfl (fun ls hl => ?_)
        refine lv_goto (tgt := 4) hx hb dX4_findValues_85 (by decide) ?_
        refine ih4 (rd + 1, g2, k2, v2) ls H locs ?_ ?_ ?_
        · exact ⟨by omega, hi2, hi3, fun z w hw => (hi4 z).2 w (by omega), hP, hD, hS⟩
        · show lv_has ls 5 [(1, .int (bI (g2 = true))), (2, .int (nI (rd + 1))), (0, .ref (r 0))]
          exact lv_sub hl [2, 0, 3] rfl
        · show 16 - (rd + 1) < 16 - rd; omega
      · refine lv_aload_n hx hb dX4_findValues_24 rfl (lv_at hl 3 rfl) ?_
        refine va_get (D := G) (ci := 3) (v := .ref (r 1)) (C := RX4) (T := TX4) (N := 4) hx hb hts iX4_findValues_X4 hown hK hP 0 rfl rfl 1 (by decide) (hts (.fieldLink RX4 9 "NailedOrders$Reckoning" "rulers" "[I") (by decide +kernel)) (fun _ h9 => h9) rfl dX4_findValues_25 ?_
        refine lv_iload_n hx hb dX4_findValues_28 rfl (lv_at hl 0 rfl) ?_
        refine o_iald hx hb hK hP 1 0 rfl rfl j (by omega) (by decide) dX4_findValues_29 ?_
        refine lv_istore (lv' := [(4, .int (lkI (ru j))), (3, .int (nI j)), (1, .int (bI (g2 = true))), (2, .int (nI rd)), (0, .ref (r 0))]) hx hb dX4_findValues_30 hl (by decide) rfl (fun ls hl => ?_)
        refine lv_aload_n hx hb dX4_findValues_32 rfl (lv_at hl 4 rfl) ?_
        refine va_get (D := G) (ci := 3) (v := .ref (r 2)) (C := RX4) (T := TX4) (N := 4) hx hb hts iX4_findValues_X4 hown hK hP 0 rfl rfl 2 (by decide) (hts (.fieldLink RX4 15 "NailedOrders$Reckoning" "known" "[Z") (by decide +kernel)) (fun _ h9 => h9) rfl dX4_findValues_33 ?_
        refine lv_iload_n hx hb dX4_findValues_36 rfl (lv_at hl 1 rfl) ?_
        refine o_zald hx hb hK hP 2 2 rfl rfl j (by omega) (by decide) dX4_findValues_37 ?_
        refine o_ifb_ne (tgt := 76) hx hb dX4_findValues_38 (by decide) (fun c38 => ?_) (fun c38 => ?_)
        · refine lv_iinc (v := nI (j + 1)) (lv' := [(3, .int (nI (j + 1))), (4, .int (lkI (ru j))), (1, .int (bI (g2 = true))), (2, .int (nI rd)), (0, .ref (r 0))]) hx hb dX4_findValues_76 hl (k := 1) rfl (nI_1 j) (by decide) rfl (fun ls hl => ?_)
          refine lv_goto (tgt := 18) hx hb dX4_findValues_79 (by decide) ?_
          refine ih18 (j + 1, g2, k2, v2) ls H locs ?_ ?_ ?_
          · exact ⟨by omega, hi2, hi3, fun z => ⟨(hi4 z).1, lt_s (hi4 z).2 (fun z => absurd c38 (by rw [z]; decide))⟩, hP, hD, hS⟩
          · show lv_has ls 5 [(3, .int (nI (j + 1))), (1, .int (bI (g2 = true))), (2, .int (nI rd)), (0, .ref (r 0))]
            exact lv_sub hl [0, 2, 3, 4] rfl
          · show 16 - (j + 1) < 16 - j; omega
        · refine lv_iload hx hb dX4_findValues_41 (lv_at hl 0 rfl) ?_
          refine o_lk_lt (tgt := 76) hx hb dX4_findValues_43 (by decide) (fun o hj => by have := hR j o hj; omega) (fun c43 => ?_) (fun c43 => ?_)
          · refine lv_iinc (v := nI (j + 1)) (lv' := [(3, .int (nI (j + 1))), (4, .int (lkI (ru j))), (1, .int (bI (g2 = true))), (2, .int (nI rd)), (0, .ref (r 0))]) hx hb dX4_findValues_76 hl (k := 1) rfl (nI_1 j) (by decide) rfl (fun ls hl => ?_)
            refine lv_goto (tgt := 18) hx hb dX4_findValues_79 (by decide) ?_
            refine ih18 (j + 1, g2, k2, v2) ls H locs ?_ ?_ ?_
            · exact ⟨by omega, hi2, hi3, fun z => ⟨(hi4 z).1, lt_s (hi4 z).2 (fun _ o ho => by rw [c43] at ho; cases ho)⟩, hP, hD, hS⟩
            · show lv_has ls 5 [(3, .int (nI (j + 1))), (1, .int (bI (g2 = true))), (2, .int (nI rd)), (0, .ref (r 0))]
              exact lv_sub hl [0, 2, 3, 4] rfl
            · show 16 - (j + 1) < 16 - j; omega
          · obtain ⟨o, hj⟩ := c43
            rw [hj] at hl
            have hl : lv_has ls 5 [(4, .int (nI o)), (3, .int (nI j)), (1, .int (bI (g2 = true))), (2, .int (nI rd)), (0, .ref (r 0))] := hl
            have b4 := hR j o hj
            refine lv_aload_n hx hb dX4_findValues_46 rfl (lv_at hl 4 rfl) ?_
            refine lv_iload hx hb dX4_findValues_47 (lv_at hl 0 rfl) ?_
            refine o_VI (As := [.int (nI o)]) (rest := []) ⟨hx, hb, hml, hown, hts⟩ (kX4_orderHasValue l G cy hW hF (hi2.1) hR hP o (by omega)) (cwV 1 hts gX4_findValues_X4_orderHasValue rfl rfl rfl (by decide +kernel) ⟨Nat.le_of_ble_eq_true rfl, Nat.le_of_ble_eq_true rfl⟩) hK (va_recv hK hP (ci := 3) (q0 := 0) rfl rfl) rfl hl.1 rfl (Nat.le_of_ble_eq_true rfl) dX4_findValues_49 ⟨Nat.zero_le _, Nat.zero_le _⟩ ?_
            refine o_ifb_eq (tgt := 76) hx hb dX4_findValues_52 (by decide) (fun c52 => ?_) (fun c52 => ?_)
            · refine lv_iinc (v := nI (j + 1)) (lv' := [(3, .int (nI (j + 1))), (4, .int (nI o)), (1, .int (bI (g2 = true))), (2, .int (nI rd)), (0, .ref (r 0))]) hx hb dX4_findValues_76 hl (k := 1) rfl (nI_1 j) (by decide) rfl (fun ls hl => ?_)
              refine lv_goto (tgt := 18) hx hb dX4_findValues_79 (by decide) ?_
              refine ih18 (j + 1, g2, k2, v2) ls H locs ?_ ?_ ?_
              · exact ⟨by omega, hi2, hi3, fun z => ⟨(hi4 z).1, lt_s (hi4 z).2 (fun _ o2 ho => by rw [hj] at ho; cases ho; exact c52)⟩, hP, hD, hS⟩
              · show lv_has ls 5 [(3, .int (nI (j + 1))), (1, .int (bI (g2 = true))), (2, .int (nI rd)), (0, .ref (r 0))]
                exact lv_sub hl [0, 2, 3, 4] rfl
              · show 16 - (j + 1) < 16 - j; omega
            · have hI5 := IvK_step hi2 c21 c38 hj c52
              refine lv_aload_n hx hb dX4_findValues_55 rfl (lv_at hl 4 rfl) ?_
              refine va_get (D := G) (ci := 3) (v := .ref (r 2)) (C := RX4) (T := TX4) (N := 4) hx hb hts iX4_findValues_X4 hown hK hP 0 rfl rfl 2 (by decide) (hts (.fieldLink RX4 15 "NailedOrders$Reckoning" "known" "[Z") (by decide +kernel)) (fun _ h9 => h9) rfl dX4_findValues_56 ?_
              refine lv_iload_n hx hb dX4_findValues_59 rfl (lv_at hl 1 rfl) ?_
              refine lv_iconst (v := nI 1) hx hb dX4_findValues_60 (by decide +kernel) ?_
              refine o_zast hx hb hK hP hD hS 2 2 rfl rfl j (by omega) (by decide) (upd_bI k2 j true) dX4_findValues_61 (fun H locs hP hD hS => ?_)
              have hP : va_P G vwCl (wRe cy r (q 0) ru (va_up k2 j true) v2 ++ wDo cy q M) H := hP
              have hD : va_D A (wRe cy r (q 0) ru (va_up k2 j true) v2 ++ wDo cy q M) := hD
              refine lv_aload_n hx hb dX4_findValues_62 rfl (lv_at hl 4 rfl) ?_
              refine va_get (D := G) (ci := 3) (v := .ref (r 3)) (C := RX4) (T := TX4) (N := 4) hx hb hts iX4_findValues_X4 hown hK hP 0 rfl rfl 3 (by decide) (hts (.fieldLink RX4 19 "NailedOrders$Reckoning" "values" "[F") (by decide +kernel)) (fun _ h9 => h9) rfl dX4_findValues_63 ?_
              refine lv_iload_n hx hb dX4_findValues_66 rfl (lv_at hl 1 rfl) ?_
              refine lv_aload_n hx hb dX4_findValues_67 rfl (lv_at hl 4 rfl) ?_
              refine lv_iload hx hb dX4_findValues_68 (lv_at hl 0 rfl) ?_
              refine o_VF (As := [.int (nI o)]) (rest := [.int (nI j), .ref (r 3)]) ⟨hx, hb, hml, hown, hts⟩ (kX4_orderValue l G cy hW hF (hi2.1) hR hP o (by omega)) (cwV 1 hts gX4_findValues_X4_orderValue rfl rfl rfl (by decide +kernel) ⟨Nat.le_of_ble_eq_true rfl, Nat.le_of_ble_eq_true rfl⟩) hK (va_recv hK hP (ci := 3) (q0 := 0) rfl rfl) rfl hl.1 rfl (Nat.le_of_ble_eq_true rfl) dX4_findValues_70 ⟨Nat.zero_le _, Nat.zero_le _⟩ ?_
              refine o_fast hx hb hK hP hD hS 3 1 rfl rfl j (by omega) (by decide) rfl dX4_findValues_73 (fun H locs hP hD hS => ?_)
              have hP : va_P G vwCl (wRe cy r (q 0) ru (va_up k2 j true) (va_up v2 j (oVal M v2 o)) ++ wDo cy q M) H := hP
              have hD : va_D A (wRe cy r (q 0) ru (va_up k2 j true) (va_up v2 j (oVal M v2 o)) ++ wDo cy q M) := hD
              refine lv_iconst (v := nI 1) hx hb dX4_findValues_74 (by decide +kernel) ?_
              refine lv_istore_n (lv' := [(1, .int (nI 1)), (4, .int (nI o)), (3, .int (nI j)), (2, .int (nI rd)), (0, .ref (r 0))]) hx hb dX4_findValues_75 rfl hl (by decide) rfl (fun ls hl => ?_)
              refine lv_iinc (v := nI (j + 1)) (lv' := [(3, .int (nI (j + 1))), (1, .int (nI 1)), (4, .int (nI o)), (2, .int (nI rd)), (0, .ref (r 0))]) hx hb dX4_findValues_76 hl (k := 2) rfl (nI_1 j) (by decide) rfl (fun ls hl => ?_)
              refine lv_goto (tgt := 18) hx hb dX4_findValues_79 (by decide) ?_
              refine ih18 (j + 1, true, va_up k2 j true, va_up v2 j (oVal M v2 o)) ls H locs ?_ ?_ ?_
              · exact ⟨by omega, hI5.1, fun _ => by rw [hI5.2]; cases g2; (have := (hi4 rfl).1; omega); (have := hi3 rfl; omega), fun z => (by cases z), hP, hD, hS⟩
              · show lv_has ls 5 [(3, .int (nI (j + 1))), (1, .int (bI (true = true))), (2, .int (nI rd)), (0, .ref (r 0))]
                exact lv_sub hl [0, 1, 3, 4] rfl
              · show 16 - (j + 1) < 16 - j; omega

set_option maxRecDepth 100000 in
theorem iX4_settle_X4 : ∀ w ∈ u_ws RX4 TX4 4, w ∈ wsX4_settle := by decide +kernel
set_option maxHeartbeats 4000000 in
set_option maxRecDepth 100000 in
theorem kX4_settle (l : Launch) (G : va_G) (cy : Nat → ClassId) {H0 : Heap} {q r : Nat → Nat} {M : MT} {ru : Nat → Option Nat} {kn : Nat → Bool} {va : Nat → UInt32} {A0 : Nat → Prop} (hW : WB M) (hF : WF M) (hP : va_P G vwCl (wRe cy r (q 0) ru kn va ++ wDo cy q M) H0) (hD0 : va_D A0 (wRe cy r (q 0) ru kn va ++ wDo cy q M)) : MutV l yX4_settle wsX4_settle 3 69 [.ref (r 0), .int ((-5))] H0 G cy (wRe cy r (q 0) ru kn va ++ wDo cy q M) (wRe cy r (q 0) (rl M) (kF M) (vF M) ++ wDo cy q M) := by
  refine Met.ofW (cc := cX4_settle) (maxL := 3) (ret := none) (by decide) rfl ?_
  intro p e s m args below meth c s₁ B hml hv
  obtain ⟨rfl, hH, hK⟩ := hv
  subst hH
  have hx := B.exec
  have hb := B.bytes
  have hr := B.returns
  have hts := atoms_spec (ws := wsX4_settle) B.pre
  have hown : s.vm.findClass RX4 = some m.cls := findClass_of_methodNamed B.named
  have hlocks := B.notSynchronized
  have hl := lv_entry ([.ref (r 0), .int ((-5))]) (n := 3) (Nat.le_of_ble_eq_true rfl)
  rw [lg_entry_eq]
  generalize (lg_sl ([.ref (r 0), .int ((-5))]) ++ List.replicate (3 - (lg_sl ([.ref (r 0), .int ((-5))])).length) Slot.unset).toArray = ls at hl ⊢
  have hl : lv_has ls 3 [(0, .ref (r 0)), (1, .int ((-5)))] := hl
  obtain ⟨bP, bN, bR, bO, bW, bL, bF⟩ := id hW
  have hD := hD0.self (sz := s.heap.size)
  generalize hAe : va_A (wRe cy r (q 0) ru kn va ++ wDo cy q M) s.heap.size = A at hD ⊢
  have hA : ∀ q : Nat, s.heap.size ≤ q → A q := fun q h => by rw [← hAe]; exact Or.inr h
  have hS : va_S A s.heap s.heap [] := va_S.rf
  refine lv_iconst (v := nI 0) hx hb dX4_settle_0 (by decide +kernel) ?_
  refine lv_istore_n (lv' := [(2, .int (nI 0)), (0, .ref (r 0)), (1, .int ((-5)))]) hx hb dX4_settle_1 rfl hl (by decide) rfl (fun ls hl => ?_)
  refine o_loopM (σ := Nat × (Nat → Option Nat) × (Nat → Bool) × (Nat → UInt32)) (fun (x_ : Nat × (Nat → Option Nat) × (Nat → Bool) × (Nat → UInt32)) (H : Heap) (locs : List Loc) => match x_ with | (i, u1, k1, v1) => i ≤ 16 ∧ (∀ w, w < i → u1 w = none ∧ k1 w = false ∧ v1 w = 0) ∧ va_P G vwCl (wRe cy r (q 0) u1 k1 v1 ++ wDo cy q M) H ∧ va_D A (wRe cy r (q 0) u1 k1 v1 ++ wDo cy q M) ∧ va_S A s.heap H locs) (fun (x_ : Nat × (Nat → Option Nat) × (Nat → Bool) × (Nat → UInt32)) => match x_ with | (i, u1, k1, v1) => [(2, .int (nI i)), (0, .ref (r 0)), (1, .int ((-5)))]) (fun (x_ : Nat × (Nat → Option Nat) × (Nat → Bool) × (Nat → UInt32)) => match x_ with | (i, u1, k1, v1) => 16 - i) (0, ru, kn, va) ⟨Nat.zero_le _, fun w h => absurd h (Nat.not_lt_zero w), hP, hD, hS⟩ (lv_sub hl [0, 1, 2] rfl) ?_
  rintro ⟨i, u1, k1, v1⟩ ls H locs ⟨h1, h2, hP, hD, hS⟩ hl ih2
  have hl : lv_has ls 3 [(2, .int (nI i)), (0, .ref (r 0)), (1, .int ((-5)))] := hl
  refine lv_iload_n hx hb dX4_settle_2 rfl (lv_at hl 0 rfl) ?_
  refine lv_bipush (v := nI 16) hx hb dX4_settle_3 (by decide +kernel) ?_
  refine o_icmp_ge (tgt := 36) hx hb dX4_settle_5 (by decide) (by omega) (by omega) (fun c5 => ?_) (fun c5 => ?_)
  · obtain rfl : i = 16 := by omega
    have hP : va_P G vwCl (wRe cy r (q 0) (fun _ => none) (fun _ => false) (fun _ => 0) ++ wDo cy q M) H := o_reck hP (fun w hw => (h2 w hw).1) (fun w hw => (h2 w hw).2.1) (fun w hw => (h2 w hw).2.2)
    have hD : va_D A (wRe cy r (q 0) (fun _ => none) (fun _ => false) (fun _ => 0) ++ wDo cy q M) := vd_same hD rfl
    refine lv_aload_n hx hb dX4_settle_36 rfl (lv_at hl 1 rfl) ?_
    refine lv_iload_n hx hb dX4_settle_37 rfl (lv_at hl 2 rfl) ?_
    have hPc := hP.sub (ws' := wRe cy r (q 0) (fun _ => none) (fun _ => false) (fun _ => 0) ++ wDo cy q M) [0, 1, 2, 3, 4, 5, 6, 7, 8, 9, 10, 11, 12] rfl
    have hDc := hD.sub (ws' := wRe cy r (q 0) (fun _ => none) (fun _ => false) (fun _ => 0) ++ wDo cy q M) [0, 1, 2, 3, 4, 5, 6, 7, 8, 9, 10, 11, 12] (by decide) rfl
    have hFc := va_free (wc := wRe cy r (q 0) (fun _ => none) (fun _ => false) (fun _ => 0) ++ wDo cy q M) hD hS hA [0, 1, 2, 3, 4, 5, 6, 7, 8, 9, 10, 11, 12] rfl
    refine va_callv (va_runV (As := [.int ((-5))]) (rest := []) ⟨hx, hb, hml, hown, hts⟩ (kX4_findRulers (ru := fun _ => none) l G cy hW hPc hDc) (cwV 1 hts gX4_settle_X4_findRulers rfl rfl rfl (by decide +kernel) ⟨Nat.le_of_ble_eq_true rfl, Nat.le_of_ble_eq_true rfl⟩) ⟨pR_blind, va_recv hK hP (ci := 3) (q0 := 0) rfl rfl, pR_at hK⟩ rfl rfl hl.1 rfl (lv_room (Nat.le_of_ble_eq_true rfl)) dX4_settle_38 ⟨Nat.zero_le _, Nat.zero_le _⟩) hS (fun q _ h => hFc q h) hFc (fun u t H locs ht hvm hw hB hz1 hk1 hS => ?_)
    rw [ht] at hB
    have hP : va_P G vwCl (wRe cy r (q 0) (rl M) (fun _ => false) (fun _ => 0) ++ wDo cy q M) H := (o_join hP hD [0, 1, 2, 3, 4, 5, 6, 7, 8, 9, 10, 11, 12] [] rfl (wr := []) rfl (by decide) (by decide) (by decide) hk1 hFc hB rfl).sub [0, 1, 2, 3, 4, 5, 6, 7, 8, 9, 10, 11, 12] rfl
    have hD : va_D A (wRe cy r (q 0) (rl M) (fun _ => false) (fun _ => 0) ++ wDo cy q M) := vd_same hD rfl
    refine lv_aload_n hx hb dX4_settle_41 rfl (lv_at hl 1 rfl) ?_
    have hPc := hP.sub (ws' := wRe cy r (q 0) (rl M) (fun _ => false) (fun _ => 0) ++ wDo cy q M) [0, 1, 2, 3, 4, 5, 6, 7, 8, 9, 10, 11, 12] rfl
    have hDc := hD.sub (ws' := wRe cy r (q 0) (rl M) (fun _ => false) (fun _ => 0) ++ wDo cy q M) [0, 1, 2, 3, 4, 5, 6, 7, 8, 9, 10, 11, 12] (by decide) rfl
    have hFc := va_free (wc := wRe cy r (q 0) (rl M) (fun _ => false) (fun _ => 0) ++ wDo cy q M) hD hS hA [0, 1, 2, 3, 4, 5, 6, 7, 8, 9, 10, 11, 12] rfl
    refine va_callv (va_runV (As := []) (rest := []) ⟨hx, hb, hml, hown, hts⟩ (kX4_findValues (kn := fun _ => false) (va := fun _ => 0) l G cy hW hF rl_lt hPc hDc) (cwV 0 hts gX4_settle_X4_findValues rfl rfl rfl (by decide +kernel) ⟨Nat.le_of_ble_eq_true rfl, Nat.le_of_ble_eq_true rfl⟩) ⟨pR_blind, va_recv hK hP (ci := 3) (q0 := 0) rfl rfl, pR_at hK⟩ rfl rfl hl.1 rfl (lv_room (Nat.le_of_ble_eq_true rfl)) dX4_settle_42 ⟨Nat.zero_le _, Nat.zero_le _⟩) hS (fun q _ h => hFc q h) hFc (fun u t H locs ht hvm hw hB hz1 hk1 hS => ?_)
    rw [ht] at hB
    have hP : va_P G vwCl (wRe cy r (q 0) (rl M) (kF M) (vF M) ++ wDo cy q M) H := (o_join hP hD [0, 1, 2, 3, 4, 5, 6, 7, 8, 9, 10, 11, 12] [] rfl (wr := []) rfl (by decide) (by decide) (by decide) hk1 hFc hB rfl).sub [0, 1, 2, 3, 4, 5, 6, 7, 8, 9, 10, 11, 12] rfl
    have hD : va_D A (wRe cy r (q 0) (rl M) (kF M) (vF M) ++ wDo cy q M) := vd_same hD rfl
    exact o_endVm hx hb hr hlocks dX4_settle_45 hP hS
  · refine lv_aload_n hx hb dX4_settle_8 rfl (lv_at hl 1 rfl) ?_
    refine va_get (D := G) (ci := 3) (v := .ref (r 1)) (C := RX4) (T := TX4) (N := 4) hx hb hts iX4_settle_X4 hown hK hP 0 rfl rfl 1 (by decide) (hts (.fieldLink RX4 9 "NailedOrders$Reckoning" "rulers" "[I") (by decide +kernel)) (fun _ h9 => h9) rfl dX4_settle_9 ?_
    refine lv_iload_n hx hb dX4_settle_12 rfl (lv_at hl 0 rfl) ?_
    refine lv_bipush (v := (-5)) hx hb dX4_settle_13 (by decide +kernel) ?_
    refine o_iast hx hb hK hP hD hS 1 0 rfl rfl i (by omega) (by decide) (upd_lk u1 i none) dX4_settle_15 (fun H locs hP hD hS => ?_)
    have hP : va_P G vwCl (wRe cy r (q 0) (va_up u1 i none) k1 v1 ++ wDo cy q M) H := hP
    have hD : va_D A (wRe cy r (q 0) (va_up u1 i none) k1 v1 ++ wDo cy q M) := hD
    refine lv_aload_n hx hb dX4_settle_16 rfl (lv_at hl 1 rfl) ?_
    refine va_get (D := G) (ci := 3) (v := .ref (r 2)) (C := RX4) (T := TX4) (N := 4) hx hb hts iX4_settle_X4 hown hK hP 0 rfl rfl 2 (by decide) (hts (.fieldLink RX4 15 "NailedOrders$Reckoning" "known" "[Z") (by decide +kernel)) (fun _ h9 => h9) rfl dX4_settle_17 ?_
    refine lv_iload_n hx hb dX4_settle_20 rfl (lv_at hl 0 rfl) ?_
    refine lv_iconst (v := nI 0) hx hb dX4_settle_21 (by decide +kernel) ?_
    refine o_zast hx hb hK hP hD hS 2 2 rfl rfl i (by omega) (by decide) (upd_bI k1 i false) dX4_settle_22 (fun H locs hP hD hS => ?_)
    have hP : va_P G vwCl (wRe cy r (q 0) (va_up u1 i none) (va_up k1 i false) v1 ++ wDo cy q M) H := hP
    have hD : va_D A (wRe cy r (q 0) (va_up u1 i none) (va_up k1 i false) v1 ++ wDo cy q M) := hD
    refine lv_aload_n hx hb dX4_settle_23 rfl (lv_at hl 1 rfl) ?_
    refine va_get (D := G) (ci := 3) (v := .ref (r 3)) (C := RX4) (T := TX4) (N := 4) hx hb hts iX4_settle_X4 hown hK hP 0 rfl rfl 3 (by decide) (hts (.fieldLink RX4 19 "NailedOrders$Reckoning" "values" "[F") (by decide +kernel)) (fun _ h9 => h9) rfl dX4_settle_24 ?_
    refine lv_iload_n hx hb dX4_settle_27 rfl (lv_at hl 0 rfl) ?_
    refine lv_fconst0 hx hb dX4_settle_28 ?_
    refine o_fast hx hb hK hP hD hS 3 1 rfl rfl i (by omega) (by decide) rfl dX4_settle_29 (fun H locs hP hD hS => ?_)
    have hP : va_P G vwCl (wRe cy r (q 0) (va_up u1 i none) (va_up k1 i false) (va_up v1 i FP.fconst0) ++ wDo cy q M) H := hP
    have hD : va_D A (wRe cy r (q 0) (va_up u1 i none) (va_up k1 i false) (va_up v1 i FP.fconst0) ++ wDo cy q M) := hD
    refine lv_iinc (v := nI (i + 1)) (lv' := [(2, .int (nI (i + 1))), (0, .ref (r 0)), (1, .int ((-5)))]) hx hb dX4_settle_30 hl (k := 0) rfl (nI_1 i) (by decide) rfl (fun ls hl => ?_)
    refine lv_goto (tgt := 2) hx hb dX4_settle_33 (by decide) ?_
    refine ih2 (i + 1, va_up u1 i none, va_up k1 i false, va_up v1 i FP.fconst0) ls H locs ?_ ?_ ?_
    · exact ⟨by omega, lt_s (fun w hw => by unfold va_up; rw [if_neg (by omega), if_neg (by omega), if_neg (by omega)]; exact h2 w hw) (by unfold va_up; rw [if_pos rfl, if_pos rfl, if_pos rfl]; exact ⟨rfl, rfl, rfl⟩), hP, hD, hS⟩
    · show lv_has ls 3 [(2, .int (nI (i + 1))), (0, .ref (r 0)), (1, .int ((-5)))]
      exact lv_sub hl [0, 1, 2] rfl
    · show 16 - (i + 1) < 16 - i; omega
end
section
/-! floats by their bits, as the class makes them -/
def exN (b : Int32) : Nat := b.toBitVec.toNat / 2 ^ 23 % 2 ^ 8
abbrev tN (b : Int32) : Nat := b.toBitVec.toNat % 2 ^ 23
def hvN (x : UInt32) : Nat → UInt32
  | 0 => x
  | n + 1 => FP.fmul (hvN x n) 1056964608
theorem half_fin : Fin32 1056964608 := ⟨false, 8388608, -24, by decide +kernel⟩
theorem half_nz : ¬ FP.Core.FZero 1056964608 := fun h => by
  have := (FP.Core.zero_bits232 _).mp h
  exact absurd this (by decide +kernel)
theorem hvN_n {x : UInt32} (h : FP.Core.fIsNaN x = false) : ∀ n, FP.Core.fIsNaN (hvN x n) = false
  | 0 => h
  | n + 1 => FP.Core.fmul_out' (hvN_n h n) half_fin half_nz
def exE (b : Int32) : Nat := if exN b = 0 then 1 else exN b
def dgE (b : Int32) : Nat := if exN b = 0 then tN b else tN b + 8388608
def tfl (b : Int32) : UInt32 := if 0 ≤ b then hvN (FP.i2f (nI (dgE b))) (150 - exE b) else FP.fneg (hvN (FP.i2f (nI (dgE b))) (150 - exE b))
theorem exN_lt (b : Int32) : exN b < 256 := Nat.mod_lt _ (by decide)
theorem tN_lt (b : Int32) : tN b < 2 ^ 23 := Nat.mod_lt _ (by decide)
def frB (b : Int32) (lo hi : UInt32) : Bool := decide (exN b ≤ 150 ∧ ¬ Op.cmpValue (FP.fcmp (tfl b) lo) .l < 0 ∧ ¬ 0 < Op.cmpValue (FP.fcmp (tfl b) hi) .g)
theorem frB_iff {b : Int32} {lo hi : UInt32} : frB b lo hi = true ↔ exN b ≤ 150 ∧ ¬ Op.cmpValue (FP.fcmp (tfl b) lo) .l < 0 ∧ ¬ 0 < Op.cmpValue (FP.fcmp (tfl b) hi) .g := by unfold frB; exact decide_eq_true_iff
theorem tfl_0 {b : Int32} (h : 0 ≤ b) : hvN (FP.i2f (nI (dgE b))) (150 - exE b) = tfl b := (if_pos h).symm
theorem tfl_1 {b : Int32} (h : ¬ 0 ≤ b) : FP.fneg (hvN (FP.i2f (nI (dgE b))) (150 - exE b)) = tfl b := (if_neg h).symm
theorem exE_0 {b : Int32} (h : exN b = 0) : exE b = 1 := if_pos h
theorem exE_s {b : Int32} (h : 0 < exN b) : exE b = exN b := if_neg (by omega)
theorem dgE_0 {b : Int32} (h : exN b = 0) : dgE b = tN b := if_pos h
theorem dgE_s {b : Int32} (h : 0 < exN b) : dgE b = tN b + 8388608 := if_neg (by omega)
section OK8
variable {p : Program} {l : Launch} {e : Env} {R : Room} {s : State} {m : MethodId} {args : Array Value} {below : List Frame} {meth : Method} {c : Code} {H : Heap} {locs : List Loc} {cells slots : Nat} {Q : State → Prop}
variable {pc : Nat} {ls : Array Slot} {rest : List Value} {cc : ByteArray}
theorem o_ldcwf0 {T : State} (X : Stand p l e R s m args below meth c T locs cells slots) (hexec : p.tables.exec = Jvm.exec) {own : String} {index : Nat} {v : UInt32} (hown : s.vm.findClass own = some m.cls)
    (hconst : (Cond.constantFloat own index v).before args s = true) {g : JFrame} (hg : g.method = m) (hdg : decode c.code g.pc = .ok (.ldc_w index, 3)) :
    ∀ target, Steps p.tables e below (T.setTop { g with pc := g.pc + 3, stack := .float v :: g.stack }) target → Steps p.tables e below (T.setTop g) target := by
  obtain ⟨k, cf, hk, hcf, hcp⟩ := Cond.constantFloat_spec hown hconst
  obtain ⟨k', hk', he⟩ := X.warmed.alike.2.2 _ _ hk
  intro target hrest
  subst hg
  jvm_step X.here [hexec, hdg, ldc_w.wp_float (s := T) (f := g) X.here.top hk' (by rw [he]; exact hcf) hcp]
  exact hrest
theorem o_ldcwf (hexec : p.tables.exec = Jvm.exec) (hb : c.code = cc) {own : String} {index : Nat} {v : UInt32} (hown : s.vm.findClass own = some m.cls) (hconst : (Jvm.Cond.constantFloat own index v).before args s = true) (hdg : decode cc pc = .ok (.ldc_w index, 3)) (k : W p l e R s m args below meth c H locs cells slots Q (F0 m (pc + 3) ls (.float v :: rest))) : W p l e R s m args below meth c H locs cells slots Q (F0 m pc ls rest) := by
  intro T hT X
  obtain ⟨t, a, b⟩ := k T hT X
  exact ⟨t, o_ldcwf0 X hexec hown hconst (g := F0 m pc ls rest) rfl (by rw [hb]; exact hdg) t a, b⟩
end OK8
end
section
set_option maxHeartbeats 4000000 in
set_option maxRecDepth 100000 in
theorem kX0_exponent (l : Launch) (G : va_G) (cy : Nat → ClassId) {H0 : Heap} (b : Int32) : MetI l yX0_exponent wsX0_exponent 0 0 [.int b] H0 G cy (nI (exN b)) := by
  refine Met.ofW (cc := cX0_exponent) (maxL := 1) (ret := (some .int)) (by decide) rfl ?_
  intro p e s m args below meth c s₁ B hml hv
  obtain ⟨rfl, hH, hK⟩ := hv
  subst hH
  have hx := B.exec
  have hb := B.bytes
  have hr := B.returns
  have hts := atoms_spec (ws := wsX0_exponent) B.pre
  have hown : s.vm.findClass RX0 = some m.cls := findClass_of_methodNamed B.named
  have hlocks := B.notSynchronized
  have hl := lv_entry ([.int b]) (n := 1) (Nat.le_of_ble_eq_true rfl)
  rw [lg_entry_eq]
  generalize (lg_sl ([.int b]) ++ List.replicate (1 - (lg_sl ([.int b])).length) Slot.unset).toArray = ls at hl ⊢
  have hl : lv_has ls 1 [(0, .int b)] := hl
  refine lv_iload_n hx hb dX0_exponent_0 rfl (lv_at hl 0 rfl) ?_
  refine lv_bipush (v := nI 23) hx hb dX0_exponent_1 (by decide +kernel) ?_
  refine lv_iushr hx hb dX0_exponent_3 rfl ?_
  refine lv_sipush (v := nI 255) hx hb dX0_exponent_4 (by decide +kernel) ?_
  refine lv_iand hx hb dX0_exponent_7 ?_
  refine lv_topi (fun f1 ef1 => ?_)
  exact o_endI hx hb hr hlocks dX0_exponent_8 ((by rw [ef1, pk_and _ (m := nI 255) 8 (by decide +kernel), pk_ushr b (nI 23) 23 (by decide +kernel)]; rfl))

set_option maxHeartbeats 4000000 in
set_option maxRecDepth 100000 in
theorem kX0_toFloat (l : Launch) (G : va_G) (cy : Nat → ClassId) {H0 : Heap} (b : Int32) : MetF l yX0_toFloat wsX0_toFloat 1 20 [.int b] H0 G cy (tfl b) := by
  refine Met.ofW (cc := cX0_toFloat) (maxL := 5) (ret := (some .float)) (by decide) rfl ?_
  intro p e s m args below meth c s₁ B hml hv
  obtain ⟨rfl, hH, hK⟩ := hv
  subst hH
  have hx := B.exec
  have hb := B.bytes
  have hr := B.returns
  have hts := atoms_spec (ws := wsX0_toFloat) B.pre
  have hown : s.vm.findClass RX0 = some m.cls := findClass_of_methodNamed B.named
  have hlocks := B.notSynchronized
  have hl := lv_entry ([.int b]) (n := 5) (Nat.le_of_ble_eq_true rfl)
  rw [lg_entry_eq]
  generalize (lg_sl ([.int b]) ++ List.replicate (5 - (lg_sl ([.int b])).length) Slot.unset).toArray = ls at hl ⊢
  have hl : lv_has ls 5 [(0, .int b)] := hl
  have b1 := exN_lt b
  have b2 := tN_lt b
  refine lv_iload_n hx hb dX0_toFloat_0 rfl (lv_at hl 0 rfl) ?_
  refine o_SI (As := [.int b]) (rest := []) ⟨hx, hb, hml, hown, hts⟩ (kX0_exponent l G cy b) (va_cwS 1 hts gX0_toFloat_X0_exponent rfl rfl rfl (by decide +kernel) ⟨Nat.le_of_ble_eq_true rfl, Nat.le_of_ble_eq_true rfl⟩) hK rfl hl.1 rfl (Nat.le_of_ble_eq_true rfl) dX0_toFloat_1 ⟨Nat.zero_le _, Nat.zero_le _⟩ ?_
  refine lv_istore_n (lv' := [(1, .int (nI (exN b))), (0, .int b)]) hx hb dX0_toFloat_4 rfl hl (by decide) rfl (fun ls hl => ?_)
  refine lv_iload_n hx hb dX0_toFloat_5 rfl (lv_at hl 1 rfl) ?_
  refine lv_ldc (v := (8388607)) hx hb hown (hts (.constant RX0 26 (8388607)) (by decide +kernel)) dX0_toFloat_6 ?_
  rw [show ((8388607) : Int32) = nI 8388607 by decide +kernel]
  refine lv_iand hx hb dX0_toFloat_8 ?_
  rw [pk_and b (m := nI 8388607) 23 (by decide +kernel)]
  refine lv_istore_n (lv' := [(2, .int (nI (tN b))), (1, .int (nI (exN b))), (0, .int b)]) hx hb dX0_toFloat_9 rfl hl (by decide) rfl (fun ls hl => ?_)
  refine lv_iload_n hx hb dX0_toFloat_10 rfl (lv_at hl 1 rfl) ?_
  refine o_if_le (tgt := 22) hx hb dX0_toFloat_11 (by decide) (by omega) (fun c11 => ?_) (fun c11 => ?_)
  · refine lv_iconst (v := nI 1) hx hb dX0_toFloat_22 (by decide +kernel) ?_
    refine lv_istore_n (lv' := [(1, .int (nI 1)), (2, .int (nI (tN b))), (0, .int b)]) hx hb dX0_toFloat_23 rfl hl (by decide) rfl (fun ls hl => ?_)
    refine lv_iload_n hx hb dX0_toFloat_24 rfl (lv_at hl 1 rfl) ?_
    refine lv_i2f hx hb dX0_toFloat_25 ?_
    refine lv_fstore_n (lv' := [(3, .float (FP.i2f (nI (tN b)))), (1, .int (nI 1)), (2, .int (nI (tN b))), (0, .int b)]) hx hb dX0_toFloat_26 rfl hl (by decide) rfl (fun ls hl => ?_)
    refine lv_iload_n hx hb dX0_toFloat_27 rfl (lv_at hl 1 rfl) ?_
    refine lv_istore (lv' := [(4, .int (nI 1)), (3, .float (FP.i2f (nI (tN b)))), (1, .int (nI 1)), (2, .int (nI (tN b))), (0, .int b)]) hx hb dX0_toFloat_28 hl (by decide) rfl (fun ls hl => ?_)
    refine o_loop (σ := Nat) (fun (k : Nat) => k ≤ 150 - 1) (fun (k : Nat) => [(4, .int (nI (1 + k))), (3, .float (hvN (FP.i2f (nI (tN b))) k)), (0, .int b)]) (fun (k : Nat) => 150 - 1 - k) 0 (Nat.zero_le _) (lv_sub hl [0, 1, 4] rfl) ?_
    rintro k ls h1 hl ih30
    have hl : lv_has ls 5 [(4, .int (nI (1 + k))), (3, .float (hvN (FP.i2f (nI (tN b))) k)), (0, .int b)] := hl
    refine lv_iload hx hb dX0_toFloat_30 (lv_at hl 0 rfl) ?_
    refine lv_sipush (v := nI 150) hx hb dX0_toFloat_32 (by decide +kernel) ?_
    refine o_icmp_ge (tgt := 49) hx hb dX0_toFloat_35 (by decide) (by omega) (by omega) (fun c35 => ?_) (fun c35 => ?_)
    · refine lv_iload_n hx hb dX0_toFloat_49 rfl (lv_at hl 2 rfl) ?_
      refine lv_if_ge (tgt := 58) hx hb dX0_toFloat_50 (by decide) (fun c50 => ?_) (fun c50 => ?_)
      · refine lv_fload_n hx hb dX0_toFloat_58 rfl (lv_at hl 1 rfl) ?_
        exact o_endF hx hb hr hlocks dX0_toFloat_59 ((by obtain rfl : k = 150 - 1 := (by omega); rw [← tfl_0 c50, exE_0 c11, dgE_0 c11]))
      · refine lv_fload_n hx hb dX0_toFloat_53 rfl (lv_at hl 1 rfl) ?_
        refine lv_fneg hx hb dX0_toFloat_54 ?_
        refine lv_goto (tgt := 59) hx hb dX0_toFloat_55 (by decide) ?_
        exact o_endF hx hb hr hlocks dX0_toFloat_59 ((by obtain rfl : k = 150 - 1 := (by omega); rw [← tfl_1 c50, exE_0 c11, dgE_0 c11]))
    · refine lv_fload_n hx hb dX0_toFloat_38 rfl (lv_at hl 1 rfl) ?_
      refine lv_ldcf hx hb hown (hts (.constantFloat RX0 28 (1056964608)) (by decide +kernel)) dX0_toFloat_39 ?_
      refine lv_fmul hx hb dX0_toFloat_41 (n32_of (hvN_n (FP.Core.FFin.notNaN (FP.Core.i2f_fin _)) (k + 1))) ?_
      refine lv_fstore_n (lv' := [(3, .float (FP.fmul (hvN (FP.i2f (nI (tN b))) k) 1056964608)), (4, .int (nI (1 + k))), (0, .int b)]) hx hb dX0_toFloat_42 rfl hl (by decide) rfl (fun ls hl => ?_)
      refine lv_iinc (v := nI (1 + k + 1)) (lv' := [(4, .int (nI (1 + k + 1))), (3, .float (FP.fmul (hvN (FP.i2f (nI (tN b))) k) 1056964608)), (0, .int b)]) hx hb dX0_toFloat_43 hl (k := 1) rfl (nI_1 (1 + k)) (by decide) rfl (fun ls hl => ?_)
      refine lv_goto (tgt := 30) hx hb dX0_toFloat_46 (by decide) ?_
      refine ih30 (k + 1) ls ?_ ?_ ?_
      · omega
      · show lv_has ls 5 [(4, .int (nI (1 + (k + 1)))), (3, .float (hvN (FP.i2f (nI (tN b))) (k + 1))), (0, .int b)]
        exact lv_sub hl [0, 1, 2] rfl
      · omega
  · refine lv_iload_n hx hb dX0_toFloat_14 rfl (lv_at hl 0 rfl) ?_
    refine lv_ldc (v := (8388608)) hx hb hown (hts (.constant RX0 27 (8388608)) (by decide +kernel)) dX0_toFloat_15 ?_
    rw [show ((8388608) : Int32) = nI 8388608 by decide +kernel]
    refine lv_iadd hx hb dX0_toFloat_17 ?_
    rw [nI_add]
    refine lv_istore_n (lv' := [(2, .int (nI ((tN b) + 8388608))), (1, .int (nI (exN b))), (0, .int b)]) hx hb dX0_toFloat_18 rfl hl (by decide) rfl (fun ls hl => ?_)
    refine lv_goto (tgt := 24) hx hb dX0_toFloat_19 (by decide) ?_
    refine lv_iload_n hx hb dX0_toFloat_24 rfl (lv_at hl 0 rfl) ?_
    refine lv_i2f hx hb dX0_toFloat_25 ?_
    refine lv_fstore_n (lv' := [(3, .float (FP.i2f (nI ((tN b) + 8388608)))), (2, .int (nI ((tN b) + 8388608))), (1, .int (nI (exN b))), (0, .int b)]) hx hb dX0_toFloat_26 rfl hl (by decide) rfl (fun ls hl => ?_)
    refine lv_iload_n hx hb dX0_toFloat_27 rfl (lv_at hl 2 rfl) ?_
    refine lv_istore (lv' := [(4, .int (nI (exN b))), (3, .float (FP.i2f (nI ((tN b) + 8388608)))), (2, .int (nI ((tN b) + 8388608))), (1, .int (nI (exN b))), (0, .int b)]) hx hb dX0_toFloat_28 hl (by decide) rfl (fun ls hl => ?_)
    refine o_loop (σ := Nat) (fun (k : Nat) => k ≤ 150 - (exN b)) (fun (k : Nat) => [(4, .int (nI ((exN b) + k))), (3, .float (hvN (FP.i2f (nI ((tN b) + 8388608))) k)), (0, .int b)]) (fun (k : Nat) => 150 - (exN b) - k) 0 (Nat.zero_le _) (lv_sub hl [0, 1, 4] rfl) ?_
    rintro k ls h1 hl ih30
    have hl : lv_has ls 5 [(4, .int (nI ((exN b) + k))), (3, .float (hvN (FP.i2f (nI ((tN b) + 8388608))) k)), (0, .int b)] := hl
    refine lv_iload hx hb dX0_toFloat_30 (lv_at hl 0 rfl) ?_
    refine lv_sipush (v := nI 150) hx hb dX0_toFloat_32 (by decide +kernel) ?_
    refine o_icmp_ge (tgt := 49) hx hb dX0_toFloat_35 (by decide) (by omega) (by omega) (fun c35 => ?_) (fun c35 => ?_)
    · refine lv_iload_n hx hb dX0_toFloat_49 rfl (lv_at hl 2 rfl) ?_
      refine lv_if_ge (tgt := 58) hx hb dX0_toFloat_50 (by decide) (fun c50 => ?_) (fun c50 => ?_)
      · refine lv_fload_n hx hb dX0_toFloat_58 rfl (lv_at hl 1 rfl) ?_
        exact o_endF hx hb hr hlocks dX0_toFloat_59 ((by obtain rfl : k = 150 - (exN b) := (by omega); rw [← tfl_0 c50, exE_s c11, dgE_s c11]))
      · refine lv_fload_n hx hb dX0_toFloat_53 rfl (lv_at hl 1 rfl) ?_
        refine lv_fneg hx hb dX0_toFloat_54 ?_
        refine lv_goto (tgt := 59) hx hb dX0_toFloat_55 (by decide) ?_
        exact o_endF hx hb hr hlocks dX0_toFloat_59 ((by obtain rfl : k = 150 - (exN b) := (by omega); rw [← tfl_1 c50, exE_s c11, dgE_s c11]))
    · refine lv_fload_n hx hb dX0_toFloat_38 rfl (lv_at hl 1 rfl) ?_
      refine lv_ldcf hx hb hown (hts (.constantFloat RX0 28 (1056964608)) (by decide +kernel)) dX0_toFloat_39 ?_
      refine lv_fmul hx hb dX0_toFloat_41 (n32_of (hvN_n (FP.Core.FFin.notNaN (FP.Core.i2f_fin _)) (k + 1))) ?_
      refine lv_fstore_n (lv' := [(3, .float (FP.fmul (hvN (FP.i2f (nI ((tN b) + 8388608))) k) 1056964608)), (4, .int (nI ((exN b) + k))), (0, .int b)]) hx hb dX0_toFloat_42 rfl hl (by decide) rfl (fun ls hl => ?_)
      refine lv_iinc (v := nI ((exN b) + k + 1)) (lv' := [(4, .int (nI ((exN b) + k + 1))), (3, .float (FP.fmul (hvN (FP.i2f (nI ((tN b) + 8388608))) k) 1056964608)), (0, .int b)]) hx hb dX0_toFloat_43 hl (k := 1) rfl (nI_1 ((exN b) + k)) (by decide) rfl (fun ls hl => ?_)
      refine lv_goto (tgt := 30) hx hb dX0_toFloat_46 (by decide) ?_
      refine ih30 (k + 1) ls ?_ ?_ ?_
      · omega
      · show lv_has ls 5 [(4, .int (nI ((exN b) + (k + 1)))), (3, .float (hvN (FP.i2f (nI ((tN b) + 8388608))) (k + 1))), (0, .int b)]
        exact lv_sub hl [0, 1, 2] rfl
      · omega

set_option maxHeartbeats 4000000 in
set_option maxRecDepth 100000 in
theorem kX0_areFrom (l : Launch) (G : va_G) (cy : Nat → ClassId) {H0 : Heap} (b : Int32) (lo hi : UInt32) : MetI l yX0_areFrom wsX0_areFrom 2 44 [.int b, .float lo, .float hi] H0 G cy (bI (frB b lo hi = true)) := by
  refine Met.ofW (cc := cX0_areFrom) (maxL := 4) (ret := (some .boolean)) (by decide) rfl ?_
  intro p e s m args below meth c s₁ B hml hv
  obtain ⟨rfl, hH, hK⟩ := hv
  subst hH
  have hx := B.exec
  have hb := B.bytes
  have hr := B.returns
  have hts := atoms_spec (ws := wsX0_areFrom) B.pre
  have hown : s.vm.findClass RX0 = some m.cls := findClass_of_methodNamed B.named
  have hlocks := B.notSynchronized
  have hl := lv_entry ([.int b, .float lo, .float hi]) (n := 4) (Nat.le_of_ble_eq_true rfl)
  rw [lg_entry_eq]
  generalize (lg_sl ([.int b, .float lo, .float hi]) ++ List.replicate (4 - (lg_sl ([.int b, .float lo, .float hi])).length) Slot.unset).toArray = ls at hl ⊢
  have hl : lv_has ls 4 [(0, .int b), (1, .float lo), (2, .float hi)] := hl
  have b1 := exN_lt b
  refine lv_iload_n hx hb dX0_areFrom_0 rfl (lv_at hl 0 rfl) ?_
  refine o_SI (As := [.int b]) (rest := []) ⟨hx, hb, hml, hown, hts⟩ (kX0_exponent l G cy b) (va_cwS 1 hts gX0_areFrom_X0_exponent rfl rfl rfl (by decide +kernel) ⟨Nat.le_of_ble_eq_true rfl, Nat.le_of_ble_eq_true rfl⟩) hK rfl hl.1 rfl (Nat.le_of_ble_eq_true rfl) dX0_areFrom_1 ⟨Nat.zero_le _, Nat.zero_le _⟩ ?_
  refine lv_sipush (v := nI 150) hx hb dX0_areFrom_4 (by decide +kernel) ?_
  refine o_icmp_le (tgt := 12) hx hb dX0_areFrom_7 (by decide) (by omega) (by omega) (fun c7 => ?_) (fun c7 => ?_)
  · refine lv_iload_n hx hb dX0_areFrom_12 rfl (lv_at hl 0 rfl) ?_
    refine o_SF (As := [.int b]) (rest := []) ⟨hx, hb, hml, hown, hts⟩ (kX0_toFloat l G cy b) (va_cwS 1 hts gX0_areFrom_X0_toFloat rfl rfl rfl (by decide +kernel) ⟨Nat.le_of_ble_eq_true rfl, Nat.le_of_ble_eq_true rfl⟩) hK rfl hl.1 rfl (Nat.le_of_ble_eq_true rfl) dX0_areFrom_13 ⟨Nat.zero_le _, Nat.zero_le _⟩ ?_
    refine lv_fstore_n (lv' := [(3, .float (tfl b)), (0, .int b), (1, .float lo), (2, .float hi)]) hx hb dX0_areFrom_16 rfl hl (by decide) rfl (fun ls hl => ?_)
    refine lv_fload_n hx hb dX0_areFrom_17 rfl (lv_at hl 0 rfl) ?_
    refine lv_fload_n hx hb dX0_areFrom_18 rfl (lv_at hl 2 rfl) ?_
    refine lv_fcmp hx hb dX0_areFrom_19 ?_
    refine lv_if_lt (tgt := 33) hx hb dX0_areFrom_20 (by decide) (fun c20 => ?_) (fun c20 => ?_)
    · refine lv_iconst (v := nI 0) hx hb dX0_areFrom_33 (by decide +kernel) ?_
      exact o_endZ hx hb hr hlocks dX0_areFrom_34 (by decide) ((by rw [bI_f (fun z => (frB_iff.mp z).2.1 c20)]; decide))
    · refine lv_fload_n hx hb dX0_areFrom_23 rfl (lv_at hl 0 rfl) ?_
      refine lv_fload_n hx hb dX0_areFrom_24 rfl (lv_at hl 3 rfl) ?_
      refine lv_fcmp hx hb dX0_areFrom_25 ?_
      refine lv_if_gt (tgt := 33) hx hb dX0_areFrom_26 (by decide) (fun c26 => ?_) (fun c26 => ?_)
      · refine lv_iconst (v := nI 0) hx hb dX0_areFrom_33 (by decide +kernel) ?_
        exact o_endZ hx hb hr hlocks dX0_areFrom_34 (by decide) ((by rw [bI_f (fun z => (frB_iff.mp z).2.2 c26)]; decide))
      · refine lv_iconst (v := nI 1) hx hb dX0_areFrom_29 (by decide +kernel) ?_
        refine lv_goto (tgt := 34) hx hb dX0_areFrom_30 (by decide) ?_
        exact o_endZ hx hb hr hlocks dX0_areFrom_34 (by decide) ((by rw [bI_t (frB_iff.mpr ⟨c7, c20, c26⟩)]; decide))
  · refine lv_iconst (v := nI 0) hx hb dX0_areFrom_10 (by decide +kernel) ?_
    exact o_endZ hx hb hr hlocks dX0_areFrom_11 (by decide) ((by rw [bI_f (fun z => absurd (frB_iff.mp z).1 (by omega))]; decide))

set_option maxHeartbeats 4000000 in
set_option maxRecDepth 100000 in
theorem kX0_areNumber (l : Launch) (G : va_G) (cy : Nat → ClassId) {H0 : Heap} (b : Int32) : MetI l yX0_areNumber wsX0_areNumber 3 67 [.int b] H0 G cy (bI (frB b 3296329728 1148846080 = true)) := by
  refine Met.ofW (cc := cX0_areNumber) (maxL := 1) (ret := (some .boolean)) (by decide) rfl ?_
  intro p e s m args below meth c s₁ B hml hv
  obtain ⟨rfl, hH, hK⟩ := hv
  subst hH
  have hx := B.exec
  have hb := B.bytes
  have hr := B.returns
  have hts := atoms_spec (ws := wsX0_areNumber) B.pre
  have hown : s.vm.findClass RX0 = some m.cls := findClass_of_methodNamed B.named
  have hlocks := B.notSynchronized
  have hl := lv_entry ([.int b]) (n := 1) (Nat.le_of_ble_eq_true rfl)
  rw [lg_entry_eq]
  generalize (lg_sl ([.int b]) ++ List.replicate (1 - (lg_sl ([.int b])).length) Slot.unset).toArray = ls at hl ⊢
  have hl : lv_has ls 1 [(0, .int b)] := hl
  refine lv_iload_n hx hb dX0_areNumber_0 rfl (lv_at hl 0 rfl) ?_
  refine lv_ldcf hx hb hown (hts (.constantFloat RX0 7 (3296329728)) (by decide +kernel)) dX0_areNumber_1 ?_
  refine lv_ldcf hx hb hown (hts (.constantFloat RX0 8 (1148846080)) (by decide +kernel)) dX0_areNumber_3 ?_
  refine o_SI (As := [.int b, .float 3296329728, .float 1148846080]) (rest := []) ⟨hx, hb, hml, hown, hts⟩ (kX0_areFrom l G cy b 3296329728 1148846080) (va_cwS 3 hts gX0_areNumber_X0_areFrom rfl rfl rfl (by decide +kernel) ⟨Nat.le_of_ble_eq_true rfl, Nat.le_of_ble_eq_true rfl⟩) hK rfl hl.1 rfl (Nat.le_of_ble_eq_true rfl) dX0_areNumber_5 ⟨Nat.zero_le _, Nat.zero_le _⟩ ?_
  exact o_endZ hx hb hr hlocks dX0_areNumber_8 bI_narrow rfl

set_option maxHeartbeats 4000000 in
set_option maxRecDepth 100000 in
theorem kX0_areStrength (l : Launch) (G : va_G) (cy : Nat → ClassId) {H0 : Heap} (b : Int32) : MetI l yX0_areStrength wsX0_areStrength 3 67 [.int b] H0 G cy (bI (frB b 1036831949 1092616192 = true)) := by
  refine Met.ofW (cc := cX0_areStrength) (maxL := 1) (ret := (some .boolean)) (by decide) rfl ?_
  intro p e s m args below meth c s₁ B hml hv
  obtain ⟨rfl, hH, hK⟩ := hv
  subst hH
  have hx := B.exec
  have hb := B.bytes
  have hr := B.returns
  have hts := atoms_spec (ws := wsX0_areStrength) B.pre
  have hown : s.vm.findClass RX0 = some m.cls := findClass_of_methodNamed B.named
  have hlocks := B.notSynchronized
  have hl := lv_entry ([.int b]) (n := 1) (Nat.le_of_ble_eq_true rfl)
  rw [lg_entry_eq]
  generalize (lg_sl ([.int b]) ++ List.replicate (1 - (lg_sl ([.int b])).length) Slot.unset).toArray = ls at hl ⊢
  have hl : lv_has ls 1 [(0, .int b)] := hl
  refine lv_iload_n hx hb dX0_areStrength_0 rfl (lv_at hl 0 rfl) ?_
  refine lv_ldcf hx hb hown (hts (.constantFloat RX0 15 (1036831949)) (by decide +kernel)) dX0_areStrength_1 ?_
  refine lv_ldcf hx hb hown (hts (.constantFloat RX0 16 (1092616192)) (by decide +kernel)) dX0_areStrength_3 ?_
  refine o_SI (As := [.int b, .float 1036831949, .float 1092616192]) (rest := []) ⟨hx, hb, hml, hown, hts⟩ (kX0_areFrom l G cy b 1036831949 1092616192) (va_cwS 3 hts gX0_areStrength_X0_areFrom rfl rfl rfl (by decide +kernel) ⟨Nat.le_of_ble_eq_true rfl, Nat.le_of_ble_eq_true rfl⟩) hK rfl hl.1 rfl (Nat.le_of_ble_eq_true rfl) dX0_areStrength_5 ⟨Nat.zero_le _, Nat.zero_le _⟩ ?_
  exact o_endZ hx hb hr hlocks dX0_areStrength_8 bI_narrow rfl

set_option maxHeartbeats 4000000 in
set_option maxRecDepth 100000 in
theorem kX0_areForce (l : Launch) (G : va_G) (cy : Nat → ClassId) {H0 : Heap} (b : Int32) : MetI l yX0_areForce wsX0_areForce 3 67 [.int b] H0 G cy (bI (frB b 1036831949 1092616192 = true)) := by
  refine Met.ofW (cc := cX0_areForce) (maxL := 1) (ret := (some .boolean)) (by decide) rfl ?_
  intro p e s m args below meth c s₁ B hml hv
  obtain ⟨rfl, hH, hK⟩ := hv
  subst hH
  have hx := B.exec
  have hb := B.bytes
  have hr := B.returns
  have hts := atoms_spec (ws := wsX0_areForce) B.pre
  have hown : s.vm.findClass RX0 = some m.cls := findClass_of_methodNamed B.named
  have hlocks := B.notSynchronized
  have hl := lv_entry ([.int b]) (n := 1) (Nat.le_of_ble_eq_true rfl)
  rw [lg_entry_eq]
  generalize (lg_sl ([.int b]) ++ List.replicate (1 - (lg_sl ([.int b])).length) Slot.unset).toArray = ls at hl ⊢
  have hl : lv_has ls 1 [(0, .int b)] := hl
  refine lv_iload_n hx hb dX0_areForce_0 rfl (lv_at hl 0 rfl) ?_
  refine lv_ldcf hx hb hown (hts (.constantFloat RX0 15 (1036831949)) (by decide +kernel)) dX0_areForce_1 ?_
  refine lv_ldcf hx hb hown (hts (.constantFloat RX0 16 (1092616192)) (by decide +kernel)) dX0_areForce_3 ?_
  refine o_SI (As := [.int b, .float 1036831949, .float 1092616192]) (rest := []) ⟨hx, hb, hml, hown, hts⟩ (kX0_areFrom l G cy b 1036831949 1092616192) (va_cwS 3 hts gX0_areForce_X0_areFrom rfl rfl rfl (by decide +kernel) ⟨Nat.le_of_ble_eq_true rfl, Nat.le_of_ble_eq_true rfl⟩) hK rfl hl.1 rfl (Nat.le_of_ble_eq_true rfl) dX0_areForce_5 ⟨Nat.zero_le _, Nat.zero_le _⟩ ?_
  exact o_endZ hx hb hr hlocks dX0_areForce_8 bI_narrow rfl

set_option maxHeartbeats 4000000 in
set_option maxRecDepth 100000 in
theorem kX0_areTolerance (l : Launch) (G : va_G) (cy : Nat → ClassId) {H0 : Heap} (b : Int32) : MetI l yX0_areTolerance wsX0_areTolerance 3 67 [.int b] H0 G cy (bI (¬ b < 0 ∧ frB b FP.fconst0 1120403456 = true)) := by
  refine Met.ofW (cc := cX0_areTolerance) (maxL := 1) (ret := (some .boolean)) (by decide) rfl ?_
  intro p e s m args below meth c s₁ B hml hv
  obtain ⟨rfl, hH, hK⟩ := hv
  subst hH
  have hx := B.exec
  have hb := B.bytes
  have hr := B.returns
  have hts := atoms_spec (ws := wsX0_areTolerance) B.pre
  have hown : s.vm.findClass RX0 = some m.cls := findClass_of_methodNamed B.named
  have hlocks := B.notSynchronized
  have hl := lv_entry ([.int b]) (n := 1) (Nat.le_of_ble_eq_true rfl)
  rw [lg_entry_eq]
  generalize (lg_sl ([.int b]) ++ List.replicate (1 - (lg_sl ([.int b])).length) Slot.unset).toArray = ls at hl ⊢
  have hl : lv_has ls 1 [(0, .int b)] := hl
  refine lv_iload_n hx hb dX0_areTolerance_0 rfl (lv_at hl 0 rfl) ?_
  refine lv_if_lt (tgt := 18) hx hb dX0_areTolerance_1 (by decide) (fun c1 => ?_) (fun c1 => ?_)
  · refine lv_iconst (v := nI 0) hx hb dX0_areTolerance_18 (by decide +kernel) ?_
    exact o_endZ hx hb hr hlocks dX0_areTolerance_19 (by decide) ((by rw [bI_f (fun z => z.1 c1)]; decide))
  · refine lv_iload_n hx hb dX0_areTolerance_4 rfl (lv_at hl 0 rfl) ?_
    refine lv_fconst0 hx hb dX0_areTolerance_5 ?_
    refine lv_ldcf hx hb hown (hts (.constantFloat RX0 17 (1120403456)) (by decide +kernel)) dX0_areTolerance_6 ?_
    refine o_SI (As := [.int b, .float FP.fconst0, .float 1120403456]) (rest := []) ⟨hx, hb, hml, hown, hts⟩ (kX0_areFrom l G cy b FP.fconst0 1120403456) (va_cwS 3 hts gX0_areTolerance_X0_areFrom rfl rfl rfl (by decide +kernel) ⟨Nat.le_of_ble_eq_true rfl, Nat.le_of_ble_eq_true rfl⟩) hK rfl hl.1 rfl (Nat.le_of_ble_eq_true rfl) dX0_areTolerance_8 ⟨Nat.zero_le _, Nat.zero_le _⟩ ?_
    refine o_ifb_eq (tgt := 18) hx hb dX0_areTolerance_11 (by decide) (fun c11 => ?_) (fun c11 => ?_)
    · refine lv_iconst (v := nI 0) hx hb dX0_areTolerance_18 (by decide +kernel) ?_
      exact o_endZ hx hb hr hlocks dX0_areTolerance_19 (by decide) ((by rw [bI_f (fun z => c11 z.2)]; decide))
    · refine lv_iconst (v := nI 1) hx hb dX0_areTolerance_14 (by decide +kernel) ?_
      refine lv_goto (tgt := 19) hx hb dX0_areTolerance_15 (by decide) ?_
      exact o_endZ hx hb hr hlocks dX0_areTolerance_19 (by decide) ((by rw [bI_t ⟨c1, c11⟩]; decide))

set_option maxHeartbeats 4000000 in
set_option maxRecDepth 100000 in
theorem kX7_isRank (l : Launch) (G : va_G) (cy : Nat → ClassId) {H0 : Heap} (r : Nat) (hr3 : r < 2 ^ 31) : MetI l yX7_isRank wsX7_isRank 0 0 [.int (nI r)] H0 G cy (bI (1 ≤ r ∧ r ≤ 5)) := by
  refine Met.ofW (cc := cX7_isRank) (maxL := 1) (ret := (some .boolean)) (by decide) rfl ?_
  intro p e s m args below meth c s₁ B hml hv
  obtain ⟨rfl, hH, hK⟩ := hv
  subst hH
  have hx := B.exec
  have hb := B.bytes
  have hr := B.returns
  have hts := atoms_spec (ws := wsX7_isRank) B.pre
  have hown : s.vm.findClass RX7 = some m.cls := findClass_of_methodNamed B.named
  have hlocks := B.notSynchronized
  have hl := lv_entry ([.int (nI r)]) (n := 1) (Nat.le_of_ble_eq_true rfl)
  rw [lg_entry_eq]
  generalize (lg_sl ([.int (nI r)]) ++ List.replicate (1 - (lg_sl ([.int (nI r)])).length) Slot.unset).toArray = ls at hl ⊢
  have hl : lv_has ls 1 [(0, .int (nI r))] := hl
  refine lv_iload_n hx hb dX7_isRank_0 rfl (lv_at hl 0 rfl) ?_
  refine lv_iconst (v := nI 1) hx hb dX7_isRank_1 (by decide +kernel) ?_
  refine o_icmp_lt (tgt := 14) hx hb dX7_isRank_2 (by decide) (by omega) (by omega) (fun c2 => ?_) (fun c2 => ?_)
  · refine lv_iconst (v := nI 0) hx hb dX7_isRank_14 (by decide +kernel) ?_
    exact o_endZ hx hb hr hlocks dX7_isRank_15 (by decide) ((by rw [bI_f (by omega)]; decide))
  · refine lv_iload_n hx hb dX7_isRank_5 rfl (lv_at hl 0 rfl) ?_
    refine lv_iconst (v := nI 5) hx hb dX7_isRank_6 (by decide +kernel) ?_
    refine o_icmp_gt (tgt := 14) hx hb dX7_isRank_7 (by decide) (by omega) (by omega) (fun c7 => ?_) (fun c7 => ?_)
    · refine lv_iconst (v := nI 0) hx hb dX7_isRank_14 (by decide +kernel) ?_
      exact o_endZ hx hb hr hlocks dX7_isRank_15 (by decide) ((by rw [bI_f (by omega)]; decide))
    · refine lv_iconst (v := nI 1) hx hb dX7_isRank_10 (by decide +kernel) ?_
      refine lv_goto (tgt := 15) hx hb dX7_isRank_11 (by decide) ?_
      exact o_endZ hx hb hr hlocks dX7_isRank_15 (by decide) ((by rw [bI_t (by omega)]; decide))

set_option maxHeartbeats 4000000 in
set_option maxRecDepth 100000 in
theorem kX7_isWord (l : Launch) (G : va_G) (cy : Nat → ClassId) {H0 : Heap} (w : Nat) (hw3 : w < 2 ^ 31) : MetI l yX7_isWord wsX7_isWord 0 0 [.int (nI w)] H0 G cy (bI (w < 16)) := by
  refine Met.ofW (cc := cX7_isWord) (maxL := 1) (ret := (some .boolean)) (by decide) rfl ?_
  intro p e s m args below meth c s₁ B hml hv
  obtain ⟨rfl, hH, hK⟩ := hv
  subst hH
  have hx := B.exec
  have hb := B.bytes
  have hr := B.returns
  have hts := atoms_spec (ws := wsX7_isWord) B.pre
  have hown : s.vm.findClass RX7 = some m.cls := findClass_of_methodNamed B.named
  have hlocks := B.notSynchronized
  have hl := lv_entry ([.int (nI w)]) (n := 1) (Nat.le_of_ble_eq_true rfl)
  rw [lg_entry_eq]
  generalize (lg_sl ([.int (nI w)]) ++ List.replicate (1 - (lg_sl ([.int (nI w)])).length) Slot.unset).toArray = ls at hl ⊢
  have hl : lv_has ls 1 [(0, .int (nI w))] := hl
  refine lv_iload_n hx hb dX7_isWord_0 rfl (lv_at hl 0 rfl) ?_
  refine o_if_lt (tgt := 14) hx hb dX7_isWord_1 (by decide) (by omega) ?_
  refine lv_iload_n hx hb dX7_isWord_4 rfl (lv_at hl 0 rfl) ?_
  refine lv_bipush (v := nI 16) hx hb dX7_isWord_5 (by decide +kernel) ?_
  refine o_icmp_ge (tgt := 14) hx hb dX7_isWord_7 (by decide) (by omega) (by omega) (fun c7 => ?_) (fun c7 => ?_)
  · refine lv_iconst (v := nI 0) hx hb dX7_isWord_14 (by decide +kernel) ?_
    exact o_endZ hx hb hr hlocks dX7_isWord_15 (by decide) ((by rw [bI_f (by omega)]; decide))
  · refine lv_iconst (v := nI 1) hx hb dX7_isWord_10 (by decide +kernel) ?_
    refine lv_goto (tgt := 15) hx hb dX7_isWord_11 (by decide) ?_
    exact o_endZ hx hb hr hlocks dX7_isWord_15 (by decide) ((by rw [bI_t (by omega)]; decide))

set_option maxHeartbeats 4000000 in
set_option maxRecDepth 100000 in
theorem kX7_oneIf (l : Launch) (G : va_G) (cy : Nat → ClassId) {H0 : Heap} (P : Prop) [Decidable P] : MetI l yX7_oneIf wsX7_oneIf 0 0 [.int (bI (P))] H0 G cy (bI P) := by
  refine Met.ofW (cc := cX7_oneIf) (maxL := 1) (ret := (some .int)) (by decide) rfl ?_
  intro p e s m args below meth c s₁ B hml hv
  obtain ⟨rfl, hH, hK⟩ := hv
  subst hH
  have hx := B.exec
  have hb := B.bytes
  have hr := B.returns
  have hts := atoms_spec (ws := wsX7_oneIf) B.pre
  have hown : s.vm.findClass RX7 = some m.cls := findClass_of_methodNamed B.named
  have hlocks := B.notSynchronized
  have hl := lv_entry ([.int (bI (P))]) (n := 1) (Nat.le_of_ble_eq_true rfl)
  rw [lg_entry_eq]
  generalize (lg_sl ([.int (bI (P))]) ++ List.replicate (1 - (lg_sl ([.int (bI (P))])).length) Slot.unset).toArray = ls at hl ⊢
  have hl : lv_has ls 1 [(0, .int (bI (P)))] := hl
  refine lv_iload_n hx hb dX7_oneIf_0 rfl (lv_at hl 0 rfl) ?_
  refine o_ifb_eq (tgt := 8) hx hb dX7_oneIf_1 (by decide) (fun c1 => ?_) (fun c1 => ?_)
  · refine lv_iconst (v := nI 0) hx hb dX7_oneIf_8 (by decide +kernel) ?_
    exact o_endI hx hb hr hlocks dX7_oneIf_9 ((by rw [bI_f c1]; decide))
  · refine lv_iconst (v := nI 1) hx hb dX7_oneIf_4 (by decide +kernel) ?_
    refine lv_goto (tgt := 9) hx hb dX7_oneIf_5 (by decide) ?_
    exact o_endI hx hb hr hlocks dX7_oneIf_9 ((by rw [bI_t c1]; decide))

set_option maxHeartbeats 4000000 in
set_option maxRecDepth 100000 in
theorem kX7_noFloat (l : Launch) (G : va_G) (cy : Nat → ClassId) {H0 : Heap}  : MetF l yX7_noFloat wsX7_noFloat 0 0 [] H0 G cy 2143289344 := by
  refine Met.ofW (cc := cX7_noFloat) (maxL := 0) (ret := (some .float)) (by decide) rfl ?_
  intro p e s m args below meth c s₁ B hml hv
  obtain ⟨rfl, hH, hK⟩ := hv
  subst hH
  have hx := B.exec
  have hb := B.bytes
  have hr := B.returns
  have hts := atoms_spec (ws := wsX7_noFloat) B.pre
  have hown : s.vm.findClass RX7 = some m.cls := findClass_of_methodNamed B.named
  have hlocks := B.notSynchronized
  have hl := lv_entry ([]) (n := 0) (Nat.le_of_ble_eq_true rfl)
  rw [lg_entry_eq]
  generalize (lg_sl ([]) ++ List.replicate (0 - (lg_sl ([])).length) Slot.unset).toArray = ls at hl ⊢
  have hl : lv_has ls 0 [] := hl
  refine o_ldcwf hx hb hown (hts (.constantFloat RX7 293 (2143289344)) (by decide +kernel)) dX7_noFloat_0 ?_
  exact o_endF hx hb hr hlocks dX7_noFloat_3 rfl
end
section
/-! the whole object: its own cell, and what a writing call leaves -/
abbrev oSy (z : Nat) (q h x r y : Nat → Nat) : Nat × va_E := (z, .inr (6, [.ref (q 0), .ref (y 1), .int (nI 0), .ref (h 0), .ref (y 4), .ref (y 5), .ref (x 0), .ref (r 0), .ref (y 8)]))
abbrev qIs (A : Nat → Prop) (v : Int32) (cy : Nat → ClassId) (h : Nat → Nat) (X Y : va_W) (G : va_G) : Array Value → State → Outcome → State → Prop := va_Qi (fun r (u : HT) => r = v ∧ u.1 ≤ 4) (fun u t => va_P G vwCl (X ++ (wHi cy h u.1 u.2.1 u.2.2 ++ Y)) t.heap ∧ va_D A (X ++ (wHi cy h u.1 u.2.1 u.2.2 ++ Y))) A
abbrev MutS (l : Launch) (y : MethodName) (ws : List Cond) (f lo : Nat) (av : List Value) (H0 : Heap) (G : va_G) (cy : Nat → ClassId) (v : Int32) (h : Nat → Nat) (W0 X Y : va_W) : Prop := Met l y ws (oR f lo) (pR av H0 G cy) (qIs (va_A W0 H0.size) v cy h X Y G) 0 0 (va_A W0 H0.size)
section OK9
variable {p : Program} {l : Launch} {e : Env} {R : Room} {s : State} {m : MethodId} {args : Array Value} {below : List Frame} {meth : Method} {c : Code} {H : Heap} {locs : List Loc} {cells slots : Nat} {Q : State → Prop}
variable {pc : Nat} {ls : Array Slot} {rest : List Value} {cc : ByteArray} {G : va_G} {cy : Nat → ClassId} {A : Nat → Prop} {X Y : va_W} {h : Nat → Nat} {k : Nat} {d : Nat → Nat → Nat} {E : Nat → MT}
theorem o_endIs {v v' : Int32} (hx : p.tables.exec = Jvm.exec) (hb : c.code = cc) (hr : meth.sig.returnType = some .int) (hlocks : meth.locks = false) (hdg : decode cc pc = .ok (.ireturn, 1)) (hk : k ≤ 4) (hP : va_P G vwCl (X ++ (wHi cy h k d E ++ Y)) H) (hD : va_D A (X ++ (wHi cy h k d E ++ Y))) (hS : va_S A s.heap H locs) (hv : v = v') :
    W p l e R s m args below meth c H locs 0 0 (MQ below (qIs A v' cy h X Y G) args s 0 0 A) (F0 m pc ls [.int v]) :=
  W.iret hx hb hr (fun t ht hW => ⟨⟨v, (k, d, E), rfl, ⟨hv, hk⟩, by show va_P G vwCl (X ++ (wHi cy h k d E ++ Y)) t.heap; rw [ht]; exact hP, hD⟩, hS.F ht⟩) hS.2.2 hdg hlocks
end OK9
theorem va_us {α : Type} (f : Nat → α) (k : Nat) (v : α) : va_up f k v k = v := if_pos rfl
theorem va_un {α : Type} {f : Nat → α} {k j : Nat} {v : α} (h : j ≠ k) : va_up f k v j = f j := if_neg h
theorem WB_F {M : MT} (hW : WB M) (k v : Nat) (hv : v < 4) : WB (mP M, mN M, mS M, mB M, mT M, mR M, mO M, mW M, mL M, va_up (mF M) k v, mA M, mU M, mH M) := by
  obtain ⟨bP, bN, bR, bO, bW, bL, bF⟩ := hW
  refine ⟨bP, bN, bR, bO, bW, bL, fun j => ?_⟩
  show va_up (mF M) k v j < 4
  unfold va_up
  split
  · exact hv
  · exact bF j
theorem WB_H {M : MT} (hW : WB M) (g : Nat → UInt32) : WB (mP M, mN M, mS M, mB M, mT M, mR M, mO M, mW M, mL M, mF M, mA M, mU M, g) := hW
end
section
set_option maxRecDepth 100000 in
theorem iX7_addPerson_X7 : ∀ w ∈ u_ws RX7 TX7 9, w ∈ wsX7_addPerson := by decide +kernel
set_option maxHeartbeats 4000000 in
set_option maxRecDepth 100000 in
theorem kX7_addPerson_b (l : Launch) (G : va_G) (cy : Nat → ClassId) {H0 : Heap} {z : Nat} {q h x r y : Nat → Nat} {M : MT} (hW : WB M) (hP : va_P G vwCl ([oSy z q h x r y] ++ wDo cy q M) H0) (u : Nat) (hu : u < 2 ^ 31) (hb0 : ¬ (1 ≤ u ∧ u ≤ 5)) : MetI l yX7_addPerson wsX7_addPerson 1 20 [.ref z, .int (nI u)] H0 G cy ((-2)) := by
  refine Met.ofW (cc := cX7_addPerson) (maxL := 2) (ret := (some .int)) (by decide) rfl ?_
  intro p e s m args below meth c s₁ B hml hv
  obtain ⟨rfl, hH, hK⟩ := hv
  subst hH
  have hx := B.exec
  have hb := B.bytes
  have hr := B.returns
  have hts := atoms_spec (ws := wsX7_addPerson) B.pre
  have hown : s.vm.findClass RX7 = some m.cls := findClass_of_methodNamed B.named
  have hlocks := B.notSynchronized
  have hl := lv_entry ([.ref z, .int (nI u)]) (n := 2) (Nat.le_of_ble_eq_true rfl)
  rw [lg_entry_eq]
  generalize (lg_sl ([.ref z, .int (nI u)]) ++ List.replicate (2 - (lg_sl ([.ref z, .int (nI u)])).length) Slot.unset).toArray = ls at hl ⊢
  have hl : lv_has ls 2 [(0, .ref z), (1, .int (nI u))] := hl
  obtain ⟨bP, bN, bR, bO, bW, bL, bF⟩ := id hW
  have hPd := hP.sub (ws' := wDo cy q M) [1, 2, 3, 4, 5, 6, 7, 8, 9] rfl
  refine lv_iload_n hx hb dX7_addPerson_0 rfl (lv_at hl 1 rfl) ?_
  refine o_SI (As := [.int (nI u)]) (rest := []) ⟨hx, hb, hml, hown, hts⟩ (kX7_isRank l G cy u (by omega)) (va_cwS 1 hts gX7_addPerson_X7_isRank rfl rfl rfl (by decide +kernel) ⟨Nat.le_of_ble_eq_true rfl, Nat.le_of_ble_eq_true rfl⟩) hK rfl hl.1 rfl (Nat.le_of_ble_eq_true rfl) dX7_addPerson_1 ⟨Nat.zero_le _, Nat.zero_le _⟩ ?_
  refine o_ifb_ne (tgt := 10) hx hb dX7_addPerson_4 (by decide) (fun c4 => ?_) (fun c4 => ?_)
  · exact absurd c4 hb0
  · refine lv_bipush (v := (-2)) hx hb dX7_addPerson_7 (by decide +kernel) ?_
    exact o_endI hx hb hr hlocks dX7_addPerson_9 rfl

set_option maxRecDepth 100000 in
theorem iX7_setRank_X7 : ∀ w ∈ u_ws RX7 TX7 9, w ∈ wsX7_setRank := by decide +kernel
set_option maxHeartbeats 4000000 in
set_option maxRecDepth 100000 in
theorem kX7_setRank_b (l : Launch) (G : va_G) (cy : Nat → ClassId) {H0 : Heap} {z : Nat} {q h x r y : Nat → Nat} {M : MT} (hW : WB M) (hP : va_P G vwCl ([oSy z q h x r y] ++ wDo cy q M) H0) (k u : Nat) (hk : k < mP M) (hu : u < 2 ^ 31) (hb0 : ¬ (1 ≤ u ∧ u ≤ 5)) : MetI l yX7_setRank wsX7_setRank 1 21 [.ref z, .int (nI k), .int (nI u)] H0 G cy ((-2)) := by
  refine Met.ofW (cc := cX7_setRank) (maxL := 4) (ret := (some .int)) (by decide) rfl ?_
  intro p e s m args below meth c s₁ B hml hv
  obtain ⟨rfl, hH, hK⟩ := hv
  subst hH
  have hx := B.exec
  have hb := B.bytes
  have hr := B.returns
  have hts := atoms_spec (ws := wsX7_setRank) B.pre
  have hown : s.vm.findClass RX7 = some m.cls := findClass_of_methodNamed B.named
  have hlocks := B.notSynchronized
  have hl := lv_entry ([.ref z, .int (nI k), .int (nI u)]) (n := 4) (Nat.le_of_ble_eq_true rfl)
  rw [lg_entry_eq]
  generalize (lg_sl ([.ref z, .int (nI k), .int (nI u)]) ++ List.replicate (4 - (lg_sl ([.ref z, .int (nI k), .int (nI u)])).length) Slot.unset).toArray = ls at hl ⊢
  have hl : lv_has ls 4 [(0, .ref z), (1, .int (nI k)), (2, .int (nI u))] := hl
  obtain ⟨bP, bN, bR, bO, bW, bL, bF⟩ := id hW
  have hPd := hP.sub (ws' := wDo cy q M) [1, 2, 3, 4, 5, 6, 7, 8, 9] rfl
  refine lv_aload_n hx hb dX7_setRank_0 rfl (lv_at hl 0 rfl) ?_
  refine va_get (D := G) (ci := 6) (v := .ref (q 0)) (C := RX7) (T := TX7) (N := 9) hx hb hts iX7_setRank_X7 hown hK hP 0 rfl rfl 0 (by decide) (hts (.fieldLink RX7 10 "NailedOrders" "door" "LNailedOrders$Door;") (by decide +kernel)) (fun _ h9 => h9) rfl dX7_setRank_1 ?_
  refine lv_iload_n hx hb dX7_setRank_4 rfl (lv_at hl 1 rfl) ?_
  refine o_VI (As := [.int (nI k)]) (rest := []) ⟨hx, hb, hml, hown, hts⟩ (kX1_isPerson l G cy hW hPd k (by omega)) (cwV 1 hts gX7_setRank_X1_isPerson rfl rfl rfl (by decide +kernel) ⟨Nat.le_of_ble_eq_true rfl, Nat.le_of_ble_eq_true rfl⟩) hK (va_recv hK hP (ci := 0) (q0 := 1) rfl rfl) rfl hl.1 rfl (Nat.le_of_ble_eq_true rfl) dX7_setRank_5 ⟨Nat.zero_le _, Nat.zero_le _⟩ ?_
  refine o_ifb_ne (tgt := 13) hx hb dX7_setRank_8 (by decide) (fun c8 => ?_) (fun c8 => ?_)
  · refine lv_iload_n hx hb dX7_setRank_13 rfl (lv_at hl 2 rfl) ?_
    refine o_SI (As := [.int (nI u)]) (rest := []) ⟨hx, hb, hml, hown, hts⟩ (kX7_isRank l G cy u (by omega)) (va_cwS 1 hts gX7_setRank_X7_isRank rfl rfl rfl (by decide +kernel) ⟨Nat.le_of_ble_eq_true rfl, Nat.le_of_ble_eq_true rfl⟩) hK rfl hl.1 rfl (Nat.le_of_ble_eq_true rfl) dX7_setRank_14 ⟨Nat.zero_le _, Nat.zero_le _⟩ ?_
    refine o_ifb_ne (tgt := 23) hx hb dX7_setRank_17 (by decide) (fun c17 => ?_) (fun c17 => ?_)
    · exact absurd c17 hb0
    · refine lv_bipush (v := (-2)) hx hb dX7_setRank_20 (by decide +kernel) ?_
      exact o_endI hx hb hr hlocks dX7_setRank_22 rfl
  · exact absurd hk c8

set_option maxHeartbeats 4000000 in
set_option maxRecDepth 100000 in
theorem kX7_setRank_u (l : Launch) (G : va_G) (cy : Nat → ClassId) {H0 : Heap} {z : Nat} {q h x r y : Nat → Nat} {M : MT} (hW : WB M) (hP : va_P G vwCl ([oSy z q h x r y] ++ wDo cy q M) H0) (k u : Nat) (hk : ¬ k < mP M) (hk2 : k < 2 ^ 31) : MetI l yX7_setRank wsX7_setRank 1 21 [.ref z, .int (nI k), .int (nI u)] H0 G cy ((-1)) := by
  refine Met.ofW (cc := cX7_setRank) (maxL := 4) (ret := (some .int)) (by decide) rfl ?_
  intro p e s m args below meth c s₁ B hml hv
  obtain ⟨rfl, hH, hK⟩ := hv
  subst hH
  have hx := B.exec
  have hb := B.bytes
  have hr := B.returns
  have hts := atoms_spec (ws := wsX7_setRank) B.pre
  have hown : s.vm.findClass RX7 = some m.cls := findClass_of_methodNamed B.named
  have hlocks := B.notSynchronized
  have hl := lv_entry ([.ref z, .int (nI k), .int (nI u)]) (n := 4) (Nat.le_of_ble_eq_true rfl)
  rw [lg_entry_eq]
  generalize (lg_sl ([.ref z, .int (nI k), .int (nI u)]) ++ List.replicate (4 - (lg_sl ([.ref z, .int (nI k), .int (nI u)])).length) Slot.unset).toArray = ls at hl ⊢
  have hl : lv_has ls 4 [(0, .ref z), (1, .int (nI k)), (2, .int (nI u))] := hl
  obtain ⟨bP, bN, bR, bO, bW, bL, bF⟩ := id hW
  have hPd := hP.sub (ws' := wDo cy q M) [1, 2, 3, 4, 5, 6, 7, 8, 9] rfl
  refine lv_aload_n hx hb dX7_setRank_0 rfl (lv_at hl 0 rfl) ?_
  refine va_get (D := G) (ci := 6) (v := .ref (q 0)) (C := RX7) (T := TX7) (N := 9) hx hb hts iX7_setRank_X7 hown hK hP 0 rfl rfl 0 (by decide) (hts (.fieldLink RX7 10 "NailedOrders" "door" "LNailedOrders$Door;") (by decide +kernel)) (fun _ h9 => h9) rfl dX7_setRank_1 ?_
  refine lv_iload_n hx hb dX7_setRank_4 rfl (lv_at hl 1 rfl) ?_
  refine o_VI (As := [.int (nI k)]) (rest := []) ⟨hx, hb, hml, hown, hts⟩ (kX1_isPerson l G cy hW hPd k (by omega)) (cwV 1 hts gX7_setRank_X1_isPerson rfl rfl rfl (by decide +kernel) ⟨Nat.le_of_ble_eq_true rfl, Nat.le_of_ble_eq_true rfl⟩) hK (va_recv hK hP (ci := 0) (q0 := 1) rfl rfl) rfl hl.1 rfl (Nat.le_of_ble_eq_true rfl) dX7_setRank_5 ⟨Nat.zero_le _, Nat.zero_le _⟩ ?_
  refine o_ifb_ne (tgt := 13) hx hb dX7_setRank_8 (by decide) (fun c8 => ?_) (fun c8 => ?_)
  · exact absurd c8 hk
  · refine lv_iconst (v := (-1)) hx hb dX7_setRank_11 (by decide +kernel) ?_
    exact o_endI hx hb hr hlocks dX7_setRank_12 rfl

set_option maxRecDepth 100000 in
theorem iX7_setRank_X1 : ∀ w ∈ u_ws RX1 TX1 13, w ∈ wsX7_setRank := by decide +kernel
set_option maxHeartbeats 4000000 in
set_option maxRecDepth 100000 in
theorem kX7_setRank_n (l : Launch) (G : va_G) (cy : Nat → ClassId) {H0 : Heap} {z : Nat} {q h x r y : Nat → Nat} {M : MT} (hW : WB M) (hP : va_P G vwCl ([oSy z q h x r y] ++ wDo cy q M) H0) (k u : Nat) (hk : k < mP M) (hu : 1 ≤ u ∧ u ≤ 5) (he : mR M k = u) : MetI l yX7_setRank wsX7_setRank 1 21 [.ref z, .int (nI k), .int (nI u)] H0 G cy ((-5)) := by
  refine Met.ofW (cc := cX7_setRank) (maxL := 4) (ret := (some .int)) (by decide) rfl ?_
  intro p e s m args below meth c s₁ B hml hv
  obtain ⟨rfl, hH, hK⟩ := hv
  subst hH
  have hx := B.exec
  have hb := B.bytes
  have hr := B.returns
  have hts := atoms_spec (ws := wsX7_setRank) B.pre
  have hown : s.vm.findClass RX7 = some m.cls := findClass_of_methodNamed B.named
  have hlocks := B.notSynchronized
  have hl := lv_entry ([.ref z, .int (nI k), .int (nI u)]) (n := 4) (Nat.le_of_ble_eq_true rfl)
  rw [lg_entry_eq]
  generalize (lg_sl ([.ref z, .int (nI k), .int (nI u)]) ++ List.replicate (4 - (lg_sl ([.ref z, .int (nI k), .int (nI u)])).length) Slot.unset).toArray = ls at hl ⊢
  have hl : lv_has ls 4 [(0, .ref z), (1, .int (nI k)), (2, .int (nI u))] := hl
  obtain ⟨bP, bN, bR, bO, bW, bL, bF⟩ := id hW
  have hPd := hP.sub (ws' := wDo cy q M) [1, 2, 3, 4, 5, 6, 7, 8, 9] rfl
  refine lv_aload_n hx hb dX7_setRank_0 rfl (lv_at hl 0 rfl) ?_
  refine va_get (D := G) (ci := 6) (v := .ref (q 0)) (C := RX7) (T := TX7) (N := 9) hx hb hts iX7_setRank_X7 hown hK hP 0 rfl rfl 0 (by decide) (hts (.fieldLink RX7 10 "NailedOrders" "door" "LNailedOrders$Door;") (by decide +kernel)) (fun _ h9 => h9) rfl dX7_setRank_1 ?_
  refine lv_iload_n hx hb dX7_setRank_4 rfl (lv_at hl 1 rfl) ?_
  refine o_VI (As := [.int (nI k)]) (rest := []) ⟨hx, hb, hml, hown, hts⟩ (kX1_isPerson l G cy hW hPd k (by omega)) (cwV 1 hts gX7_setRank_X1_isPerson rfl rfl rfl (by decide +kernel) ⟨Nat.le_of_ble_eq_true rfl, Nat.le_of_ble_eq_true rfl⟩) hK (va_recv hK hP (ci := 0) (q0 := 1) rfl rfl) rfl hl.1 rfl (Nat.le_of_ble_eq_true rfl) dX7_setRank_5 ⟨Nat.zero_le _, Nat.zero_le _⟩ ?_
  refine o_ifb_ne (tgt := 13) hx hb dX7_setRank_8 (by decide) (fun c8 => ?_) (fun c8 => ?_)
  · refine lv_iload_n hx hb dX7_setRank_13 rfl (lv_at hl 2 rfl) ?_
    refine o_SI (As := [.int (nI u)]) (rest := []) ⟨hx, hb, hml, hown, hts⟩ (kX7_isRank l G cy u (by omega)) (va_cwS 1 hts gX7_setRank_X7_isRank rfl rfl rfl (by decide +kernel) ⟨Nat.le_of_ble_eq_true rfl, Nat.le_of_ble_eq_true rfl⟩) hK rfl hl.1 rfl (Nat.le_of_ble_eq_true rfl) dX7_setRank_14 ⟨Nat.zero_le _, Nat.zero_le _⟩ ?_
    refine o_ifb_ne (tgt := 23) hx hb dX7_setRank_17 (by decide) (fun c17 => ?_) (fun c17 => ?_)
    · refine lv_aload_n hx hb dX7_setRank_23 rfl (lv_at hl 0 rfl) ?_
      have b1 := bR k
      refine va_get (D := G) (ci := 6) (v := .ref (q 0)) (C := RX7) (T := TX7) (N := 9) hx hb hts iX7_setRank_X7 hown hK hP 0 rfl rfl 0 (by decide) (hts (.fieldLink RX7 10 "NailedOrders" "door" "LNailedOrders$Door;") (by decide +kernel)) (fun _ h9 => h9) rfl dX7_setRank_24 ?_
      refine va_get (D := G) (ci := 0) (v := .ref (q 1)) (C := RX1) (T := TX1) (N := 13) hx hb hts iX7_setRank_X1 hown hK hP 1 rfl rfl 1 (by decide) (hts (.fieldLink RX7 83 "NailedOrders$Door" "ranks" "[I") (by decide +kernel)) (fun _ h9 => h9) rfl dX7_setRank_27 ?_
      refine lv_iload_n hx hb dX7_setRank_30 rfl (lv_at hl 1 rfl) ?_
      refine o_iald hx hb hK hP 2 0 rfl rfl k (by omega) (by decide) dX7_setRank_31 ?_
      refine lv_istore_n (lv' := [(3, .int (nI (mR M k))), (0, .ref z), (1, .int (nI k)), (2, .int (nI u))]) hx hb dX7_setRank_32 rfl hl (by decide) rfl (fun ls hl => ?_)
      refine lv_iload_n hx hb dX7_setRank_33 rfl (lv_at hl 0 rfl) ?_
      refine lv_iload_n hx hb dX7_setRank_34 rfl (lv_at hl 3 rfl) ?_
      refine o_icmp_ne (tgt := 41) hx hb dX7_setRank_35 (by decide) (by omega) (by omega) (fun c35 => ?_) (fun c35 => ?_)
      · exact absurd he c35
      · refine lv_bipush (v := (-5)) hx hb dX7_setRank_38 (by decide +kernel) ?_
        exact o_endI hx hb hr hlocks dX7_setRank_40 rfl
    · exact absurd hu c17
  · exact absurd hk c8

set_option maxRecDepth 100000 in
theorem iX7_setTolerance_X7 : ∀ w ∈ u_ws RX7 TX7 9, w ∈ wsX7_setTolerance := by decide +kernel
set_option maxHeartbeats 4000000 in
set_option maxRecDepth 100000 in
theorem kX7_setTolerance_b (l : Launch) (G : va_G) (cy : Nat → ClassId) {H0 : Heap} {z : Nat} {q h x r y : Nat → Nat} {M : MT} (hW : WB M) (hP : va_P G vwCl ([oSy z q h x r y] ++ wDo cy q M) H0) (b : Int32) (hb0 : ¬ (¬ b < 0 ∧ frB b FP.fconst0 1120403456 = true)) : MetI l yX7_setTolerance wsX7_setTolerance 4 87 [.ref z, .int b] H0 G cy ((-2)) := by
  refine Met.ofW (cc := cX7_setTolerance) (maxL := 2) (ret := (some .int)) (by decide) rfl ?_
  intro p e s m args below meth c s₁ B hml hv
  obtain ⟨rfl, hH, hK⟩ := hv
  subst hH
  have hx := B.exec
  have hb := B.bytes
  have hr := B.returns
  have hts := atoms_spec (ws := wsX7_setTolerance) B.pre
  have hown : s.vm.findClass RX7 = some m.cls := findClass_of_methodNamed B.named
  have hlocks := B.notSynchronized
  have hl := lv_entry ([.ref z, .int b]) (n := 2) (Nat.le_of_ble_eq_true rfl)
  rw [lg_entry_eq]
  generalize (lg_sl ([.ref z, .int b]) ++ List.replicate (2 - (lg_sl ([.ref z, .int b])).length) Slot.unset).toArray = ls at hl ⊢
  have hl : lv_has ls 2 [(0, .ref z), (1, .int b)] := hl
  obtain ⟨bP, bN, bR, bO, bW, bL, bF⟩ := id hW
  have hPd := hP.sub (ws' := wDo cy q M) [1, 2, 3, 4, 5, 6, 7, 8, 9] rfl
  refine lv_iload_n hx hb dX7_setTolerance_0 rfl (lv_at hl 1 rfl) ?_
  refine o_SI (As := [.int b]) (rest := []) ⟨hx, hb, hml, hown, hts⟩ (kX0_areTolerance l G cy b) (va_cwS 1 hts gX7_setTolerance_X0_areTolerance rfl rfl rfl (by decide +kernel) ⟨Nat.le_of_ble_eq_true rfl, Nat.le_of_ble_eq_true rfl⟩) hK rfl hl.1 rfl (Nat.le_of_ble_eq_true rfl) dX7_setTolerance_1 ⟨Nat.zero_le _, Nat.zero_le _⟩ ?_
  refine o_ifb_ne (tgt := 10) hx hb dX7_setTolerance_4 (by decide) (fun c4 => ?_) (fun c4 => ?_)
  · exact absurd c4 hb0
  · refine lv_bipush (v := (-2)) hx hb dX7_setTolerance_7 (by decide +kernel) ?_
    exact o_endI hx hb hr hlocks dX7_setTolerance_9 rfl

set_option maxRecDepth 100000 in
theorem iX7_setTolerance_X1 : ∀ w ∈ u_ws RX1 TX1 13, w ∈ wsX7_setTolerance := by decide +kernel
set_option maxHeartbeats 4000000 in
set_option maxRecDepth 100000 in
theorem kX7_setTolerance_n (l : Launch) (G : va_G) (cy : Nat → ClassId) {H0 : Heap} {z : Nat} {q h x r y : Nat → Nat} {M : MT} (hW : WB M) (hP : va_P G vwCl ([oSy z q h x r y] ++ wDo cy q M) H0) (b : Int32) (hb0 : ¬ b < 0 ∧ frB b FP.fconst0 1120403456 = true) (he : b = mB M) : MetI l yX7_setTolerance wsX7_setTolerance 4 87 [.ref z, .int b] H0 G cy ((-5)) := by
  refine Met.ofW (cc := cX7_setTolerance) (maxL := 2) (ret := (some .int)) (by decide) rfl ?_
  intro p e s m args below meth c s₁ B hml hv
  obtain ⟨rfl, hH, hK⟩ := hv
  subst hH
  have hx := B.exec
  have hb := B.bytes
  have hr := B.returns
  have hts := atoms_spec (ws := wsX7_setTolerance) B.pre
  have hown : s.vm.findClass RX7 = some m.cls := findClass_of_methodNamed B.named
  have hlocks := B.notSynchronized
  have hl := lv_entry ([.ref z, .int b]) (n := 2) (Nat.le_of_ble_eq_true rfl)
  rw [lg_entry_eq]
  generalize (lg_sl ([.ref z, .int b]) ++ List.replicate (2 - (lg_sl ([.ref z, .int b])).length) Slot.unset).toArray = ls at hl ⊢
  have hl : lv_has ls 2 [(0, .ref z), (1, .int b)] := hl
  obtain ⟨bP, bN, bR, bO, bW, bL, bF⟩ := id hW
  have hPd := hP.sub (ws' := wDo cy q M) [1, 2, 3, 4, 5, 6, 7, 8, 9] rfl
  refine lv_iload_n hx hb dX7_setTolerance_0 rfl (lv_at hl 1 rfl) ?_
  refine o_SI (As := [.int b]) (rest := []) ⟨hx, hb, hml, hown, hts⟩ (kX0_areTolerance l G cy b) (va_cwS 1 hts gX7_setTolerance_X0_areTolerance rfl rfl rfl (by decide +kernel) ⟨Nat.le_of_ble_eq_true rfl, Nat.le_of_ble_eq_true rfl⟩) hK rfl hl.1 rfl (Nat.le_of_ble_eq_true rfl) dX7_setTolerance_1 ⟨Nat.zero_le _, Nat.zero_le _⟩ ?_
  refine o_ifb_ne (tgt := 10) hx hb dX7_setTolerance_4 (by decide) (fun c4 => ?_) (fun c4 => ?_)
  · refine lv_iload_n hx hb dX7_setTolerance_10 rfl (lv_at hl 1 rfl) ?_
    refine lv_aload_n hx hb dX7_setTolerance_11 rfl (lv_at hl 0 rfl) ?_
    refine va_get (D := G) (ci := 6) (v := .ref (q 0)) (C := RX7) (T := TX7) (N := 9) hx hb hts iX7_setTolerance_X7 hown hK hP 0 rfl rfl 0 (by decide) (hts (.fieldLink RX7 10 "NailedOrders" "door" "LNailedOrders$Door;") (by decide +kernel)) (fun _ h9 => h9) rfl dX7_setTolerance_12 ?_
    refine va_get (D := G) (ci := 0) (v := .int (mB M)) (C := RX1) (T := TX1) (N := 13) hx hb hts iX7_setTolerance_X1 hown hK hP 1 rfl rfl 2 (by decide) (hts (.fieldLink RX7 92 "NailedOrders$Door" "toleranceBits" "I") (by decide +kernel)) (fun _ h9 => h9) rfl dX7_setTolerance_15 ?_
    refine lv_icmp_ne (tgt := 24) hx hb dX7_setTolerance_18 (by decide) (fun c18 => ?_) (fun c18 => ?_)
    · exact absurd he c18
    · refine lv_bipush (v := (-5)) hx hb dX7_setTolerance_21 (by decide +kernel) ?_
      exact o_endI hx hb hr hlocks dX7_setTolerance_23 rfl
  · exact absurd hb0 c4

set_option maxRecDepth 100000 in
theorem iX7_nail_X7 : ∀ w ∈ u_ws RX7 TX7 9, w ∈ wsX7_nail := by decide +kernel
set_option maxHeartbeats 4000000 in
set_option maxRecDepth 100000 in
theorem kX7_nail_u (l : Launch) (G : va_G) (cy : Nat → ClassId) {H0 : Heap} {z : Nat} {q h x r y : Nat → Nat} {M : MT} (hW : WB M) (hP : va_P G vwCl ([oSy z q h x r y] ++ wDo cy q M) H0) (k w : Nat) (b c0 : Int32) (hk2 : k < 2 ^ 31) (hw2 : w < 2 ^ 31) (hu : ¬ (k < mP M ∧ w < 16)) : MetI l yX7_nail wsX7_nail 1 21 [.ref z, .int (nI k), .int (nI w), .int b, .int c0] H0 G cy ((-1)) := by
  refine Met.ofW (cc := cX7_nail) (maxL := 5) (ret := (some .int)) (by decide) rfl ?_
  intro p e s m args below meth c s₁ B hml hv
  obtain ⟨rfl, hH, hK⟩ := hv
  subst hH
  have hx := B.exec
  have hb := B.bytes
  have hr := B.returns
  have hts := atoms_spec (ws := wsX7_nail) B.pre
  have hown : s.vm.findClass RX7 = some m.cls := findClass_of_methodNamed B.named
  have hlocks := B.notSynchronized
  have hl := lv_entry ([.ref z, .int (nI k), .int (nI w), .int b, .int c0]) (n := 5) (Nat.le_of_ble_eq_true rfl)
  rw [lg_entry_eq]
  generalize (lg_sl ([.ref z, .int (nI k), .int (nI w), .int b, .int c0]) ++ List.replicate (5 - (lg_sl ([.ref z, .int (nI k), .int (nI w), .int b, .int c0])).length) Slot.unset).toArray = ls at hl ⊢
  have hl : lv_has ls 5 [(0, .ref z), (1, .int (nI k)), (2, .int (nI w)), (3, .int b), (4, .int c0)] := hl
  obtain ⟨bP, bN, bR, bO, bW, bL, bF⟩ := id hW
  have hPd := hP.sub (ws' := wDo cy q M) [1, 2, 3, 4, 5, 6, 7, 8, 9] rfl
  refine lv_aload_n hx hb dX7_nail_0 rfl (lv_at hl 0 rfl) ?_
  refine va_get (D := G) (ci := 6) (v := .ref (q 0)) (C := RX7) (T := TX7) (N := 9) hx hb hts iX7_nail_X7 hown hK hP 0 rfl rfl 0 (by decide) (hts (.fieldLink RX7 10 "NailedOrders" "door" "LNailedOrders$Door;") (by decide +kernel)) (fun _ h9 => h9) rfl dX7_nail_1 ?_
  refine lv_iload_n hx hb dX7_nail_4 rfl (lv_at hl 1 rfl) ?_
  refine o_VI (As := [.int (nI k)]) (rest := []) ⟨hx, hb, hml, hown, hts⟩ (kX1_isPerson l G cy hW hPd k (by omega)) (cwV 1 hts gX7_nail_X1_isPerson rfl rfl rfl (by decide +kernel) ⟨Nat.le_of_ble_eq_true rfl, Nat.le_of_ble_eq_true rfl⟩) hK (va_recv hK hP (ci := 0) (q0 := 1) rfl rfl) rfl hl.1 rfl (Nat.le_of_ble_eq_true rfl) dX7_nail_5 ⟨Nat.zero_le _, Nat.zero_le _⟩ ?_
  refine o_ifb_eq (tgt := 18) hx hb dX7_nail_8 (by decide) (fun c8 => ?_) (fun c8 => ?_)
  · refine lv_iconst (v := (-1)) hx hb dX7_nail_18 (by decide +kernel) ?_
    exact o_endI hx hb hr hlocks dX7_nail_19 rfl
  · refine lv_iload_n hx hb dX7_nail_11 rfl (lv_at hl 2 rfl) ?_
    refine o_SI (As := [.int (nI w)]) (rest := []) ⟨hx, hb, hml, hown, hts⟩ (kX7_isWord l G cy w (by omega)) (va_cwS 1 hts gX7_nail_X7_isWord rfl rfl rfl (by decide +kernel) ⟨Nat.le_of_ble_eq_true rfl, Nat.le_of_ble_eq_true rfl⟩) hK rfl hl.1 rfl (Nat.le_of_ble_eq_true rfl) dX7_nail_12 ⟨Nat.zero_le _, Nat.zero_le _⟩ ?_
    refine o_ifb_ne (tgt := 20) hx hb dX7_nail_15 (by decide) (fun c15 => ?_) (fun c15 => ?_)
    · exact absurd ⟨c8, c15⟩ hu
    · refine lv_iconst (v := (-1)) hx hb dX7_nail_18 (by decide +kernel) ?_
      exact o_endI hx hb hr hlocks dX7_nail_19 rfl

set_option maxHeartbeats 4000000 in
set_option maxRecDepth 100000 in
theorem kX7_nail_b (l : Launch) (G : va_G) (cy : Nat → ClassId) {H0 : Heap} {z : Nat} {q h x r y : Nat → Nat} {M : MT} (hW : WB M) (hP : va_P G vwCl ([oSy z q h x r y] ++ wDo cy q M) H0) (k w : Nat) (b c0 : Int32) (hk : k < mP M) (hw : w < 16) (hb0 : ¬ (frB b 3296329728 1148846080 = true ∧ frB c0 1036831949 1092616192 = true)) : MetI l yX7_nail wsX7_nail 4 87 [.ref z, .int (nI k), .int (nI w), .int b, .int c0] H0 G cy ((-2)) := by
  refine Met.ofW (cc := cX7_nail) (maxL := 5) (ret := (some .int)) (by decide) rfl ?_
  intro p e s m args below meth c s₁ B hml hv
  obtain ⟨rfl, hH, hK⟩ := hv
  subst hH
  have hx := B.exec
  have hb := B.bytes
  have hr := B.returns
  have hts := atoms_spec (ws := wsX7_nail) B.pre
  have hown : s.vm.findClass RX7 = some m.cls := findClass_of_methodNamed B.named
  have hlocks := B.notSynchronized
  have hl := lv_entry ([.ref z, .int (nI k), .int (nI w), .int b, .int c0]) (n := 5) (Nat.le_of_ble_eq_true rfl)
  rw [lg_entry_eq]
  generalize (lg_sl ([.ref z, .int (nI k), .int (nI w), .int b, .int c0]) ++ List.replicate (5 - (lg_sl ([.ref z, .int (nI k), .int (nI w), .int b, .int c0])).length) Slot.unset).toArray = ls at hl ⊢
  have hl : lv_has ls 5 [(0, .ref z), (1, .int (nI k)), (2, .int (nI w)), (3, .int b), (4, .int c0)] := hl
  obtain ⟨bP, bN, bR, bO, bW, bL, bF⟩ := id hW
  have hPd := hP.sub (ws' := wDo cy q M) [1, 2, 3, 4, 5, 6, 7, 8, 9] rfl
  refine lv_aload_n hx hb dX7_nail_0 rfl (lv_at hl 0 rfl) ?_
  refine va_get (D := G) (ci := 6) (v := .ref (q 0)) (C := RX7) (T := TX7) (N := 9) hx hb hts iX7_nail_X7 hown hK hP 0 rfl rfl 0 (by decide) (hts (.fieldLink RX7 10 "NailedOrders" "door" "LNailedOrders$Door;") (by decide +kernel)) (fun _ h9 => h9) rfl dX7_nail_1 ?_
  refine lv_iload_n hx hb dX7_nail_4 rfl (lv_at hl 1 rfl) ?_
  refine o_VI (As := [.int (nI k)]) (rest := []) ⟨hx, hb, hml, hown, hts⟩ (kX1_isPerson l G cy hW hPd k (by omega)) (cwV 1 hts gX7_nail_X1_isPerson rfl rfl rfl (by decide +kernel) ⟨Nat.le_of_ble_eq_true rfl, Nat.le_of_ble_eq_true rfl⟩) hK (va_recv hK hP (ci := 0) (q0 := 1) rfl rfl) rfl hl.1 rfl (Nat.le_of_ble_eq_true rfl) dX7_nail_5 ⟨Nat.zero_le _, Nat.zero_le _⟩ ?_
  refine o_ifb_eq (tgt := 18) hx hb dX7_nail_8 (by decide) (fun c8 => ?_) (fun c8 => ?_)
  · exact absurd hk c8
  · refine lv_iload_n hx hb dX7_nail_11 rfl (lv_at hl 2 rfl) ?_
    refine o_SI (As := [.int (nI w)]) (rest := []) ⟨hx, hb, hml, hown, hts⟩ (kX7_isWord l G cy w (by omega)) (va_cwS 1 hts gX7_nail_X7_isWord rfl rfl rfl (by decide +kernel) ⟨Nat.le_of_ble_eq_true rfl, Nat.le_of_ble_eq_true rfl⟩) hK rfl hl.1 rfl (Nat.le_of_ble_eq_true rfl) dX7_nail_12 ⟨Nat.zero_le _, Nat.zero_le _⟩ ?_
    refine o_ifb_ne (tgt := 20) hx hb dX7_nail_15 (by decide) (fun c15 => ?_) (fun c15 => ?_)
    · refine lv_iload_n hx hb dX7_nail_20 rfl (lv_at hl 3 rfl) ?_
      refine o_SI (As := [.int b]) (rest := []) ⟨hx, hb, hml, hown, hts⟩ (kX0_areNumber l G cy b) (va_cwS 1 hts gX7_nail_X0_areNumber rfl rfl rfl (by decide +kernel) ⟨Nat.le_of_ble_eq_true rfl, Nat.le_of_ble_eq_true rfl⟩) hK rfl hl.1 rfl (Nat.le_of_ble_eq_true rfl) dX7_nail_21 ⟨Nat.zero_le _, Nat.zero_le _⟩ ?_
      refine o_ifb_eq (tgt := 35) hx hb dX7_nail_24 (by decide) (fun c24 => ?_) (fun c24 => ?_)
      · refine lv_bipush (v := (-2)) hx hb dX7_nail_35 (by decide +kernel) ?_
        exact o_endI hx hb hr hlocks dX7_nail_37 rfl
      · refine lv_iload hx hb dX7_nail_27 (lv_at hl 4 rfl) ?_
        refine o_SI (As := [.int c0]) (rest := []) ⟨hx, hb, hml, hown, hts⟩ (kX0_areStrength l G cy c0) (va_cwS 1 hts gX7_nail_X0_areStrength rfl rfl rfl (by decide +kernel) ⟨Nat.le_of_ble_eq_true rfl, Nat.le_of_ble_eq_true rfl⟩) hK rfl hl.1 rfl (Nat.le_of_ble_eq_true rfl) dX7_nail_29 ⟨Nat.zero_le _, Nat.zero_le _⟩ ?_
        refine o_ifb_ne (tgt := 38) hx hb dX7_nail_32 (by decide) (fun c32 => ?_) (fun c32 => ?_)
        · exact absurd ⟨c24, c32⟩ hb0
        · refine lv_bipush (v := (-2)) hx hb dX7_nail_35 (by decide +kernel) ?_
          exact o_endI hx hb hr hlocks dX7_nail_37 rfl
    · exact absurd hw c15

set_option maxRecDepth 100000 in
theorem iX7_nailLink_X7 : ∀ w ∈ u_ws RX7 TX7 9, w ∈ wsX7_nailLink := by decide +kernel
set_option maxHeartbeats 4000000 in
set_option maxRecDepth 100000 in
theorem kX7_nailLink_u (l : Launch) (G : va_G) (cy : Nat → ClassId) {H0 : Heap} {z : Nat} {q h x r y : Nat → Nat} {M : MT} (hW : WB M) (hP : va_P G vwCl ([oSy z q h x r y] ++ wDo cy q M) H0) (k w o : Nat) (b1 b2 b3 : Int32) (hk2 : k < 2 ^ 31) (hw2 : w < 2 ^ 31) (ho2 : o < 2 ^ 31) (hu : ¬ (k < mP M ∧ w < 16 ∧ o < 16)) : MetI l yX7_nailLink wsX7_nailLink 1 21 [.ref z, .int (nI k), .int (nI w), .int (nI o), .int b1, .int b2, .int b3] H0 G cy ((-1)) := by
  refine Met.ofW (cc := cX7_nailLink) (maxL := 7) (ret := (some .int)) (by decide) rfl ?_
  intro p e s m args below meth c s₁ B hml hv
  obtain ⟨rfl, hH, hK⟩ := hv
  subst hH
  have hx := B.exec
  have hb := B.bytes
  have hr := B.returns
  have hts := atoms_spec (ws := wsX7_nailLink) B.pre
  have hown : s.vm.findClass RX7 = some m.cls := findClass_of_methodNamed B.named
  have hlocks := B.notSynchronized
  have hl := lv_entry ([.ref z, .int (nI k), .int (nI w), .int (nI o), .int b1, .int b2, .int b3]) (n := 7) (Nat.le_of_ble_eq_true rfl)
  rw [lg_entry_eq]
  generalize (lg_sl ([.ref z, .int (nI k), .int (nI w), .int (nI o), .int b1, .int b2, .int b3]) ++ List.replicate (7 - (lg_sl ([.ref z, .int (nI k), .int (nI w), .int (nI o), .int b1, .int b2, .int b3])).length) Slot.unset).toArray = ls at hl ⊢
  have hl : lv_has ls 7 [(0, .ref z), (1, .int (nI k)), (2, .int (nI w)), (3, .int (nI o)), (4, .int b1), (5, .int b2), (6, .int b3)] := hl
  obtain ⟨bP, bN, bR, bO, bW, bL, bF⟩ := id hW
  have hPd := hP.sub (ws' := wDo cy q M) [1, 2, 3, 4, 5, 6, 7, 8, 9] rfl
  refine lv_aload_n hx hb dX7_nailLink_0 rfl (lv_at hl 0 rfl) ?_
  refine va_get (D := G) (ci := 6) (v := .ref (q 0)) (C := RX7) (T := TX7) (N := 9) hx hb hts iX7_nailLink_X7 hown hK hP 0 rfl rfl 0 (by decide) (hts (.fieldLink RX7 10 "NailedOrders" "door" "LNailedOrders$Door;") (by decide +kernel)) (fun _ h9 => h9) rfl dX7_nailLink_1 ?_
  refine lv_iload_n hx hb dX7_nailLink_4 rfl (lv_at hl 1 rfl) ?_
  refine o_VI (As := [.int (nI k)]) (rest := []) ⟨hx, hb, hml, hown, hts⟩ (kX1_isPerson l G cy hW hPd k (by omega)) (cwV 1 hts gX7_nailLink_X1_isPerson rfl rfl rfl (by decide +kernel) ⟨Nat.le_of_ble_eq_true rfl, Nat.le_of_ble_eq_true rfl⟩) hK (va_recv hK hP (ci := 0) (q0 := 1) rfl rfl) rfl hl.1 rfl (Nat.le_of_ble_eq_true rfl) dX7_nailLink_5 ⟨Nat.zero_le _, Nat.zero_le _⟩ ?_
  refine o_ifb_eq (tgt := 25) hx hb dX7_nailLink_8 (by decide) (fun c8 => ?_) (fun c8 => ?_)
  · refine lv_iconst (v := (-1)) hx hb dX7_nailLink_25 (by decide +kernel) ?_
    exact o_endI hx hb hr hlocks dX7_nailLink_26 rfl
  · refine lv_iload_n hx hb dX7_nailLink_11 rfl (lv_at hl 2 rfl) ?_
    refine o_SI (As := [.int (nI w)]) (rest := []) ⟨hx, hb, hml, hown, hts⟩ (kX7_isWord l G cy w (by omega)) (va_cwS 1 hts gX7_nailLink_X7_isWord rfl rfl rfl (by decide +kernel) ⟨Nat.le_of_ble_eq_true rfl, Nat.le_of_ble_eq_true rfl⟩) hK rfl hl.1 rfl (Nat.le_of_ble_eq_true rfl) dX7_nailLink_12 ⟨Nat.zero_le _, Nat.zero_le _⟩ ?_
    refine o_ifb_eq (tgt := 25) hx hb dX7_nailLink_15 (by decide) (fun c15 => ?_) (fun c15 => ?_)
    · refine lv_iconst (v := (-1)) hx hb dX7_nailLink_25 (by decide +kernel) ?_
      exact o_endI hx hb hr hlocks dX7_nailLink_26 rfl
    · refine lv_iload_n hx hb dX7_nailLink_18 rfl (lv_at hl 3 rfl) ?_
      refine o_SI (As := [.int (nI o)]) (rest := []) ⟨hx, hb, hml, hown, hts⟩ (kX7_isWord l G cy o (by omega)) (va_cwS 1 hts gX7_nailLink_X7_isWord rfl rfl rfl (by decide +kernel) ⟨Nat.le_of_ble_eq_true rfl, Nat.le_of_ble_eq_true rfl⟩) hK rfl hl.1 rfl (Nat.le_of_ble_eq_true rfl) dX7_nailLink_19 ⟨Nat.zero_le _, Nat.zero_le _⟩ ?_
      refine o_ifb_ne (tgt := 27) hx hb dX7_nailLink_22 (by decide) (fun c22 => ?_) (fun c22 => ?_)
      · exact absurd ⟨c8, c15, c22⟩ hu
      · refine lv_iconst (v := (-1)) hx hb dX7_nailLink_25 (by decide +kernel) ?_
        exact o_endI hx hb hr hlocks dX7_nailLink_26 rfl

set_option maxHeartbeats 4000000 in
set_option maxRecDepth 100000 in
theorem kX7_nailLink_b (l : Launch) (G : va_G) (cy : Nat → ClassId) {H0 : Heap} {z : Nat} {q h x r y : Nat → Nat} {M : MT} (hW : WB M) (hP : va_P G vwCl ([oSy z q h x r y] ++ wDo cy q M) H0) (k w o : Nat) (b1 b2 b3 : Int32) (hk : k < mP M) (hw : w < 16) (ho : o < 16) (he : w = o) : MetI l yX7_nailLink wsX7_nailLink 4 87 [.ref z, .int (nI k), .int (nI w), .int (nI o), .int b1, .int b2, .int b3] H0 G cy ((-2)) := by
  refine Met.ofW (cc := cX7_nailLink) (maxL := 7) (ret := (some .int)) (by decide) rfl ?_
  intro p e s m args below meth c s₁ B hml hv
  obtain ⟨rfl, hH, hK⟩ := hv
  subst hH
  have hx := B.exec
  have hb := B.bytes
  have hr := B.returns
  have hts := atoms_spec (ws := wsX7_nailLink) B.pre
  have hown : s.vm.findClass RX7 = some m.cls := findClass_of_methodNamed B.named
  have hlocks := B.notSynchronized
  have hl := lv_entry ([.ref z, .int (nI k), .int (nI w), .int (nI o), .int b1, .int b2, .int b3]) (n := 7) (Nat.le_of_ble_eq_true rfl)
  rw [lg_entry_eq]
  generalize (lg_sl ([.ref z, .int (nI k), .int (nI w), .int (nI o), .int b1, .int b2, .int b3]) ++ List.replicate (7 - (lg_sl ([.ref z, .int (nI k), .int (nI w), .int (nI o), .int b1, .int b2, .int b3])).length) Slot.unset).toArray = ls at hl ⊢
  have hl : lv_has ls 7 [(0, .ref z), (1, .int (nI k)), (2, .int (nI w)), (3, .int (nI o)), (4, .int b1), (5, .int b2), (6, .int b3)] := hl
  obtain ⟨bP, bN, bR, bO, bW, bL, bF⟩ := id hW
  have hPd := hP.sub (ws' := wDo cy q M) [1, 2, 3, 4, 5, 6, 7, 8, 9] rfl
  refine lv_aload_n hx hb dX7_nailLink_0 rfl (lv_at hl 0 rfl) ?_
  refine va_get (D := G) (ci := 6) (v := .ref (q 0)) (C := RX7) (T := TX7) (N := 9) hx hb hts iX7_nailLink_X7 hown hK hP 0 rfl rfl 0 (by decide) (hts (.fieldLink RX7 10 "NailedOrders" "door" "LNailedOrders$Door;") (by decide +kernel)) (fun _ h9 => h9) rfl dX7_nailLink_1 ?_
  refine lv_iload_n hx hb dX7_nailLink_4 rfl (lv_at hl 1 rfl) ?_
  refine o_VI (As := [.int (nI k)]) (rest := []) ⟨hx, hb, hml, hown, hts⟩ (kX1_isPerson l G cy hW hPd k (by omega)) (cwV 1 hts gX7_nailLink_X1_isPerson rfl rfl rfl (by decide +kernel) ⟨Nat.le_of_ble_eq_true rfl, Nat.le_of_ble_eq_true rfl⟩) hK (va_recv hK hP (ci := 0) (q0 := 1) rfl rfl) rfl hl.1 rfl (Nat.le_of_ble_eq_true rfl) dX7_nailLink_5 ⟨Nat.zero_le _, Nat.zero_le _⟩ ?_
  refine o_ifb_eq (tgt := 25) hx hb dX7_nailLink_8 (by decide) (fun c8 => ?_) (fun c8 => ?_)
  · exact absurd hk c8
  · refine lv_iload_n hx hb dX7_nailLink_11 rfl (lv_at hl 2 rfl) ?_
    refine o_SI (As := [.int (nI w)]) (rest := []) ⟨hx, hb, hml, hown, hts⟩ (kX7_isWord l G cy w (by omega)) (va_cwS 1 hts gX7_nailLink_X7_isWord rfl rfl rfl (by decide +kernel) ⟨Nat.le_of_ble_eq_true rfl, Nat.le_of_ble_eq_true rfl⟩) hK rfl hl.1 rfl (Nat.le_of_ble_eq_true rfl) dX7_nailLink_12 ⟨Nat.zero_le _, Nat.zero_le _⟩ ?_
    refine o_ifb_eq (tgt := 25) hx hb dX7_nailLink_15 (by decide) (fun c15 => ?_) (fun c15 => ?_)
    · exact absurd hw c15
    · refine lv_iload_n hx hb dX7_nailLink_18 rfl (lv_at hl 3 rfl) ?_
      refine o_SI (As := [.int (nI o)]) (rest := []) ⟨hx, hb, hml, hown, hts⟩ (kX7_isWord l G cy o (by omega)) (va_cwS 1 hts gX7_nailLink_X7_isWord rfl rfl rfl (by decide +kernel) ⟨Nat.le_of_ble_eq_true rfl, Nat.le_of_ble_eq_true rfl⟩) hK rfl hl.1 rfl (Nat.le_of_ble_eq_true rfl) dX7_nailLink_19 ⟨Nat.zero_le _, Nat.zero_le _⟩ ?_
      refine o_ifb_ne (tgt := 27) hx hb dX7_nailLink_22 (by decide) (fun c22 => ?_) (fun c22 => ?_)
      · refine lv_iload hx hb dX7_nailLink_27 (lv_at hl 4 rfl) ?_
        refine o_SI (As := [.int b1]) (rest := []) ⟨hx, hb, hml, hown, hts⟩ (kX0_areNumber l G cy b1) (va_cwS 1 hts gX7_nailLink_X0_areNumber rfl rfl rfl (by decide +kernel) ⟨Nat.le_of_ble_eq_true rfl, Nat.le_of_ble_eq_true rfl⟩) hK rfl hl.1 rfl (Nat.le_of_ble_eq_true rfl) dX7_nailLink_29 ⟨Nat.zero_le _, Nat.zero_le _⟩ ?_
        refine o_ifb_eq (tgt := 56) hx hb dX7_nailLink_32 (by decide) (fun c32 => ?_) (fun c32 => ?_)
        · refine lv_bipush (v := (-2)) hx hb dX7_nailLink_56 (by decide +kernel) ?_
          exact o_endI hx hb hr hlocks dX7_nailLink_58 rfl
        · refine lv_iload hx hb dX7_nailLink_35 (lv_at hl 5 rfl) ?_
          refine o_SI (As := [.int b2]) (rest := []) ⟨hx, hb, hml, hown, hts⟩ (kX0_areNumber l G cy b2) (va_cwS 1 hts gX7_nailLink_X0_areNumber rfl rfl rfl (by decide +kernel) ⟨Nat.le_of_ble_eq_true rfl, Nat.le_of_ble_eq_true rfl⟩) hK rfl hl.1 rfl (Nat.le_of_ble_eq_true rfl) dX7_nailLink_37 ⟨Nat.zero_le _, Nat.zero_le _⟩ ?_
          refine o_ifb_eq (tgt := 56) hx hb dX7_nailLink_40 (by decide) (fun c40 => ?_) (fun c40 => ?_)
          · refine lv_bipush (v := (-2)) hx hb dX7_nailLink_56 (by decide +kernel) ?_
            exact o_endI hx hb hr hlocks dX7_nailLink_58 rfl
          · refine lv_iload hx hb dX7_nailLink_43 (lv_at hl 6 rfl) ?_
            refine o_SI (As := [.int b3]) (rest := []) ⟨hx, hb, hml, hown, hts⟩ (kX0_areStrength l G cy b3) (va_cwS 1 hts gX7_nailLink_X0_areStrength rfl rfl rfl (by decide +kernel) ⟨Nat.le_of_ble_eq_true rfl, Nat.le_of_ble_eq_true rfl⟩) hK rfl hl.1 rfl (Nat.le_of_ble_eq_true rfl) dX7_nailLink_45 ⟨Nat.zero_le _, Nat.zero_le _⟩ ?_
            refine o_ifb_eq (tgt := 56) hx hb dX7_nailLink_48 (by decide) (fun c48 => ?_) (fun c48 => ?_)
            · refine lv_bipush (v := (-2)) hx hb dX7_nailLink_56 (by decide +kernel) ?_
              exact o_endI hx hb hr hlocks dX7_nailLink_58 rfl
            · refine lv_iload_n hx hb dX7_nailLink_51 rfl (lv_at hl 2 rfl) ?_
              refine lv_iload_n hx hb dX7_nailLink_52 rfl (lv_at hl 3 rfl) ?_
              refine o_icmp_ne (tgt := 59) hx hb dX7_nailLink_53 (by decide) (by omega) (by omega) (fun c53 => ?_) (fun c53 => ?_)
              · exact absurd he c53
              · refine lv_bipush (v := (-2)) hx hb dX7_nailLink_56 (by decide +kernel) ?_
                exact o_endI hx hb hr hlocks dX7_nailLink_58 rfl
      · exact absurd ho c22

set_option maxRecDepth 100000 in
theorem iX7_tear_X7 : ∀ w ∈ u_ws RX7 TX7 9, w ∈ wsX7_tear := by decide +kernel
set_option maxHeartbeats 4000000 in
set_option maxRecDepth 100000 in
theorem kX7_tear_u (l : Launch) (G : va_G) (cy : Nat → ClassId) {H0 : Heap} {z : Nat} {q h x r y : Nat → Nat} {M : MT} (hW : WB M) (hP : va_P G vwCl ([oSy z q h x r y] ++ wDo cy q M) H0) (k : Nat) (hk : ¬ k < mN M) (hk2 : k < 2 ^ 31) : MetI l yX7_tear wsX7_tear 1 21 [.ref z, .int (nI k)] H0 G cy ((-1)) := by
  refine Met.ofW (cc := cX7_tear) (maxL := 2) (ret := (some .int)) (by decide) rfl ?_
  intro p e s m args below meth c s₁ B hml hv
  obtain ⟨rfl, hH, hK⟩ := hv
  subst hH
  have hx := B.exec
  have hb := B.bytes
  have hr := B.returns
  have hts := atoms_spec (ws := wsX7_tear) B.pre
  have hown : s.vm.findClass RX7 = some m.cls := findClass_of_methodNamed B.named
  have hlocks := B.notSynchronized
  have hl := lv_entry ([.ref z, .int (nI k)]) (n := 2) (Nat.le_of_ble_eq_true rfl)
  rw [lg_entry_eq]
  generalize (lg_sl ([.ref z, .int (nI k)]) ++ List.replicate (2 - (lg_sl ([.ref z, .int (nI k)])).length) Slot.unset).toArray = ls at hl ⊢
  have hl : lv_has ls 2 [(0, .ref z), (1, .int (nI k))] := hl
  obtain ⟨bP, bN, bR, bO, bW, bL, bF⟩ := id hW
  have hPd := hP.sub (ws' := wDo cy q M) [1, 2, 3, 4, 5, 6, 7, 8, 9] rfl
  refine lv_aload_n hx hb dX7_tear_0 rfl (lv_at hl 0 rfl) ?_
  refine va_get (D := G) (ci := 6) (v := .ref (q 0)) (C := RX7) (T := TX7) (N := 9) hx hb hts iX7_tear_X7 hown hK hP 0 rfl rfl 0 (by decide) (hts (.fieldLink RX7 10 "NailedOrders" "door" "LNailedOrders$Door;") (by decide +kernel)) (fun _ h9 => h9) rfl dX7_tear_1 ?_
  refine lv_iload_n hx hb dX7_tear_4 rfl (lv_at hl 1 rfl) ?_
  refine o_VI (As := [.int (nI k)]) (rest := []) ⟨hx, hb, hml, hown, hts⟩ (kX1_isOrder l G cy hW hPd k (by omega)) (cwV 1 hts gX7_tear_X1_isOrder rfl rfl rfl (by decide +kernel) ⟨Nat.le_of_ble_eq_true rfl, Nat.le_of_ble_eq_true rfl⟩) hK (va_recv hK hP (ci := 0) (q0 := 1) rfl rfl) rfl hl.1 rfl (Nat.le_of_ble_eq_true rfl) dX7_tear_5 ⟨Nat.zero_le _, Nat.zero_le _⟩ ?_
  refine o_ifb_ne (tgt := 13) hx hb dX7_tear_8 (by decide) (fun c8 => ?_) (fun c8 => ?_)
  · exact absurd c8 hk
  · refine lv_iconst (v := (-1)) hx hb dX7_tear_11 (by decide +kernel) ?_
    exact o_endI hx hb hr hlocks dX7_tear_12 rfl

set_option maxHeartbeats 4000000 in
set_option maxRecDepth 100000 in
theorem kX7_tear_n (l : Launch) (G : va_G) (cy : Nat → ClassId) {H0 : Heap} {z : Nat} {q h x r y : Nat → Nat} {M : MT} (hW : WB M) (hP : va_P G vwCl ([oSy z q h x r y] ++ wDo cy q M) H0) (k : Nat) (hk : k < mN M) (hh : ¬ mF M k = 1) : MetI l yX7_tear wsX7_tear 1 21 [.ref z, .int (nI k)] H0 G cy ((-5)) := by
  refine Met.ofW (cc := cX7_tear) (maxL := 2) (ret := (some .int)) (by decide) rfl ?_
  intro p e s m args below meth c s₁ B hml hv
  obtain ⟨rfl, hH, hK⟩ := hv
  subst hH
  have hx := B.exec
  have hb := B.bytes
  have hr := B.returns
  have hts := atoms_spec (ws := wsX7_tear) B.pre
  have hown : s.vm.findClass RX7 = some m.cls := findClass_of_methodNamed B.named
  have hlocks := B.notSynchronized
  have hl := lv_entry ([.ref z, .int (nI k)]) (n := 2) (Nat.le_of_ble_eq_true rfl)
  rw [lg_entry_eq]
  generalize (lg_sl ([.ref z, .int (nI k)]) ++ List.replicate (2 - (lg_sl ([.ref z, .int (nI k)])).length) Slot.unset).toArray = ls at hl ⊢
  have hl : lv_has ls 2 [(0, .ref z), (1, .int (nI k))] := hl
  obtain ⟨bP, bN, bR, bO, bW, bL, bF⟩ := id hW
  have hPd := hP.sub (ws' := wDo cy q M) [1, 2, 3, 4, 5, 6, 7, 8, 9] rfl
  refine lv_aload_n hx hb dX7_tear_0 rfl (lv_at hl 0 rfl) ?_
  refine va_get (D := G) (ci := 6) (v := .ref (q 0)) (C := RX7) (T := TX7) (N := 9) hx hb hts iX7_tear_X7 hown hK hP 0 rfl rfl 0 (by decide) (hts (.fieldLink RX7 10 "NailedOrders" "door" "LNailedOrders$Door;") (by decide +kernel)) (fun _ h9 => h9) rfl dX7_tear_1 ?_
  refine lv_iload_n hx hb dX7_tear_4 rfl (lv_at hl 1 rfl) ?_
  refine o_VI (As := [.int (nI k)]) (rest := []) ⟨hx, hb, hml, hown, hts⟩ (kX1_isOrder l G cy hW hPd k (by omega)) (cwV 1 hts gX7_tear_X1_isOrder rfl rfl rfl (by decide +kernel) ⟨Nat.le_of_ble_eq_true rfl, Nat.le_of_ble_eq_true rfl⟩) hK (va_recv hK hP (ci := 0) (q0 := 1) rfl rfl) rfl hl.1 rfl (Nat.le_of_ble_eq_true rfl) dX7_tear_5 ⟨Nat.zero_le _, Nat.zero_le _⟩ ?_
  refine o_ifb_ne (tgt := 13) hx hb dX7_tear_8 (by decide) (fun c8 => ?_) (fun c8 => ?_)
  · refine lv_aload_n hx hb dX7_tear_13 rfl (lv_at hl 0 rfl) ?_
    refine va_get (D := G) (ci := 6) (v := .ref (q 0)) (C := RX7) (T := TX7) (N := 9) hx hb hts iX7_tear_X7 hown hK hP 0 rfl rfl 0 (by decide) (hts (.fieldLink RX7 10 "NailedOrders" "door" "LNailedOrders$Door;") (by decide +kernel)) (fun _ h9 => h9) rfl dX7_tear_14 ?_
    refine lv_iload_n hx hb dX7_tear_17 rfl (lv_at hl 1 rfl) ?_
    refine o_VI (As := [.int (nI k)]) (rest := []) ⟨hx, hb, hml, hown, hts⟩ (kX1_hangs l G cy hW hPd k (by omega)) (cwV 1 hts gX7_tear_X1_hangs rfl rfl rfl (by decide +kernel) ⟨Nat.le_of_ble_eq_true rfl, Nat.le_of_ble_eq_true rfl⟩) hK (va_recv hK hP (ci := 0) (q0 := 1) rfl rfl) rfl hl.1 rfl (Nat.le_of_ble_eq_true rfl) dX7_tear_18 ⟨Nat.zero_le _, Nat.zero_le _⟩ ?_
    refine o_ifb_ne (tgt := 27) hx hb dX7_tear_21 (by decide) (fun c21 => ?_) (fun c21 => ?_)
    · exact absurd c21 hh
    · refine lv_bipush (v := (-5)) hx hb dX7_tear_24 (by decide +kernel) ?_
      exact o_endI hx hb hr hlocks dX7_tear_26 rfl
  · exact absurd hk c8

set_option maxRecDepth 100000 in
theorem iX7_hammer_X7 : ∀ w ∈ u_ws RX7 TX7 9, w ∈ wsX7_hammer := by decide +kernel
set_option maxHeartbeats 4000000 in
set_option maxRecDepth 100000 in
theorem kX7_hammer_u (l : Launch) (G : va_G) (cy : Nat → ClassId) {H0 : Heap} {z : Nat} {q h x r y : Nat → Nat} {M : MT} (hW : WB M) (hP : va_P G vwCl ([oSy z q h x r y] ++ wDo cy q M) H0) (k : Nat) (hk : ¬ k < mN M) (hk2 : k < 2 ^ 31) : MetI l yX7_hammer wsX7_hammer 1 21 [.ref z, .int (nI k)] H0 G cy ((-1)) := by
  refine Met.ofW (cc := cX7_hammer) (maxL := 3) (ret := (some .int)) (by decide) rfl ?_
  intro p e s m args below meth c s₁ B hml hv
  obtain ⟨rfl, hH, hK⟩ := hv
  subst hH
  have hx := B.exec
  have hb := B.bytes
  have hr := B.returns
  have hts := atoms_spec (ws := wsX7_hammer) B.pre
  have hown : s.vm.findClass RX7 = some m.cls := findClass_of_methodNamed B.named
  have hlocks := B.notSynchronized
  have hl := lv_entry ([.ref z, .int (nI k)]) (n := 3) (Nat.le_of_ble_eq_true rfl)
  rw [lg_entry_eq]
  generalize (lg_sl ([.ref z, .int (nI k)]) ++ List.replicate (3 - (lg_sl ([.ref z, .int (nI k)])).length) Slot.unset).toArray = ls at hl ⊢
  have hl : lv_has ls 3 [(0, .ref z), (1, .int (nI k))] := hl
  obtain ⟨bP, bN, bR, bO, bW, bL, bF⟩ := id hW
  have hPd := hP.sub (ws' := wDo cy q M) [1, 2, 3, 4, 5, 6, 7, 8, 9] rfl
  refine lv_aload_n hx hb dX7_hammer_0 rfl (lv_at hl 0 rfl) ?_
  refine va_get (D := G) (ci := 6) (v := .ref (q 0)) (C := RX7) (T := TX7) (N := 9) hx hb hts iX7_hammer_X7 hown hK hP 0 rfl rfl 0 (by decide) (hts (.fieldLink RX7 10 "NailedOrders" "door" "LNailedOrders$Door;") (by decide +kernel)) (fun _ h9 => h9) rfl dX7_hammer_1 ?_
  refine lv_iload_n hx hb dX7_hammer_4 rfl (lv_at hl 1 rfl) ?_
  refine o_VI (As := [.int (nI k)]) (rest := []) ⟨hx, hb, hml, hown, hts⟩ (kX1_isOrder l G cy hW hPd k (by omega)) (cwV 1 hts gX7_hammer_X1_isOrder rfl rfl rfl (by decide +kernel) ⟨Nat.le_of_ble_eq_true rfl, Nat.le_of_ble_eq_true rfl⟩) hK (va_recv hK hP (ci := 0) (q0 := 1) rfl rfl) rfl hl.1 rfl (Nat.le_of_ble_eq_true rfl) dX7_hammer_5 ⟨Nat.zero_le _, Nat.zero_le _⟩ ?_
  refine o_ifb_ne (tgt := 13) hx hb dX7_hammer_8 (by decide) (fun c8 => ?_) (fun c8 => ?_)
  · exact absurd c8 hk
  · refine lv_iconst (v := (-1)) hx hb dX7_hammer_11 (by decide +kernel) ?_
    exact o_endI hx hb hr hlocks dX7_hammer_12 rfl

set_option maxHeartbeats 4000000 in
set_option maxRecDepth 100000 in
theorem kX7_hammer_n (l : Launch) (G : va_G) (cy : Nat → ClassId) {H0 : Heap} {z : Nat} {q h x r y : Nat → Nat} {M : MT} (hW : WB M) (hP : va_P G vwCl ([oSy z q h x r y] ++ wDo cy q M) H0) (k : Nat) (hk : k < mN M) (hh : ¬ mF M k = 1) : MetI l yX7_hammer wsX7_hammer 1 21 [.ref z, .int (nI k)] H0 G cy ((-4)) := by
  refine Met.ofW (cc := cX7_hammer) (maxL := 3) (ret := (some .int)) (by decide) rfl ?_
  intro p e s m args below meth c s₁ B hml hv
  obtain ⟨rfl, hH, hK⟩ := hv
  subst hH
  have hx := B.exec
  have hb := B.bytes
  have hr := B.returns
  have hts := atoms_spec (ws := wsX7_hammer) B.pre
  have hown : s.vm.findClass RX7 = some m.cls := findClass_of_methodNamed B.named
  have hlocks := B.notSynchronized
  have hl := lv_entry ([.ref z, .int (nI k)]) (n := 3) (Nat.le_of_ble_eq_true rfl)
  rw [lg_entry_eq]
  generalize (lg_sl ([.ref z, .int (nI k)]) ++ List.replicate (3 - (lg_sl ([.ref z, .int (nI k)])).length) Slot.unset).toArray = ls at hl ⊢
  have hl : lv_has ls 3 [(0, .ref z), (1, .int (nI k))] := hl
  obtain ⟨bP, bN, bR, bO, bW, bL, bF⟩ := id hW
  have hPd := hP.sub (ws' := wDo cy q M) [1, 2, 3, 4, 5, 6, 7, 8, 9] rfl
  refine lv_aload_n hx hb dX7_hammer_0 rfl (lv_at hl 0 rfl) ?_
  refine va_get (D := G) (ci := 6) (v := .ref (q 0)) (C := RX7) (T := TX7) (N := 9) hx hb hts iX7_hammer_X7 hown hK hP 0 rfl rfl 0 (by decide) (hts (.fieldLink RX7 10 "NailedOrders" "door" "LNailedOrders$Door;") (by decide +kernel)) (fun _ h9 => h9) rfl dX7_hammer_1 ?_
  refine lv_iload_n hx hb dX7_hammer_4 rfl (lv_at hl 1 rfl) ?_
  refine o_VI (As := [.int (nI k)]) (rest := []) ⟨hx, hb, hml, hown, hts⟩ (kX1_isOrder l G cy hW hPd k (by omega)) (cwV 1 hts gX7_hammer_X1_isOrder rfl rfl rfl (by decide +kernel) ⟨Nat.le_of_ble_eq_true rfl, Nat.le_of_ble_eq_true rfl⟩) hK (va_recv hK hP (ci := 0) (q0 := 1) rfl rfl) rfl hl.1 rfl (Nat.le_of_ble_eq_true rfl) dX7_hammer_5 ⟨Nat.zero_le _, Nat.zero_le _⟩ ?_
  refine o_ifb_ne (tgt := 13) hx hb dX7_hammer_8 (by decide) (fun c8 => ?_) (fun c8 => ?_)
  · refine lv_aload_n hx hb dX7_hammer_13 rfl (lv_at hl 0 rfl) ?_
    refine va_get (D := G) (ci := 6) (v := .ref (q 0)) (C := RX7) (T := TX7) (N := 9) hx hb hts iX7_hammer_X7 hown hK hP 0 rfl rfl 0 (by decide) (hts (.fieldLink RX7 10 "NailedOrders" "door" "LNailedOrders$Door;") (by decide +kernel)) (fun _ h9 => h9) rfl dX7_hammer_14 ?_
    refine lv_iload_n hx hb dX7_hammer_17 rfl (lv_at hl 1 rfl) ?_
    refine o_VI (As := [.int (nI k)]) (rest := []) ⟨hx, hb, hml, hown, hts⟩ (kX1_hangs l G cy hW hPd k (by omega)) (cwV 1 hts gX7_hammer_X1_hangs rfl rfl rfl (by decide +kernel) ⟨Nat.le_of_ble_eq_true rfl, Nat.le_of_ble_eq_true rfl⟩) hK (va_recv hK hP (ci := 0) (q0 := 1) rfl rfl) rfl hl.1 rfl (Nat.le_of_ble_eq_true rfl) dX7_hammer_18 ⟨Nat.zero_le _, Nat.zero_le _⟩ ?_
    refine o_ifb_ne (tgt := 27) hx hb dX7_hammer_21 (by decide) (fun c21 => ?_) (fun c21 => ?_)
    · exact absurd c21 hh
    · refine lv_bipush (v := (-4)) hx hb dX7_hammer_24 (by decide +kernel) ?_
      exact o_endI hx hb hr hlocks dX7_hammer_26 rfl
  · exact absurd hk c8

set_option maxRecDepth 100000 in
theorem iX7_storm_X7 : ∀ w ∈ u_ws RX7 TX7 9, w ∈ wsX7_storm := by decide +kernel
set_option maxHeartbeats 4000000 in
set_option maxRecDepth 100000 in
theorem kX7_storm_b (l : Launch) (G : va_G) (cy : Nat → ClassId) {H0 : Heap} {z : Nat} {q h x r y : Nat → Nat} {M : MT} (hW : WB M) (hP : va_P G vwCl ([oSy z q h x r y] ++ wDo cy q M) H0) (b : Int32) (hb0 : ¬ frB b 1036831949 1092616192 = true) : MetI l yX7_storm wsX7_storm 4 87 [.ref z, .int b] H0 G cy ((-2)) := by
  refine Met.ofW (cc := cX7_storm) (maxL := 2) (ret := (some .int)) (by decide) rfl ?_
  intro p e s m args below meth c s₁ B hml hv
  obtain ⟨rfl, hH, hK⟩ := hv
  subst hH
  have hx := B.exec
  have hb := B.bytes
  have hr := B.returns
  have hts := atoms_spec (ws := wsX7_storm) B.pre
  have hown : s.vm.findClass RX7 = some m.cls := findClass_of_methodNamed B.named
  have hlocks := B.notSynchronized
  have hl := lv_entry ([.ref z, .int b]) (n := 2) (Nat.le_of_ble_eq_true rfl)
  rw [lg_entry_eq]
  generalize (lg_sl ([.ref z, .int b]) ++ List.replicate (2 - (lg_sl ([.ref z, .int b])).length) Slot.unset).toArray = ls at hl ⊢
  have hl : lv_has ls 2 [(0, .ref z), (1, .int b)] := hl
  obtain ⟨bP, bN, bR, bO, bW, bL, bF⟩ := id hW
  have hPd := hP.sub (ws' := wDo cy q M) [1, 2, 3, 4, 5, 6, 7, 8, 9] rfl
  refine lv_iload_n hx hb dX7_storm_0 rfl (lv_at hl 1 rfl) ?_
  refine o_SI (As := [.int b]) (rest := []) ⟨hx, hb, hml, hown, hts⟩ (kX0_areForce l G cy b) (va_cwS 1 hts gX7_storm_X0_areForce rfl rfl rfl (by decide +kernel) ⟨Nat.le_of_ble_eq_true rfl, Nat.le_of_ble_eq_true rfl⟩) hK rfl hl.1 rfl (Nat.le_of_ble_eq_true rfl) dX7_storm_1 ⟨Nat.zero_le _, Nat.zero_le _⟩ ?_
  refine o_ifb_ne (tgt := 10) hx hb dX7_storm_4 (by decide) (fun c4 => ?_) (fun c4 => ?_)
  · exact absurd c4 hb0
  · refine lv_bipush (v := (-2)) hx hb dX7_storm_7 (by decide +kernel) ?_
    exact o_endI hx hb hr hlocks dX7_storm_9 rfl
end
section
set_option maxRecDepth 100000 in
theorem iX7_addPerson_X1 : ∀ w ∈ u_ws RX1 TX1 13, w ∈ wsX7_addPerson := by decide +kernel
set_option maxHeartbeats 4000000 in
set_option maxRecDepth 100000 in
theorem kX7_addPerson (l : Launch) (G : va_G) (cy : Nat → ClassId) {H0 : Heap} {z : Nat} {q h x r y : Nat → Nat} {k : Nat} {d : Nat → Nat → Nat} {E : Nat → MT} {M : MT} {A0 : Nat → Prop} (hk4 : k ≤ 4) (hW : WB M) (hP : va_P G vwCl ([oSy z q h x r y] ++ (wHi cy h k d E ++ wDo cy q M)) H0) (hD0 : va_D A0 ([oSy z q h x r y] ++ (wHi cy h k d E ++ wDo cy q M))) (u : Nat) (hu : 1 ≤ u ∧ u ≤ 5) (hp : mP M < 6) : MutS l yX7_addPerson wsX7_addPerson 3 101 [.ref z, .int (nI u)] H0 G cy (nI (mP M)) h ([oSy z q h x r y] ++ (wHi cy h k d E ++ wDo cy q M)) [oSy z q h x r y] (wDo cy q (mP M + 1, mN M, mS M, mB M, mT M, va_up (mR M) (mP M) u, mO M, mW M, mL M, mF M, mA M, mU M, mH M)) := by
  refine Met.ofW (cc := cX7_addPerson) (maxL := 2) (ret := (some .int)) (by decide) rfl ?_
  intro p e s m args below meth c s₁ B hml hv
  obtain ⟨rfl, hH, hK⟩ := hv
  subst hH
  have hx := B.exec
  have hb := B.bytes
  have hr := B.returns
  have hts := atoms_spec (ws := wsX7_addPerson) B.pre
  have hown : s.vm.findClass RX7 = some m.cls := findClass_of_methodNamed B.named
  have hlocks := B.notSynchronized
  have hl := lv_entry ([.ref z, .int (nI u)]) (n := 2) (Nat.le_of_ble_eq_true rfl)
  rw [lg_entry_eq]
  generalize (lg_sl ([.ref z, .int (nI u)]) ++ List.replicate (2 - (lg_sl ([.ref z, .int (nI u)])).length) Slot.unset).toArray = ls at hl ⊢
  have hl : lv_has ls 2 [(0, .ref z), (1, .int (nI u))] := hl
  obtain ⟨bP, bN, bR, bO, bW, bL, bF⟩ := id hW
  have hPd := hP.sub (ws' := wDo cy q M) [39, 40, 41, 42, 43, 44, 45, 46, 47] rfl
  have hD := hD0.self (sz := s.heap.size)
  generalize hAe : va_A ([oSy z q h x r y] ++ (wHi cy h k d E ++ wDo cy q M)) s.heap.size = A at hD ⊢
  have hA : ∀ q : Nat, s.heap.size ≤ q → A q := fun q h => by rw [← hAe]; exact Or.inr h
  have hS : va_S A s.heap s.heap [] := va_S.rf
  refine lv_iload_n hx hb dX7_addPerson_0 rfl (lv_at hl 1 rfl) ?_
  refine o_SI (As := [.int (nI u)]) (rest := []) ⟨hx, hb, hml, hown, hts⟩ (kX7_isRank l G cy u (by omega)) (va_cwS 1 hts gX7_addPerson_X7_isRank rfl rfl rfl (by decide +kernel) ⟨Nat.le_of_ble_eq_true rfl, Nat.le_of_ble_eq_true rfl⟩) hK rfl hl.1 rfl (Nat.le_of_ble_eq_true rfl) dX7_addPerson_1 ⟨Nat.zero_le _, Nat.zero_le _⟩ ?_
  refine o_ifb_ne (tgt := 10) hx hb dX7_addPerson_4 (by decide) (fun c4 => ?_) (fun c4 => ?_)
  · refine lv_aload_n hx hb dX7_addPerson_10 rfl (lv_at hl 0 rfl) ?_
    refine va_get (D := G) (ci := 6) (v := .ref (q 0)) (C := RX7) (T := TX7) (N := 9) hx hb hts iX7_addPerson_X7 hown hK hP 0 rfl rfl 0 (by decide) (hts (.fieldLink RX7 10 "NailedOrders" "door" "LNailedOrders$Door;") (by decide +kernel)) (fun _ h9 => h9) rfl dX7_addPerson_11 ?_
    refine va_get (D := G) (ci := 0) (v := .int (nI (mP M))) (C := RX1) (T := TX1) (N := 13) hx hb hts iX7_addPerson_X1 hown hK hP 39 rfl rfl 0 (by decide) (hts (.fieldLink RX7 69 "NailedOrders$Door" "persons" "I") (by decide +kernel)) (fun _ h9 => h9) rfl dX7_addPerson_14 ?_
    refine lv_bipush (v := nI 6) hx hb dX7_addPerson_17 (by decide +kernel) ?_
    refine o_icmp_lt (tgt := 25) hx hb dX7_addPerson_19 (by decide) (by omega) (by omega) (fun c19 => ?_) (fun c19 => ?_)
    · refine lv_aload_n hx hb dX7_addPerson_25 rfl (lv_at hl 0 rfl) ?_
      refine va_get (D := G) (ci := 6) (v := .ref (h 0)) (C := RX7) (T := TX7) (N := 9) hx hb hts iX7_addPerson_X7 hown hK hP 0 rfl rfl 3 (by decide) (hts (.fieldLink RX7 26 "NailedOrders" "history" "LNailedOrders$History;") (by decide +kernel)) (fun _ h9 => h9) rfl dX7_addPerson_26 ?_
      refine lv_aload_n hx hb dX7_addPerson_29 rfl (lv_at hl 0 rfl) ?_
      refine va_get (D := G) (ci := 6) (v := .ref (q 0)) (C := RX7) (T := TX7) (N := 9) hx hb hts iX7_addPerson_X7 hown hK hP 0 rfl rfl 0 (by decide) (hts (.fieldLink RX7 10 "NailedOrders" "door" "LNailedOrders$Door;") (by decide +kernel)) (fun _ h9 => h9) rfl dX7_addPerson_30 ?_
      have hPc := hP.sub (ws' := wHi cy h k d E ++ wDo cy q M) [1, 2, 3, 4, 5, 6, 7, 8, 9, 10, 11, 12, 13, 14, 15, 16, 17, 18, 19, 20, 21, 22, 23, 24, 25, 26, 27, 28, 29, 30, 31, 32, 33, 34, 35, 36, 37, 38, 39, 40, 41, 42, 43, 44, 45, 46, 47] rfl
      have hDc := hD.sub (ws' := wHi cy h k d E ++ wDo cy q M) [1, 2, 3, 4, 5, 6, 7, 8, 9, 10, 11, 12, 13, 14, 15, 16, 17, 18, 19, 20, 21, 22, 23, 24, 25, 26, 27, 28, 29, 30, 31, 32, 33, 34, 35, 36, 37, 38, 39, 40, 41, 42, 43, 44, 45, 46, 47] (by decide) rfl
      have hFc := va_free (wc := wHi cy h k d E ++ wDo cy q M) hD hS hA [1, 2, 3, 4, 5, 6, 7, 8, 9, 10, 11, 12, 13, 14, 15, 16, 17, 18, 19, 20, 21, 22, 23, 24, 25, 26, 27, 28, 29, 30, 31, 32, 33, 34, 35, 36, 37, 38, 39, 40, 41, 42, 43, 44, 45, 46, 47] rfl
      refine va_callv (va_runV (As := [.ref (q 0)]) (rest := []) ⟨hx, hb, hml, hown, hts⟩ (kX2_record l G cy k hk4 hPc hDc) (cwV 1 hts gX7_addPerson_X2_record rfl rfl rfl (by decide +kernel) ⟨Nat.le_of_ble_eq_true rfl, Nat.le_of_ble_eq_true rfl⟩) ⟨pR_blind, va_recv hK hP (ci := 1) (q0 := 1) rfl rfl, pR_at hK⟩ rfl rfl hl.1 rfl (lv_room (Nat.le_of_ble_eq_true rfl)) dX7_addPerson_33 ⟨Nat.zero_le _, Nat.zero_le _⟩) hS (fun q _ h => hFc q h) hFc (fun u_ t_ H locs ht hvm hw hB hz1 hk1 hS => ?_)
      obtain ⟨k1, d1, E1⟩ := u_
      have hk5 : k1 ≤ 4 := hw
      have hB : va_P G vwCl (wHi cy h k1 d1 E1 ++ wDo cy q M) t_.heap ∧ va_D (va_A (wHi cy h k d E ++ wDo cy q M) _) (wHi cy h k1 d1 E1 ++ wDo cy q M) := hB
      rw [ht] at hB
      obtain ⟨hP1, hD1⟩ := hB
      obtain ⟨hP, hD⟩ := va_join (wr := [oSy z q h x r y]) hP hD [1, 2, 3, 4, 5, 6, 7, 8, 9, 10, 11, 12, 13, 14, 15, 16, 17, 18, 19, 20, 21, 22, 23, 24, 25, 26, 27, 28, 29, 30, 31, 32, 33, 34, 35, 36, 37, 38, 39, 40, 41, 42, 43, 44, 45, 46, 47] [0] rfl rfl (by decide) (by decide) hk1 hFc hP1 hD1
      refine lv_aload_n hx hb dX7_addPerson_36 rfl (lv_at hl 0 rfl) ?_
      refine va_get (D := G) (ci := 6) (v := .ref (q 0)) (C := RX7) (T := TX7) (N := 9) hx hb hts iX7_addPerson_X7 hown hK hP 0 rfl rfl 0 (by decide) (hts (.fieldLink RX7 10 "NailedOrders" "door" "LNailedOrders$Door;") (by decide +kernel)) (fun _ h9 => h9) rfl dX7_addPerson_37 ?_
      refine lv_iload_n hx hb dX7_addPerson_40 rfl (lv_at hl 1 rfl) ?_
      have hPc := hP.sub (ws' := wDo cy q M) [39, 40, 41, 42, 43, 44, 45, 46, 47] rfl
      have hDc := hD.sub (ws' := wDo cy q M) [39, 40, 41, 42, 43, 44, 45, 46, 47] (by decide) rfl
      have hFc := va_free (wc := wDo cy q M) hD hS hA [39, 40, 41, 42, 43, 44, 45, 46, 47] rfl
      refine va_calli (va_runV (As := [.int (nI u)]) (rest := []) ⟨hx, hb, hml, hown, hts⟩ (kX1_admit l G cy hW hPc hDc u hp) (cwV 1 hts gX7_addPerson_X1_admit rfl rfl rfl (by decide +kernel) ⟨Nat.le_of_ble_eq_true rfl, Nat.le_of_ble_eq_true rfl⟩) ⟨pR_blind, va_recv hK hP (ci := 0) (q0 := 39) rfl rfl, pR_at hK⟩ rfl rfl hl.1 rfl (lv_room (Nat.le_of_ble_eq_true rfl)) dX7_addPerson_41 ⟨Nat.zero_le _, Nat.zero_le _⟩) hS (fun q _ h => hFc q h) hFc (fun r_ u_ t_ H locs ht hvm hw hB hz1 hk1 hS => ?_)
      rw [ht] at hB
      have hP : va_P G vwCl ([oSy z q h x r y] ++ [(h 0, .inr (1, [.ref (h 1), .int (nI k1)])), (h 1, eR cy 4 (fun i => some (d1 i 0)))] ++ wDo cy (d1 0) (E1 0) ++ wDo cy (d1 1) (E1 1) ++ wDo cy (d1 2) (E1 2) ++ wDo cy (d1 3) (E1 3) ++ wDo cy q (mP M + 1, mN M, mS M, mB M, mT M, va_up (mR M) (mP M) u, mO M, mW M, mL M, mF M, mA M, mU M, mH M)) H := (o_join hP hD [39, 40, 41, 42, 43, 44, 45, 46, 47] [0, 1, 2, 3, 4, 5, 6, 7, 8, 9, 10, 11, 12, 13, 14, 15, 16, 17, 18, 19, 20, 21, 22, 23, 24, 25, 26, 27, 28, 29, 30, 31, 32, 33, 34, 35, 36, 37, 38] rfl (wr := [oSy z q h x r y] ++ [(h 0, .inr (1, [.ref (h 1), .int (nI k1)])), (h 1, eR cy 4 (fun i => some (d1 i 0)))] ++ wDo cy (d1 0) (E1 0) ++ wDo cy (d1 1) (E1 1) ++ wDo cy (d1 2) (E1 2) ++ wDo cy (d1 3) (E1 3)) rfl (by decide) (by decide) (by decide) hk1 hFc hB rfl).sub [0, 1, 2, 3, 4, 5, 6, 7, 8, 9, 10, 11, 12, 13, 14, 15, 16, 17, 18, 19, 20, 21, 22, 23, 24, 25, 26, 27, 28, 29, 30, 31, 32, 33, 34, 35, 36, 37, 38, 39, 40, 41, 42, 43, 44, 45, 46, 47] rfl
      have hD : va_D A ([oSy z q h x r y] ++ [(h 0, .inr (1, [.ref (h 1), .int (nI k1)])), (h 1, eR cy 4 (fun i => some (d1 i 0)))] ++ wDo cy (d1 0) (E1 0) ++ wDo cy (d1 1) (E1 1) ++ wDo cy (d1 2) (E1 2) ++ wDo cy (d1 3) (E1 3) ++ wDo cy q (mP M + 1, mN M, mS M, mB M, mT M, va_up (mR M) (mP M) u, mO M, mW M, mL M, mF M, mA M, mU M, mH M)) := vd_same hD rfl
      obtain rfl : r_ = nI (mP M) := hw
      exact o_endIs (k := k1) (d := d1) (E := E1) hx hb hr hlocks dX7_addPerson_44 hk5 hP hD hS rfl
    · exact absurd hp (by omega)
  · exact absurd hu c4

set_option maxHeartbeats 4000000 in
set_option maxRecDepth 100000 in
theorem kX7_setRank (l : Launch) (G : va_G) (cy : Nat → ClassId) {H0 : Heap} {z : Nat} {q h x r y : Nat → Nat} {k : Nat} {d : Nat → Nat → Nat} {E : Nat → MT} {M : MT} {A0 : Nat → Prop} (hk4 : k ≤ 4) (hW : WB M) (hP : va_P G vwCl ([oSy z q h x r y] ++ (wHi cy h k d E ++ wDo cy q M)) H0) (hD0 : va_D A0 ([oSy z q h x r y] ++ (wHi cy h k d E ++ wDo cy q M))) (j u : Nat) (hj : j < mP M) (hu : 1 ≤ u ∧ u ≤ 5) (he : ¬ mR M j = u) : MutS l yX7_setRank wsX7_setRank 3 101 [.ref z, .int (nI j), .int (nI u)] H0 G cy (nI (mR M j)) h ([oSy z q h x r y] ++ (wHi cy h k d E ++ wDo cy q M)) [oSy z q h x r y] (wDo cy q (mP M, mN M, mS M, mB M, mT M, va_up (mR M) j u, mO M, mW M, mL M, mF M, mA M, mU M, mH M)) := by
  refine Met.ofW (cc := cX7_setRank) (maxL := 4) (ret := (some .int)) (by decide) rfl ?_
  intro p e s m args below meth c s₁ B hml hv
  obtain ⟨rfl, hH, hK⟩ := hv
  subst hH
  have hx := B.exec
  have hb := B.bytes
  have hr := B.returns
  have hts := atoms_spec (ws := wsX7_setRank) B.pre
  have hown : s.vm.findClass RX7 = some m.cls := findClass_of_methodNamed B.named
  have hlocks := B.notSynchronized
  have hl := lv_entry ([.ref z, .int (nI j), .int (nI u)]) (n := 4) (Nat.le_of_ble_eq_true rfl)
  rw [lg_entry_eq]
  generalize (lg_sl ([.ref z, .int (nI j), .int (nI u)]) ++ List.replicate (4 - (lg_sl ([.ref z, .int (nI j), .int (nI u)])).length) Slot.unset).toArray = ls at hl ⊢
  have hl : lv_has ls 4 [(0, .ref z), (1, .int (nI j)), (2, .int (nI u))] := hl
  obtain ⟨bP, bN, bR, bO, bW, bL, bF⟩ := id hW
  have hPd := hP.sub (ws' := wDo cy q M) [39, 40, 41, 42, 43, 44, 45, 46, 47] rfl
  have hD := hD0.self (sz := s.heap.size)
  generalize hAe : va_A ([oSy z q h x r y] ++ (wHi cy h k d E ++ wDo cy q M)) s.heap.size = A at hD ⊢
  have hA : ∀ q : Nat, s.heap.size ≤ q → A q := fun q h => by rw [← hAe]; exact Or.inr h
  have hS : va_S A s.heap s.heap [] := va_S.rf
  refine lv_aload_n hx hb dX7_setRank_0 rfl (lv_at hl 0 rfl) ?_
  refine va_get (D := G) (ci := 6) (v := .ref (q 0)) (C := RX7) (T := TX7) (N := 9) hx hb hts iX7_setRank_X7 hown hK hP 0 rfl rfl 0 (by decide) (hts (.fieldLink RX7 10 "NailedOrders" "door" "LNailedOrders$Door;") (by decide +kernel)) (fun _ h9 => h9) rfl dX7_setRank_1 ?_
  refine lv_iload_n hx hb dX7_setRank_4 rfl (lv_at hl 1 rfl) ?_
  refine o_VI (As := [.int (nI j)]) (rest := []) ⟨hx, hb, hml, hown, hts⟩ (kX1_isPerson l G cy hW hPd j (by omega)) (cwV 1 hts gX7_setRank_X1_isPerson rfl rfl rfl (by decide +kernel) ⟨Nat.le_of_ble_eq_true rfl, Nat.le_of_ble_eq_true rfl⟩) hK (va_recv hK hP (ci := 0) (q0 := 39) rfl rfl) rfl hl.1 rfl (Nat.le_of_ble_eq_true rfl) dX7_setRank_5 ⟨Nat.zero_le _, Nat.zero_le _⟩ ?_
  refine o_ifb_ne (tgt := 13) hx hb dX7_setRank_8 (by decide) (fun c8 => ?_) (fun c8 => ?_)
  · refine lv_iload_n hx hb dX7_setRank_13 rfl (lv_at hl 2 rfl) ?_
    refine o_SI (As := [.int (nI u)]) (rest := []) ⟨hx, hb, hml, hown, hts⟩ (kX7_isRank l G cy u (by omega)) (va_cwS 1 hts gX7_setRank_X7_isRank rfl rfl rfl (by decide +kernel) ⟨Nat.le_of_ble_eq_true rfl, Nat.le_of_ble_eq_true rfl⟩) hK rfl hl.1 rfl (Nat.le_of_ble_eq_true rfl) dX7_setRank_14 ⟨Nat.zero_le _, Nat.zero_le _⟩ ?_
    refine o_ifb_ne (tgt := 23) hx hb dX7_setRank_17 (by decide) (fun c17 => ?_) (fun c17 => ?_)
    · refine lv_aload_n hx hb dX7_setRank_23 rfl (lv_at hl 0 rfl) ?_
      have b1 := bR j
      refine va_get (D := G) (ci := 6) (v := .ref (q 0)) (C := RX7) (T := TX7) (N := 9) hx hb hts iX7_setRank_X7 hown hK hP 0 rfl rfl 0 (by decide) (hts (.fieldLink RX7 10 "NailedOrders" "door" "LNailedOrders$Door;") (by decide +kernel)) (fun _ h9 => h9) rfl dX7_setRank_24 ?_
      refine va_get (D := G) (ci := 0) (v := .ref (q 1)) (C := RX1) (T := TX1) (N := 13) hx hb hts iX7_setRank_X1 hown hK hP 39 rfl rfl 1 (by decide) (hts (.fieldLink RX7 83 "NailedOrders$Door" "ranks" "[I") (by decide +kernel)) (fun _ h9 => h9) rfl dX7_setRank_27 ?_
      refine lv_iload_n hx hb dX7_setRank_30 rfl (lv_at hl 1 rfl) ?_
      refine o_iald hx hb hK hP 40 0 rfl rfl j (by omega) (by decide) dX7_setRank_31 ?_
      refine lv_istore_n (lv' := [(3, .int (nI (mR M j))), (0, .ref z), (1, .int (nI j)), (2, .int (nI u))]) hx hb dX7_setRank_32 rfl hl (by decide) rfl (fun ls hl => ?_)
      refine lv_iload_n hx hb dX7_setRank_33 rfl (lv_at hl 0 rfl) ?_
      refine lv_iload_n hx hb dX7_setRank_34 rfl (lv_at hl 3 rfl) ?_
      refine o_icmp_ne (tgt := 41) hx hb dX7_setRank_35 (by decide) (by omega) (by omega) (fun c35 => ?_) (fun c35 => ?_)
      · refine lv_aload_n hx hb dX7_setRank_41 rfl (lv_at hl 1 rfl) ?_
        refine va_get (D := G) (ci := 6) (v := .ref (h 0)) (C := RX7) (T := TX7) (N := 9) hx hb hts iX7_setRank_X7 hown hK hP 0 rfl rfl 3 (by decide) (hts (.fieldLink RX7 26 "NailedOrders" "history" "LNailedOrders$History;") (by decide +kernel)) (fun _ h9 => h9) rfl dX7_setRank_42 ?_
        refine lv_aload_n hx hb dX7_setRank_45 rfl (lv_at hl 1 rfl) ?_
        refine va_get (D := G) (ci := 6) (v := .ref (q 0)) (C := RX7) (T := TX7) (N := 9) hx hb hts iX7_setRank_X7 hown hK hP 0 rfl rfl 0 (by decide) (hts (.fieldLink RX7 10 "NailedOrders" "door" "LNailedOrders$Door;") (by decide +kernel)) (fun _ h9 => h9) rfl dX7_setRank_46 ?_
        have hPc := hP.sub (ws' := wHi cy h k d E ++ wDo cy q M) [1, 2, 3, 4, 5, 6, 7, 8, 9, 10, 11, 12, 13, 14, 15, 16, 17, 18, 19, 20, 21, 22, 23, 24, 25, 26, 27, 28, 29, 30, 31, 32, 33, 34, 35, 36, 37, 38, 39, 40, 41, 42, 43, 44, 45, 46, 47] rfl
        have hDc := hD.sub (ws' := wHi cy h k d E ++ wDo cy q M) [1, 2, 3, 4, 5, 6, 7, 8, 9, 10, 11, 12, 13, 14, 15, 16, 17, 18, 19, 20, 21, 22, 23, 24, 25, 26, 27, 28, 29, 30, 31, 32, 33, 34, 35, 36, 37, 38, 39, 40, 41, 42, 43, 44, 45, 46, 47] (by decide) rfl
        have hFc := va_free (wc := wHi cy h k d E ++ wDo cy q M) hD hS hA [1, 2, 3, 4, 5, 6, 7, 8, 9, 10, 11, 12, 13, 14, 15, 16, 17, 18, 19, 20, 21, 22, 23, 24, 25, 26, 27, 28, 29, 30, 31, 32, 33, 34, 35, 36, 37, 38, 39, 40, 41, 42, 43, 44, 45, 46, 47] rfl
        refine va_callv (va_runV (As := [.ref (q 0)]) (rest := []) ⟨hx, hb, hml, hown, hts⟩ (kX2_record l G cy k hk4 hPc hDc) (cwV 1 hts gX7_setRank_X2_record rfl rfl rfl (by decide +kernel) ⟨Nat.le_of_ble_eq_true rfl, Nat.le_of_ble_eq_true rfl⟩) ⟨pR_blind, va_recv hK hP (ci := 1) (q0 := 1) rfl rfl, pR_at hK⟩ rfl rfl hl.1 rfl (lv_room (Nat.le_of_ble_eq_true rfl)) dX7_setRank_49 ⟨Nat.zero_le _, Nat.zero_le _⟩) hS (fun q _ h => hFc q h) hFc (fun u_ t_ H locs ht hvm hw hB hz1 hk1 hS => ?_)
        obtain ⟨k1, d1, E1⟩ := u_
        have hk5 : k1 ≤ 4 := hw
        have hB : va_P G vwCl (wHi cy h k1 d1 E1 ++ wDo cy q M) t_.heap ∧ va_D (va_A (wHi cy h k d E ++ wDo cy q M) _) (wHi cy h k1 d1 E1 ++ wDo cy q M) := hB
        rw [ht] at hB
        obtain ⟨hP1, hD1⟩ := hB
        obtain ⟨hP, hD⟩ := va_join (wr := [oSy z q h x r y]) hP hD [1, 2, 3, 4, 5, 6, 7, 8, 9, 10, 11, 12, 13, 14, 15, 16, 17, 18, 19, 20, 21, 22, 23, 24, 25, 26, 27, 28, 29, 30, 31, 32, 33, 34, 35, 36, 37, 38, 39, 40, 41, 42, 43, 44, 45, 46, 47] [0] rfl rfl (by decide) (by decide) hk1 hFc hP1 hD1
        refine lv_aload_n hx hb dX7_setRank_52 rfl (lv_at hl 1 rfl) ?_
        refine va_get (D := G) (ci := 6) (v := .ref (q 0)) (C := RX7) (T := TX7) (N := 9) hx hb hts iX7_setRank_X7 hown hK hP 0 rfl rfl 0 (by decide) (hts (.fieldLink RX7 10 "NailedOrders" "door" "LNailedOrders$Door;") (by decide +kernel)) (fun _ h9 => h9) rfl dX7_setRank_53 ?_
        refine va_get (D := G) (ci := 0) (v := .ref (q 1)) (C := RX1) (T := TX1) (N := 13) hx hb hts iX7_setRank_X1 hown hK hP 39 rfl rfl 1 (by decide) (hts (.fieldLink RX7 83 "NailedOrders$Door" "ranks" "[I") (by decide +kernel)) (fun _ h9 => h9) rfl dX7_setRank_56 ?_
        refine lv_iload_n hx hb dX7_setRank_59 rfl (lv_at hl 2 rfl) ?_
        refine lv_iload_n hx hb dX7_setRank_60 rfl (lv_at hl 3 rfl) ?_
        refine o_iast hx hb hK hP hD hS 40 0 rfl rfl j (by omega) (by decide) (upd_nI (mR M) j u) dX7_setRank_61 (fun H locs hP hD hS => ?_)
        have hP : va_P G vwCl ([oSy z q h x r y] ++ [(h 0, .inr (1, [.ref (h 1), .int (nI k1)])), (h 1, eR cy 4 (fun i => some (d1 i 0)))] ++ wDo cy (d1 0) (E1 0) ++ wDo cy (d1 1) (E1 1) ++ wDo cy (d1 2) (E1 2) ++ wDo cy (d1 3) (E1 3) ++ wDo cy q (mP M, mN M, mS M, mB M, mT M, va_up (mR M) j u, mO M, mW M, mL M, mF M, mA M, mU M, mH M)) H := hP
        have hD : va_D A ([oSy z q h x r y] ++ [(h 0, .inr (1, [.ref (h 1), .int (nI k1)])), (h 1, eR cy 4 (fun i => some (d1 i 0)))] ++ wDo cy (d1 0) (E1 0) ++ wDo cy (d1 1) (E1 1) ++ wDo cy (d1 2) (E1 2) ++ wDo cy (d1 3) (E1 3) ++ wDo cy q (mP M, mN M, mS M, mB M, mT M, va_up (mR M) j u, mO M, mW M, mL M, mF M, mA M, mU M, mH M)) := hD
        refine lv_iload_n hx hb dX7_setRank_62 rfl (lv_at hl 0 rfl) ?_
        exact o_endIs (k := k1) (d := d1) (E := E1) hx hb hr hlocks dX7_setRank_63 hk5 hP hD hS rfl
      · exact absurd c35 he
    · exact absurd hu c17
  · exact absurd hj c8

set_option maxHeartbeats 4000000 in
set_option maxRecDepth 100000 in
theorem kX7_setTolerance (l : Launch) (G : va_G) (cy : Nat → ClassId) {H0 : Heap} {z : Nat} {q h x r y : Nat → Nat} {k : Nat} {d : Nat → Nat → Nat} {E : Nat → MT} {M : MT} {A0 : Nat → Prop} (hk4 : k ≤ 4) (hW : WB M) (hP : va_P G vwCl ([oSy z q h x r y] ++ (wHi cy h k d E ++ wDo cy q M)) H0) (hD0 : va_D A0 ([oSy z q h x r y] ++ (wHi cy h k d E ++ wDo cy q M))) (b : Int32) (hb0 : ¬ b < 0 ∧ frB b FP.fconst0 1120403456 = true) (he : ¬ b = mB M) : MutS l yX7_setTolerance wsX7_setTolerance 4 101 [.ref z, .int b] H0 G cy (1) h ([oSy z q h x r y] ++ (wHi cy h k d E ++ wDo cy q M)) [oSy z q h x r y] (wDo cy q (mP M, mN M, mS M, b, tfl b, mR M, mO M, mW M, mL M, mF M, mA M, mU M, mH M)) := by
  refine Met.ofW (cc := cX7_setTolerance) (maxL := 2) (ret := (some .int)) (by decide) rfl ?_
  intro p e s m args below meth c s₁ B hml hv
  obtain ⟨rfl, hH, hK⟩ := hv
  subst hH
  have hx := B.exec
  have hb := B.bytes
  have hr := B.returns
  have hts := atoms_spec (ws := wsX7_setTolerance) B.pre
  have hown : s.vm.findClass RX7 = some m.cls := findClass_of_methodNamed B.named
  have hlocks := B.notSynchronized
  have hl := lv_entry ([.ref z, .int b]) (n := 2) (Nat.le_of_ble_eq_true rfl)
  rw [lg_entry_eq]
  generalize (lg_sl ([.ref z, .int b]) ++ List.replicate (2 - (lg_sl ([.ref z, .int b])).length) Slot.unset).toArray = ls at hl ⊢
  have hl : lv_has ls 2 [(0, .ref z), (1, .int b)] := hl
  obtain ⟨bP, bN, bR, bO, bW, bL, bF⟩ := id hW
  have hPd := hP.sub (ws' := wDo cy q M) [39, 40, 41, 42, 43, 44, 45, 46, 47] rfl
  have hD := hD0.self (sz := s.heap.size)
  generalize hAe : va_A ([oSy z q h x r y] ++ (wHi cy h k d E ++ wDo cy q M)) s.heap.size = A at hD ⊢
  have hA : ∀ q : Nat, s.heap.size ≤ q → A q := fun q h => by rw [← hAe]; exact Or.inr h
  have hS : va_S A s.heap s.heap [] := va_S.rf
  refine lv_iload_n hx hb dX7_setTolerance_0 rfl (lv_at hl 1 rfl) ?_
  refine o_SI (As := [.int b]) (rest := []) ⟨hx, hb, hml, hown, hts⟩ (kX0_areTolerance l G cy b) (va_cwS 1 hts gX7_setTolerance_X0_areTolerance rfl rfl rfl (by decide +kernel) ⟨Nat.le_of_ble_eq_true rfl, Nat.le_of_ble_eq_true rfl⟩) hK rfl hl.1 rfl (Nat.le_of_ble_eq_true rfl) dX7_setTolerance_1 ⟨Nat.zero_le _, Nat.zero_le _⟩ ?_
  refine o_ifb_ne (tgt := 10) hx hb dX7_setTolerance_4 (by decide) (fun c4 => ?_) (fun c4 => ?_)
  · refine lv_iload_n hx hb dX7_setTolerance_10 rfl (lv_at hl 1 rfl) ?_
    refine lv_aload_n hx hb dX7_setTolerance_11 rfl (lv_at hl 0 rfl) ?_
    refine va_get (D := G) (ci := 6) (v := .ref (q 0)) (C := RX7) (T := TX7) (N := 9) hx hb hts iX7_setTolerance_X7 hown hK hP 0 rfl rfl 0 (by decide) (hts (.fieldLink RX7 10 "NailedOrders" "door" "LNailedOrders$Door;") (by decide +kernel)) (fun _ h9 => h9) rfl dX7_setTolerance_12 ?_
    refine va_get (D := G) (ci := 0) (v := .int (mB M)) (C := RX1) (T := TX1) (N := 13) hx hb hts iX7_setTolerance_X1 hown hK hP 39 rfl rfl 2 (by decide) (hts (.fieldLink RX7 92 "NailedOrders$Door" "toleranceBits" "I") (by decide +kernel)) (fun _ h9 => h9) rfl dX7_setTolerance_15 ?_
    refine lv_icmp_ne (tgt := 24) hx hb dX7_setTolerance_18 (by decide) (fun c18 => ?_) (fun c18 => ?_)
    · refine lv_aload_n hx hb dX7_setTolerance_24 rfl (lv_at hl 0 rfl) ?_
      refine va_get (D := G) (ci := 6) (v := .ref (h 0)) (C := RX7) (T := TX7) (N := 9) hx hb hts iX7_setTolerance_X7 hown hK hP 0 rfl rfl 3 (by decide) (hts (.fieldLink RX7 26 "NailedOrders" "history" "LNailedOrders$History;") (by decide +kernel)) (fun _ h9 => h9) rfl dX7_setTolerance_25 ?_
      refine lv_aload_n hx hb dX7_setTolerance_28 rfl (lv_at hl 0 rfl) ?_
      refine va_get (D := G) (ci := 6) (v := .ref (q 0)) (C := RX7) (T := TX7) (N := 9) hx hb hts iX7_setTolerance_X7 hown hK hP 0 rfl rfl 0 (by decide) (hts (.fieldLink RX7 10 "NailedOrders" "door" "LNailedOrders$Door;") (by decide +kernel)) (fun _ h9 => h9) rfl dX7_setTolerance_29 ?_
      have hPc := hP.sub (ws' := wHi cy h k d E ++ wDo cy q M) [1, 2, 3, 4, 5, 6, 7, 8, 9, 10, 11, 12, 13, 14, 15, 16, 17, 18, 19, 20, 21, 22, 23, 24, 25, 26, 27, 28, 29, 30, 31, 32, 33, 34, 35, 36, 37, 38, 39, 40, 41, 42, 43, 44, 45, 46, 47] rfl
      have hDc := hD.sub (ws' := wHi cy h k d E ++ wDo cy q M) [1, 2, 3, 4, 5, 6, 7, 8, 9, 10, 11, 12, 13, 14, 15, 16, 17, 18, 19, 20, 21, 22, 23, 24, 25, 26, 27, 28, 29, 30, 31, 32, 33, 34, 35, 36, 37, 38, 39, 40, 41, 42, 43, 44, 45, 46, 47] (by decide) rfl
      have hFc := va_free (wc := wHi cy h k d E ++ wDo cy q M) hD hS hA [1, 2, 3, 4, 5, 6, 7, 8, 9, 10, 11, 12, 13, 14, 15, 16, 17, 18, 19, 20, 21, 22, 23, 24, 25, 26, 27, 28, 29, 30, 31, 32, 33, 34, 35, 36, 37, 38, 39, 40, 41, 42, 43, 44, 45, 46, 47] rfl
      refine va_callv (va_runV (As := [.ref (q 0)]) (rest := []) ⟨hx, hb, hml, hown, hts⟩ (kX2_record l G cy k hk4 hPc hDc) (cwV 1 hts gX7_setTolerance_X2_record rfl rfl rfl (by decide +kernel) ⟨Nat.le_of_ble_eq_true rfl, Nat.le_of_ble_eq_true rfl⟩) ⟨pR_blind, va_recv hK hP (ci := 1) (q0 := 1) rfl rfl, pR_at hK⟩ rfl rfl hl.1 rfl (lv_room (Nat.le_of_ble_eq_true rfl)) dX7_setTolerance_32 ⟨Nat.zero_le _, Nat.zero_le _⟩) hS (fun q _ h => hFc q h) hFc (fun u_ t_ H locs ht hvm hw hB hz1 hk1 hS => ?_)
      obtain ⟨k1, d1, E1⟩ := u_
      have hk5 : k1 ≤ 4 := hw
      have hB : va_P G vwCl (wHi cy h k1 d1 E1 ++ wDo cy q M) t_.heap ∧ va_D (va_A (wHi cy h k d E ++ wDo cy q M) _) (wHi cy h k1 d1 E1 ++ wDo cy q M) := hB
      rw [ht] at hB
      obtain ⟨hP1, hD1⟩ := hB
      obtain ⟨hP, hD⟩ := va_join (wr := [oSy z q h x r y]) hP hD [1, 2, 3, 4, 5, 6, 7, 8, 9, 10, 11, 12, 13, 14, 15, 16, 17, 18, 19, 20, 21, 22, 23, 24, 25, 26, 27, 28, 29, 30, 31, 32, 33, 34, 35, 36, 37, 38, 39, 40, 41, 42, 43, 44, 45, 46, 47] [0] rfl rfl (by decide) (by decide) hk1 hFc hP1 hD1
      refine lv_aload_n hx hb dX7_setTolerance_35 rfl (lv_at hl 0 rfl) ?_
      refine va_get (D := G) (ci := 6) (v := .ref (q 0)) (C := RX7) (T := TX7) (N := 9) hx hb hts iX7_setTolerance_X7 hown hK hP 0 rfl rfl 0 (by decide) (hts (.fieldLink RX7 10 "NailedOrders" "door" "LNailedOrders$Door;") (by decide +kernel)) (fun _ h9 => h9) rfl dX7_setTolerance_36 ?_
      refine lv_iload_n hx hb dX7_setTolerance_39 rfl (lv_at hl 1 rfl) ?_
      refine va_put (D := G) (ci := 0) (v := .int b) (ty := .int) (C := RX1) (T := TX1) (N := 13) hx hb hts iX7_setTolerance_X1 tyX1 tyX1_ok nmX1 hown hK hP hD hS 39 rfl rfl 2 (by decide) (hts (.fieldLink RX7 92 "NailedOrders$Door" "toleranceBits" "I") (by decide +kernel)) (fun _ h9 => h9) rfl (by decide +kernel) rfl rfl (Nat.le_of_ble_eq_true rfl) dX7_setTolerance_40 (fun H locs hP hD hS => ?_)
      have hP : va_P G vwCl ([oSy z q h x r y] ++ [(h 0, .inr (1, [.ref (h 1), .int (nI k1)])), (h 1, eR cy 4 (fun i => some (d1 i 0)))] ++ wDo cy (d1 0) (E1 0) ++ wDo cy (d1 1) (E1 1) ++ wDo cy (d1 2) (E1 2) ++ wDo cy (d1 3) (E1 3) ++ wDo cy q (mP M, mN M, mS M, b, mT M, mR M, mO M, mW M, mL M, mF M, mA M, mU M, mH M)) H := hP
      have hD : va_D A ([oSy z q h x r y] ++ [(h 0, .inr (1, [.ref (h 1), .int (nI k1)])), (h 1, eR cy 4 (fun i => some (d1 i 0)))] ++ wDo cy (d1 0) (E1 0) ++ wDo cy (d1 1) (E1 1) ++ wDo cy (d1 2) (E1 2) ++ wDo cy (d1 3) (E1 3) ++ wDo cy q (mP M, mN M, mS M, b, mT M, mR M, mO M, mW M, mL M, mF M, mA M, mU M, mH M)) := hD
      refine lv_aload_n hx hb dX7_setTolerance_43 rfl (lv_at hl 0 rfl) ?_
      refine va_get (D := G) (ci := 6) (v := .ref (q 0)) (C := RX7) (T := TX7) (N := 9) hx hb hts iX7_setTolerance_X7 hown hK hP 0 rfl rfl 0 (by decide) (hts (.fieldLink RX7 10 "NailedOrders" "door" "LNailedOrders$Door;") (by decide +kernel)) (fun _ h9 => h9) rfl dX7_setTolerance_44 ?_
      refine lv_iload_n hx hb dX7_setTolerance_47 rfl (lv_at hl 1 rfl) ?_
      refine o_SF (As := [.int b]) (rest := [.ref (q 0)]) ⟨hx, hb, hml, hown, hts⟩ (kX0_toFloat l G cy b) (va_cwS 1 hts gX7_setTolerance_X0_toFloat rfl rfl rfl (by decide +kernel) ⟨Nat.le_of_ble_eq_true rfl, Nat.le_of_ble_eq_true rfl⟩) hK rfl hl.1 rfl (Nat.le_of_ble_eq_true rfl) dX7_setTolerance_48 ⟨Nat.zero_le _, Nat.zero_le _⟩ ?_
      refine va_put (D := G) (ci := 0) (v := .float (tfl b)) (ty := .float) (C := RX1) (T := TX1) (N := 13) hx hb hts iX7_setTolerance_X1 tyX1 tyX1_ok nmX1 hown hK hP hD hS 39 rfl rfl 3 (by decide) (hts (.fieldLink RX7 99 "NailedOrders$Door" "tolerance" "F") (by decide +kernel)) (fun _ h9 => h9) rfl (by decide +kernel) rfl rfl (Nat.le_of_ble_eq_true rfl) dX7_setTolerance_51 (fun H locs hP hD hS => ?_)
      have hP : va_P G vwCl ([oSy z q h x r y] ++ [(h 0, .inr (1, [.ref (h 1), .int (nI k1)])), (h 1, eR cy 4 (fun i => some (d1 i 0)))] ++ wDo cy (d1 0) (E1 0) ++ wDo cy (d1 1) (E1 1) ++ wDo cy (d1 2) (E1 2) ++ wDo cy (d1 3) (E1 3) ++ wDo cy q (mP M, mN M, mS M, b, tfl b, mR M, mO M, mW M, mL M, mF M, mA M, mU M, mH M)) H := hP
      have hD : va_D A ([oSy z q h x r y] ++ [(h 0, .inr (1, [.ref (h 1), .int (nI k1)])), (h 1, eR cy 4 (fun i => some (d1 i 0)))] ++ wDo cy (d1 0) (E1 0) ++ wDo cy (d1 1) (E1 1) ++ wDo cy (d1 2) (E1 2) ++ wDo cy (d1 3) (E1 3) ++ wDo cy q (mP M, mN M, mS M, b, tfl b, mR M, mO M, mW M, mL M, mF M, mA M, mU M, mH M)) := hD
      refine lv_iconst (v := nI 1) hx hb dX7_setTolerance_54 (by decide +kernel) ?_
      exact o_endIs (k := k1) (d := d1) (E := E1) hx hb hr hlocks dX7_setTolerance_55 hk5 hP hD hS (by decide)
    · exact absurd c18 he
  · exact absurd hb0 c4

set_option maxHeartbeats 4000000 in
set_option maxRecDepth 100000 in
theorem kX7_nail (l : Launch) (G : va_G) (cy : Nat → ClassId) {H0 : Heap} {z : Nat} {q h x r y : Nat → Nat} {k : Nat} {d : Nat → Nat → Nat} {E : Nat → MT} {M : MT} {A0 : Nat → Prop} (hk4 : k ≤ 4) (hW : WB M) (hP : va_P G vwCl ([oSy z q h x r y] ++ (wHi cy h k d E ++ wDo cy q M)) H0) (hD0 : va_D A0 ([oSy z q h x r y] ++ (wHi cy h k d E ++ wDo cy q M))) (j w : Nat) (b c0 : Int32) (hj : j < mP M) (hw : w < 16) (hb0 : frB b 3296329728 1148846080 = true) (hc0 : frB c0 1036831949 1092616192 = true) (hn : mN M ≤ 15) : MutS l yX7_nail wsX7_nail 4 101 [.ref z, .int (nI j), .int (nI w), .int b, .int c0] H0 G cy (nI (mN M)) h ([oSy z q h x r y] ++ (wHi cy h k d E ++ wDo cy q M)) [oSy z q h x r y] (wDo cy q (mP M, mN M + 1, mS M, mB M, mT M, mR M, va_up (mO M) (mN M) j, va_up (mW M) (mN M) w, va_up (mL M) (mN M) none, va_up (mF M) (mN M) 1, va_up (mA M) (mN M) FP.fconst1, va_up (mU M) (mN M) (tfl b), va_up (mH M) (mN M) (tfl c0))) := by
  refine Met.ofW (cc := cX7_nail) (maxL := 5) (ret := (some .int)) (by decide) rfl ?_
  intro p e s m args below meth c s₁ B hml hv
  obtain ⟨rfl, hH, hK⟩ := hv
  subst hH
  have hx := B.exec
  have hb := B.bytes
  have hr := B.returns
  have hts := atoms_spec (ws := wsX7_nail) B.pre
  have hown : s.vm.findClass RX7 = some m.cls := findClass_of_methodNamed B.named
  have hlocks := B.notSynchronized
  have hl := lv_entry ([.ref z, .int (nI j), .int (nI w), .int b, .int c0]) (n := 5) (Nat.le_of_ble_eq_true rfl)
  rw [lg_entry_eq]
  generalize (lg_sl ([.ref z, .int (nI j), .int (nI w), .int b, .int c0]) ++ List.replicate (5 - (lg_sl ([.ref z, .int (nI j), .int (nI w), .int b, .int c0])).length) Slot.unset).toArray = ls at hl ⊢
  have hl : lv_has ls 5 [(0, .ref z), (1, .int (nI j)), (2, .int (nI w)), (3, .int b), (4, .int c0)] := hl
  obtain ⟨bP, bN, bR, bO, bW, bL, bF⟩ := id hW
  have hPd := hP.sub (ws' := wDo cy q M) [39, 40, 41, 42, 43, 44, 45, 46, 47] rfl
  have hD := hD0.self (sz := s.heap.size)
  generalize hAe : va_A ([oSy z q h x r y] ++ (wHi cy h k d E ++ wDo cy q M)) s.heap.size = A at hD ⊢
  have hA : ∀ q : Nat, s.heap.size ≤ q → A q := fun q h => by rw [← hAe]; exact Or.inr h
  have hS : va_S A s.heap s.heap [] := va_S.rf
  refine lv_aload_n hx hb dX7_nail_0 rfl (lv_at hl 0 rfl) ?_
  refine va_get (D := G) (ci := 6) (v := .ref (q 0)) (C := RX7) (T := TX7) (N := 9) hx hb hts iX7_nail_X7 hown hK hP 0 rfl rfl 0 (by decide) (hts (.fieldLink RX7 10 "NailedOrders" "door" "LNailedOrders$Door;") (by decide +kernel)) (fun _ h9 => h9) rfl dX7_nail_1 ?_
  refine lv_iload_n hx hb dX7_nail_4 rfl (lv_at hl 1 rfl) ?_
  refine o_VI (As := [.int (nI j)]) (rest := []) ⟨hx, hb, hml, hown, hts⟩ (kX1_isPerson l G cy hW hPd j (by omega)) (cwV 1 hts gX7_nail_X1_isPerson rfl rfl rfl (by decide +kernel) ⟨Nat.le_of_ble_eq_true rfl, Nat.le_of_ble_eq_true rfl⟩) hK (va_recv hK hP (ci := 0) (q0 := 39) rfl rfl) rfl hl.1 rfl (Nat.le_of_ble_eq_true rfl) dX7_nail_5 ⟨Nat.zero_le _, Nat.zero_le _⟩ ?_
  refine o_ifb_eq (tgt := 18) hx hb dX7_nail_8 (by decide) (fun c8 => ?_) (fun c8 => ?_)
  · exact absurd hj c8
  · refine lv_iload_n hx hb dX7_nail_11 rfl (lv_at hl 2 rfl) ?_
    refine o_SI (As := [.int (nI w)]) (rest := []) ⟨hx, hb, hml, hown, hts⟩ (kX7_isWord l G cy w (by omega)) (va_cwS 1 hts gX7_nail_X7_isWord rfl rfl rfl (by decide +kernel) ⟨Nat.le_of_ble_eq_true rfl, Nat.le_of_ble_eq_true rfl⟩) hK rfl hl.1 rfl (Nat.le_of_ble_eq_true rfl) dX7_nail_12 ⟨Nat.zero_le _, Nat.zero_le _⟩ ?_
    refine o_ifb_ne (tgt := 20) hx hb dX7_nail_15 (by decide) (fun c15 => ?_) (fun c15 => ?_)
    · refine lv_iload_n hx hb dX7_nail_20 rfl (lv_at hl 3 rfl) ?_
      refine o_SI (As := [.int b]) (rest := []) ⟨hx, hb, hml, hown, hts⟩ (kX0_areNumber l G cy b) (va_cwS 1 hts gX7_nail_X0_areNumber rfl rfl rfl (by decide +kernel) ⟨Nat.le_of_ble_eq_true rfl, Nat.le_of_ble_eq_true rfl⟩) hK rfl hl.1 rfl (Nat.le_of_ble_eq_true rfl) dX7_nail_21 ⟨Nat.zero_le _, Nat.zero_le _⟩ ?_
      refine o_ifb_eq (tgt := 35) hx hb dX7_nail_24 (by decide) (fun c24 => ?_) (fun c24 => ?_)
      · exact absurd hb0 c24
      · refine lv_iload hx hb dX7_nail_27 (lv_at hl 4 rfl) ?_
        refine o_SI (As := [.int c0]) (rest := []) ⟨hx, hb, hml, hown, hts⟩ (kX0_areStrength l G cy c0) (va_cwS 1 hts gX7_nail_X0_areStrength rfl rfl rfl (by decide +kernel) ⟨Nat.le_of_ble_eq_true rfl, Nat.le_of_ble_eq_true rfl⟩) hK rfl hl.1 rfl (Nat.le_of_ble_eq_true rfl) dX7_nail_29 ⟨Nat.zero_le _, Nat.zero_le _⟩ ?_
        refine o_ifb_ne (tgt := 38) hx hb dX7_nail_32 (by decide) (fun c32 => ?_) (fun c32 => ?_)
        · refine lv_aload_n hx hb dX7_nail_38 rfl (lv_at hl 0 rfl) ?_
          refine va_get (D := G) (ci := 6) (v := .ref (q 0)) (C := RX7) (T := TX7) (N := 9) hx hb hts iX7_nail_X7 hown hK hP 0 rfl rfl 0 (by decide) (hts (.fieldLink RX7 10 "NailedOrders" "door" "LNailedOrders$Door;") (by decide +kernel)) (fun _ h9 => h9) rfl dX7_nail_39 ?_
          refine lv_iconst (v := nI 0) hx hb dX7_nail_42 (by decide +kernel) ?_
          refine o_VI (As := [.int (nI 0)]) (rest := []) ⟨hx, hb, hml, hown, hts⟩ (kX1_hasRoomAfter l G cy hW hPd 0 (by decide)) (cwV 1 hts gX7_nail_X1_hasRoomAfter rfl rfl rfl (by decide +kernel) ⟨Nat.le_of_ble_eq_true rfl, Nat.le_of_ble_eq_true rfl⟩) hK (va_recv hK hP (ci := 0) (q0 := 39) rfl rfl) rfl hl.1 rfl (Nat.le_of_ble_eq_true rfl) dX7_nail_43 ⟨Nat.zero_le _, Nat.zero_le _⟩ ?_
          refine o_ifb_ne (tgt := 52) hx hb dX7_nail_46 (by decide) (fun c46 => ?_) (fun c46 => ?_)
          · refine lv_aload_n hx hb dX7_nail_52 rfl (lv_at hl 0 rfl) ?_
            refine va_get (D := G) (ci := 6) (v := .ref (h 0)) (C := RX7) (T := TX7) (N := 9) hx hb hts iX7_nail_X7 hown hK hP 0 rfl rfl 3 (by decide) (hts (.fieldLink RX7 26 "NailedOrders" "history" "LNailedOrders$History;") (by decide +kernel)) (fun _ h9 => h9) rfl dX7_nail_53 ?_
            refine lv_aload_n hx hb dX7_nail_56 rfl (lv_at hl 0 rfl) ?_
            refine va_get (D := G) (ci := 6) (v := .ref (q 0)) (C := RX7) (T := TX7) (N := 9) hx hb hts iX7_nail_X7 hown hK hP 0 rfl rfl 0 (by decide) (hts (.fieldLink RX7 10 "NailedOrders" "door" "LNailedOrders$Door;") (by decide +kernel)) (fun _ h9 => h9) rfl dX7_nail_57 ?_
            have hPc := hP.sub (ws' := wHi cy h k d E ++ wDo cy q M) [1, 2, 3, 4, 5, 6, 7, 8, 9, 10, 11, 12, 13, 14, 15, 16, 17, 18, 19, 20, 21, 22, 23, 24, 25, 26, 27, 28, 29, 30, 31, 32, 33, 34, 35, 36, 37, 38, 39, 40, 41, 42, 43, 44, 45, 46, 47] rfl
            have hDc := hD.sub (ws' := wHi cy h k d E ++ wDo cy q M) [1, 2, 3, 4, 5, 6, 7, 8, 9, 10, 11, 12, 13, 14, 15, 16, 17, 18, 19, 20, 21, 22, 23, 24, 25, 26, 27, 28, 29, 30, 31, 32, 33, 34, 35, 36, 37, 38, 39, 40, 41, 42, 43, 44, 45, 46, 47] (by decide) rfl
            have hFc := va_free (wc := wHi cy h k d E ++ wDo cy q M) hD hS hA [1, 2, 3, 4, 5, 6, 7, 8, 9, 10, 11, 12, 13, 14, 15, 16, 17, 18, 19, 20, 21, 22, 23, 24, 25, 26, 27, 28, 29, 30, 31, 32, 33, 34, 35, 36, 37, 38, 39, 40, 41, 42, 43, 44, 45, 46, 47] rfl
            refine va_callv (va_runV (As := [.ref (q 0)]) (rest := []) ⟨hx, hb, hml, hown, hts⟩ (kX2_record l G cy k hk4 hPc hDc) (cwV 1 hts gX7_nail_X2_record rfl rfl rfl (by decide +kernel) ⟨Nat.le_of_ble_eq_true rfl, Nat.le_of_ble_eq_true rfl⟩) ⟨pR_blind, va_recv hK hP (ci := 1) (q0 := 1) rfl rfl, pR_at hK⟩ rfl rfl hl.1 rfl (lv_room (Nat.le_of_ble_eq_true rfl)) dX7_nail_60 ⟨Nat.zero_le _, Nat.zero_le _⟩) hS (fun q _ h => hFc q h) hFc (fun u_ t_ H locs ht hvm hw hB hz1 hk1 hS => ?_)
            obtain ⟨k1, d1, E1⟩ := u_
            have hk5 : k1 ≤ 4 := hw
            have hB : va_P G vwCl (wHi cy h k1 d1 E1 ++ wDo cy q M) t_.heap ∧ va_D (va_A (wHi cy h k d E ++ wDo cy q M) _) (wHi cy h k1 d1 E1 ++ wDo cy q M) := hB
            rw [ht] at hB
            obtain ⟨hP1, hD1⟩ := hB
            obtain ⟨hP, hD⟩ := va_join (wr := [oSy z q h x r y]) hP hD [1, 2, 3, 4, 5, 6, 7, 8, 9, 10, 11, 12, 13, 14, 15, 16, 17, 18, 19, 20, 21, 22, 23, 24, 25, 26, 27, 28, 29, 30, 31, 32, 33, 34, 35, 36, 37, 38, 39, 40, 41, 42, 43, 44, 45, 46, 47] [0] rfl rfl (by decide) (by decide) hk1 hFc hP1 hD1
            refine lv_aload_n hx hb dX7_nail_63 rfl (lv_at hl 0 rfl) ?_
            refine va_get (D := G) (ci := 6) (v := .ref (q 0)) (C := RX7) (T := TX7) (N := 9) hx hb hts iX7_nail_X7 hown hK hP 0 rfl rfl 0 (by decide) (hts (.fieldLink RX7 10 "NailedOrders" "door" "LNailedOrders$Door;") (by decide +kernel)) (fun _ h9 => h9) rfl dX7_nail_64 ?_
            refine lv_iload_n hx hb dX7_nail_67 rfl (lv_at hl 1 rfl) ?_
            refine lv_iload_n hx hb dX7_nail_68 rfl (lv_at hl 2 rfl) ?_
            refine lv_bipush (v := (-5)) hx hb dX7_nail_69 (by decide +kernel) ?_
            refine lv_fconst1 hx hb dX7_nail_71 ?_
            refine lv_iload_n hx hb dX7_nail_72 rfl (lv_at hl 3 rfl) ?_
            refine o_SF (As := [.int b]) (rest := [.float FP.fconst1, .int ((-5)), .int (nI w), .int (nI j), .ref (q 0)]) ⟨hx, hb, hml, hown, hts⟩ (kX0_toFloat l G cy b) (va_cwS 1 hts gX7_nail_X0_toFloat rfl rfl rfl (by decide +kernel) ⟨Nat.le_of_ble_eq_true rfl, Nat.le_of_ble_eq_true rfl⟩) hK rfl hl.1 rfl (Nat.le_of_ble_eq_true rfl) dX7_nail_73 ⟨Nat.zero_le _, Nat.zero_le _⟩ ?_
            refine lv_iload hx hb dX7_nail_76 (lv_at hl 4 rfl) ?_
            refine o_SF (As := [.int c0]) (rest := [.float (tfl b), .float FP.fconst1, .int ((-5)), .int (nI w), .int (nI j), .ref (q 0)]) ⟨hx, hb, hml, hown, hts⟩ (kX0_toFloat l G cy c0) (va_cwS 1 hts gX7_nail_X0_toFloat rfl rfl rfl (by decide +kernel) ⟨Nat.le_of_ble_eq_true rfl, Nat.le_of_ble_eq_true rfl⟩) hK rfl hl.1 rfl (Nat.le_of_ble_eq_true rfl) dX7_nail_78 ⟨Nat.zero_le _, Nat.zero_le _⟩ ?_
            have hPc := hP.sub (ws' := wDo cy q M) [39, 40, 41, 42, 43, 44, 45, 46, 47] rfl
            have hDc := hD.sub (ws' := wDo cy q M) [39, 40, 41, 42, 43, 44, 45, 46, 47] (by decide) rfl
            have hFc := va_free (wc := wDo cy q M) hD hS hA [39, 40, 41, 42, 43, 44, 45, 46, 47] rfl
            refine va_calli (va_runV (As := [.int (nI j), .int (nI w), .int ((-5)), .float FP.fconst1, .float (tfl b), .float (tfl c0)]) (rest := []) ⟨hx, hb, hml, hown, hts⟩ (kX1_hang l G cy hW hPc hDc j w none FP.fconst1 (tfl b) (tfl c0) (by omega)) (cwV 6 hts gX7_nail_X1_hang rfl rfl rfl (by decide +kernel) ⟨Nat.le_of_ble_eq_true rfl, Nat.le_of_ble_eq_true rfl⟩) ⟨pR_blind, va_recv hK hP (ci := 0) (q0 := 39) rfl rfl, pR_at hK⟩ rfl rfl hl.1 rfl (lv_room (Nat.le_of_ble_eq_true rfl)) dX7_nail_81 ⟨Nat.zero_le _, Nat.zero_le _⟩) hS (fun q _ h => hFc q h) hFc (fun r_ u_ t_ H locs ht hvm hw hB hz1 hk1 hS => ?_)
            rw [ht] at hB
            have hP : va_P G vwCl ([oSy z q h x r y] ++ [(h 0, .inr (1, [.ref (h 1), .int (nI k1)])), (h 1, eR cy 4 (fun i => some (d1 i 0)))] ++ wDo cy (d1 0) (E1 0) ++ wDo cy (d1 1) (E1 1) ++ wDo cy (d1 2) (E1 2) ++ wDo cy (d1 3) (E1 3) ++ wDo cy q (mP M, mN M + 1, mS M, mB M, mT M, mR M, va_up (mO M) (mN M) j, va_up (mW M) (mN M) w, va_up (mL M) (mN M) none, va_up (mF M) (mN M) 1, va_up (mA M) (mN M) FP.fconst1, va_up (mU M) (mN M) (tfl b), va_up (mH M) (mN M) (tfl c0))) H := (o_join hP hD [39, 40, 41, 42, 43, 44, 45, 46, 47] [0, 1, 2, 3, 4, 5, 6, 7, 8, 9, 10, 11, 12, 13, 14, 15, 16, 17, 18, 19, 20, 21, 22, 23, 24, 25, 26, 27, 28, 29, 30, 31, 32, 33, 34, 35, 36, 37, 38] rfl (wr := [oSy z q h x r y] ++ [(h 0, .inr (1, [.ref (h 1), .int (nI k1)])), (h 1, eR cy 4 (fun i => some (d1 i 0)))] ++ wDo cy (d1 0) (E1 0) ++ wDo cy (d1 1) (E1 1) ++ wDo cy (d1 2) (E1 2) ++ wDo cy (d1 3) (E1 3)) rfl (by decide) (by decide) (by decide) hk1 hFc hB rfl).sub [0, 1, 2, 3, 4, 5, 6, 7, 8, 9, 10, 11, 12, 13, 14, 15, 16, 17, 18, 19, 20, 21, 22, 23, 24, 25, 26, 27, 28, 29, 30, 31, 32, 33, 34, 35, 36, 37, 38, 39, 40, 41, 42, 43, 44, 45, 46, 47] rfl
            have hD : va_D A ([oSy z q h x r y] ++ [(h 0, .inr (1, [.ref (h 1), .int (nI k1)])), (h 1, eR cy 4 (fun i => some (d1 i 0)))] ++ wDo cy (d1 0) (E1 0) ++ wDo cy (d1 1) (E1 1) ++ wDo cy (d1 2) (E1 2) ++ wDo cy (d1 3) (E1 3) ++ wDo cy q (mP M, mN M + 1, mS M, mB M, mT M, mR M, va_up (mO M) (mN M) j, va_up (mW M) (mN M) w, va_up (mL M) (mN M) none, va_up (mF M) (mN M) 1, va_up (mA M) (mN M) FP.fconst1, va_up (mU M) (mN M) (tfl b), va_up (mH M) (mN M) (tfl c0))) := vd_same hD rfl
            obtain rfl : r_ = nI (mN M) := hw
            exact o_endIs (k := k1) (d := d1) (E := E1) hx hb hr hlocks dX7_nail_84 hk5 hP hD hS rfl
          · exact absurd ⟨by have := cR_le (ftB M 1) 0 (mN M); omega, by omega⟩ c46
        · exact absurd hc0 c32
    · exact absurd hw c15

set_option maxHeartbeats 4000000 in
set_option maxRecDepth 100000 in
theorem kX7_nailLink (l : Launch) (G : va_G) (cy : Nat → ClassId) {H0 : Heap} {z : Nat} {q h x r y : Nat → Nat} {k : Nat} {d : Nat → Nat → Nat} {E : Nat → MT} {M : MT} {A0 : Nat → Prop} (hk4 : k ≤ 4) (hW : WB M) (hP : va_P G vwCl ([oSy z q h x r y] ++ (wHi cy h k d E ++ wDo cy q M)) H0) (hD0 : va_D A0 ([oSy z q h x r y] ++ (wHi cy h k d E ++ wDo cy q M))) (j w o : Nat) (b1 b2 b3 : Int32) (hj : j < mP M) (hw : w < 16) (ho : o < 16) (hne : w ≠ o) (hb1 : frB b1 3296329728 1148846080 = true) (hb2 : frB b2 3296329728 1148846080 = true) (hb3 : frB b3 1036831949 1092616192 = true) (hn : mN M ≤ 15) : MutS l yX7_nailLink wsX7_nailLink 4 101 [.ref z, .int (nI j), .int (nI w), .int (nI o), .int b1, .int b2, .int b3] H0 G cy (nI (mN M)) h ([oSy z q h x r y] ++ (wHi cy h k d E ++ wDo cy q M)) [oSy z q h x r y] (wDo cy q (mP M, mN M + 1, mS M, mB M, mT M, mR M, va_up (mO M) (mN M) j, va_up (mW M) (mN M) w, va_up (mL M) (mN M) (some o), va_up (mF M) (mN M) 1, va_up (mA M) (mN M) (tfl b1), va_up (mU M) (mN M) (tfl b2), va_up (mH M) (mN M) (tfl b3))) := by
  refine Met.ofW (cc := cX7_nailLink) (maxL := 7) (ret := (some .int)) (by decide) rfl ?_
  intro p e s m args below meth c s₁ B hml hv
  obtain ⟨rfl, hH, hK⟩ := hv
  subst hH
  have hx := B.exec
  have hb := B.bytes
  have hr := B.returns
  have hts := atoms_spec (ws := wsX7_nailLink) B.pre
  have hown : s.vm.findClass RX7 = some m.cls := findClass_of_methodNamed B.named
  have hlocks := B.notSynchronized
  have hl := lv_entry ([.ref z, .int (nI j), .int (nI w), .int (nI o), .int b1, .int b2, .int b3]) (n := 7) (Nat.le_of_ble_eq_true rfl)
  rw [lg_entry_eq]
  generalize (lg_sl ([.ref z, .int (nI j), .int (nI w), .int (nI o), .int b1, .int b2, .int b3]) ++ List.replicate (7 - (lg_sl ([.ref z, .int (nI j), .int (nI w), .int (nI o), .int b1, .int b2, .int b3])).length) Slot.unset).toArray = ls at hl ⊢
  have hl : lv_has ls 7 [(0, .ref z), (1, .int (nI j)), (2, .int (nI w)), (3, .int (nI o)), (4, .int b1), (5, .int b2), (6, .int b3)] := hl
  obtain ⟨bP, bN, bR, bO, bW, bL, bF⟩ := id hW
  have hPd := hP.sub (ws' := wDo cy q M) [39, 40, 41, 42, 43, 44, 45, 46, 47] rfl
  have hD := hD0.self (sz := s.heap.size)
  generalize hAe : va_A ([oSy z q h x r y] ++ (wHi cy h k d E ++ wDo cy q M)) s.heap.size = A at hD ⊢
  have hA : ∀ q : Nat, s.heap.size ≤ q → A q := fun q h => by rw [← hAe]; exact Or.inr h
  have hS : va_S A s.heap s.heap [] := va_S.rf
  refine lv_aload_n hx hb dX7_nailLink_0 rfl (lv_at hl 0 rfl) ?_
  refine va_get (D := G) (ci := 6) (v := .ref (q 0)) (C := RX7) (T := TX7) (N := 9) hx hb hts iX7_nailLink_X7 hown hK hP 0 rfl rfl 0 (by decide) (hts (.fieldLink RX7 10 "NailedOrders" "door" "LNailedOrders$Door;") (by decide +kernel)) (fun _ h9 => h9) rfl dX7_nailLink_1 ?_
  refine lv_iload_n hx hb dX7_nailLink_4 rfl (lv_at hl 1 rfl) ?_
  refine o_VI (As := [.int (nI j)]) (rest := []) ⟨hx, hb, hml, hown, hts⟩ (kX1_isPerson l G cy hW hPd j (by omega)) (cwV 1 hts gX7_nailLink_X1_isPerson rfl rfl rfl (by decide +kernel) ⟨Nat.le_of_ble_eq_true rfl, Nat.le_of_ble_eq_true rfl⟩) hK (va_recv hK hP (ci := 0) (q0 := 39) rfl rfl) rfl hl.1 rfl (Nat.le_of_ble_eq_true rfl) dX7_nailLink_5 ⟨Nat.zero_le _, Nat.zero_le _⟩ ?_
  refine o_ifb_eq (tgt := 25) hx hb dX7_nailLink_8 (by decide) (fun c8 => ?_) (fun c8 => ?_)
  · exact absurd hj c8
  · refine lv_iload_n hx hb dX7_nailLink_11 rfl (lv_at hl 2 rfl) ?_
    refine o_SI (As := [.int (nI w)]) (rest := []) ⟨hx, hb, hml, hown, hts⟩ (kX7_isWord l G cy w (by omega)) (va_cwS 1 hts gX7_nailLink_X7_isWord rfl rfl rfl (by decide +kernel) ⟨Nat.le_of_ble_eq_true rfl, Nat.le_of_ble_eq_true rfl⟩) hK rfl hl.1 rfl (Nat.le_of_ble_eq_true rfl) dX7_nailLink_12 ⟨Nat.zero_le _, Nat.zero_le _⟩ ?_
    refine o_ifb_eq (tgt := 25) hx hb dX7_nailLink_15 (by decide) (fun c15 => ?_) (fun c15 => ?_)
    · exact absurd hw c15
    · refine lv_iload_n hx hb dX7_nailLink_18 rfl (lv_at hl 3 rfl) ?_
      refine o_SI (As := [.int (nI o)]) (rest := []) ⟨hx, hb, hml, hown, hts⟩ (kX7_isWord l G cy o (by omega)) (va_cwS 1 hts gX7_nailLink_X7_isWord rfl rfl rfl (by decide +kernel) ⟨Nat.le_of_ble_eq_true rfl, Nat.le_of_ble_eq_true rfl⟩) hK rfl hl.1 rfl (Nat.le_of_ble_eq_true rfl) dX7_nailLink_19 ⟨Nat.zero_le _, Nat.zero_le _⟩ ?_
      refine o_ifb_ne (tgt := 27) hx hb dX7_nailLink_22 (by decide) (fun c22 => ?_) (fun c22 => ?_)
      · refine lv_iload hx hb dX7_nailLink_27 (lv_at hl 4 rfl) ?_
        refine o_SI (As := [.int b1]) (rest := []) ⟨hx, hb, hml, hown, hts⟩ (kX0_areNumber l G cy b1) (va_cwS 1 hts gX7_nailLink_X0_areNumber rfl rfl rfl (by decide +kernel) ⟨Nat.le_of_ble_eq_true rfl, Nat.le_of_ble_eq_true rfl⟩) hK rfl hl.1 rfl (Nat.le_of_ble_eq_true rfl) dX7_nailLink_29 ⟨Nat.zero_le _, Nat.zero_le _⟩ ?_
        refine o_ifb_eq (tgt := 56) hx hb dX7_nailLink_32 (by decide) (fun c32 => ?_) (fun c32 => ?_)
        · exact absurd hb1 c32
        · refine lv_iload hx hb dX7_nailLink_35 (lv_at hl 5 rfl) ?_
          refine o_SI (As := [.int b2]) (rest := []) ⟨hx, hb, hml, hown, hts⟩ (kX0_areNumber l G cy b2) (va_cwS 1 hts gX7_nailLink_X0_areNumber rfl rfl rfl (by decide +kernel) ⟨Nat.le_of_ble_eq_true rfl, Nat.le_of_ble_eq_true rfl⟩) hK rfl hl.1 rfl (Nat.le_of_ble_eq_true rfl) dX7_nailLink_37 ⟨Nat.zero_le _, Nat.zero_le _⟩ ?_
          refine o_ifb_eq (tgt := 56) hx hb dX7_nailLink_40 (by decide) (fun c40 => ?_) (fun c40 => ?_)
          · exact absurd hb2 c40
          · refine lv_iload hx hb dX7_nailLink_43 (lv_at hl 6 rfl) ?_
            refine o_SI (As := [.int b3]) (rest := []) ⟨hx, hb, hml, hown, hts⟩ (kX0_areStrength l G cy b3) (va_cwS 1 hts gX7_nailLink_X0_areStrength rfl rfl rfl (by decide +kernel) ⟨Nat.le_of_ble_eq_true rfl, Nat.le_of_ble_eq_true rfl⟩) hK rfl hl.1 rfl (Nat.le_of_ble_eq_true rfl) dX7_nailLink_45 ⟨Nat.zero_le _, Nat.zero_le _⟩ ?_
            refine o_ifb_eq (tgt := 56) hx hb dX7_nailLink_48 (by decide) (fun c48 => ?_) (fun c48 => ?_)
            · exact absurd hb3 c48
            · refine lv_iload_n hx hb dX7_nailLink_51 rfl (lv_at hl 2 rfl) ?_
              refine lv_iload_n hx hb dX7_nailLink_52 rfl (lv_at hl 3 rfl) ?_
              refine o_icmp_ne (tgt := 59) hx hb dX7_nailLink_53 (by decide) (by omega) (by omega) (fun c53 => ?_) (fun c53 => ?_)
              · refine lv_aload_n hx hb dX7_nailLink_59 rfl (lv_at hl 0 rfl) ?_
                refine va_get (D := G) (ci := 6) (v := .ref (q 0)) (C := RX7) (T := TX7) (N := 9) hx hb hts iX7_nailLink_X7 hown hK hP 0 rfl rfl 0 (by decide) (hts (.fieldLink RX7 10 "NailedOrders" "door" "LNailedOrders$Door;") (by decide +kernel)) (fun _ h9 => h9) rfl dX7_nailLink_60 ?_
                refine lv_iconst (v := nI 0) hx hb dX7_nailLink_63 (by decide +kernel) ?_
                refine o_VI (As := [.int (nI 0)]) (rest := []) ⟨hx, hb, hml, hown, hts⟩ (kX1_hasRoomAfter l G cy hW hPd 0 (by decide)) (cwV 1 hts gX7_nailLink_X1_hasRoomAfter rfl rfl rfl (by decide +kernel) ⟨Nat.le_of_ble_eq_true rfl, Nat.le_of_ble_eq_true rfl⟩) hK (va_recv hK hP (ci := 0) (q0 := 39) rfl rfl) rfl hl.1 rfl (Nat.le_of_ble_eq_true rfl) dX7_nailLink_64 ⟨Nat.zero_le _, Nat.zero_le _⟩ ?_
                refine o_ifb_ne (tgt := 73) hx hb dX7_nailLink_67 (by decide) (fun c67 => ?_) (fun c67 => ?_)
                · refine lv_aload_n hx hb dX7_nailLink_73 rfl (lv_at hl 0 rfl) ?_
                  refine va_get (D := G) (ci := 6) (v := .ref (h 0)) (C := RX7) (T := TX7) (N := 9) hx hb hts iX7_nailLink_X7 hown hK hP 0 rfl rfl 3 (by decide) (hts (.fieldLink RX7 26 "NailedOrders" "history" "LNailedOrders$History;") (by decide +kernel)) (fun _ h9 => h9) rfl dX7_nailLink_74 ?_
                  refine lv_aload_n hx hb dX7_nailLink_77 rfl (lv_at hl 0 rfl) ?_
                  refine va_get (D := G) (ci := 6) (v := .ref (q 0)) (C := RX7) (T := TX7) (N := 9) hx hb hts iX7_nailLink_X7 hown hK hP 0 rfl rfl 0 (by decide) (hts (.fieldLink RX7 10 "NailedOrders" "door" "LNailedOrders$Door;") (by decide +kernel)) (fun _ h9 => h9) rfl dX7_nailLink_78 ?_
                  have hPc := hP.sub (ws' := wHi cy h k d E ++ wDo cy q M) [1, 2, 3, 4, 5, 6, 7, 8, 9, 10, 11, 12, 13, 14, 15, 16, 17, 18, 19, 20, 21, 22, 23, 24, 25, 26, 27, 28, 29, 30, 31, 32, 33, 34, 35, 36, 37, 38, 39, 40, 41, 42, 43, 44, 45, 46, 47] rfl
                  have hDc := hD.sub (ws' := wHi cy h k d E ++ wDo cy q M) [1, 2, 3, 4, 5, 6, 7, 8, 9, 10, 11, 12, 13, 14, 15, 16, 17, 18, 19, 20, 21, 22, 23, 24, 25, 26, 27, 28, 29, 30, 31, 32, 33, 34, 35, 36, 37, 38, 39, 40, 41, 42, 43, 44, 45, 46, 47] (by decide) rfl
                  have hFc := va_free (wc := wHi cy h k d E ++ wDo cy q M) hD hS hA [1, 2, 3, 4, 5, 6, 7, 8, 9, 10, 11, 12, 13, 14, 15, 16, 17, 18, 19, 20, 21, 22, 23, 24, 25, 26, 27, 28, 29, 30, 31, 32, 33, 34, 35, 36, 37, 38, 39, 40, 41, 42, 43, 44, 45, 46, 47] rfl
                  refine va_callv (va_runV (As := [.ref (q 0)]) (rest := []) ⟨hx, hb, hml, hown, hts⟩ (kX2_record l G cy k hk4 hPc hDc) (cwV 1 hts gX7_nailLink_X2_record rfl rfl rfl (by decide +kernel) ⟨Nat.le_of_ble_eq_true rfl, Nat.le_of_ble_eq_true rfl⟩) ⟨pR_blind, va_recv hK hP (ci := 1) (q0 := 1) rfl rfl, pR_at hK⟩ rfl rfl hl.1 rfl (lv_room (Nat.le_of_ble_eq_true rfl)) dX7_nailLink_81 ⟨Nat.zero_le _, Nat.zero_le _⟩) hS (fun q _ h => hFc q h) hFc (fun u_ t_ H locs ht hvm hw hB hz1 hk1 hS => ?_)
                  obtain ⟨k1, d1, E1⟩ := u_
                  have hk5 : k1 ≤ 4 := hw
                  have hB : va_P G vwCl (wHi cy h k1 d1 E1 ++ wDo cy q M) t_.heap ∧ va_D (va_A (wHi cy h k d E ++ wDo cy q M) _) (wHi cy h k1 d1 E1 ++ wDo cy q M) := hB
                  rw [ht] at hB
                  obtain ⟨hP1, hD1⟩ := hB
                  obtain ⟨hP, hD⟩ := va_join (wr := [oSy z q h x r y]) hP hD [1, 2, 3, 4, 5, 6, 7, 8, 9, 10, 11, 12, 13, 14, 15, 16, 17, 18, 19, 20, 21, 22, 23, 24, 25, 26, 27, 28, 29, 30, 31, 32, 33, 34, 35, 36, 37, 38, 39, 40, 41, 42, 43, 44, 45, 46, 47] [0] rfl rfl (by decide) (by decide) hk1 hFc hP1 hD1
                  refine lv_aload_n hx hb dX7_nailLink_84 rfl (lv_at hl 0 rfl) ?_
                  refine va_get (D := G) (ci := 6) (v := .ref (q 0)) (C := RX7) (T := TX7) (N := 9) hx hb hts iX7_nailLink_X7 hown hK hP 0 rfl rfl 0 (by decide) (hts (.fieldLink RX7 10 "NailedOrders" "door" "LNailedOrders$Door;") (by decide +kernel)) (fun _ h9 => h9) rfl dX7_nailLink_85 ?_
                  refine lv_iload_n hx hb dX7_nailLink_88 rfl (lv_at hl 1 rfl) ?_
                  refine lv_iload_n hx hb dX7_nailLink_89 rfl (lv_at hl 2 rfl) ?_
                  refine lv_iload_n hx hb dX7_nailLink_90 rfl (lv_at hl 3 rfl) ?_
                  refine lv_iload hx hb dX7_nailLink_91 (lv_at hl 4 rfl) ?_
                  refine o_SF (As := [.int b1]) (rest := [.int (nI o), .int (nI w), .int (nI j), .ref (q 0)]) ⟨hx, hb, hml, hown, hts⟩ (kX0_toFloat l G cy b1) (va_cwS 1 hts gX7_nailLink_X0_toFloat rfl rfl rfl (by decide +kernel) ⟨Nat.le_of_ble_eq_true rfl, Nat.le_of_ble_eq_true rfl⟩) hK rfl hl.1 rfl (Nat.le_of_ble_eq_true rfl) dX7_nailLink_93 ⟨Nat.zero_le _, Nat.zero_le _⟩ ?_
                  refine lv_iload hx hb dX7_nailLink_96 (lv_at hl 5 rfl) ?_
                  refine o_SF (As := [.int b2]) (rest := [.float (tfl b1), .int (nI o), .int (nI w), .int (nI j), .ref (q 0)]) ⟨hx, hb, hml, hown, hts⟩ (kX0_toFloat l G cy b2) (va_cwS 1 hts gX7_nailLink_X0_toFloat rfl rfl rfl (by decide +kernel) ⟨Nat.le_of_ble_eq_true rfl, Nat.le_of_ble_eq_true rfl⟩) hK rfl hl.1 rfl (Nat.le_of_ble_eq_true rfl) dX7_nailLink_98 ⟨Nat.zero_le _, Nat.zero_le _⟩ ?_
                  refine lv_iload hx hb dX7_nailLink_101 (lv_at hl 6 rfl) ?_
                  refine o_SF (As := [.int b3]) (rest := [.float (tfl b2), .float (tfl b1), .int (nI o), .int (nI w), .int (nI j), .ref (q 0)]) ⟨hx, hb, hml, hown, hts⟩ (kX0_toFloat l G cy b3) (va_cwS 1 hts gX7_nailLink_X0_toFloat rfl rfl rfl (by decide +kernel) ⟨Nat.le_of_ble_eq_true rfl, Nat.le_of_ble_eq_true rfl⟩) hK rfl hl.1 rfl (Nat.le_of_ble_eq_true rfl) dX7_nailLink_103 ⟨Nat.zero_le _, Nat.zero_le _⟩ ?_
                  have hPc := hP.sub (ws' := wDo cy q M) [39, 40, 41, 42, 43, 44, 45, 46, 47] rfl
                  have hDc := hD.sub (ws' := wDo cy q M) [39, 40, 41, 42, 43, 44, 45, 46, 47] (by decide) rfl
                  have hFc := va_free (wc := wDo cy q M) hD hS hA [39, 40, 41, 42, 43, 44, 45, 46, 47] rfl
                  refine va_calli (va_runV (As := [.int (nI j), .int (nI w), .int (nI o), .float (tfl b1), .float (tfl b2), .float (tfl b3)]) (rest := []) ⟨hx, hb, hml, hown, hts⟩ (kX1_hang l G cy hW hPc hDc j w (some o) (tfl b1) (tfl b2) (tfl b3) (by omega)) (cwV 6 hts gX7_nailLink_X1_hang rfl rfl rfl (by decide +kernel) ⟨Nat.le_of_ble_eq_true rfl, Nat.le_of_ble_eq_true rfl⟩) ⟨pR_blind, va_recv hK hP (ci := 0) (q0 := 39) rfl rfl, pR_at hK⟩ rfl rfl hl.1 rfl (lv_room (Nat.le_of_ble_eq_true rfl)) dX7_nailLink_106 ⟨Nat.zero_le _, Nat.zero_le _⟩) hS (fun q _ h => hFc q h) hFc (fun r_ u_ t_ H locs ht hvm hw hB hz1 hk1 hS => ?_)
                  rw [ht] at hB
                  have hP : va_P G vwCl ([oSy z q h x r y] ++ [(h 0, .inr (1, [.ref (h 1), .int (nI k1)])), (h 1, eR cy 4 (fun i => some (d1 i 0)))] ++ wDo cy (d1 0) (E1 0) ++ wDo cy (d1 1) (E1 1) ++ wDo cy (d1 2) (E1 2) ++ wDo cy (d1 3) (E1 3) ++ wDo cy q (mP M, mN M + 1, mS M, mB M, mT M, mR M, va_up (mO M) (mN M) j, va_up (mW M) (mN M) w, va_up (mL M) (mN M) (some o), va_up (mF M) (mN M) 1, va_up (mA M) (mN M) (tfl b1), va_up (mU M) (mN M) (tfl b2), va_up (mH M) (mN M) (tfl b3))) H := (o_join hP hD [39, 40, 41, 42, 43, 44, 45, 46, 47] [0, 1, 2, 3, 4, 5, 6, 7, 8, 9, 10, 11, 12, 13, 14, 15, 16, 17, 18, 19, 20, 21, 22, 23, 24, 25, 26, 27, 28, 29, 30, 31, 32, 33, 34, 35, 36, 37, 38] rfl (wr := [oSy z q h x r y] ++ [(h 0, .inr (1, [.ref (h 1), .int (nI k1)])), (h 1, eR cy 4 (fun i => some (d1 i 0)))] ++ wDo cy (d1 0) (E1 0) ++ wDo cy (d1 1) (E1 1) ++ wDo cy (d1 2) (E1 2) ++ wDo cy (d1 3) (E1 3)) rfl (by decide) (by decide) (by decide) hk1 hFc hB rfl).sub [0, 1, 2, 3, 4, 5, 6, 7, 8, 9, 10, 11, 12, 13, 14, 15, 16, 17, 18, 19, 20, 21, 22, 23, 24, 25, 26, 27, 28, 29, 30, 31, 32, 33, 34, 35, 36, 37, 38, 39, 40, 41, 42, 43, 44, 45, 46, 47] rfl
                  have hD : va_D A ([oSy z q h x r y] ++ [(h 0, .inr (1, [.ref (h 1), .int (nI k1)])), (h 1, eR cy 4 (fun i => some (d1 i 0)))] ++ wDo cy (d1 0) (E1 0) ++ wDo cy (d1 1) (E1 1) ++ wDo cy (d1 2) (E1 2) ++ wDo cy (d1 3) (E1 3) ++ wDo cy q (mP M, mN M + 1, mS M, mB M, mT M, mR M, va_up (mO M) (mN M) j, va_up (mW M) (mN M) w, va_up (mL M) (mN M) (some o), va_up (mF M) (mN M) 1, va_up (mA M) (mN M) (tfl b1), va_up (mU M) (mN M) (tfl b2), va_up (mH M) (mN M) (tfl b3))) := vd_same hD rfl
                  obtain rfl : r_ = nI (mN M) := hw
                  exact o_endIs (k := k1) (d := d1) (E := E1) hx hb hr hlocks dX7_nailLink_109 hk5 hP hD hS rfl
                · exact absurd ⟨by have := cR_le (ftB M 1) 0 (mN M); omega, by omega⟩ c67
              · exact absurd c53 hne
      · exact absurd ho c22

set_option maxRecDepth 100000 in
theorem iX7_tear_X1 : ∀ w ∈ u_ws RX1 TX1 13, w ∈ wsX7_tear := by decide +kernel
set_option maxHeartbeats 4000000 in
set_option maxRecDepth 100000 in
theorem kX7_tear (l : Launch) (G : va_G) (cy : Nat → ClassId) {H0 : Heap} {z : Nat} {q h x r y : Nat → Nat} {k : Nat} {d : Nat → Nat → Nat} {E : Nat → MT} {M : MT} {A0 : Nat → Prop} (hk4 : k ≤ 4) (hW : WB M) (hP : va_P G vwCl ([oSy z q h x r y] ++ (wHi cy h k d E ++ wDo cy q M)) H0) (hD0 : va_D A0 ([oSy z q h x r y] ++ (wHi cy h k d E ++ wDo cy q M))) (j : Nat) (hj : j < mN M) (hh : mF M j = 1) : MutS l yX7_tear wsX7_tear 4 101 [.ref z, .int (nI j)] H0 G cy (nI (cR (hfB (mP M, mN M, mS M, mB M, mT M, mR M, mO M, mW M, mL M, va_up (mF M) j 3, mA M, mU M, mH M) (mW M j)) 0 (mN M))) h ([oSy z q h x r y] ++ (wHi cy h k d E ++ wDo cy q M)) [oSy z q h x r y] (wDo cy q (mP M, mN M, mS M, mB M, mT M, mR M, mO M, mW M, mL M, va_up (mF M) j 3, mA M, mU M, mH M)) := by
  refine Met.ofW (cc := cX7_tear) (maxL := 2) (ret := (some .int)) (by decide) rfl ?_
  intro p e s m args below meth c s₁ B hml hv
  obtain ⟨rfl, hH, hK⟩ := hv
  subst hH
  have hx := B.exec
  have hb := B.bytes
  have hr := B.returns
  have hts := atoms_spec (ws := wsX7_tear) B.pre
  have hown : s.vm.findClass RX7 = some m.cls := findClass_of_methodNamed B.named
  have hlocks := B.notSynchronized
  have hl := lv_entry ([.ref z, .int (nI j)]) (n := 2) (Nat.le_of_ble_eq_true rfl)
  rw [lg_entry_eq]
  generalize (lg_sl ([.ref z, .int (nI j)]) ++ List.replicate (2 - (lg_sl ([.ref z, .int (nI j)])).length) Slot.unset).toArray = ls at hl ⊢
  have hl : lv_has ls 2 [(0, .ref z), (1, .int (nI j))] := hl
  obtain ⟨bP, bN, bR, bO, bW, bL, bF⟩ := id hW
  have hPd := hP.sub (ws' := wDo cy q M) [39, 40, 41, 42, 43, 44, 45, 46, 47] rfl
  have hD := hD0.self (sz := s.heap.size)
  generalize hAe : va_A ([oSy z q h x r y] ++ (wHi cy h k d E ++ wDo cy q M)) s.heap.size = A at hD ⊢
  have hA : ∀ q : Nat, s.heap.size ≤ q → A q := fun q h => by rw [← hAe]; exact Or.inr h
  have hS : va_S A s.heap s.heap [] := va_S.rf
  refine lv_aload_n hx hb dX7_tear_0 rfl (lv_at hl 0 rfl) ?_
  refine va_get (D := G) (ci := 6) (v := .ref (q 0)) (C := RX7) (T := TX7) (N := 9) hx hb hts iX7_tear_X7 hown hK hP 0 rfl rfl 0 (by decide) (hts (.fieldLink RX7 10 "NailedOrders" "door" "LNailedOrders$Door;") (by decide +kernel)) (fun _ h9 => h9) rfl dX7_tear_1 ?_
  refine lv_iload_n hx hb dX7_tear_4 rfl (lv_at hl 1 rfl) ?_
  refine o_VI (As := [.int (nI j)]) (rest := []) ⟨hx, hb, hml, hown, hts⟩ (kX1_isOrder l G cy hW hPd j (by omega)) (cwV 1 hts gX7_tear_X1_isOrder rfl rfl rfl (by decide +kernel) ⟨Nat.le_of_ble_eq_true rfl, Nat.le_of_ble_eq_true rfl⟩) hK (va_recv hK hP (ci := 0) (q0 := 39) rfl rfl) rfl hl.1 rfl (Nat.le_of_ble_eq_true rfl) dX7_tear_5 ⟨Nat.zero_le _, Nat.zero_le _⟩ ?_
  refine o_ifb_ne (tgt := 13) hx hb dX7_tear_8 (by decide) (fun c8 => ?_) (fun c8 => ?_)
  · refine lv_aload_n hx hb dX7_tear_13 rfl (lv_at hl 0 rfl) ?_
    refine va_get (D := G) (ci := 6) (v := .ref (q 0)) (C := RX7) (T := TX7) (N := 9) hx hb hts iX7_tear_X7 hown hK hP 0 rfl rfl 0 (by decide) (hts (.fieldLink RX7 10 "NailedOrders" "door" "LNailedOrders$Door;") (by decide +kernel)) (fun _ h9 => h9) rfl dX7_tear_14 ?_
    refine lv_iload_n hx hb dX7_tear_17 rfl (lv_at hl 1 rfl) ?_
    refine o_VI (As := [.int (nI j)]) (rest := []) ⟨hx, hb, hml, hown, hts⟩ (kX1_hangs l G cy hW hPd j (by omega)) (cwV 1 hts gX7_tear_X1_hangs rfl rfl rfl (by decide +kernel) ⟨Nat.le_of_ble_eq_true rfl, Nat.le_of_ble_eq_true rfl⟩) hK (va_recv hK hP (ci := 0) (q0 := 39) rfl rfl) rfl hl.1 rfl (Nat.le_of_ble_eq_true rfl) dX7_tear_18 ⟨Nat.zero_le _, Nat.zero_le _⟩ ?_
    refine o_ifb_ne (tgt := 27) hx hb dX7_tear_21 (by decide) (fun c21 => ?_) (fun c21 => ?_)
    · refine lv_aload_n hx hb dX7_tear_27 rfl (lv_at hl 0 rfl) ?_
      refine va_get (D := G) (ci := 6) (v := .ref (h 0)) (C := RX7) (T := TX7) (N := 9) hx hb hts iX7_tear_X7 hown hK hP 0 rfl rfl 3 (by decide) (hts (.fieldLink RX7 26 "NailedOrders" "history" "LNailedOrders$History;") (by decide +kernel)) (fun _ h9 => h9) rfl dX7_tear_28 ?_
      refine lv_aload_n hx hb dX7_tear_31 rfl (lv_at hl 0 rfl) ?_
      refine va_get (D := G) (ci := 6) (v := .ref (q 0)) (C := RX7) (T := TX7) (N := 9) hx hb hts iX7_tear_X7 hown hK hP 0 rfl rfl 0 (by decide) (hts (.fieldLink RX7 10 "NailedOrders" "door" "LNailedOrders$Door;") (by decide +kernel)) (fun _ h9 => h9) rfl dX7_tear_32 ?_
      have hPc := hP.sub (ws' := wHi cy h k d E ++ wDo cy q M) [1, 2, 3, 4, 5, 6, 7, 8, 9, 10, 11, 12, 13, 14, 15, 16, 17, 18, 19, 20, 21, 22, 23, 24, 25, 26, 27, 28, 29, 30, 31, 32, 33, 34, 35, 36, 37, 38, 39, 40, 41, 42, 43, 44, 45, 46, 47] rfl
      have hDc := hD.sub (ws' := wHi cy h k d E ++ wDo cy q M) [1, 2, 3, 4, 5, 6, 7, 8, 9, 10, 11, 12, 13, 14, 15, 16, 17, 18, 19, 20, 21, 22, 23, 24, 25, 26, 27, 28, 29, 30, 31, 32, 33, 34, 35, 36, 37, 38, 39, 40, 41, 42, 43, 44, 45, 46, 47] (by decide) rfl
      have hFc := va_free (wc := wHi cy h k d E ++ wDo cy q M) hD hS hA [1, 2, 3, 4, 5, 6, 7, 8, 9, 10, 11, 12, 13, 14, 15, 16, 17, 18, 19, 20, 21, 22, 23, 24, 25, 26, 27, 28, 29, 30, 31, 32, 33, 34, 35, 36, 37, 38, 39, 40, 41, 42, 43, 44, 45, 46, 47] rfl
      refine va_callv (va_runV (As := [.ref (q 0)]) (rest := []) ⟨hx, hb, hml, hown, hts⟩ (kX2_record l G cy k hk4 hPc hDc) (cwV 1 hts gX7_tear_X2_record rfl rfl rfl (by decide +kernel) ⟨Nat.le_of_ble_eq_true rfl, Nat.le_of_ble_eq_true rfl⟩) ⟨pR_blind, va_recv hK hP (ci := 1) (q0 := 1) rfl rfl, pR_at hK⟩ rfl rfl hl.1 rfl (lv_room (Nat.le_of_ble_eq_true rfl)) dX7_tear_35 ⟨Nat.zero_le _, Nat.zero_le _⟩) hS (fun q _ h => hFc q h) hFc (fun u_ t_ H locs ht hvm hw hB hz1 hk1 hS => ?_)
      obtain ⟨k1, d1, E1⟩ := u_
      have hk5 : k1 ≤ 4 := hw
      have hB : va_P G vwCl (wHi cy h k1 d1 E1 ++ wDo cy q M) t_.heap ∧ va_D (va_A (wHi cy h k d E ++ wDo cy q M) _) (wHi cy h k1 d1 E1 ++ wDo cy q M) := hB
      rw [ht] at hB
      obtain ⟨hP1, hD1⟩ := hB
      obtain ⟨hP, hD⟩ := va_join (wr := [oSy z q h x r y]) hP hD [1, 2, 3, 4, 5, 6, 7, 8, 9, 10, 11, 12, 13, 14, 15, 16, 17, 18, 19, 20, 21, 22, 23, 24, 25, 26, 27, 28, 29, 30, 31, 32, 33, 34, 35, 36, 37, 38, 39, 40, 41, 42, 43, 44, 45, 46, 47] [0] rfl rfl (by decide) (by decide) hk1 hFc hP1 hD1
      refine lv_aload_n hx hb dX7_tear_38 rfl (lv_at hl 0 rfl) ?_
      refine va_get (D := G) (ci := 6) (v := .ref (q 0)) (C := RX7) (T := TX7) (N := 9) hx hb hts iX7_tear_X7 hown hK hP 0 rfl rfl 0 (by decide) (hts (.fieldLink RX7 10 "NailedOrders" "door" "LNailedOrders$Door;") (by decide +kernel)) (fun _ h9 => h9) rfl dX7_tear_39 ?_
      refine va_get (D := G) (ci := 0) (v := .ref (q 12)) (C := RX1) (T := TX1) (N := 13) hx hb hts iX7_tear_X1 hown hK hP 39 rfl rfl 12 (by decide) (hts (.fieldLink RX7 125 "NailedOrders$Door" "fates" "[I") (by decide +kernel)) (fun _ h9 => h9) rfl dX7_tear_42 ?_
      refine lv_iload_n hx hb dX7_tear_45 rfl (lv_at hl 1 rfl) ?_
      refine lv_iconst (v := nI 3) hx hb dX7_tear_46 (by decide +kernel) ?_
      refine o_iast hx hb hK hP hD hS 47 0 rfl rfl j (by omega) (by decide) (upd_nI (mF M) j 3) dX7_tear_47 (fun H locs hP hD hS => ?_)
      have hP : va_P G vwCl ([oSy z q h x r y] ++ [(h 0, .inr (1, [.ref (h 1), .int (nI k1)])), (h 1, eR cy 4 (fun i => some (d1 i 0)))] ++ wDo cy (d1 0) (E1 0) ++ wDo cy (d1 1) (E1 1) ++ wDo cy (d1 2) (E1 2) ++ wDo cy (d1 3) (E1 3) ++ wDo cy q (mP M, mN M, mS M, mB M, mT M, mR M, mO M, mW M, mL M, va_up (mF M) j 3, mA M, mU M, mH M)) H := hP
      have hD : va_D A ([oSy z q h x r y] ++ [(h 0, .inr (1, [.ref (h 1), .int (nI k1)])), (h 1, eR cy 4 (fun i => some (d1 i 0)))] ++ wDo cy (d1 0) (E1 0) ++ wDo cy (d1 1) (E1 1) ++ wDo cy (d1 2) (E1 2) ++ wDo cy (d1 3) (E1 3) ++ wDo cy q (mP M, mN M, mS M, mB M, mT M, mR M, mO M, mW M, mL M, va_up (mF M) j 3, mA M, mU M, mH M)) := hD
      refine lv_aload_n hx hb dX7_tear_48 rfl (lv_at hl 0 rfl) ?_
      refine va_get (D := G) (ci := 6) (v := .ref (q 0)) (C := RX7) (T := TX7) (N := 9) hx hb hts iX7_tear_X7 hown hK hP 0 rfl rfl 0 (by decide) (hts (.fieldLink RX7 10 "NailedOrders" "door" "LNailedOrders$Door;") (by decide +kernel)) (fun _ h9 => h9) rfl dX7_tear_49 ?_
      refine lv_aload_n hx hb dX7_tear_52 rfl (lv_at hl 0 rfl) ?_
      refine va_get (D := G) (ci := 6) (v := .ref (q 0)) (C := RX7) (T := TX7) (N := 9) hx hb hts iX7_tear_X7 hown hK hP 0 rfl rfl 0 (by decide) (hts (.fieldLink RX7 10 "NailedOrders" "door" "LNailedOrders$Door;") (by decide +kernel)) (fun _ h9 => h9) rfl dX7_tear_53 ?_
      refine va_get (D := G) (ci := 0) (v := .ref (q 7)) (C := RX1) (T := TX1) (N := 13) hx hb hts iX7_tear_X1 hown hK hP 39 rfl rfl 7 (by decide) (hts (.fieldLink RX7 128 "NailedOrders$Door" "words" "[I") (by decide +kernel)) (fun _ h9 => h9) rfl dX7_tear_56 ?_
      refine lv_iload_n hx hb dX7_tear_59 rfl (lv_at hl 1 rfl) ?_
      refine o_iald hx hb hK hP 42 0 rfl rfl j (by omega) (by decide) dX7_tear_60 ?_
      have hPd := hP.sub (ws' := wDo cy q (mP M, mN M, mS M, mB M, mT M, mR M, mO M, mW M, mL M, va_up (mF M) j 3, mA M, mU M, mH M)) [39, 40, 41, 42, 43, 44, 45, 46, 47] rfl
      refine o_VI (As := [.int (nI (mW M j))]) (rest := []) ⟨hx, hb, hml, hown, hts⟩ (kX1_hangingFor l G cy (WB_F hW j 3 (by decide)) hPd (mW M j) (bW j)) (cwV 1 hts gX7_tear_X1_hangingFor rfl rfl rfl (by decide +kernel) ⟨Nat.le_of_ble_eq_true rfl, Nat.le_of_ble_eq_true rfl⟩) hK (va_recv hK hP (ci := 0) (q0 := 39) rfl rfl) rfl hl.1 rfl (Nat.le_of_ble_eq_true rfl) dX7_tear_61 ⟨Nat.zero_le _, Nat.zero_le _⟩ ?_
      exact o_endIs (k := k1) (d := d1) (E := E1) hx hb hr hlocks dX7_tear_64 hk5 hP hD hS rfl
    · exact absurd hh c21
  · exact absurd hj c8

set_option maxRecDepth 100000 in
theorem iX7_hammer_X1 : ∀ w ∈ u_ws RX1 TX1 13, w ∈ wsX7_hammer := by decide +kernel
set_option maxHeartbeats 4000000 in
set_option maxRecDepth 100000 in
theorem kX7_hammer (l : Launch) (G : va_G) (cy : Nat → ClassId) {H0 : Heap} {z : Nat} {q h x r y : Nat → Nat} {k : Nat} {d : Nat → Nat → Nat} {E : Nat → MT} {M : MT} {A0 : Nat → Prop} (hk4 : k ≤ 4) (hW : WB M) (hP : va_P G vwCl ([oSy z q h x r y] ++ (wHi cy h k d E ++ wDo cy q M)) H0) (hD0 : va_D A0 ([oSy z q h x r y] ++ (wHi cy h k d E ++ wDo cy q M))) (j : Nat) (hj : j < mN M) (hh : mF M j = 1) (hn1 : vf_n32 (FP.fsub 1092616192 (mH M j))) (hn2 : vf_n32 (FP.fmul (FP.fsub 1092616192 (mH M j)) 1056964608)) (hn3 : vf_n32 (FP.fadd (mH M j) (FP.fmul (FP.fsub 1092616192 (mH M j)) 1056964608))) (hn4 : vf_n32 (FP.fmul (FP.fadd (mH M j) (FP.fmul (FP.fsub 1092616192 (mH M j)) 1056964608)) 1120403456)) : MutS l yX7_hammer wsX7_hammer 3 101 [.ref z, .int (nI j)] H0 G cy (FP.f2i (FP.fmul (FP.fadd (mH M j) (FP.fmul (FP.fsub 1092616192 (mH M j)) 1056964608)) 1120403456)) h ([oSy z q h x r y] ++ (wHi cy h k d E ++ wDo cy q M)) [oSy z q h x r y] (wDo cy q (mP M, mN M, mS M, mB M, mT M, mR M, mO M, mW M, mL M, mF M, mA M, mU M, va_up (mH M) j (FP.fadd (mH M j) (FP.fmul (FP.fsub 1092616192 (mH M j)) 1056964608)))) := by
  refine Met.ofW (cc := cX7_hammer) (maxL := 3) (ret := (some .int)) (by decide) rfl ?_
  intro p e s m args below meth c s₁ B hml hv
  obtain ⟨rfl, hH, hK⟩ := hv
  subst hH
  have hx := B.exec
  have hb := B.bytes
  have hr := B.returns
  have hts := atoms_spec (ws := wsX7_hammer) B.pre
  have hown : s.vm.findClass RX7 = some m.cls := findClass_of_methodNamed B.named
  have hlocks := B.notSynchronized
  have hl := lv_entry ([.ref z, .int (nI j)]) (n := 3) (Nat.le_of_ble_eq_true rfl)
  rw [lg_entry_eq]
  generalize (lg_sl ([.ref z, .int (nI j)]) ++ List.replicate (3 - (lg_sl ([.ref z, .int (nI j)])).length) Slot.unset).toArray = ls at hl ⊢
  have hl : lv_has ls 3 [(0, .ref z), (1, .int (nI j))] := hl
  obtain ⟨bP, bN, bR, bO, bW, bL, bF⟩ := id hW
  have hPd := hP.sub (ws' := wDo cy q M) [39, 40, 41, 42, 43, 44, 45, 46, 47] rfl
  have hD := hD0.self (sz := s.heap.size)
  generalize hAe : va_A ([oSy z q h x r y] ++ (wHi cy h k d E ++ wDo cy q M)) s.heap.size = A at hD ⊢
  have hA : ∀ q : Nat, s.heap.size ≤ q → A q := fun q h => by rw [← hAe]; exact Or.inr h
  have hS : va_S A s.heap s.heap [] := va_S.rf
  refine lv_aload_n hx hb dX7_hammer_0 rfl (lv_at hl 0 rfl) ?_
  refine va_get (D := G) (ci := 6) (v := .ref (q 0)) (C := RX7) (T := TX7) (N := 9) hx hb hts iX7_hammer_X7 hown hK hP 0 rfl rfl 0 (by decide) (hts (.fieldLink RX7 10 "NailedOrders" "door" "LNailedOrders$Door;") (by decide +kernel)) (fun _ h9 => h9) rfl dX7_hammer_1 ?_
  refine lv_iload_n hx hb dX7_hammer_4 rfl (lv_at hl 1 rfl) ?_
  refine o_VI (As := [.int (nI j)]) (rest := []) ⟨hx, hb, hml, hown, hts⟩ (kX1_isOrder l G cy hW hPd j (by omega)) (cwV 1 hts gX7_hammer_X1_isOrder rfl rfl rfl (by decide +kernel) ⟨Nat.le_of_ble_eq_true rfl, Nat.le_of_ble_eq_true rfl⟩) hK (va_recv hK hP (ci := 0) (q0 := 39) rfl rfl) rfl hl.1 rfl (Nat.le_of_ble_eq_true rfl) dX7_hammer_5 ⟨Nat.zero_le _, Nat.zero_le _⟩ ?_
  refine o_ifb_ne (tgt := 13) hx hb dX7_hammer_8 (by decide) (fun c8 => ?_) (fun c8 => ?_)
  · refine lv_aload_n hx hb dX7_hammer_13 rfl (lv_at hl 0 rfl) ?_
    refine va_get (D := G) (ci := 6) (v := .ref (q 0)) (C := RX7) (T := TX7) (N := 9) hx hb hts iX7_hammer_X7 hown hK hP 0 rfl rfl 0 (by decide) (hts (.fieldLink RX7 10 "NailedOrders" "door" "LNailedOrders$Door;") (by decide +kernel)) (fun _ h9 => h9) rfl dX7_hammer_14 ?_
    refine lv_iload_n hx hb dX7_hammer_17 rfl (lv_at hl 1 rfl) ?_
    refine o_VI (As := [.int (nI j)]) (rest := []) ⟨hx, hb, hml, hown, hts⟩ (kX1_hangs l G cy hW hPd j (by omega)) (cwV 1 hts gX7_hammer_X1_hangs rfl rfl rfl (by decide +kernel) ⟨Nat.le_of_ble_eq_true rfl, Nat.le_of_ble_eq_true rfl⟩) hK (va_recv hK hP (ci := 0) (q0 := 39) rfl rfl) rfl hl.1 rfl (Nat.le_of_ble_eq_true rfl) dX7_hammer_18 ⟨Nat.zero_le _, Nat.zero_le _⟩ ?_
    refine o_ifb_ne (tgt := 27) hx hb dX7_hammer_21 (by decide) (fun c21 => ?_) (fun c21 => ?_)
    · refine lv_aload_n hx hb dX7_hammer_27 rfl (lv_at hl 0 rfl) ?_
      refine va_get (D := G) (ci := 6) (v := .ref (h 0)) (C := RX7) (T := TX7) (N := 9) hx hb hts iX7_hammer_X7 hown hK hP 0 rfl rfl 3 (by decide) (hts (.fieldLink RX7 26 "NailedOrders" "history" "LNailedOrders$History;") (by decide +kernel)) (fun _ h9 => h9) rfl dX7_hammer_28 ?_
      refine lv_aload_n hx hb dX7_hammer_31 rfl (lv_at hl 0 rfl) ?_
      refine va_get (D := G) (ci := 6) (v := .ref (q 0)) (C := RX7) (T := TX7) (N := 9) hx hb hts iX7_hammer_X7 hown hK hP 0 rfl rfl 0 (by decide) (hts (.fieldLink RX7 10 "NailedOrders" "door" "LNailedOrders$Door;") (by decide +kernel)) (fun _ h9 => h9) rfl dX7_hammer_32 ?_
      have hPc := hP.sub (ws' := wHi cy h k d E ++ wDo cy q M) [1, 2, 3, 4, 5, 6, 7, 8, 9, 10, 11, 12, 13, 14, 15, 16, 17, 18, 19, 20, 21, 22, 23, 24, 25, 26, 27, 28, 29, 30, 31, 32, 33, 34, 35, 36, 37, 38, 39, 40, 41, 42, 43, 44, 45, 46, 47] rfl
      have hDc := hD.sub (ws' := wHi cy h k d E ++ wDo cy q M) [1, 2, 3, 4, 5, 6, 7, 8, 9, 10, 11, 12, 13, 14, 15, 16, 17, 18, 19, 20, 21, 22, 23, 24, 25, 26, 27, 28, 29, 30, 31, 32, 33, 34, 35, 36, 37, 38, 39, 40, 41, 42, 43, 44, 45, 46, 47] (by decide) rfl
      have hFc := va_free (wc := wHi cy h k d E ++ wDo cy q M) hD hS hA [1, 2, 3, 4, 5, 6, 7, 8, 9, 10, 11, 12, 13, 14, 15, 16, 17, 18, 19, 20, 21, 22, 23, 24, 25, 26, 27, 28, 29, 30, 31, 32, 33, 34, 35, 36, 37, 38, 39, 40, 41, 42, 43, 44, 45, 46, 47] rfl
      refine va_callv (va_runV (As := [.ref (q 0)]) (rest := []) ⟨hx, hb, hml, hown, hts⟩ (kX2_record l G cy k hk4 hPc hDc) (cwV 1 hts gX7_hammer_X2_record rfl rfl rfl (by decide +kernel) ⟨Nat.le_of_ble_eq_true rfl, Nat.le_of_ble_eq_true rfl⟩) ⟨pR_blind, va_recv hK hP (ci := 1) (q0 := 1) rfl rfl, pR_at hK⟩ rfl rfl hl.1 rfl (lv_room (Nat.le_of_ble_eq_true rfl)) dX7_hammer_35 ⟨Nat.zero_le _, Nat.zero_le _⟩) hS (fun q _ h => hFc q h) hFc (fun u_ t_ H locs ht hvm hw hB hz1 hk1 hS => ?_)
      obtain ⟨k1, d1, E1⟩ := u_
      have hk5 : k1 ≤ 4 := hw
      have hB : va_P G vwCl (wHi cy h k1 d1 E1 ++ wDo cy q M) t_.heap ∧ va_D (va_A (wHi cy h k d E ++ wDo cy q M) _) (wHi cy h k1 d1 E1 ++ wDo cy q M) := hB
      rw [ht] at hB
      obtain ⟨hP1, hD1⟩ := hB
      obtain ⟨hP, hD⟩ := va_join (wr := [oSy z q h x r y]) hP hD [1, 2, 3, 4, 5, 6, 7, 8, 9, 10, 11, 12, 13, 14, 15, 16, 17, 18, 19, 20, 21, 22, 23, 24, 25, 26, 27, 28, 29, 30, 31, 32, 33, 34, 35, 36, 37, 38, 39, 40, 41, 42, 43, 44, 45, 46, 47] [0] rfl rfl (by decide) (by decide) hk1 hFc hP1 hD1
      refine lv_aload_n hx hb dX7_hammer_38 rfl (lv_at hl 0 rfl) ?_
      refine va_get (D := G) (ci := 6) (v := .ref (q 0)) (C := RX7) (T := TX7) (N := 9) hx hb hts iX7_hammer_X7 hown hK hP 0 rfl rfl 0 (by decide) (hts (.fieldLink RX7 10 "NailedOrders" "door" "LNailedOrders$Door;") (by decide +kernel)) (fun _ h9 => h9) rfl dX7_hammer_39 ?_
      refine va_get (D := G) (ci := 0) (v := .ref (q 11)) (C := RX1) (T := TX1) (N := 13) hx hb hts iX7_hammer_X1 hown hK hP 39 rfl rfl 11 (by decide) (hts (.fieldLink RX7 134 "NailedOrders$Door" "strengths" "[F") (by decide +kernel)) (fun _ h9 => h9) rfl dX7_hammer_42 ?_
      refine lv_iload_n hx hb dX7_hammer_45 rfl (lv_at hl 1 rfl) ?_
      refine o_fald hx hb hK hP 46 1 rfl rfl j (by omega) (by decide) dX7_hammer_46 ?_
      refine lv_fstore_n (lv' := [(2, .float (mH M j)), (0, .ref z), (1, .int (nI j))]) hx hb dX7_hammer_47 rfl hl (by decide) rfl (fun ls hl => ?_)
      refine lv_aload_n hx hb dX7_hammer_48 rfl (lv_at hl 1 rfl) ?_
      refine va_get (D := G) (ci := 6) (v := .ref (q 0)) (C := RX7) (T := TX7) (N := 9) hx hb hts iX7_hammer_X7 hown hK hP 0 rfl rfl 0 (by decide) (hts (.fieldLink RX7 10 "NailedOrders" "door" "LNailedOrders$Door;") (by decide +kernel)) (fun _ h9 => h9) rfl dX7_hammer_49 ?_
      refine va_get (D := G) (ci := 0) (v := .ref (q 11)) (C := RX1) (T := TX1) (N := 13) hx hb hts iX7_hammer_X1 hown hK hP 39 rfl rfl 11 (by decide) (hts (.fieldLink RX7 134 "NailedOrders$Door" "strengths" "[F") (by decide +kernel)) (fun _ h9 => h9) rfl dX7_hammer_52 ?_
      refine lv_iload_n hx hb dX7_hammer_55 rfl (lv_at hl 2 rfl) ?_
      refine lv_fload_n hx hb dX7_hammer_56 rfl (lv_at hl 0 rfl) ?_
      refine lv_ldcf hx hb hown (hts (.constantFloat RX7 138 (1092616192)) (by decide +kernel)) dX7_hammer_57 ?_
      refine lv_fload_n hx hb dX7_hammer_59 rfl (lv_at hl 0 rfl) ?_
      refine lv_fsub hx hb dX7_hammer_60 hn1 ?_
      refine lv_ldcf hx hb hown (hts (.constantFloat RX7 139 (1056964608)) (by decide +kernel)) dX7_hammer_61 ?_
      refine lv_fmul hx hb dX7_hammer_63 hn2 ?_
      refine lv_fadd hx hb dX7_hammer_64 hn3 ?_
      refine o_fast hx hb hK hP hD hS 46 1 rfl rfl j (by omega) (by decide) rfl dX7_hammer_65 (fun H locs hP hD hS => ?_)
      have hP : va_P G vwCl ([oSy z q h x r y] ++ [(h 0, .inr (1, [.ref (h 1), .int (nI k1)])), (h 1, eR cy 4 (fun i => some (d1 i 0)))] ++ wDo cy (d1 0) (E1 0) ++ wDo cy (d1 1) (E1 1) ++ wDo cy (d1 2) (E1 2) ++ wDo cy (d1 3) (E1 3) ++ wDo cy q (mP M, mN M, mS M, mB M, mT M, mR M, mO M, mW M, mL M, mF M, mA M, mU M, va_up (mH M) j (FP.fadd (mH M j) (FP.fmul (FP.fsub 1092616192 (mH M j)) 1056964608)))) H := hP
      have hD : va_D A ([oSy z q h x r y] ++ [(h 0, .inr (1, [.ref (h 1), .int (nI k1)])), (h 1, eR cy 4 (fun i => some (d1 i 0)))] ++ wDo cy (d1 0) (E1 0) ++ wDo cy (d1 1) (E1 1) ++ wDo cy (d1 2) (E1 2) ++ wDo cy (d1 3) (E1 3) ++ wDo cy q (mP M, mN M, mS M, mB M, mT M, mR M, mO M, mW M, mL M, mF M, mA M, mU M, va_up (mH M) j (FP.fadd (mH M j) (FP.fmul (FP.fsub 1092616192 (mH M j)) 1056964608)))) := hD
      refine lv_aload_n hx hb dX7_hammer_66 rfl (lv_at hl 1 rfl) ?_
      refine va_get (D := G) (ci := 6) (v := .ref (q 0)) (C := RX7) (T := TX7) (N := 9) hx hb hts iX7_hammer_X7 hown hK hP 0 rfl rfl 0 (by decide) (hts (.fieldLink RX7 10 "NailedOrders" "door" "LNailedOrders$Door;") (by decide +kernel)) (fun _ h9 => h9) rfl dX7_hammer_67 ?_
      refine lv_iload_n hx hb dX7_hammer_70 rfl (lv_at hl 2 rfl) ?_
      have hPd := hP.sub (ws' := wDo cy q (mP M, mN M, mS M, mB M, mT M, mR M, mO M, mW M, mL M, mF M, mA M, mU M, va_up (mH M) j (FP.fadd (mH M j) (FP.fmul (FP.fsub 1092616192 (mH M j)) 1056964608)))) [39, 40, 41, 42, 43, 44, 45, 46, 47] rfl
      have e9 : va_up (mH M) j (FP.fadd (mH M j) (FP.fmul (FP.fsub 1092616192 (mH M j)) 1056964608)) j = FP.fadd (mH M j) (FP.fmul (FP.fsub 1092616192 (mH M j)) 1056964608) := va_us _ _ _
      refine o_VI (As := [.int (nI j)]) (rest := []) ⟨hx, hb, hml, hown, hts⟩ (kX1_hundredthsOfStrength l G cy (WB_H hW _) hPd j (by omega) (by show vf_n32 (FP.fmul (va_up (mH M) j (FP.fadd (mH M j) (FP.fmul (FP.fsub 1092616192 (mH M j)) 1056964608)) j) 1120403456); rw [e9]; exact hn4)) (cwV 1 hts gX7_hammer_X1_hundredthsOfStrength rfl rfl rfl (by decide +kernel) ⟨Nat.le_of_ble_eq_true rfl, Nat.le_of_ble_eq_true rfl⟩) hK (va_recv hK hP (ci := 0) (q0 := 39) rfl rfl) rfl hl.1 rfl (Nat.le_of_ble_eq_true rfl) dX7_hammer_71 ⟨Nat.zero_le _, Nat.zero_le _⟩ ?_
      exact o_endIs (k := k1) (d := d1) (E := E1) hx hb hr hlocks dX7_hammer_74 hk5 hP hD hS (congrArg (fun v => FP.f2i (FP.fmul v 1120403456)) e9)
    · exact absurd hh c21
  · exact absurd hj c8
end
