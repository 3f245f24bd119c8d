-- ===== PART A: goes FIRST, ahead of the names: the tables' words, and 'selects' of the private methods out of them =====
/-- a private method of a class that the tables say can be made, by its rows of tables_1 -/
def lw_okq (q : MethodName × Nat) : Prop := (q.1.cls ≠ "java/lang/invoke/MethodHandle" ∧ q.1.cls ≠ "java/lang/invoke/VarHandle") ∧ Cond.instantiable q.1.cls q.2 ∈ tables_1 ∧ Cond.privateMethod q.1 ∈ tables_1 ∧ Cond.instanceMethod q.1 ∈ tables_1
theorem lw_p0 : lw_okq (⟨"CrankLayout$Firings", "enter", "(LCrankLayout$Shaft;)V"⟩, 7) := ⟨⟨by decide +kernel, by decide +kernel⟩, List.mem_of_getElem? (i := 95) (by decide +kernel), List.mem_of_getElem? (i := 169) (by decide +kernel), List.mem_of_getElem? (i := 170) (by decide +kernel)⟩
theorem lw_p1 : lw_okq (⟨"CrankLayout", "firingsChanged", "()V"⟩, 8) := ⟨⟨by decide +kernel, by decide +kernel⟩, List.mem_of_getElem? (i := 11) (by decide +kernel), List.mem_of_getElem? (i := 208) (by decide +kernel), List.mem_of_getElem? (i := 209) (by decide +kernel)⟩
theorem lw_p2 : lw_okq (⟨"CrankLayout$Weights", "rankOf", "(II)I"⟩, 4) := ⟨⟨by decide +kernel, by decide +kernel⟩, List.mem_of_getElem? (i := 25) (by decide +kernel), List.mem_of_getElem? (i := 227) (by decide +kernel), List.mem_of_getElem? (i := 228) (by decide +kernel)⟩
theorem lw_p3 : lw_okq (⟨"CrankLayout$Weights", "standsAt", "(III)Z"⟩, 4) := ⟨⟨by decide +kernel, by decide +kernel⟩, List.mem_of_getElem? (i := 25) (by decide +kernel), List.mem_of_getElem? (i := 231) (by decide +kernel), List.mem_of_getElem? (i := 232) (by decide +kernel)⟩
theorem lw_p4 : lw_okq (⟨"CrankLayout$Weights", "copyWithin", "(II)V"⟩, 4) := ⟨⟨by decide +kernel, by decide +kernel⟩, List.mem_of_getElem? (i := 25) (by decide +kernel), List.mem_of_getElem? (i := 235) (by decide +kernel), List.mem_of_getElem? (i := 236) (by decide +kernel)⟩
theorem lw_p5 : lw_okq (⟨"CrankLayout", "isNoCylinder", "(I)Z"⟩, 8) := ⟨⟨by decide +kernel, by decide +kernel⟩, List.mem_of_getElem? (i := 11) (by decide +kernel), List.mem_of_getElem? (i := 260) (by decide +kernel), List.mem_of_getElem? (i := 261) (by decide +kernel)⟩
theorem lw_p6 : lw_okq (⟨"CrankLayout", "isChosen", "()Z"⟩, 8) := ⟨⟨by decide +kernel, by decide +kernel⟩, List.mem_of_getElem? (i := 11) (by decide +kernel), List.mem_of_getElem? (i := 265) (by decide +kernel), List.mem_of_getElem? (i := 266) (by decide +kernel)⟩
theorem lw_p7 : lw_okq (⟨"CrankLayout$Firings", "gapBehind", "(III)I"⟩, 7) := ⟨⟨by decide +kernel, by decide +kernel⟩, List.mem_of_getElem? (i := 95) (by decide +kernel), List.mem_of_getElem? (i := 285) (by decide +kernel), List.mem_of_getElem? (i := 286) (by decide +kernel)⟩
theorem lw_p8 : lw_okq (⟨"CrankLayout$Firings", "slotsFrom", "(II)I"⟩, 7) := ⟨⟨by decide +kernel, by decide +kernel⟩, List.mem_of_getElem? (i := 95) (by decide +kernel), List.mem_of_getElem? (i := 293) (by decide +kernel), List.mem_of_getElem? (i := 294) (by decide +kernel)⟩
theorem lw_p9 : lw_okq (⟨"CrankLayout", "mixBalance", "(J)J"⟩, 8) := ⟨⟨by decide +kernel, by decide +kernel⟩, List.mem_of_getElem? (i := 11) (by decide +kernel), List.mem_of_getElem? (i := 341) (by decide +kernel), List.mem_of_getElem? (i := 342) (by decide +kernel)⟩
theorem lw_p10 : lw_okq (⟨"CrankLayout", "addUp", "(I)V"⟩, 8) := ⟨⟨by decide +kernel, by decide +kernel⟩, List.mem_of_getElem? (i := 11) (by decide +kernel), List.mem_of_getElem? (i := 345) (by decide +kernel), List.mem_of_getElem? (i := 346) (by decide +kernel)⟩
theorem lw_p11 : lw_okq (⟨"CrankLayout$Sum", "massAgainst", "(II)I"⟩, 4) := ⟨⟨by decide +kernel, by decide +kernel⟩, List.mem_of_getElem? (i := 124) (by decide +kernel), List.mem_of_getElem? (i := 386) (by decide +kernel), List.mem_of_getElem? (i := 387) (by decide +kernel)⟩
theorem lw_p12 : lw_okq (⟨"CrankLayout$Firings", "shareOf", "(IIII)I"⟩, 7) := ⟨⟨by decide +kernel, by decide +kernel⟩, List.mem_of_getElem? (i := 95) (by decide +kernel), List.mem_of_getElem? (i := 411) (by decide +kernel), List.mem_of_getElem? (i := 412) (by decide +kernel)⟩
theorem lw_p13 : lw_okq (⟨"CrankLayout", "mixChosen", "(J)J"⟩, 8) := ⟨⟨by decide +kernel, by decide +kernel⟩, List.mem_of_getElem? (i := 11) (by decide +kernel), List.mem_of_getElem? (i := 426) (by decide +kernel), List.mem_of_getElem? (i := 427) (by decide +kernel)⟩
theorem lw_p14 : lw_okq (⟨"CrankLayout", "isNoBearing", "(I)Z"⟩, 8) := ⟨⟨by decide +kernel, by decide +kernel⟩, List.mem_of_getElem? (i := 11) (by decide +kernel), List.mem_of_getElem? (i := 439) (by decide +kernel), List.mem_of_getElem? (i := 440) (by decide +kernel)⟩
theorem lw_p15 : lw_okq (⟨"CrankLayout", "isNoOrder", "(I)Z"⟩, 8) := ⟨⟨by decide +kernel, by decide +kernel⟩, List.mem_of_getElem? (i := 11) (by decide +kernel), List.mem_of_getElem? (i := 485) (by decide +kernel), List.mem_of_getElem? (i := 486) (by decide +kernel)⟩
def lw_privs_1 : List (MethodName × Nat) := [(⟨"CrankLayout$Firings", "enter", "(LCrankLayout$Shaft;)V"⟩, 7), (⟨"CrankLayout", "firingsChanged", "()V"⟩, 8), (⟨"CrankLayout$Weights", "rankOf", "(II)I"⟩, 4), (⟨"CrankLayout$Weights", "standsAt", "(III)Z"⟩, 4), (⟨"CrankLayout$Weights", "copyWithin", "(II)V"⟩, 4), (⟨"CrankLayout", "isNoCylinder", "(I)Z"⟩, 8), (⟨"CrankLayout", "isChosen", "()Z"⟩, 8), (⟨"CrankLayout$Firings", "gapBehind", "(III)I"⟩, 7), (⟨"CrankLayout$Firings", "slotsFrom", "(II)I"⟩, 7), (⟨"CrankLayout", "mixBalance", "(J)J"⟩, 8), (⟨"CrankLayout", "addUp", "(I)V"⟩, 8), (⟨"CrankLayout$Sum", "massAgainst", "(II)I"⟩, 4), (⟨"CrankLayout$Firings", "shareOf", "(IIII)I"⟩, 7), (⟨"CrankLayout", "mixChosen", "(J)J"⟩, 8), (⟨"CrankLayout", "isNoBearing", "(I)Z"⟩, 8), (⟨"CrankLayout", "isNoOrder", "(I)Z"⟩, 8)]
theorem lw_r1 : ∀ q ∈ lw_privs_1, lw_okq q := List.forall_mem_cons.mpr ⟨lw_p0, List.forall_mem_cons.mpr ⟨lw_p1, List.forall_mem_cons.mpr ⟨lw_p2, List.forall_mem_cons.mpr ⟨lw_p3, List.forall_mem_cons.mpr ⟨lw_p4, List.forall_mem_cons.mpr ⟨lw_p5, List.forall_mem_cons.mpr ⟨lw_p6, List.forall_mem_cons.mpr ⟨lw_p7, List.forall_mem_cons.mpr ⟨lw_p8, List.forall_mem_cons.mpr ⟨lw_p9, List.forall_mem_cons.mpr ⟨lw_p10, List.forall_mem_cons.mpr ⟨lw_p11, List.forall_mem_cons.mpr ⟨lw_p12, List.forall_mem_cons.mpr ⟨lw_p13, List.forall_mem_cons.mpr ⟨lw_p14, List.forall_mem_cons.mpr ⟨lw_p15, fun _ h => absurd h List.not_mem_nil⟩⟩⟩⟩⟩⟩⟩⟩⟩⟩⟩⟩⟩⟩⟩⟩
def lw_privs : List (MethodName × Nat) := lw_privs_1
def lw_tbl : List Cond := k2_sels lw_privs ++ tables_1
theorem lw_privs_ok : ∀ q ∈ lw_privs, lw_okq q := lw_r1
def RX0 : String := "CrankLayout$Firings"
def TX0 : u_T := fun k => match k with
  | 0 => ("CrankLayout$Firings", "count", "I", false)
  | 1 => ("CrankLayout$Firings", "cylinders", "I", false)
  | 2 => ("CrankLayout$Firings", "slots", "I", false)
  | 3 => ("CrankLayout$Firings", "step", "I", false)
  | 4 => ("CrankLayout$Firings", "path", "[I", true)
  | 5 => ("CrankLayout$Firings", "sequences", "[I", true)
  | _ => ("CrankLayout$Firings", "slotRows", "[I", true)
def tyX0 : Nat → FieldType := fun k => match k with
  | 0 => .int
  | 1 => .int
  | 2 => .int
  | 3 => .int
  | 4 => .array .int
  | 5 => .array .int
  | _ => .array .int
abbrev wsX00 : List Cond := u_ws RX0 TX0 7
theorem nmX0 : ∀ a, a < 7 → ∀ b, b < 7 → a ≠ b → (TX0 a).2.1 ≠ (TX0 b).2.1 := by decide +kernel
theorem tyX0_ok : ∀ k, k < 7 → parseFieldDescriptor (TX0 k).2.2.1 = some (tyX0 k) := by decide +kernel
abbrev cX0_init : ByteArray := prog_2_method_1_code
def yX0_init : MethodName := ⟨RX0, "<init>", "()V"⟩
abbrev cX0_layOut : ByteArray := prog_2_method_2_code
def yX0_layOut : MethodName := ⟨RX0, "layOut", "(LCrankLayout$Shaft;)V"⟩
abbrev cX0_extend : ByteArray := prog_2_method_3_code
def yX0_extend : MethodName := ⟨RX0, "extend", "(LCrankLayout$Firings;LCrankLayout$Shaft;II)V"⟩
abbrev cX0_enter : ByteArray := prog_2_method_4_code
def yX0_enter : MethodName := ⟨RX0, "enter", "(LCrankLayout$Shaft;)V"⟩
abbrev cX0_cylinderAt : ByteArray := prog_2_method_5_code
def yX0_cylinderAt : MethodName := ⟨RX0, "cylinderAt", "(II)I"⟩
abbrev cX0_slotOf : ByteArray := prog_2_method_6_code
def yX0_slotOf : MethodName := ⟨RX0, "slotOf", "(II)I"⟩
abbrev cX0_penalty : ByteArray := prog_2_method_7_code
def yX0_penalty : MethodName := ⟨RX0, "penalty", "(I)I"⟩
abbrev cX0_greatestLoad : ByteArray := prog_2_method_8_code
def yX0_greatestLoad : MethodName := ⟨RX0, "greatestLoad", "(I)I"⟩
abbrev cX0_peakOf : ByteArray := prog_2_method_9_code
def yX0_peakOf : MethodName := ⟨RX0, "peakOf", "(III)I"⟩
abbrev cX0_loadOf : ByteArray := prog_2_method_10_code
def yX0_loadOf : MethodName := ⟨RX0, "loadOf", "(IIII)I"⟩
abbrev cX0_shareOf : ByteArray := prog_2_method_11_code
def yX0_shareOf : MethodName := ⟨RX0, "shareOf", "(IIII)I"⟩
abbrev cX0_gap : ByteArray := prog_2_method_12_code
def yX0_gap : MethodName := ⟨RX0, "gap", "(II)I"⟩
abbrev cX0_gapBehind : ByteArray := prog_2_method_13_code
def yX0_gapBehind : MethodName := ⟨RX0, "gapBehind", "(III)I"⟩
abbrev cX0_slotsFrom : ByteArray := prog_2_method_14_code
def yX0_slotsFrom : MethodName := ⟨RX0, "slotsFrom", "(II)I"⟩
def RX1 : String := "CrankLayout$Shaft"
def TX1 : u_T := fun k => match k with
  | 0 => ("CrankLayout$Shaft", "cylinders", "I", false)
  | 1 => ("CrankLayout$Shaft", "strokes", "I", false)
  | 2 => ("CrankLayout$Shaft", "turns", "[I", true)
  | 3 => ("CrankLayout$Shaft", "masses", "[I", true)
  | 4 => ("CrankLayout$Shaft", "places", "[I", true)
  | 5 => ("CrankLayout$Shaft", "weights", "LCrankLayout$Weights;", true)
  | 6 => ("CrankLayout$Shaft", "chosen", "I", false)
  | _ => ("CrankLayout$Shaft", "on", "I", false)
def tyX1 : Nat → FieldType := fun k => match k with
  | 0 => .int
  | 1 => .int
  | 2 => .array .int
  | 3 => .array .int
  | 4 => .array .int
  | 5 => .object "CrankLayout$Weights"
  | 6 => .int
  | _ => .int
abbrev wsX10 : List Cond := u_ws RX1 TX1 8
theorem nmX1 : ∀ a, a < 8 → ∀ b, b < 8 → a ≠ b → (TX1 a).2.1 ≠ (TX1 b).2.1 := by decide +kernel
theorem tyX1_ok : ∀ k, k < 8 → parseFieldDescriptor (TX1 k).2.2.1 = some (tyX1 k) := by decide +kernel
abbrev cX1_init : ByteArray := prog_3_method_1_code
def yX1_init : MethodName := ⟨RX1, "<init>", "()V"⟩
abbrev cX1_begin : ByteArray := prog_3_method_2_code
def yX1_begin : MethodName := ⟨RX1, "begin", "(I)V"⟩
abbrev cX1_dropChoice : ByteArray := prog_3_method_3_code
def yX1_dropChoice : MethodName := ⟨RX1, "dropChoice", "()V"⟩
abbrev cX1_all : ByteArray := prog_3_method_4_code
def yX1_all : MethodName := ⟨RX1, "all", "()I"⟩
abbrev cX1_slots : ByteArray := prog_3_method_5_code
def yX1_slots : MethodName := ⟨RX1, "slots", "()I"⟩
abbrev cX1_lowSlot : ByteArray := prog_3_method_6_code
def yX1_lowSlot : MethodName := ⟨RX1, "lowSlot", "(I)I"⟩
abbrev cX1_looksTheSameFromBehind : ByteArray := prog_3_method_7_code
def yX1_looksTheSameFromBehind : MethodName := ⟨RX1, "looksTheSameFromBehind", "()Z"⟩
abbrev cX1_takeOver : ByteArray := prog_3_method_8_code
def yX1_takeOver : MethodName := ⟨RX1, "takeOver", "(LCrankLayout$Shaft;)V"⟩
def RX2 : String := "CrankLayout$Sum"
def TX2 : u_T := fun k => match k with
  | 0 => ("CrankLayout$Sum", "xa", "I", false)
  | 1 => ("CrankLayout$Sum", "xb", "I", false)
  | 2 => ("CrankLayout$Sum", "ya", "I", false)
  | _ => ("CrankLayout$Sum", "yb", "I", false)
def tyX2 : Nat → FieldType := fun k => match k with
  | 0 => .int
  | 1 => .int
  | 2 => .int
  | _ => .int
abbrev wsX20 : List Cond := u_ws RX2 TX2 4
theorem nmX2 : ∀ a, a < 4 → ∀ b, b < 4 → a ≠ b → (TX2 a).2.1 ≠ (TX2 b).2.1 := by decide +kernel
theorem tyX2_ok : ∀ k, k < 4 → parseFieldDescriptor (TX2 k).2.2.1 = some (tyX2 k) := by decide +kernel
abbrev cX2_init : ByteArray := prog_4_method_1_code
def yX2_init : MethodName := ⟨RX2, "<init>", "()V"⟩
abbrev cX2_clear : ByteArray := prog_4_method_2_code
def yX2_clear : MethodName := ⟨RX2, "clear", "()V"⟩
abbrev cX2_add : ByteArray := prog_4_method_3_code
def yX2_add : MethodName := ⟨RX2, "add", "(II)V"⟩
abbrev cX2_isZero : ByteArray := prog_4_method_4_code
def yX2_isZero : MethodName := ⟨RX2, "isZero", "()Z"⟩
abbrev cX2_part : ByteArray := prog_4_method_5_code
def yX2_part : MethodName := ⟨RX2, "part", "(ZZ)I"⟩
abbrev cX2_counter : ByteArray := prog_4_method_6_code
def yX2_counter : MethodName := ⟨RX2, "counter", "(I)I"⟩
abbrev cX2_massAgainst : ByteArray := prog_4_method_7_code
def yX2_massAgainst : MethodName := ⟨RX2, "massAgainst", "(II)I"⟩
abbrev cX2_quotient : ByteArray := prog_4_method_8_code
def yX2_quotient : MethodName := ⟨RX2, "quotient", "(II)I"⟩
def RX3 : String := "CrankLayout$Text"
def TX3 : u_T := fun k => match k with
  | 0 => ("CrankLayout$Text", "length", "I", false)
  | _ => ("CrankLayout$Text", "letters", "[B", true)
def tyX3 : Nat → FieldType := fun k => match k with
  | 0 => .int
  | _ => .array .byte
abbrev wsX30 : List Cond := u_ws RX3 TX3 2
theorem nmX3 : ∀ a, a < 2 → ∀ b, b < 2 → a ≠ b → (TX3 a).2.1 ≠ (TX3 b).2.1 := by decide +kernel
theorem tyX3_ok : ∀ k, k < 2 → parseFieldDescriptor (TX3 k).2.2.1 = some (tyX3 k) := by decide +kernel
abbrev cX3_init : ByteArray := prog_5_method_1_code
def yX3_init : MethodName := ⟨RX3, "<init>", "()V"⟩
abbrev cX3_put : ByteArray := prog_5_method_2_code
def yX3_put : MethodName := ⟨RX3, "put", "(I)Z"⟩
def RX4 : String := "CrankLayout$Weights"
def TX4 : u_T := fun k => match k with
  | 0 => ("CrankLayout$Weights", "count", "I", false)
  | 1 => ("CrankLayout$Weights", "places", "[I", true)
  | 2 => ("CrankLayout$Weights", "turns", "[I", true)
  | _ => ("CrankLayout$Weights", "masses", "[I", true)
def tyX4 : Nat → FieldType := fun k => match k with
  | 0 => .int
  | 1 => .array .int
  | 2 => .array .int
  | _ => .array .int
abbrev wsX40 : List Cond := u_ws RX4 TX4 4
theorem nmX4 : ∀ a, a < 4 → ∀ b, b < 4 → a ≠ b → (TX4 a).2.1 ≠ (TX4 b).2.1 := by decide +kernel
theorem tyX4_ok : ∀ k, k < 4 → parseFieldDescriptor (TX4 k).2.2.1 = some (tyX4 k) := by decide +kernel
abbrev cX4_init : ByteArray := prog_6_method_1_code
def yX4_init : MethodName := ⟨RX4, "<init>", "()V"⟩
abbrev cX4_put : ByteArray := prog_6_method_2_code
def yX4_put : MethodName := ⟨RX4, "put", "(III)Z"⟩
abbrev cX4_remove : ByteArray := prog_6_method_3_code
def yX4_remove : MethodName := ⟨RX4, "remove", "(II)V"⟩
abbrev cX4_takeOver : ByteArray := prog_6_method_4_code
def yX4_takeOver : MethodName := ⟨RX4, "takeOver", "(LCrankLayout$Weights;)V"⟩
abbrev cX4_copyWithin : ByteArray := prog_6_method_5_code
def yX4_copyWithin : MethodName := ⟨RX4, "copyWithin", "(II)V"⟩
abbrev cX4_rankOf : ByteArray := prog_6_method_6_code
def yX4_rankOf : MethodName := ⟨RX4, "rankOf", "(II)I"⟩
abbrev cX4_standsAt : ByteArray := prog_6_method_7_code
def yX4_standsAt : MethodName := ⟨RX4, "standsAt", "(III)Z"⟩
def RX5 : String := "CrankLayout"
def TX5 : u_T := fun k => match k with
  | 0 => ("CrankLayout", "shaft", "LCrankLayout$Shaft;", true)
  | 1 => ("CrankLayout", "firings", "LCrankLayout$Firings;", true)
  | 2 => ("CrankLayout", "sum", "LCrankLayout$Sum;", true)
  | 3 => ("CrankLayout", "text", "LCrankLayout$Text;", true)
  | 4 => ("CrankLayout", "keptFirst", "LCrankLayout$Shaft;", true)
  | 5 => ("CrankLayout", "keptSecond", "LCrankLayout$Shaft;", true)
  | 6 => ("CrankLayout", "firstIsKept", "Z", false)
  | _ => ("CrankLayout", "secondIsKept", "Z", false)
def tyX5 : Nat → FieldType := fun k => match k with
  | 0 => .object "CrankLayout$Shaft"
  | 1 => .object "CrankLayout$Firings"
  | 2 => .object "CrankLayout$Sum"
  | 3 => .object "CrankLayout$Text"
  | 4 => .object "CrankLayout$Shaft"
  | 5 => .object "CrankLayout$Shaft"
  | 6 => .boolean
  | _ => .boolean
abbrev wsX50 : List Cond := u_ws RX5 TX5 8
theorem nmX5 : ∀ a, a < 8 → ∀ b, b < 8 → a ≠ b → (TX5 a).2.1 ≠ (TX5 b).2.1 := by decide +kernel
theorem tyX5_ok : ∀ k, k < 8 → parseFieldDescriptor (TX5 k).2.2.1 = some (tyX5 k) := by decide +kernel
abbrev cX5_init : ByteArray := prog_1_method_1_code
def yX5_init : MethodName := ⟨RX5, "<init>", "()V"⟩
abbrev cX5_setCylinders : ByteArray := prog_1_method_2_code
def yX5_setCylinders : MethodName := ⟨RX5, "setCylinders", "(I)I"⟩
abbrev cX5_setStrokes : ByteArray := prog_1_method_3_code
def yX5_setStrokes : MethodName := ⟨RX5, "setStrokes", "(I)I"⟩
abbrev cX5_setThrow : ByteArray := prog_1_method_4_code
def yX5_setThrow : MethodName := ⟨RX5, "setThrow", "(II)I"⟩
abbrev cX5_setMass : ByteArray := prog_1_method_5_code
def yX5_setMass : MethodName := ⟨RX5, "setMass", "(II)I"⟩
abbrev cX5_setPlace : ByteArray := prog_1_method_6_code
def yX5_setPlace : MethodName := ⟨RX5, "setPlace", "(II)I"⟩
abbrev cX5_setWeight : ByteArray := prog_1_method_7_code
def yX5_setWeight : MethodName := ⟨RX5, "setWeight", "(III)I"⟩
abbrev cX5_weight : ByteArray := prog_1_method_8_code
def yX5_weight : MethodName := ⟨RX5, "weight", "(II)I"⟩
abbrev cX5_cylinder : ByteArray := prog_1_method_9_code
def yX5_cylinder : MethodName := ⟨RX5, "cylinder", "(II)I"⟩
abbrev cX5_vector : ByteArray := prog_1_method_10_code
def yX5_vector : MethodName := ⟨RX5, "vector", "(IZZ)I"⟩
abbrev cX5_balanced : ByteArray := prog_1_method_11_code
def yX5_balanced : MethodName := ⟨RX5, "balanced", "()I"⟩
abbrev cX5_isMirrored : ByteArray := prog_1_method_12_code
def yX5_isMirrored : MethodName := ⟨RX5, "isMirrored", "()I"⟩
abbrev cX5_counterWeight : ByteArray := prog_1_method_13_code
def yX5_counterWeight : MethodName := ⟨RX5, "counterWeight", "()I"⟩
abbrev cX5_counterPair : ByteArray := prog_1_method_14_code
def yX5_counterPair : MethodName := ⟨RX5, "counterPair", "(II)I"⟩
abbrev cX5_orders : ByteArray := prog_1_method_15_code
def yX5_orders : MethodName := ⟨RX5, "orders", "()I"⟩
abbrev cX5_order : ByteArray := prog_1_method_16_code
def yX5_order : MethodName := ⟨RX5, "order", "(II)I"⟩
abbrev cX5_orderCost : ByteArray := prog_1_method_17_code
def yX5_orderCost : MethodName := ⟨RX5, "orderCost", "(II)I"⟩
abbrev cX5_bestOrder : ByteArray := prog_1_method_18_code
def yX5_bestOrder : MethodName := ⟨RX5, "bestOrder", "()I"⟩
abbrev cX5_choose : ByteArray := prog_1_method_19_code
def yX5_choose : MethodName := ⟨RX5, "choose", "(I)I"⟩
abbrev cX5_append : ByteArray := prog_1_method_20_code
def yX5_append : MethodName := ⟨RX5, "append", "(I)I"⟩
abbrev cX5_turn : ByteArray := prog_1_method_24_code
def yX5_turn : MethodName := ⟨RX5, "turn", "(IZ)I"⟩
abbrev cX5_longestGap : ByteArray := prog_1_method_25_code
def yX5_longestGap : MethodName := ⟨RX5, "longestGap", "()I"⟩
abbrev cX5_load : ByteArray := prog_1_method_26_code
def yX5_load : MethodName := ⟨RX5, "load", "(II)I"⟩
abbrev cX5_peak : ByteArray := prog_1_method_27_code
def yX5_peak : MethodName := ⟨RX5, "peak", "(I)I"⟩
abbrev cX5_bestOff : ByteArray := prog_1_method_28_code
def yX5_bestOff : MethodName := ⟨RX5, "bestOff", "()I"⟩
abbrev cX5_save : ByteArray := prog_1_method_29_code
def yX5_save : MethodName := ⟨RX5, "save", "(I)I"⟩
abbrev cX5_restore : ByteArray := prog_1_method_30_code
def yX5_restore : MethodName := ⟨RX5, "restore", "(I)I"⟩
abbrev cX5_checksum : ByteArray := prog_1_method_31_code
def yX5_checksum : MethodName := ⟨RX5, "checksum", "()J"⟩
abbrev cX5_mixBalance : ByteArray := prog_1_method_32_code
def yX5_mixBalance : MethodName := ⟨RX5, "mixBalance", "(J)J"⟩
abbrev cX5_mixChosen : ByteArray := prog_1_method_33_code
def yX5_mixChosen : MethodName := ⟨RX5, "mixChosen", "(J)J"⟩
abbrev cX5_mix : ByteArray := prog_1_method_34_code
def yX5_mix : MethodName := ⟨RX5, "mix", "(JJ)J"⟩
abbrev cX5_isNoCylinder : ByteArray := prog_1_method_35_code
def yX5_isNoCylinder : MethodName := ⟨RX5, "isNoCylinder", "(I)Z"⟩
abbrev cX5_isNoBearing : ByteArray := prog_1_method_36_code
def yX5_isNoBearing : MethodName := ⟨RX5, "isNoBearing", "(I)Z"⟩
abbrev cX5_isNoOrder : ByteArray := prog_1_method_37_code
def yX5_isNoOrder : MethodName := ⟨RX5, "isNoOrder", "(I)Z"⟩
abbrev cX5_isNoTurn : ByteArray := prog_1_method_38_code
def yX5_isNoTurn : MethodName := ⟨RX5, "isNoTurn", "(I)Z"⟩
abbrev cX5_isNoPlace : ByteArray := prog_1_method_39_code
def yX5_isNoPlace : MethodName := ⟨RX5, "isNoPlace", "(I)Z"⟩
abbrev cX5_isChosen : ByteArray := prog_1_method_40_code
def yX5_isChosen : MethodName := ⟨RX5, "isChosen", "()Z"⟩
abbrev cX5_firingsChanged : ByteArray := prog_1_method_41_code
def yX5_firingsChanged : MethodName := ⟨RX5, "firingsChanged", "()V"⟩
abbrev cX5_addUp : ByteArray := prog_1_method_42_code
def yX5_addUp : MethodName := ⟨RX5, "addUp", "(I)V"⟩
def RX6 : String := "CrankLayoutModel"
def TX6 : u_T := fun k => match k with
  | _ => ("", "", "", false)
def tyX6 : Nat → FieldType := fun k => match k with
  | _ => .int
abbrev wsX60 : List Cond := u_ws RX6 TX6 0
theorem nmX6 : ∀ a, a < 0 → ∀ b, b < 0 → a ≠ b → (TX6 a).2.1 ≠ (TX6 b).2.1 := by decide +kernel
theorem tyX6_ok : ∀ k, k < 0 → parseFieldDescriptor (TX6 k).2.2.1 = some (tyX6 k) := by decide +kernel
def RJ6 : String := "java/lang/Integer"
def TJ6 : u_T := fun k => match k with
  | _ => ("", "", "", false)
def tyJ6 : Nat → FieldType := fun k => match k with
  | _ => .int
abbrev wsJ60 : List Cond := u_ws RJ6 TJ6 0
theorem nmJ6 : ∀ a, a < 0 → ∀ b, b < 0 → a ≠ b → (TJ6 a).2.1 ≠ (TJ6 b).2.1 := by decide +kernel
theorem tyJ6_ok : ∀ k, k < 0 → parseFieldDescriptor (TJ6 k).2.2.1 = some (tyJ6 k) := by decide +kernel
abbrev cJ6_bitCount_0f7a4 : ByteArray := prog_9_method_49_code
def yJ6_bitCount_0f7a4 : MethodName := ⟨RJ6, "bitCount", "(I)I"⟩
def RJ9 : String := "java/lang/Math"
def TJ9 : u_T := fun k => match k with
  | _ => ("", "", "", false)
def tyJ9 : Nat → FieldType := fun k => match k with
  | _ => .int
abbrev wsJ90 : List Cond := u_ws RJ9 TJ9 0
theorem nmJ9 : ∀ a, a < 0 → ∀ b, b < 0 → a ≠ b → (TJ9 a).2.1 ≠ (TJ9 b).2.1 := by decide +kernel
theorem tyJ9_ok : ∀ k, k < 0 → parseFieldDescriptor (TJ9 k).2.2.1 = some (tyJ9 k) := by decide +kernel
abbrev cJ9_floorMod_7cf53 : ByteArray := prog_10_method_50_code
def yJ9_floorMod_7cf53 : MethodName := ⟨RJ9, "floorMod", "(II)I"⟩
abbrev cJ9_abs_0f7a4 : ByteArray := prog_10_method_59_code
def yJ9_abs_0f7a4 : MethodName := ⟨RJ9, "abs", "(I)I"⟩
abbrev cJ9_max_7cf53 : ByteArray := prog_10_method_65_code
def yJ9_max_7cf53 : MethodName := ⟨RJ9, "max", "(II)I"⟩
abbrev cJ9_min_7cf53 : ByteArray := prog_10_method_69_code
def yJ9_min_7cf53 : MethodName := ⟨RJ9, "min", "(II)I"⟩
def RJ10 : String := "java/lang/System"
def TJ10 : u_T := fun k => match k with
  | _ => ("", "", "", false)
def tyJ10 : Nat → FieldType := fun k => match k with
  | _ => .int
abbrev wsJ100 : List Cond := u_ws RJ10 TJ10 0
theorem nmJ10 : ∀ a, a < 0 → ∀ b, b < 0 → a ≠ b → (TJ10 a).2.1 ≠ (TJ10 b).2.1 := by decide +kernel
theorem tyJ10_ok : ∀ k, k < 0 → parseFieldDescriptor (TJ10 k).2.2.1 = some (tyJ10 k) := by decide +kernel
def RL : String := "CrankLayoutLaw"
abbrev cL_cell : ByteArray := method_2_code
def yL_cell : MethodName := ⟨RL, "cell", "([II)I"⟩
abbrev cL_begins : ByteArray := method_3_code
def yL_begins : MethodName := ⟨RL, "begins", "([I[II)V"⟩
abbrev cL_sets : ByteArray := method_4_code
def yL_sets : MethodName := ⟨RL, "sets", "(LCrankLayout;[I[II)Z"⟩
abbrev cL_spreads : ByteArray := method_5_code
def yL_spreads : MethodName := ⟨RL, "spreads", "(LCrankLayout;[I[II)Z"⟩
abbrev cL_sound : ByteArray := method_6_code
def yL_sound : MethodName := ⟨RL, "sound", "(LCrankLayout;I)Z"⟩
abbrev cL_balances : ByteArray := method_7_code
def yL_balances : MethodName := ⟨RL, "balances", "(LCrankLayout;II)Z"⟩
abbrev cL_fires : ByteArray := method_8_code
def yL_fires : MethodName := ⟨RL, "fires", "(LCrankLayout;IIII)Z"⟩
abbrev cL_refuses : ByteArray := method_9_code
def yL_refuses : MethodName := ⟨RL, "refuses", "(LCrankLayout;I)Z"⟩
abbrev cL_law : ByteArray := code
def yL_law : MethodName := ⟨RL, "law", "([I)Z"⟩
abbrev vwCl : List vw_C := [(RX0, TX0, 7), (RX1, TX1, 8), (RX2, TX2, 4), (RX3, TX3, 2), (RX4, TX4, 4), (RX5, TX5, 8)]
