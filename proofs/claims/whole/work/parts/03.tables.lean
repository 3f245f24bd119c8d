/-! ===== the link tables of the program, as lists; made by wip/gen/gen02.py ===== -/
/-- the words that every method of ours may use -/
def zBW : List Cond := lw_tbl.filter goodWord
theorem zBW_good : GoodIn zBW zBW := fun w h => ⟨h, good_of_word (List.mem_filter.mp h).2⟩
theorem zBW_in : ∀ w ∈ zBW, w ∈ lw_tbl := fun w h => (List.mem_filter.mp h).1
theorem zmem {α : Type} {l : List α} {f : α → Cond} {is : List Nat} (h : l.map f = is.filterMap (fun i => lw_tbl[i]?)) (hg : l.all (fun q => goodWord (f q)) = true) : ∀ q ∈ l, f q ∈ zBW := by
  intro q hq
  have h1 : f q ∈ l.map f := List.mem_map.mpr ⟨q, hq, rfl⟩
  rw [h] at h1
  obtain ⟨i, -, hi⟩ := List.mem_filterMap.mp h1
  exact List.mem_filter.mpr ⟨List.mem_of_getElem? hi, List.all_eq_true.mp hg q hq⟩
def zcn : Nat → String
  | 0 => RX0
  | 1 => RX1
  | 2 => RX2
  | 3 => RX3
  | 4 => RX4
  | 5 => RX5
  | 6 => RX6
  | 7 => RJ6
  | 8 => RJ9
  | 9 => RJ10
  | _ => RL
/-- fields: own class, pool entry, class, place, final, type (0 int, 1 boolean, 2 a reference), nest (0: none; 1 + the host) -/
def zf : List (Nat × Nat × Nat × Nat × Bool × Nat × Nat) := [(4, 29, 4, 0, false, 0, 0), (5, 93, 4, 0, false, 0, 0), (4, 9, 4, 1, true, 2, 0), (5, 101, 4, 1, true, 2, 0), (4, 15, 4, 2, true, 2, 0), (5, 102, 4, 2, true, 2, 0), (4, 18, 4, 3, true, 2, 0), (5, 103, 4, 3, true, 2, 0), (1, 36, 1, 0, false, 0, 0), (0, 25, 1, 0, false, 0, 0), (5, 48, 1, 0, false, 0, 0), (1, 9, 1, 1, false, 0, 0), (5, 59, 1, 1, false, 0, 0), (1, 15, 1, 2, true, 2, 0), (5, 70, 1, 2, true, 2, 0), (1, 19, 1, 3, true, 2, 0), (5, 74, 1, 3, true, 2, 0), (1, 22, 1, 4, true, 2, 0), (5, 80, 1, 4, true, 2, 0), (1, 28, 1, 5, true, 2, 0), (5, 83, 1, 5, true, 2, 0), (1, 42, 1, 6, false, 0, 0), (5, 111, 1, 6, false, 0, 0), (1, 49, 1, 7, false, 0, 0), (5, 104, 1, 7, false, 0, 0), (0, 21, 0, 0, false, 0, 0), (5, 136, 0, 0, false, 0, 6), (0, 30, 0, 1, false, 0, 0), (0, 35, 0, 2, false, 0, 0), (0, 37, 0, 3, false, 0, 0), (0, 9, 0, 4, true, 2, 0), (0, 15, 0, 5, true, 2, 0), (0, 18, 0, 6, true, 2, 0), (2, 9, 2, 0, false, 0, 0), (2, 15, 2, 1, false, 0, 0), (2, 18, 2, 2, false, 0, 0), (2, 21, 2, 3, false, 0, 0), (3, 15, 3, 0, false, 0, 0), (5, 151, 3, 0, false, 0, 6), (3, 9, 3, 1, true, 2, 0), (5, 10, 5, 0, true, 2, 0), (5, 19, 5, 1, true, 2, 0), (5, 26, 5, 2, true, 2, 0), (5, 33, 5, 3, true, 2, 0), (5, 37, 5, 4, true, 2, 0), (5, 40, 5, 5, true, 2, 0), (5, 187, 5, 6, false, 1, 0), (5, 191, 5, 7, false, 1, 0), (6, 7, 6, 0, true, 2, 0), (6, 13, 6, 1, true, 2, 0), (6, 16, 6, 2, true, 2, 0), (6, 20, 6, 3, true, 2, 0), (6, 135, 6, 4, false, 0, 0), (6, 23, 6, 5, true, 2, 0), (6, 26, 6, 6, true, 2, 0), (6, 29, 6, 7, true, 2, 0), (6, 32, 6, 8, true, 2, 0), (6, 95, 6, 9, false, 0, 0), (6, 35, 6, 10, true, 2, 0), (6, 114, 6, 11, false, 0, 0)]
def zk : List (Nat × Nat × Nat × Nat) := [(10, 9, 0, 0), (5, 9, 2, 0), (1, 27, 3, 6), (1, 32, 4, 0), (1, 39, 5, 0), (1, 45, 6, 0), (5, 18, 7, 6), (5, 25, 8, 6), (5, 32, 9, 6), (5, 43, 10, 0), (0, 31, 11, 0), (0, 40, 12, 0), (0, 44, 13, 0), (0, 48, 14, 0), (10, 13, 19, 0), (5, 52, 4, 0), (5, 56, 20, 0), (5, 239, 5, 0), (10, 18, 23, 0), (10, 22, 26, 0), (5, 62, 27, 0), (5, 67, 28, 0), (10, 27, 31, 0), (10, 31, 33, 0), (5, 77, 34, 0), (10, 35, 36, 0), (5, 87, 37, 0), (4, 21, 38, 0), (4, 25, 39, 0), (4, 33, 40, 0), (5, 96, 41, 0), (10, 40, 44, 0), (10, 44, 46, 0), (5, 107, 47, 0), (5, 114, 48, 0), (10, 48, 50, 0), (5, 119, 51, 0), (5, 242, 52, 0), (5, 245, 53, 0), (2, 24, 54, 0), (5, 122, 55, 0), (10, 53, 59, 0), (5, 126, 60, 0), (10, 58, 64, 0), (5, 129, 65, 0), (10, 62, 68, 0), (5, 132, 69, 0), (2, 37, 60, 0), (2, 41, 70, 0), (2, 45, 71, 0), (10, 66, 75, 0), (10, 70, 77, 0), (10, 74, 83, 0), (5, 137, 84, 0), (5, 140, 85, 0), (10, 78, 89, 0), (5, 143, 90, 0), (0, 52, 85, 0), (0, 56, 91, 0), (5, 146, 92, 0), (0, 61, 94, 0), (0, 68, 48, 0), (0, 71, 95, 0), (0, 75, 96, 0), (0, 78, 97, 0), (0, 65, 93, 0), (10, 82, 104, 0), (10, 86, 107, 0), (10, 90, 109, 0), (5, 149, 110, 0), (10, 94, 112, 0), (10, 98, 114, 0), (5, 154, 115, 0), (10, 102, 118, 0), (5, 158, 119, 0), (5, 248, 120, 0), (10, 106, 122, 0), (5, 161, 123, 0), (10, 111, 126, 0), (5, 166, 127, 0), (0, 81, 128, 0), (0, 84, 129, 0), (10, 115, 132, 0), (5, 169, 133, 0), (5, 172, 11, 0), (5, 176, 95, 0), (10, 119, 137, 0), (5, 180, 94, 0), (10, 123, 139, 0), (10, 127, 142, 0), (5, 184, 143, 0), (1, 58, 144, 0), (10, 131, 146, 0), (10, 135, 148, 0), (5, 196, 149, 0), (5, 200, 46, 0), (5, 203, 44, 0), (5, 206, 150, 0), (5, 219, 59, 0), (5, 222, 64, 0), (5, 225, 68, 0), (5, 210, 77, 0), (5, 213, 104, 0), (5, 216, 151, 0), (5, 228, 126, 0), (5, 231, 139, 0), (5, 234, 137, 0), (10, 12, 15, 0), (6, 38, 16, 0), (6, 42, 17, 0), (6, 46, 18, 0), (10, 17, 21, 0), (6, 50, 22, 0), (10, 21, 24, 0), (6, 55, 25, 0), (10, 26, 29, 0), (6, 58, 30, 0), (10, 30, 32, 0), (10, 34, 35, 0), (10, 39, 42, 0), (6, 63, 43, 0), (10, 43, 45, 0), (10, 47, 49, 0), (10, 52, 56, 0), (6, 71, 57, 0), (6, 67, 58, 0), (10, 57, 61, 0), (6, 78, 62, 0), (6, 74, 63, 0), (10, 61, 66, 0), (6, 82, 67, 0), (10, 65, 72, 0), (6, 89, 73, 0), (6, 85, 74, 0), (10, 69, 76, 0), (10, 73, 78, 0), (6, 105, 79, 0), (6, 99, 80, 0), (6, 102, 81, 0), (6, 92, 82, 0), (10, 77, 86, 0), (6, 108, 87, 0), (6, 111, 88, 0), (10, 81, 98, 0), (6, 126, 99, 0), (6, 129, 100, 0), (6, 120, 101, 0), (6, 123, 102, 0), (6, 117, 103, 0), (10, 85, 105, 0), (6, 132, 106, 0), (10, 89, 108, 0), (10, 93, 111, 0), (10, 97, 113, 0), (10, 101, 116, 0), (6, 138, 117, 0), (10, 105, 121, 0), (10, 110, 124, 0), (6, 142, 125, 0), (10, 114, 130, 0), (6, 145, 131, 0), (10, 118, 134, 0), (6, 148, 135, 0), (6, 151, 136, 0), (10, 122, 138, 0), (10, 126, 140, 0), (6, 154, 141, 0), (10, 130, 145, 0), (10, 134, 147, 0), (10, 139, 152, 0), (6, 161, 153, 0)]
def zo : List (Nat × Nat × Unit) := [(5, 1, ()), (1, 3, ()), (4, 3, ()), (0, 3, ()), (2, 3, ()), (3, 3, ()), (6, 1, ())]
def zy : List (Nat × Nat × Unit) := [(1, 52, ()), (4, 37, ())]
def zn : List (Nat × Nat × Nat) := [(10, 7, 5), (10, 10, 6), (5, 7, 1), (5, 16, 0), (5, 23, 2), (5, 30, 3), (1, 25, 4)]
def zc : List (Nat × Nat × Int32) := [(6, 49, (-1000005)), (5, 47, (-1000002)), (6, 54, (-1000002)), (5, 66, (-1000001)), (6, 62, (-1000001)), (5, 100, (-1000004)), (6, 66, (-1000004)), (5, 118, (-1000005)), (2, 44, (-1000005)), (3, 19, (-1000005)), (5, 157, (-1000003)), (6, 141, (-1000003)), (7, 265, (1431655765)), (7, 266, (858993459)), (7, 267, (252645135))]
def zj : List (Nat × Nat × Int64) := [(5, 194, (137)), (5, 237, (31)), (6, 159, (137)), (6, 157, (31))]
def zs : List (Nat × Nat × Nat × Nat) := [(2, 30, 0, 6), (2, 34, 1, 6)]
def zst : List (String × String × String) := [("CrankLayout", "COS_A", "[I"), ("CrankLayout", "COS_B", "[I")]
def zty : Nat → Nat → FieldType
  | 0 => tyX0
  | 1 => tyX1
  | 2 => tyX2
  | 3 => tyX3
  | 4 => tyX4
  | 5 => tyX5
  | _ => tyX6
/-- the methods: class, name, bytes, locals, answer, parameters, kind (0 of an object, 1 static, 2 constructor) -/
def zmL : List (Nat × MethodName × ByteArray × Nat × Option FieldType × Nat × Nat) := [
  (5, yX5_init, cX5_init, 1, none, 0, 2),
  (99, objectInit, ⟨#[0xb1]⟩, 1, none, 0, 2),
  (1, yX1_init, cX1_init, 1, none, 0, 2),
  (4, yX4_init, cX4_init, 1, none, 0, 2),
  (1, yX1_begin, cX1_begin, 3, none, 1, 0),
  (1, yX1_dropChoice, cX1_dropChoice, 1, none, 0, 0),
  (1, yX1_all, cX1_all, 1, (some .int), 0, 0),
  (0, yX0_init, cX0_init, 1, none, 0, 2),
  (2, yX2_init, cX2_init, 1, none, 0, 2),
  (3, yX3_init, cX3_init, 1, none, 0, 2),
  (0, yX0_layOut, cX0_layOut, 2, none, 1, 0),
  (1, yX1_slots, cX1_slots, 1, (some .int), 0, 0),
  (0, yX0_extend, cX0_extend, 6, none, 4, 1),
  (0, yX0_enter, cX0_enter, 5, none, 1, 0),
  (1, yX1_lowSlot, cX1_lowSlot, 2, (some .int), 1, 0),
  (6, yX6_init, cX6_init, 1, none, 0, 2),
  (6, yX6_lays, cX6_lays, 3, none, 1, 0),
  (6, yX6_at, cX6_at, 2, (some .int), 2, 1),
  (6, yX6_chooses, cX6_chooses, 3, none, 1, 0),
  (5, yX5_setCylinders, cX5_setCylinders, 3, (some .int), 1, 0),
  (5, yX5_firingsChanged, cX5_firingsChanged, 1, none, 0, 0),
  (6, yX6_setCylinders, cX6_setCylinders, 3, (some .int), 1, 0),
  (6, yX6_in, cX6_in, 3, (some .boolean), 3, 1),
  (5, yX5_setStrokes, cX5_setStrokes, 3, (some .int), 1, 0),
  (6, yX6_setStrokes, cX6_setStrokes, 2, (some .int), 1, 0),
  (6, yX6_puts, cX6_puts, 4, (some .int), 2, 0),
  (5, yX5_setThrow, cX5_setThrow, 4, (some .int), 2, 0),
  (5, yX5_isNoCylinder, cX5_isNoCylinder, 2, (some .boolean), 1, 0),
  (5, yX5_isNoTurn, cX5_isNoTurn, 1, (some .boolean), 1, 1),
  (6, yX6_setThrow, cX6_setThrow, 3, (some .int), 2, 0),
  (6, yX6_isCylinder, cX6_isCylinder, 2, (some .boolean), 1, 0),
  (5, yX5_setMass, cX5_setMass, 4, (some .int), 2, 0),
  (6, yX6_setMass, cX6_setMass, 3, (some .int), 2, 0),
  (5, yX5_setPlace, cX5_setPlace, 4, (some .int), 2, 0),
  (5, yX5_isNoPlace, cX5_isNoPlace, 1, (some .boolean), 1, 1),
  (6, yX6_setPlace, cX6_setPlace, 3, (some .int), 2, 0),
  (5, yX5_setWeight, cX5_setWeight, 5, (some .int), 3, 0),
  (4, yX4_remove, cX4_remove, 5, none, 2, 0),
  (4, yX4_rankOf, cX4_rankOf, 5, (some .int), 2, 0),
  (4, yX4_standsAt, cX4_standsAt, 4, (some .boolean), 3, 0),
  (4, yX4_copyWithin, cX4_copyWithin, 3, none, 2, 0),
  (4, yX4_put, cX4_put, 6, (some .boolean), 3, 0),
  (6, yX6_setWeight, cX6_setWeight, 7, (some .int), 3, 0),
  (6, yX6_weightAt, cX6_weightAt, 4, (some .int), 2, 0),
  (5, yX5_weight, cX5_weight, 4, (some .int), 2, 0),
  (6, yX6_weight, cX6_weight, 3, (some .int), 2, 0),
  (5, yX5_cylinder, cX5_cylinder, 3, (some .int), 2, 0),
  (5, yX5_isChosen, cX5_isChosen, 1, (some .boolean), 0, 0),
  (0, yX0_slotOf, cX0_slotOf, 3, (some .int), 2, 0),
  (6, yX6_cylinder, cX6_cylinder, 3, (some .int), 2, 0),
  (5, yX5_vector, cX5_vector, 4, (some .int), 3, 0),
  (5, yX5_addUp, cX5_addUp, 7, none, 1, 0),
  (2, yX2_clear, cX2_clear, 1, none, 0, 0),
  (2, yX2_add, cX2_add, 5, none, 2, 0),
  (8, yJ9_floorMod_7cf53, cJ9_floorMod_7cf53, 3, (some .int), 2, 1),
  (2, yX2_part, cX2_part, 3, (some .int), 2, 0),
  (6, yX6_vector, cX6_vector, 4, (some .int), 3, 0),
  (6, yX6_sums, cX6_sums, 4, none, 1, 0),
  (6, yX6_adds, cX6_adds, 4, none, 2, 0),
  (5, yX5_balanced, cX5_balanced, 3, (some .int), 0, 0),
  (2, yX2_isZero, cX2_isZero, 1, (some .boolean), 0, 0),
  (6, yX6_balanced, cX6_balanced, 1, (some .int), 0, 0),
  (6, yX6_balancedNow, cX6_balancedNow, 3, (some .int), 0, 0),
  (6, yX6_isNothing, cX6_isNothing, 1, (some .boolean), 0, 0),
  (5, yX5_isMirrored, cX5_isMirrored, 1, (some .int), 0, 0),
  (1, yX1_looksTheSameFromBehind, cX1_looksTheSameFromBehind, 3, (some .boolean), 0, 0),
  (6, yX6_isMirrored, cX6_isMirrored, 1, (some .int), 0, 0),
  (6, yX6_mirrored, cX6_mirrored, 4, (some .int), 0, 0),
  (5, yX5_counterWeight, cX5_counterWeight, 1, (some .int), 0, 0),
  (2, yX2_counter, cX2_counter, 4, (some .int), 1, 0),
  (2, yX2_massAgainst, cX2_massAgainst, 8, (some .int), 2, 0),
  (2, yX2_quotient, cX2_quotient, 2, (some .int), 2, 1),
  (6, yX6_counterWeight, cX6_counterWeight, 1, (some .int), 0, 0),
  (6, yX6_counterNow, cX6_counterNow, 1, (some .int), 0, 0),
  (6, yX6_counter, cX6_counter, 5, (some .int), 1, 0),
  (5, yX5_counterPair, cX5_counterPair, 3, (some .int), 2, 0),
  (6, yX6_counterPair, cX6_counterPair, 3, (some .int), 2, 0),
  (5, yX5_orders, cX5_orders, 1, (some .int), 0, 0),
  (6, yX6_orders, cX6_orders, 1, (some .int), 0, 0),
  (6, yX6_findOrders, cX6_findOrders, 5, none, 0, 0),
  (6, yX6_laysSlots, cX6_laysSlots, 3, none, 1, 0),
  (6, yX6_orderOfSlots, cX6_orderOfSlots, 7, (some .int), 0, 0),
  (6, yX6_cycle, cX6_cycle, 1, (some .int), 0, 0),
  (5, yX5_order, cX5_order, 3, (some .int), 2, 0),
  (5, yX5_isNoOrder, cX5_isNoOrder, 2, (some .boolean), 1, 0),
  (0, yX0_cylinderAt, cX0_cylinderAt, 3, (some .int), 2, 0),
  (6, yX6_order, cX6_order, 3, (some .int), 2, 0),
  (6, yX6_isOrder, cX6_isOrder, 2, (some .boolean), 1, 0),
  (6, yX6_cylinderAt, cX6_cylinderAt, 3, (some .int), 2, 0),
  (5, yX5_orderCost, cX5_orderCost, 3, (some .int), 2, 0),
  (0, yX0_penalty, cX0_penalty, 6, (some .int), 1, 0),
  (8, Lib.Math.abs.name, Lib.Math.abs.code, 1, (some .int), 1, 1),
  (0, yX0_greatestLoad, cX0_greatestLoad, 4, (some .int), 1, 0),
  (8, Lib.Math.max.name, Lib.Math.max.code, 2, (some .int), 2, 1),
  (0, yX0_peakOf, cX0_peakOf, 7, (some .int), 3, 0),
  (0, yX0_loadOf, cX0_loadOf, 5, (some .int), 4, 0),
  (0, yX0_shareOf, cX0_shareOf, 6, (some .int), 4, 0),
  (0, yX0_slotsFrom, cX0_slotsFrom, 3, (some .int), 2, 0),
  (6, yX6_orderCost, cX6_orderCost, 3, (some .int), 2, 0),
  (6, yX6_penalty, cX6_penalty, 5, (some .int), 1, 0),
  (6, yX6_peakOfAll, cX6_peakOfAll, 5, (some .int), 1, 0),
  (6, yX6_laysOrder, cX6_laysOrder, 4, none, 1, 0),
  (6, yX6_peakOf, cX6_peakOf, 5, (some .int), 1, 0),
  (6, yX6_loadIn, cX6_loadIn, 6, (some .int), 2, 0),
  (5, yX5_bestOrder, cX5_bestOrder, 5, (some .int), 0, 0),
  (6, yX6_bestOrder, cX6_bestOrder, 1, (some .int), 0, 0),
  (6, yX6_best, cX6_best, 5, (some .int), 0, 0),
  (5, yX5_choose, cX5_choose, 2, (some .int), 1, 0),
  (6, yX6_choose, cX6_choose, 3, (some .int), 1, 0),
  (5, yX5_append, cX5_append, 2, (some .int), 1, 0),
  (3, yX3_put, cX3_put, 2, (some .boolean), 1, 0),
  (6, yX6_append, cX6_append, 2, (some .int), 1, 0),
  (5, yX5_clearText, cX5_clearText, 2, (some .int), 0, 0),
  (6, yX6_clearText, cX6_clearText, 2, (some .int), 0, 0),
  (5, yX5_faultPosition, cX5_faultPosition, 1, (some .int), 0, 0),
  (3, yX3_faultFor, cX3_faultFor, 6, (some .int), 1, 0),
  (6, yX6_faultPosition, cX6_faultPosition, 2, (some .int), 0, 0),
  (6, yX6_fault, cX6_fault, 4, (some .int), 0, 0),
  (5, yX5_find, cX5_find, 2, (some .int), 0, 0),
  (5, yX5_textTells, cX5_textTells, 6, (some .boolean), 1, 0),
  (3, yX3_cylinderAt, cX3_cylinderAt, 2, (some .int), 1, 0),
  (6, yX6_find, cX6_find, 4, (some .int), 0, 0),
  (5, yX5_turn, cX5_turn, 3, (some .int), 2, 0),
  (7, yJ6_bitCount_0f7a4, cJ6_bitCount_0f7a4, 1, (some .int), 1, 1),
  (6, yX6_turn, cX6_turn, 3, (some .int), 2, 0),
  (6, yX6_onMany, cX6_onMany, 3, (some .int), 0, 0),
  (5, yX5_longestGap, cX5_longestGap, 1, (some .int), 0, 0),
  (0, yX0_gap, cX0_gap, 5, (some .int), 2, 0),
  (0, yX0_gapBehind, cX0_gapBehind, 6, (some .int), 3, 0),
  (8, Lib.Math.min.name, Lib.Math.min.code, 2, (some .int), 2, 1),
  (6, yX6_longestGap, cX6_longestGap, 1, (some .int), 0, 0),
  (6, yX6_gapBut, cX6_gapBut, 7, (some .int), 1, 0),
  (5, yX5_load, cX5_load, 3, (some .int), 2, 0),
  (5, yX5_isNoBearing, cX5_isNoBearing, 2, (some .boolean), 1, 0),
  (6, yX6_load, cX6_load, 3, (some .int), 2, 0),
  (6, yX6_isBearing, cX6_isBearing, 2, (some .boolean), 1, 0),
  (6, yX6_laysChosen, cX6_laysChosen, 2, none, 0, 0),
  (5, yX5_peak, cX5_peak, 2, (some .int), 1, 0),
  (6, yX6_peak, cX6_peak, 2, (some .int), 1, 0),
  (5, yX5_bestOff, cX5_bestOff, 5, (some .int), 0, 0),
  (6, yX6_bestOff, cX6_bestOff, 1, (some .int), 0, 0),
  (6, yX6_bestOffNow, cX6_bestOffNow, 5, (some .int), 0, 0),
  (5, yX5_save, cX5_save, 2, (some .int), 1, 0),
  (1, yX1_takeOver, cX1_takeOver, 2, none, 1, 0),
  (4, yX4_takeOver, cX4_takeOver, 2, none, 1, 0),
  (6, yX6_save, cX6_save, 3, (some .int), 1, 0),
  (5, yX5_restore, cX5_restore, 2, (some .int), 1, 0),
  (6, yX6_restore, cX6_restore, 3, (some .int), 1, 0),
  (5, yX5_checksum, cX5_checksum, 5, (some .long), 0, 0),
  (5, yX5_mix, cX5_mix, 4, (some .long), 2, 1),
  (5, yX5_mixBalance, cX5_mixBalance, 6, (some .long), 1, 0),
  (5, yX5_mixChosen, cX5_mixChosen, 6, (some .long), 1, 0),
  (6, yX6_checksum, cX6_checksum, 5, (some .long), 0, 0),
  (6, yX6_more, cX6_more, 3, (some .long), 2, 1)]
def zfind {α : Type} : List (Nat × Nat × α) → Nat → Nat → Option α
  | [], _, _ => none
  | (a, b, x) :: t, o, i => if a = o ∧ b = i then some x else zfind t o i
theorem zfind_mem {α : Type} {x : α} {o i : Nat} : ∀ {l : List (Nat × Nat × α)}, zfind l o i = some x → (o, i, x) ∈ l
  | [], h => by cases h
  | (a, b, y) :: t, h => by
    unfold zfind at h
    split at h
    · rename_i hh
      cases h
      rw [hh.1, hh.2]
      exact List.mem_cons_self
    · exact List.mem_cons_of_mem _ (zfind_mem h)
theorem zmemN {α : Type} {l : List α} {f : α → Cond} {is : List Nat} (h : l.map f = is.filterMap (fun i => lw_tbl[i]?)) : ∀ q ∈ l, f q ∈ lw_tbl := by
  intro q hq
  have h1 : f q ∈ l.map f := List.mem_map.mpr ⟨q, hq, rfl⟩
  rw [h] at h1
  obtain ⟨i, -, hi⟩ := List.mem_filterMap.mp h1
  exact List.mem_of_getElem? hi
def zfw (q : Nat × Nat × Nat × Nat × Bool × Nat × Nat) : Cond := Cond.fieldLink (zcn q.1) q.2.1 (((vwCl.getD q.2.2.1 (RX0, TX0, 0)).2.1 q.2.2.2.1).1) (((vwCl.getD q.2.2.1 (RX0, TX0, 0)).2.1 q.2.2.2.1).2.1) (((vwCl.getD q.2.2.1 (RX0, TX0, 0)).2.1 q.2.2.2.1).2.2.1)
def zfwN (q : Nat × Nat × Nat × Nat × Bool × Nat × Nat) : Cond := Cond.fieldLinkNest (zcn q.1) q.2.1 (((vwCl.getD q.2.2.1 (RX0, TX0, 0)).2.1 q.2.2.2.1).1) (((vwCl.getD q.2.2.1 (RX0, TX0, 0)).2.1 q.2.2.2.1).2.1) (((vwCl.getD q.2.2.1 (RX0, TX0, 0)).2.1 q.2.2.2.1).2.2.1) (zcn (q.2.2.2.2.2.2 - 1))
def zfP : List (Nat × Nat × Nat × Nat × Bool × Nat × Nat) := zf.filter (fun q => q.2.2.2.2.2.2 == 0)
def zfN : List (Nat × Nat × Nat × Nat × Bool × Nat × Nat) := zf.filter (fun q => !(q.2.2.2.2.2.2 == 0))
set_option maxRecDepth 1000000 in
set_option maxHeartbeats 4000000 in
theorem zfP_w : zfP.map zfw = ([78, 79, 80, 81, 82, 83, 84, 85, 108, 109, 110, 111, 112, 113, 114, 115, 116, 117, 118, 119, 120, 121, 122, 123, 124, 148, 150, 151, 152, 153, 154, 155, 177, 178, 179, 180, 196, 198, 224, 225, 226, 227, 228, 229, 230, 231, 596, 597, 598, 599, 600, 601, 602, 603, 604, 605, 606, 607] : List Nat).filterMap (fun i => lw_tbl[i]?) := by decide +kernel
set_option maxRecDepth 1000000 in
theorem zfP_m : ∀ q ∈ zfP, zfw q ∈ zBW := zmem zfP_w (by decide +kernel)
set_option maxRecDepth 1000000 in
set_option maxHeartbeats 4000000 in
theorem zfN_w : zfN.map zfwN = ([149, 197] : List Nat).filterMap (fun i => lw_tbl[i]?) := by decide +kernel
theorem zfN_m : ∀ q ∈ zfN, zfwN q ∈ lw_tbl := zmemN zfN_w
def zft : Nat → FieldType → Bool
  | 0, .int => true
  | 1, .boolean => true
  | 2, .object _ => true
  | 2, .array _ => true
  | _, _ => false
theorem zf_ok : zf.all (fun q => decide (q.2.2.1 < vwCl.length) && decide (q.2.2.2.1 < (vwCl.getD q.2.2.1 (RX0, TX0, 0)).2.2) && (q.2.2.2.2.1 == ((vwCl.getD q.2.2.1 (RX0, TX0, 0)).2.1 q.2.2.2.1).2.2.2) && zft q.2.2.2.2.2.1 (zty q.2.2.1 q.2.2.2.1) && decide (((vwCl.getD q.2.2.1 (RX0, TX0, 0)).2.1 q.2.2.2.1).1 = zcn q.2.2.1) && (q.2.2.2.2.2.2 == 0 || decide (q.1 ≠ q.2.2.1))) = true := by decide +kernel
def zmg (k : Nat) : Nat × MethodName × ByteArray × Nat × Option FieldType × Nat × Nat := zmL.getD k (99, objectInit, ⟨#[0xb1]⟩, 1, none, 0, 2)
def zkw (q : Nat × Nat × Nat × Nat) : Cond := Cond.methodLink (zcn q.1) q.2.1 (zmg q.2.2.1).2.1
def zkwN (q : Nat × Nat × Nat × Nat) : Cond := Cond.methodLinkNest (zcn q.1) q.2.1 (zmg q.2.2.1).2.1 (zcn (q.2.2.2 - 1))
def zkP : List (Nat × Nat × Nat × Nat) := zk.filter (fun q => q.2.2.2 == 0)
def zkN : List (Nat × Nat × Nat × Nat) := zk.filter (fun q => !(q.2.2.2 == 0))
set_option maxRecDepth 1000000 in
set_option maxHeartbeats 4000000 in
theorem zkP_w : zkP.map zkw = ([60, 68, 96, 100, 104, 205, 209, 213, 216, 220, 249, 254, 255, 259, 260, 264, 268, 273, 276, 280, 284, 287, 291, 295, 299, 303, 307, 312, 316, 320, 324, 329, 333, 337, 341, 345, 352, 356, 360, 364, 368, 372, 376, 380, 381, 385, 389, 393, 397, 401, 405, 409, 413, 417, 418, 421, 425, 429, 430, 434, 438, 442, 445, 449, 453, 457, 461, 465, 469, 474, 479, 483, 487, 491, 497, 501, 505, 509, 512, 516, 520, 521, 522, 526, 527, 531, 535, 542, 547, 551, 556, 560, 561, 562, 566, 567, 568, 569, 570, 571, 575, 576, 577, 580, 584, 588, 591, 634, 638, 642, 646, 650, 654, 659, 663, 667, 671, 676, 680, 684, 688, 692, 696, 700, 704, 708, 712, 716, 720, 724, 728, 732, 736, 740, 744, 748, 752, 756, 760, 764, 768, 772, 776, 780, 784, 788, 792, 796, 800, 804, 808, 812, 816, 821, 825, 829, 833, 837, 841, 845, 849, 853, 857, 861, 865, 869, 874] : List Nat).filterMap (fun i => lw_tbl[i]?) := by decide +kernel
set_option maxRecDepth 1000000 in
theorem zkP_m : ∀ q ∈ zkP, zkw q ∈ zBW := zmem zkP_w (by decide +kernel)
set_option maxRecDepth 1000000 in
set_option maxHeartbeats 4000000 in
theorem zkN_w : zkN.map zkwN = ([74, 144, 173, 192] : List Nat).filterMap (fun i => lw_tbl[i]?) := by decide +kernel
theorem zkN_m : ∀ q ∈ zkN, zkwN q ∈ lw_tbl := zmemN zkN_w
theorem zk_ok : zk.all (fun q => decide (q.2.2.1 < zmL.length) && decide ((zmg q.2.2.1).1 < 99) && (q.2.2.2 == 0 || (zmg q.2.2.1).2.2.2.2.2.2 == 2)) = true := by decide +kernel
def zow (q : Nat × Nat × Unit) : Cond := Cond.methodLink (zcn q.1) q.2.1 objectInit
set_option maxRecDepth 1000000 in
set_option maxHeartbeats 4000000 in
theorem zo_w : zo.map zow = ([63, 71, 77, 147, 176, 195, 583] : List Nat).filterMap (fun i => lw_tbl[i]?) := by decide +kernel
set_option maxRecDepth 1000000 in
theorem zo_m : ∀ q ∈ zo, zow q ∈ zBW := zmem zo_w (by decide +kernel)
def zow2 (q : Nat) : Cond := bif q == 0 then Cond.instanceMethod objectInit else Cond.code objectInit ⟨#[0xb1]⟩ 1 none
set_option maxRecDepth 1000000 in
set_option maxHeartbeats 4000000 in
theorem zo2_w : [0, 1].map zow2 = ([64, 65] : List Nat).filterMap (fun i => lw_tbl[i]?) := by decide +kernel
set_option maxRecDepth 1000000 in
theorem zo2_m : ∀ q ∈ [0, 1], zow2 q ∈ zBW := zmem zo2_w (by decide +kernel)
def zyw (q : Nat × Nat × Unit) : Cond := Cond.methodLink (zcn q.1) q.2.1 arraycopyName
set_option maxRecDepth 1000000 in
set_option maxHeartbeats 4000000 in
theorem zy_w : zy.map zyw = ([539, 546] : List Nat).filterMap (fun i => lw_tbl[i]?) := by decide +kernel
set_option maxRecDepth 1000000 in
theorem zy_m : ∀ q ∈ zy, zyw q ∈ zBW := zmem zy_w (by decide +kernel)
def zyw2 (q : Nat) : Cond := bif q == 0 then Cond.native arraycopyName else bif q == 1 then Cond.static arraycopyName else Cond.initialized "java/lang/System"
set_option maxRecDepth 1000000 in
set_option maxHeartbeats 4000000 in
theorem zy2_w : [0, 1, 2].map zyw2 = ([541, 540, 57] : List Nat).filterMap (fun i => lw_tbl[i]?) := by decide +kernel
set_option maxRecDepth 1000000 in
theorem zy2_m : ∀ q ∈ [0, 1, 2], zyw2 q ∈ zBW := zmem zy2_w (by decide +kernel)
def znw (q : Nat × Nat × Nat) : Cond := Cond.classLink (zcn q.1) q.2.1 (vwCl.getD q.2.2 (RX0, TX0, 0)).1
set_option maxRecDepth 1000000 in
set_option maxHeartbeats 4000000 in
theorem zn_w : zn.map znw = ([58, 578, 66, 142, 171, 190, 72] : List Nat).filterMap (fun i => lw_tbl[i]?) := by decide +kernel
set_option maxRecDepth 1000000 in
theorem zn_m : ∀ q ∈ zn, znw q ∈ zBW := zmem zn_w (by decide +kernel)
def znw2 (q : Nat × Nat × Nat) : Cond := Cond.instantiable (vwCl.getD q.2.2 (RX0, TX0, 0)).1 (vwCl.getD q.2.2 (RX0, TX0, 0)).2.2
set_option maxRecDepth 1000000 in
set_option maxHeartbeats 4000000 in
theorem zn2_w : zn.map znw2 = ([59, 579, 67, 143, 172, 191, 73] : List Nat).filterMap (fun i => lw_tbl[i]?) := by decide +kernel
set_option maxRecDepth 1000000 in
theorem zn2_m : ∀ q ∈ zn, znw2 q ∈ zBW := zmem zn2_w (by decide +kernel)
def znw3 (q : Nat × Nat × Nat) : Cond := Cond.initialized (vwCl.getD q.2.2 (RX0, TX0, 0)).1
set_option maxRecDepth 1000000 in
set_option maxHeartbeats 4000000 in
theorem zn3_w : zn.map znw3 = ([48, 54, 49, 51, 52, 53, 50] : List Nat).filterMap (fun i => lw_tbl[i]?) := by decide +kernel
set_option maxRecDepth 1000000 in
theorem zn3_m : ∀ q ∈ zn, znw3 q ∈ zBW := zmem zn3_w (by decide +kernel)
theorem zn_ok : zn.all (fun q => decide (q.2.2 < vwCl.length)) = true := by decide +kernel
def zcw (q : Nat × Nat × Int32) : Cond := Cond.constant (zcn q.1) q.2.1 q.2.2
set_option maxRecDepth 1000000 in
set_option maxHeartbeats 4000000 in
theorem zc_w : zc.map zcw = ([595, 253, 641, 272, 658, 311, 675, 328, 388, 473, 478, 820, 494, 495, 496] : List Nat).filterMap (fun i => lw_tbl[i]?) := by decide +kernel
set_option maxRecDepth 1000000 in
theorem zc_m : ∀ q ∈ zc, zcw q ∈ zBW := zmem zc_w (by decide +kernel)
def zjw (q : Nat × Nat × Int64) : Cond := Cond.constantLong (zcn q.1) q.2.1 q.2.2
set_option maxRecDepth 1000000 in
set_option maxHeartbeats 4000000 in
theorem zj_w : zj.map zjw = ([555, 559, 873, 877] : List Nat).filterMap (fun i => lw_tbl[i]?) := by decide +kernel
set_option maxRecDepth 1000000 in
theorem zj_m : ∀ q ∈ zj, zjw q ∈ zBW := zmem zj_w (by decide +kernel)
def zsw (q : Nat × Nat × Nat × Nat) : Cond := Cond.fieldLink (zcn q.1) q.2.1 (zst.getD q.2.2.1 ("", "", "")).1 (zst.getD q.2.2.1 ("", "", "")).2.1 (zst.getD q.2.2.1 ("", "", "")).2.2
def zswN (q : Nat × Nat × Nat × Nat) : Cond := Cond.fieldLinkNest (zcn q.1) q.2.1 (zst.getD q.2.2.1 ("", "", "")).1 (zst.getD q.2.2.1 ("", "", "")).2.1 (zst.getD q.2.2.1 ("", "", "")).2.2 (zcn (q.2.2.2 - 1))
def zsP : List (Nat × Nat × Nat × Nat) := zs.filter (fun q => q.2.2.2 == 0)
def zsN : List (Nat × Nat × Nat × Nat) := zs.filter (fun q => !(q.2.2.2 == 0))
set_option maxRecDepth 1000000 in
set_option maxHeartbeats 4000000 in
theorem zsP_w : zsP.map zsw = ([] : List Nat).filterMap (fun i => lw_tbl[i]?) := by decide +kernel
set_option maxRecDepth 1000000 in
theorem zsP_m : ∀ q ∈ zsP, zsw q ∈ zBW := zmem zsP_w (by decide +kernel)
set_option maxRecDepth 1000000 in
set_option maxHeartbeats 4000000 in
theorem zsN_w : zsN.map zswN = ([348, 350] : List Nat).filterMap (fun i => lw_tbl[i]?) := by decide +kernel
theorem zsN_m : ∀ q ∈ zsN, zswN q ∈ lw_tbl := zmemN zsN_w
theorem zs_ok : zs.all (fun q => decide (q.2.2.1 < zst.length)) = true := by decide +kernel
def zaw (ty : FieldType) : Cond := Cond.arrayClass ty
set_option maxRecDepth 1000000 in
set_option maxHeartbeats 4000000 in
theorem za_w : [FieldType.int, FieldType.byte, FieldType.boolean].map zaw = ([95, 204, 633] : List Nat).filterMap (fun i => lw_tbl[i]?) := by decide +kernel
set_option maxRecDepth 1000000 in
theorem za_m : ∀ q ∈ [FieldType.int, FieldType.byte, FieldType.boolean], zaw q ∈ zBW := zmem za_w (by decide +kernel)
def zmw0 (q : Nat × MethodName × ByteArray × Nat × Option FieldType × Nat × Nat) : Cond := Cond.code q.2.1 q.2.2.1 q.2.2.2.1 q.2.2.2.2.1
set_option maxRecDepth 1000000 in
set_option maxHeartbeats 4000000 in
theorem zm0_w : zmL.map zmw0 = ([62, 65, 70, 76, 99, 103, 107, 146, 175, 194, 208, 212, 215, 219, 223, 582, 587, 590, 594, 252, 258, 637, 640, 263, 645, 649, 267, 271, 275, 653, 657, 279, 662, 283, 286, 666, 290, 294, 298, 302, 306, 310, 670, 674, 315, 679, 319, 323, 327, 683, 332, 336, 340, 344, 347, 355, 687, 691, 695, 359, 363, 699, 703, 707, 367, 371, 711, 715, 375, 379, 384, 387, 719, 723, 727, 392, 731, 396, 735, 739, 743, 747, 751, 400, 404, 408, 755, 759, 763, 412, 416, 420, 424, 444, 428, 433, 437, 441, 767, 771, 775, 779, 783, 787, 448, 791, 795, 452, 799, 456, 460, 803, 464, 807, 468, 472, 811, 815, 477, 482, 486, 819, 490, 493, 824, 828, 500, 504, 508, 511, 832, 836, 515, 519, 840, 844, 848, 525, 852, 530, 856, 860, 534, 538, 545, 864, 550, 868, 554, 558, 565, 574, 872, 876] : List Nat).filterMap (fun i => lw_tbl[i]?) := by rfl
set_option maxRecDepth 1000000 in
theorem zm0_m : ∀ q ∈ zmL, zmw0 q ∈ zBW := zmem zm0_w (by decide +kernel)
def zmw1 (q : Nat × MethodName × ByteArray × Nat × Option FieldType × Nat × Nat) : Cond := bif q.2.2.2.2.2.2 == 1 then Cond.static q.2.1 else Cond.instanceMethod q.2.1
set_option maxRecDepth 1000000 in
set_option maxHeartbeats 4000000 in
theorem zm1_w : zmL.map zmw1 = ([61, 64, 69, 75, 97, 101, 105, 145, 174, 193, 206, 210, 214, 218, 221, 581, 586, 589, 593, 250, 257, 635, 639, 261, 643, 648, 265, 270, 274, 651, 656, 277, 660, 281, 285, 664, 288, 292, 297, 301, 305, 308, 668, 673, 313, 677, 317, 322, 325, 681, 330, 335, 338, 342, 346, 353, 685, 690, 694, 357, 361, 697, 702, 706, 365, 369, 709, 714, 373, 377, 383, 386, 717, 722, 726, 390, 729, 394, 733, 738, 742, 746, 750, 398, 403, 406, 753, 758, 762, 410, 414, 419, 422, 443, 426, 431, 436, 440, 765, 770, 774, 778, 782, 786, 446, 789, 794, 450, 797, 454, 458, 801, 462, 805, 466, 470, 809, 814, 475, 481, 484, 817, 488, 492, 822, 827, 498, 502, 507, 510, 830, 835, 513, 518, 838, 843, 847, 523, 850, 528, 854, 859, 532, 536, 543, 862, 548, 866, 552, 557, 564, 573, 870, 875] : List Nat).filterMap (fun i => lw_tbl[i]?) := by decide +kernel
set_option maxRecDepth 1000000 in
theorem zm1_m : ∀ q ∈ zmL, zmw1 q ∈ zBW := zmem zm1_w (by decide +kernel)
def zmw2 (q : Nat × MethodName × ByteArray × Nat × Option FieldType × Nat × Nat) : Cond := Cond.initialized q.2.1.cls
def zmR : List (Nat × MethodName × ByteArray × Nat × Option FieldType × Nat × Nat) := zmL.filter (fun q => decide (q.1 < 99))
set_option maxRecDepth 1000000 in
set_option maxHeartbeats 4000000 in
theorem zm2_w : zmR.map zmw2 = ([48, 49, 50, 49, 49, 49, 51, 52, 53, 51, 49, 51, 51, 49, 54, 54, 54, 54, 48, 48, 54, 54, 48, 54, 54, 48, 48, 48, 54, 54, 48, 54, 48, 48, 54, 48, 50, 50, 50, 50, 50, 54, 54, 48, 54, 48, 48, 51, 54, 48, 48, 52, 52, 55, 52, 54, 54, 54, 48, 52, 54, 54, 54, 48, 49, 54, 54, 48, 52, 52, 52, 54, 54, 54, 48, 54, 48, 54, 54, 54, 54, 54, 48, 48, 51, 54, 54, 54, 48, 51, 55, 51, 55, 51, 51, 51, 51, 54, 54, 54, 54, 54, 54, 48, 54, 54, 48, 54, 48, 53, 54, 48, 54, 48, 53, 54, 54, 48, 48, 53, 54, 48, 56, 54, 54, 48, 51, 51, 55, 54, 54, 48, 48, 54, 54, 54, 48, 54, 48, 54, 54, 48, 49, 50, 54, 48, 54, 48, 48, 48, 48, 54, 54] : List Nat).filterMap (fun i => lw_tbl[i]?) := by decide +kernel
set_option maxRecDepth 1000000 in
theorem zm2_m : ∀ q ∈ zmR, zmw2 q ∈ zBW := zmem zm2_w (by decide +kernel)
def zmw3 (q : Nat × MethodName × ByteArray × Nat × Option FieldType × Nat × Nat) : Cond := Cond.selects q.2.1.cls q.2.1 q.2.1
def zmV : List (Nat × MethodName × ByteArray × Nat × Option FieldType × Nat × Nat) := zmL.filter (fun q => q.2.2.2.2.2.2 == 0)
set_option maxRecDepth 1000000 in
set_option maxHeartbeats 4000000 in
theorem zm3_w : zmV.map zmw3 = ([98, 102, 106, 207, 211, 0, 222, 17, 18, 251, 1, 636, 262, 644, 19, 266, 2, 652, 20, 278, 661, 282, 665, 289, 293, 3, 4, 5, 309, 669, 21, 314, 678, 318, 6, 326, 682, 331, 7, 339, 343, 354, 686, 22, 23, 358, 362, 698, 24, 25, 366, 370, 710, 26, 374, 378, 8, 718, 27, 28, 391, 730, 395, 734, 29, 30, 31, 32, 399, 9, 407, 754, 33, 34, 411, 415, 423, 427, 432, 10, 11, 766, 35, 36, 37, 38, 39, 447, 790, 40, 451, 798, 455, 459, 802, 463, 806, 467, 471, 810, 41, 476, 12, 485, 818, 489, 823, 42, 499, 503, 13, 831, 43, 514, 14, 839, 44, 45, 524, 851, 529, 855, 46, 533, 537, 544, 863, 549, 867, 553, 15, 16, 871] : List Nat).filterMap (fun i => lw_tbl[i]?) := by decide +kernel
set_option maxRecDepth 1000000 in
theorem zm3_m : ∀ q ∈ zmV, zmw3 q ∈ zBW := zmem zm3_w (by decide +kernel)
def zmok (q : Nat × MethodName × ByteArray × Nat × Option FieldType × Nat × Nat) : Bool :=
  decide (q.1 = 99) || (decide (q.2.1.cls = zcn q.1) && decide (q.2.1.cls ≠ "java/lang/invoke/MethodHandle") && decide (q.2.1.cls ≠ "java/lang/invoke/VarHandle") && decide ((parseMethodDescriptor q.2.1.desc).map (fun d => d.parameters.length) = some q.2.2.2.2.2.1) && decide (q.2.2.2.1 ≤ 40)
    && (bif q.2.2.2.2.2.2 == 2 then decide (q.2.1.name = "<init>") && decide (q.2.2.2.2.1 = none) else true) && (bif q.2.2.2.2.2.2 == 0 then decide (q.1 < vwCl.length) else true) && plainFor q.2.1)
set_option maxRecDepth 1000000 in
theorem zm_ok : zmL.all zmok = true := by decide +kernel
theorem ztyk : ∀ ci k, ci < vwCl.length → k < (vwCl.getD ci (RX0, TX0, 0)).2.2 → (zft 0 (zty ci k) = true ∨ zft 1 (zty ci k) = true ∨ zft 2 (zty ci k) = true) := fun ci k h hk => (show ∀ ci, ci < vwCl.length → ∀ k, k < (vwCl.getD ci (RX0, TX0, 0)).2.2 → (zft 0 (zty ci k) = true ∨ zft 1 (zty ci k) = true ∨ zft 2 (zty ci k) = true) by decide +kernel) ci h k hk
theorem zcn_cl : ∀ ci, ci < vwCl.length → (vwCl.getD ci (RX0, TX0, 0)).1 = zcn ci := by decide +kernel
set_option maxRecDepth 1000000 in
set_option maxHeartbeats 4000000 in
theorem ziX0_w : wsX00.map (fun q => q) = ([156, 158, 160, 162, 164, 166, 168] : List Nat).filterMap (fun i => lw_tbl[i]?) := by decide +kernel
set_option maxRecDepth 1000000 in
theorem ziX0_m : ∀ q ∈ wsX00, (fun q => q) q ∈ zBW := zmem ziX0_w (by decide +kernel)
set_option maxRecDepth 1000000 in
set_option maxHeartbeats 4000000 in
theorem ziX1_w : wsX10.map (fun q => q) = ([125, 127, 129, 131, 133, 135, 137, 139] : List Nat).filterMap (fun i => lw_tbl[i]?) := by decide +kernel
set_option maxRecDepth 1000000 in
theorem ziX1_m : ∀ q ∈ wsX10, (fun q => q) q ∈ zBW := zmem ziX1_w (by decide +kernel)
set_option maxRecDepth 1000000 in
set_option maxHeartbeats 4000000 in
theorem ziX2_w : wsX20.map (fun q => q) = ([181, 183, 185, 187] : List Nat).filterMap (fun i => lw_tbl[i]?) := by decide +kernel
set_option maxRecDepth 1000000 in
theorem ziX2_m : ∀ q ∈ wsX20, (fun q => q) q ∈ zBW := zmem ziX2_w (by decide +kernel)
set_option maxRecDepth 1000000 in
set_option maxHeartbeats 4000000 in
theorem ziX3_w : wsX30.map (fun q => q) = ([199, 201] : List Nat).filterMap (fun i => lw_tbl[i]?) := by decide +kernel
set_option maxRecDepth 1000000 in
theorem ziX3_m : ∀ q ∈ wsX30, (fun q => q) q ∈ zBW := zmem ziX3_w (by decide +kernel)
set_option maxRecDepth 1000000 in
set_option maxHeartbeats 4000000 in
theorem ziX4_w : wsX40.map (fun q => q) = ([86, 88, 90, 92] : List Nat).filterMap (fun i => lw_tbl[i]?) := by decide +kernel
set_option maxRecDepth 1000000 in
theorem ziX4_m : ∀ q ∈ wsX40, (fun q => q) q ∈ zBW := zmem ziX4_w (by decide +kernel)
set_option maxRecDepth 1000000 in
set_option maxHeartbeats 4000000 in
theorem ziX5_w : wsX50.map (fun q => q) = ([232, 234, 236, 238, 240, 242, 244, 246] : List Nat).filterMap (fun i => lw_tbl[i]?) := by decide +kernel
set_option maxRecDepth 1000000 in
theorem ziX5_m : ∀ q ∈ wsX50, (fun q => q) q ∈ zBW := zmem ziX5_w (by decide +kernel)
set_option maxRecDepth 1000000 in
set_option maxHeartbeats 4000000 in
theorem ziX6_w : wsX60.map (fun q => q) = ([608, 610, 612, 614, 616, 618, 620, 622, 624, 626, 628, 630] : List Nat).filterMap (fun i => lw_tbl[i]?) := by decide +kernel
set_option maxRecDepth 1000000 in
theorem ziX6_m : ∀ q ∈ wsX60, (fun q => q) q ∈ zBW := zmem ziX6_w (by decide +kernel)
theorem zclass (ci : Nat) (q : vw_C) (h : vwCl[ci]? = some q) : (∀ k, k < q.2.2 → parseFieldDescriptor (q.2.1 k).2.2.1 = some (zty ci k)) ∧ (∀ a, a < q.2.2 → ∀ b, b < q.2.2 → a ≠ b → (q.2.1 a).2.1 ≠ (q.2.1 b).2.1) ∧ (∀ w ∈ u_ws q.1 q.2.1 q.2.2, w ∈ zBW) := by
  match ci, h with
  | 0, h => cases h; exact ⟨tyX0_ok, nmX0, ziX0_m⟩
  | 1, h => cases h; exact ⟨tyX1_ok, nmX1, ziX1_m⟩
  | 2, h => cases h; exact ⟨tyX2_ok, nmX2, ziX2_m⟩
  | 3, h => cases h; exact ⟨tyX3_ok, nmX3, ziX3_m⟩
  | 4, h => cases h; exact ⟨tyX4_ok, nmX4, ziX4_m⟩
  | 5, h => cases h; exact ⟨tyX5_ok, nmX5, ziX5_m⟩
  | 6, h => cases h; exact ⟨tyX6_ok, nmX6, ziX6_m⟩
  | k + 7, h => simp [vwCl] at h
theorem zinst (ci : Nat) (q : vw_C) (h : vwCl[ci]? = some q) : Cond.instantiable q.1 q.2.2 ∈ zBW := by
  match ci, h with
  | 0, h => cases h; exact zn2_m (5, 16, 0) (by decide +kernel)
  | 1, h => cases h; exact zn2_m (5, 7, 1) (by decide +kernel)
  | 2, h => cases h; exact zn2_m (5, 23, 2) (by decide +kernel)
  | 3, h => cases h; exact zn2_m (5, 30, 3) (by decide +kernel)
  | 4, h => cases h; exact zn2_m (1, 25, 4) (by decide +kernel)
  | 5, h => cases h; exact zn2_m (10, 7, 5) (by decide +kernel)
  | 6, h => cases h; exact zn2_m (10, 10, 6) (by decide +kernel)
  | k + 7, h => simp [vwCl] at h
theorem zF_4_29 : zfind zf 4 29 = some (4, 0, false, 0, 0) := by decide +kernel
theorem zF_5_93 : zfind zf 5 93 = some (4, 0, false, 0, 0) := by decide +kernel
theorem zF_4_9 : zfind zf 4 9 = some (4, 1, true, 2, 0) := by decide +kernel
theorem zF_5_101 : zfind zf 5 101 = some (4, 1, true, 2, 0) := by decide +kernel
theorem zF_4_15 : zfind zf 4 15 = some (4, 2, true, 2, 0) := by decide +kernel
theorem zF_5_102 : zfind zf 5 102 = some (4, 2, true, 2, 0) := by decide +kernel
theorem zF_4_18 : zfind zf 4 18 = some (4, 3, true, 2, 0) := by decide +kernel
theorem zF_5_103 : zfind zf 5 103 = some (4, 3, true, 2, 0) := by decide +kernel
theorem zF_1_36 : zfind zf 1 36 = some (1, 0, false, 0, 0) := by decide +kernel
theorem zF_0_25 : zfind zf 0 25 = some (1, 0, false, 0, 0) := by decide +kernel
theorem zF_5_48 : zfind zf 5 48 = some (1, 0, false, 0, 0) := by decide +kernel
theorem zF_1_9 : zfind zf 1 9 = some (1, 1, false, 0, 0) := by decide +kernel
theorem zF_5_59 : zfind zf 5 59 = some (1, 1, false, 0, 0) := by decide +kernel
theorem zF_1_15 : zfind zf 1 15 = some (1, 2, true, 2, 0) := by decide +kernel
theorem zF_5_70 : zfind zf 5 70 = some (1, 2, true, 2, 0) := by decide +kernel
theorem zF_1_19 : zfind zf 1 19 = some (1, 3, true, 2, 0) := by decide +kernel
theorem zF_5_74 : zfind zf 5 74 = some (1, 3, true, 2, 0) := by decide +kernel
theorem zF_1_22 : zfind zf 1 22 = some (1, 4, true, 2, 0) := by decide +kernel
theorem zF_5_80 : zfind zf 5 80 = some (1, 4, true, 2, 0) := by decide +kernel
theorem zF_1_28 : zfind zf 1 28 = some (1, 5, true, 2, 0) := by decide +kernel
theorem zF_5_83 : zfind zf 5 83 = some (1, 5, true, 2, 0) := by decide +kernel
theorem zF_1_42 : zfind zf 1 42 = some (1, 6, false, 0, 0) := by decide +kernel
theorem zF_5_111 : zfind zf 5 111 = some (1, 6, false, 0, 0) := by decide +kernel
theorem zF_1_49 : zfind zf 1 49 = some (1, 7, false, 0, 0) := by decide +kernel
theorem zF_5_104 : zfind zf 5 104 = some (1, 7, false, 0, 0) := by decide +kernel
theorem zF_0_21 : zfind zf 0 21 = some (0, 0, false, 0, 0) := by decide +kernel
theorem zF_5_136 : zfind zf 5 136 = some (0, 0, false, 0, 6) := by decide +kernel
theorem zF_0_30 : zfind zf 0 30 = some (0, 1, false, 0, 0) := by decide +kernel
theorem zF_0_35 : zfind zf 0 35 = some (0, 2, false, 0, 0) := by decide +kernel
theorem zF_0_37 : zfind zf 0 37 = some (0, 3, false, 0, 0) := by decide +kernel
theorem zF_0_9 : zfind zf 0 9 = some (0, 4, true, 2, 0) := by decide +kernel
theorem zF_0_15 : zfind zf 0 15 = some (0, 5, true, 2, 0) := by decide +kernel
theorem zF_0_18 : zfind zf 0 18 = some (0, 6, true, 2, 0) := by decide +kernel
theorem zF_2_9 : zfind zf 2 9 = some (2, 0, false, 0, 0) := by decide +kernel
theorem zF_2_15 : zfind zf 2 15 = some (2, 1, false, 0, 0) := by decide +kernel
theorem zF_2_18 : zfind zf 2 18 = some (2, 2, false, 0, 0) := by decide +kernel
theorem zF_2_21 : zfind zf 2 21 = some (2, 3, false, 0, 0) := by decide +kernel
theorem zF_3_15 : zfind zf 3 15 = some (3, 0, false, 0, 0) := by decide +kernel
theorem zF_5_151 : zfind zf 5 151 = some (3, 0, false, 0, 6) := by decide +kernel
theorem zF_3_9 : zfind zf 3 9 = some (3, 1, true, 2, 0) := by decide +kernel
theorem zF_5_10 : zfind zf 5 10 = some (5, 0, true, 2, 0) := by decide +kernel
theorem zF_5_19 : zfind zf 5 19 = some (5, 1, true, 2, 0) := by decide +kernel
theorem zF_5_26 : zfind zf 5 26 = some (5, 2, true, 2, 0) := by decide +kernel
theorem zF_5_33 : zfind zf 5 33 = some (5, 3, true, 2, 0) := by decide +kernel
theorem zF_5_37 : zfind zf 5 37 = some (5, 4, true, 2, 0) := by decide +kernel
theorem zF_5_40 : zfind zf 5 40 = some (5, 5, true, 2, 0) := by decide +kernel
theorem zF_5_187 : zfind zf 5 187 = some (5, 6, false, 1, 0) := by decide +kernel
theorem zF_5_191 : zfind zf 5 191 = some (5, 7, false, 1, 0) := by decide +kernel
theorem zF_6_7 : zfind zf 6 7 = some (6, 0, true, 2, 0) := by decide +kernel
theorem zF_6_13 : zfind zf 6 13 = some (6, 1, true, 2, 0) := by decide +kernel
theorem zF_6_16 : zfind zf 6 16 = some (6, 2, true, 2, 0) := by decide +kernel
theorem zF_6_20 : zfind zf 6 20 = some (6, 3, true, 2, 0) := by decide +kernel
theorem zF_6_135 : zfind zf 6 135 = some (6, 4, false, 0, 0) := by decide +kernel
theorem zF_6_23 : zfind zf 6 23 = some (6, 5, true, 2, 0) := by decide +kernel
theorem zF_6_26 : zfind zf 6 26 = some (6, 6, true, 2, 0) := by decide +kernel
theorem zF_6_29 : zfind zf 6 29 = some (6, 7, true, 2, 0) := by decide +kernel
theorem zF_6_32 : zfind zf 6 32 = some (6, 8, true, 2, 0) := by decide +kernel
theorem zF_6_95 : zfind zf 6 95 = some (6, 9, false, 0, 0) := by decide +kernel
theorem zF_6_35 : zfind zf 6 35 = some (6, 10, true, 2, 0) := by decide +kernel
theorem zF_6_114 : zfind zf 6 114 = some (6, 11, false, 0, 0) := by decide +kernel
theorem zK_10_9 : zfind zk 10 9 = some (0, 0) := by decide +kernel
theorem zK_5_9 : zfind zk 5 9 = some (2, 0) := by decide +kernel
theorem zK_1_27 : zfind zk 1 27 = some (3, 6) := by decide +kernel
theorem zK_1_32 : zfind zk 1 32 = some (4, 0) := by decide +kernel
theorem zK_1_39 : zfind zk 1 39 = some (5, 0) := by decide +kernel
theorem zK_1_45 : zfind zk 1 45 = some (6, 0) := by decide +kernel
theorem zK_5_18 : zfind zk 5 18 = some (7, 6) := by decide +kernel
theorem zK_5_25 : zfind zk 5 25 = some (8, 6) := by decide +kernel
theorem zK_5_32 : zfind zk 5 32 = some (9, 6) := by decide +kernel
theorem zK_5_43 : zfind zk 5 43 = some (10, 0) := by decide +kernel
theorem zK_0_31 : zfind zk 0 31 = some (11, 0) := by decide +kernel
theorem zK_0_40 : zfind zk 0 40 = some (12, 0) := by decide +kernel
theorem zK_0_44 : zfind zk 0 44 = some (13, 0) := by decide +kernel
theorem zK_0_48 : zfind zk 0 48 = some (14, 0) := by decide +kernel
theorem zK_10_13 : zfind zk 10 13 = some (19, 0) := by decide +kernel
theorem zK_5_52 : zfind zk 5 52 = some (4, 0) := by decide +kernel
theorem zK_5_56 : zfind zk 5 56 = some (20, 0) := by decide +kernel
theorem zK_5_239 : zfind zk 5 239 = some (5, 0) := by decide +kernel
theorem zK_10_18 : zfind zk 10 18 = some (23, 0) := by decide +kernel
theorem zK_10_22 : zfind zk 10 22 = some (26, 0) := by decide +kernel
theorem zK_5_62 : zfind zk 5 62 = some (27, 0) := by decide +kernel
theorem zK_5_67 : zfind zk 5 67 = some (28, 0) := by decide +kernel
theorem zK_10_27 : zfind zk 10 27 = some (31, 0) := by decide +kernel
theorem zK_10_31 : zfind zk 10 31 = some (33, 0) := by decide +kernel
theorem zK_5_77 : zfind zk 5 77 = some (34, 0) := by decide +kernel
theorem zK_10_35 : zfind zk 10 35 = some (36, 0) := by decide +kernel
theorem zK_5_87 : zfind zk 5 87 = some (37, 0) := by decide +kernel
theorem zK_4_21 : zfind zk 4 21 = some (38, 0) := by decide +kernel
theorem zK_4_25 : zfind zk 4 25 = some (39, 0) := by decide +kernel
theorem zK_4_33 : zfind zk 4 33 = some (40, 0) := by decide +kernel
theorem zK_5_96 : zfind zk 5 96 = some (41, 0) := by decide +kernel
theorem zK_10_40 : zfind zk 10 40 = some (44, 0) := by decide +kernel
theorem zK_10_44 : zfind zk 10 44 = some (46, 0) := by decide +kernel
theorem zK_5_107 : zfind zk 5 107 = some (47, 0) := by decide +kernel
theorem zK_5_114 : zfind zk 5 114 = some (48, 0) := by decide +kernel
theorem zK_10_48 : zfind zk 10 48 = some (50, 0) := by decide +kernel
theorem zK_5_119 : zfind zk 5 119 = some (51, 0) := by decide +kernel
theorem zK_5_242 : zfind zk 5 242 = some (52, 0) := by decide +kernel
theorem zK_5_245 : zfind zk 5 245 = some (53, 0) := by decide +kernel
theorem zK_2_24 : zfind zk 2 24 = some (54, 0) := by decide +kernel
theorem zK_5_122 : zfind zk 5 122 = some (55, 0) := by decide +kernel
theorem zK_10_53 : zfind zk 10 53 = some (59, 0) := by decide +kernel
theorem zK_5_126 : zfind zk 5 126 = some (60, 0) := by decide +kernel
theorem zK_10_58 : zfind zk 10 58 = some (64, 0) := by decide +kernel
theorem zK_5_129 : zfind zk 5 129 = some (65, 0) := by decide +kernel
theorem zK_10_62 : zfind zk 10 62 = some (68, 0) := by decide +kernel
theorem zK_5_132 : zfind zk 5 132 = some (69, 0) := by decide +kernel
theorem zK_2_37 : zfind zk 2 37 = some (60, 0) := by decide +kernel
theorem zK_2_41 : zfind zk 2 41 = some (70, 0) := by decide +kernel
theorem zK_2_45 : zfind zk 2 45 = some (71, 0) := by decide +kernel
theorem zK_10_66 : zfind zk 10 66 = some (75, 0) := by decide +kernel
theorem zK_10_70 : zfind zk 10 70 = some (77, 0) := by decide +kernel
theorem zK_10_74 : zfind zk 10 74 = some (83, 0) := by decide +kernel
theorem zK_5_137 : zfind zk 5 137 = some (84, 0) := by decide +kernel
theorem zK_5_140 : zfind zk 5 140 = some (85, 0) := by decide +kernel
theorem zK_10_78 : zfind zk 10 78 = some (89, 0) := by decide +kernel
theorem zK_5_143 : zfind zk 5 143 = some (90, 0) := by decide +kernel
theorem zK_0_52 : zfind zk 0 52 = some (85, 0) := by decide +kernel
theorem zK_0_56 : zfind zk 0 56 = some (91, 0) := by decide +kernel
theorem zK_5_146 : zfind zk 5 146 = some (92, 0) := by decide +kernel
theorem zK_0_61 : zfind zk 0 61 = some (94, 0) := by decide +kernel
theorem zK_0_68 : zfind zk 0 68 = some (48, 0) := by decide +kernel
theorem zK_0_71 : zfind zk 0 71 = some (95, 0) := by decide +kernel
theorem zK_0_75 : zfind zk 0 75 = some (96, 0) := by decide +kernel
theorem zK_0_78 : zfind zk 0 78 = some (97, 0) := by decide +kernel
theorem zK_0_65 : zfind zk 0 65 = some (93, 0) := by decide +kernel
theorem zK_10_82 : zfind zk 10 82 = some (104, 0) := by decide +kernel
theorem zK_10_86 : zfind zk 10 86 = some (107, 0) := by decide +kernel
theorem zK_10_90 : zfind zk 10 90 = some (109, 0) := by decide +kernel
theorem zK_5_149 : zfind zk 5 149 = some (110, 0) := by decide +kernel
theorem zK_10_94 : zfind zk 10 94 = some (112, 0) := by decide +kernel
theorem zK_10_98 : zfind zk 10 98 = some (114, 0) := by decide +kernel
theorem zK_5_154 : zfind zk 5 154 = some (115, 0) := by decide +kernel
theorem zK_10_102 : zfind zk 10 102 = some (118, 0) := by decide +kernel
theorem zK_5_158 : zfind zk 5 158 = some (119, 0) := by decide +kernel
theorem zK_5_248 : zfind zk 5 248 = some (120, 0) := by decide +kernel
theorem zK_10_106 : zfind zk 10 106 = some (122, 0) := by decide +kernel
theorem zK_5_161 : zfind zk 5 161 = some (123, 0) := by decide +kernel
theorem zK_10_111 : zfind zk 10 111 = some (126, 0) := by decide +kernel
theorem zK_5_166 : zfind zk 5 166 = some (127, 0) := by decide +kernel
theorem zK_0_81 : zfind zk 0 81 = some (128, 0) := by decide +kernel
theorem zK_0_84 : zfind zk 0 84 = some (129, 0) := by decide +kernel
theorem zK_10_115 : zfind zk 10 115 = some (132, 0) := by decide +kernel
theorem zK_5_169 : zfind zk 5 169 = some (133, 0) := by decide +kernel
theorem zK_5_172 : zfind zk 5 172 = some (11, 0) := by decide +kernel
theorem zK_5_176 : zfind zk 5 176 = some (95, 0) := by decide +kernel
theorem zK_10_119 : zfind zk 10 119 = some (137, 0) := by decide +kernel
theorem zK_5_180 : zfind zk 5 180 = some (94, 0) := by decide +kernel
theorem zK_10_123 : zfind zk 10 123 = some (139, 0) := by decide +kernel
theorem zK_10_127 : zfind zk 10 127 = some (142, 0) := by decide +kernel
theorem zK_5_184 : zfind zk 5 184 = some (143, 0) := by decide +kernel
theorem zK_1_58 : zfind zk 1 58 = some (144, 0) := by decide +kernel
theorem zK_10_131 : zfind zk 10 131 = some (146, 0) := by decide +kernel
theorem zK_10_135 : zfind zk 10 135 = some (148, 0) := by decide +kernel
theorem zK_5_196 : zfind zk 5 196 = some (149, 0) := by decide +kernel
theorem zK_5_200 : zfind zk 5 200 = some (46, 0) := by decide +kernel
theorem zK_5_203 : zfind zk 5 203 = some (44, 0) := by decide +kernel
theorem zK_5_206 : zfind zk 5 206 = some (150, 0) := by decide +kernel
theorem zK_5_219 : zfind zk 5 219 = some (59, 0) := by decide +kernel
theorem zK_5_222 : zfind zk 5 222 = some (64, 0) := by decide +kernel
theorem zK_5_225 : zfind zk 5 225 = some (68, 0) := by decide +kernel
theorem zK_5_210 : zfind zk 5 210 = some (77, 0) := by decide +kernel
theorem zK_5_213 : zfind zk 5 213 = some (104, 0) := by decide +kernel
theorem zK_5_216 : zfind zk 5 216 = some (151, 0) := by decide +kernel
theorem zK_5_228 : zfind zk 5 228 = some (126, 0) := by decide +kernel
theorem zK_5_231 : zfind zk 5 231 = some (139, 0) := by decide +kernel
theorem zK_5_234 : zfind zk 5 234 = some (137, 0) := by decide +kernel
theorem zK_10_12 : zfind zk 10 12 = some (15, 0) := by decide +kernel
theorem zK_6_38 : zfind zk 6 38 = some (16, 0) := by decide +kernel
theorem zK_6_42 : zfind zk 6 42 = some (17, 0) := by decide +kernel
theorem zK_6_46 : zfind zk 6 46 = some (18, 0) := by decide +kernel
theorem zK_10_17 : zfind zk 10 17 = some (21, 0) := by decide +kernel
theorem zK_6_50 : zfind zk 6 50 = some (22, 0) := by decide +kernel
theorem zK_10_21 : zfind zk 10 21 = some (24, 0) := by decide +kernel
theorem zK_6_55 : zfind zk 6 55 = some (25, 0) := by decide +kernel
theorem zK_10_26 : zfind zk 10 26 = some (29, 0) := by decide +kernel
theorem zK_6_58 : zfind zk 6 58 = some (30, 0) := by decide +kernel
theorem zK_10_30 : zfind zk 10 30 = some (32, 0) := by decide +kernel
theorem zK_10_34 : zfind zk 10 34 = some (35, 0) := by decide +kernel
theorem zK_10_39 : zfind zk 10 39 = some (42, 0) := by decide +kernel
theorem zK_6_63 : zfind zk 6 63 = some (43, 0) := by decide +kernel
theorem zK_10_43 : zfind zk 10 43 = some (45, 0) := by decide +kernel
theorem zK_10_47 : zfind zk 10 47 = some (49, 0) := by decide +kernel
theorem zK_10_52 : zfind zk 10 52 = some (56, 0) := by decide +kernel
theorem zK_6_71 : zfind zk 6 71 = some (57, 0) := by decide +kernel
theorem zK_6_67 : zfind zk 6 67 = some (58, 0) := by decide +kernel
theorem zK_10_57 : zfind zk 10 57 = some (61, 0) := by decide +kernel
theorem zK_6_78 : zfind zk 6 78 = some (62, 0) := by decide +kernel
theorem zK_6_74 : zfind zk 6 74 = some (63, 0) := by decide +kernel
theorem zK_10_61 : zfind zk 10 61 = some (66, 0) := by decide +kernel
theorem zK_6_82 : zfind zk 6 82 = some (67, 0) := by decide +kernel
theorem zK_10_65 : zfind zk 10 65 = some (72, 0) := by decide +kernel
theorem zK_6_89 : zfind zk 6 89 = some (73, 0) := by decide +kernel
theorem zK_6_85 : zfind zk 6 85 = some (74, 0) := by decide +kernel
theorem zK_10_69 : zfind zk 10 69 = some (76, 0) := by decide +kernel
theorem zK_10_73 : zfind zk 10 73 = some (78, 0) := by decide +kernel
theorem zK_6_105 : zfind zk 6 105 = some (79, 0) := by decide +kernel
theorem zK_6_99 : zfind zk 6 99 = some (80, 0) := by decide +kernel
theorem zK_6_102 : zfind zk 6 102 = some (81, 0) := by decide +kernel
theorem zK_6_92 : zfind zk 6 92 = some (82, 0) := by decide +kernel
theorem zK_10_77 : zfind zk 10 77 = some (86, 0) := by decide +kernel
theorem zK_6_108 : zfind zk 6 108 = some (87, 0) := by decide +kernel
theorem zK_6_111 : zfind zk 6 111 = some (88, 0) := by decide +kernel
theorem zK_10_81 : zfind zk 10 81 = some (98, 0) := by decide +kernel
theorem zK_6_126 : zfind zk 6 126 = some (99, 0) := by decide +kernel
theorem zK_6_129 : zfind zk 6 129 = some (100, 0) := by decide +kernel
theorem zK_6_120 : zfind zk 6 120 = some (101, 0) := by decide +kernel
theorem zK_6_123 : zfind zk 6 123 = some (102, 0) := by decide +kernel
theorem zK_6_117 : zfind zk 6 117 = some (103, 0) := by decide +kernel
theorem zK_10_85 : zfind zk 10 85 = some (105, 0) := by decide +kernel
theorem zK_6_132 : zfind zk 6 132 = some (106, 0) := by decide +kernel
theorem zK_10_89 : zfind zk 10 89 = some (108, 0) := by decide +kernel
theorem zK_10_93 : zfind zk 10 93 = some (111, 0) := by decide +kernel
theorem zK_10_97 : zfind zk 10 97 = some (113, 0) := by decide +kernel
theorem zK_10_101 : zfind zk 10 101 = some (116, 0) := by decide +kernel
theorem zK_6_138 : zfind zk 6 138 = some (117, 0) := by decide +kernel
theorem zK_10_105 : zfind zk 10 105 = some (121, 0) := by decide +kernel
theorem zK_10_110 : zfind zk 10 110 = some (124, 0) := by decide +kernel
theorem zK_6_142 : zfind zk 6 142 = some (125, 0) := by decide +kernel
theorem zK_10_114 : zfind zk 10 114 = some (130, 0) := by decide +kernel
theorem zK_6_145 : zfind zk 6 145 = some (131, 0) := by decide +kernel
theorem zK_10_118 : zfind zk 10 118 = some (134, 0) := by decide +kernel
theorem zK_6_148 : zfind zk 6 148 = some (135, 0) := by decide +kernel
theorem zK_6_151 : zfind zk 6 151 = some (136, 0) := by decide +kernel
theorem zK_10_122 : zfind zk 10 122 = some (138, 0) := by decide +kernel
theorem zK_10_126 : zfind zk 10 126 = some (140, 0) := by decide +kernel
theorem zK_6_154 : zfind zk 6 154 = some (141, 0) := by decide +kernel
theorem zK_10_130 : zfind zk 10 130 = some (145, 0) := by decide +kernel
theorem zK_10_134 : zfind zk 10 134 = some (147, 0) := by decide +kernel
theorem zK_10_139 : zfind zk 10 139 = some (152, 0) := by decide +kernel
theorem zK_6_161 : zfind zk 6 161 = some (153, 0) := by decide +kernel
theorem zO_5_1 : zfind zo 5 1 = some () := by decide +kernel
theorem zO_1_3 : zfind zo 1 3 = some () := by decide +kernel
theorem zO_4_3 : zfind zo 4 3 = some () := by decide +kernel
theorem zO_0_3 : zfind zo 0 3 = some () := by decide +kernel
theorem zO_2_3 : zfind zo 2 3 = some () := by decide +kernel
theorem zO_3_3 : zfind zo 3 3 = some () := by decide +kernel
theorem zO_6_1 : zfind zo 6 1 = some () := by decide +kernel
theorem zY_1_52 : zfind zy 1 52 = some () := by decide +kernel
theorem zY_4_37 : zfind zy 4 37 = some () := by decide +kernel
theorem zN_10_7 : zfind zn 10 7 = some 5 := by decide +kernel
theorem zN_10_10 : zfind zn 10 10 = some 6 := by decide +kernel
theorem zN_5_7 : zfind zn 5 7 = some 1 := by decide +kernel
theorem zN_5_16 : zfind zn 5 16 = some 0 := by decide +kernel
theorem zN_5_23 : zfind zn 5 23 = some 2 := by decide +kernel
theorem zN_5_30 : zfind zn 5 30 = some 3 := by decide +kernel
theorem zN_1_25 : zfind zn 1 25 = some 4 := by decide +kernel
theorem zC_6_49 : zfind zc 6 49 = some (-1000005) := by decide +kernel
theorem zC_5_47 : zfind zc 5 47 = some (-1000002) := by decide +kernel
theorem zC_6_54 : zfind zc 6 54 = some (-1000002) := by decide +kernel
theorem zC_5_66 : zfind zc 5 66 = some (-1000001) := by decide +kernel
theorem zC_6_62 : zfind zc 6 62 = some (-1000001) := by decide +kernel
theorem zC_5_100 : zfind zc 5 100 = some (-1000004) := by decide +kernel
theorem zC_6_66 : zfind zc 6 66 = some (-1000004) := by decide +kernel
theorem zC_5_118 : zfind zc 5 118 = some (-1000005) := by decide +kernel
theorem zC_2_44 : zfind zc 2 44 = some (-1000005) := by decide +kernel
theorem zC_3_19 : zfind zc 3 19 = some (-1000005) := by decide +kernel
theorem zC_5_157 : zfind zc 5 157 = some (-1000003) := by decide +kernel
theorem zC_6_141 : zfind zc 6 141 = some (-1000003) := by decide +kernel
theorem zC_7_265 : zfind zc 7 265 = some (1431655765) := by decide +kernel
theorem zC_7_266 : zfind zc 7 266 = some (858993459) := by decide +kernel
theorem zC_7_267 : zfind zc 7 267 = some (252645135) := by decide +kernel
theorem zJ_5_194 : zfind zj 5 194 = some (137) := by decide +kernel
theorem zJ_5_237 : zfind zj 5 237 = some (31) := by decide +kernel
theorem zJ_6_159 : zfind zj 6 159 = some (137) := by decide +kernel
theorem zJ_6_157 : zfind zj 6 157 = some (31) := by decide +kernel
theorem zS_2_30 : zfind zs 2 30 = some (0, 6) := by decide +kernel
theorem zS_2_34 : zfind zs 2 34 = some (1, 6) := by decide +kernel
theorem zO_10_9 : zfind zo 10 9 = none := by decide +kernel
theorem zO_5_9 : zfind zo 5 9 = none := by decide +kernel
theorem zO_1_27 : zfind zo 1 27 = none := by decide +kernel
theorem zO_5_18 : zfind zo 5 18 = none := by decide +kernel
theorem zO_5_25 : zfind zo 5 25 = none := by decide +kernel
theorem zO_5_32 : zfind zo 5 32 = none := by decide +kernel
theorem zY_0_40 : zfind zy 0 40 = none := by decide +kernel
theorem zY_5_67 : zfind zy 5 67 = none := by decide +kernel
theorem zY_5_77 : zfind zy 5 77 = none := by decide +kernel
theorem zY_2_24 : zfind zy 2 24 = none := by decide +kernel
theorem zY_2_45 : zfind zy 2 45 = none := by decide +kernel
theorem zY_0_56 : zfind zy 0 56 = none := by decide +kernel
theorem zY_0_65 : zfind zy 0 65 = none := by decide +kernel
theorem zY_5_161 : zfind zy 5 161 = none := by decide +kernel
theorem zY_0_84 : zfind zy 0 84 = none := by decide +kernel
theorem zY_5_196 : zfind zy 5 196 = none := by decide +kernel
theorem zO_10_12 : zfind zo 10 12 = none := by decide +kernel
theorem zY_6_42 : zfind zy 6 42 = none := by decide +kernel
theorem zY_6_50 : zfind zy 6 50 = none := by decide +kernel
theorem zY_6_161 : zfind zy 6 161 = none := by decide +kernel
theorem zM_0 : zmg 0 = (5, yX5_init, cX5_init, 1, none, 0, 2) := rfl
theorem zM_1 : zmg 1 = (99, objectInit, ⟨#[0xb1]⟩, 1, none, 0, 2) := rfl
theorem zM_2 : zmg 2 = (1, yX1_init, cX1_init, 1, none, 0, 2) := rfl
theorem zM_3 : zmg 3 = (4, yX4_init, cX4_init, 1, none, 0, 2) := rfl
theorem zM_4 : zmg 4 = (1, yX1_begin, cX1_begin, 3, none, 1, 0) := rfl
theorem zM_5 : zmg 5 = (1, yX1_dropChoice, cX1_dropChoice, 1, none, 0, 0) := rfl
theorem zM_6 : zmg 6 = (1, yX1_all, cX1_all, 1, (some .int), 0, 0) := rfl
theorem zM_7 : zmg 7 = (0, yX0_init, cX0_init, 1, none, 0, 2) := rfl
theorem zM_8 : zmg 8 = (2, yX2_init, cX2_init, 1, none, 0, 2) := rfl
theorem zM_9 : zmg 9 = (3, yX3_init, cX3_init, 1, none, 0, 2) := rfl
theorem zM_10 : zmg 10 = (0, yX0_layOut, cX0_layOut, 2, none, 1, 0) := rfl
theorem zM_11 : zmg 11 = (1, yX1_slots, cX1_slots, 1, (some .int), 0, 0) := rfl
theorem zM_12 : zmg 12 = (0, yX0_extend, cX0_extend, 6, none, 4, 1) := rfl
theorem zM_13 : zmg 13 = (0, yX0_enter, cX0_enter, 5, none, 1, 0) := rfl
theorem zM_14 : zmg 14 = (1, yX1_lowSlot, cX1_lowSlot, 2, (some .int), 1, 0) := rfl
theorem zM_15 : zmg 15 = (6, yX6_init, cX6_init, 1, none, 0, 2) := rfl
theorem zM_16 : zmg 16 = (6, yX6_lays, cX6_lays, 3, none, 1, 0) := rfl
theorem zM_17 : zmg 17 = (6, yX6_at, cX6_at, 2, (some .int), 2, 1) := rfl
theorem zM_18 : zmg 18 = (6, yX6_chooses, cX6_chooses, 3, none, 1, 0) := rfl
theorem zM_19 : zmg 19 = (5, yX5_setCylinders, cX5_setCylinders, 3, (some .int), 1, 0) := rfl
theorem zM_20 : zmg 20 = (5, yX5_firingsChanged, cX5_firingsChanged, 1, none, 0, 0) := rfl
theorem zM_21 : zmg 21 = (6, yX6_setCylinders, cX6_setCylinders, 3, (some .int), 1, 0) := rfl
theorem zM_22 : zmg 22 = (6, yX6_in, cX6_in, 3, (some .boolean), 3, 1) := rfl
theorem zM_23 : zmg 23 = (5, yX5_setStrokes, cX5_setStrokes, 3, (some .int), 1, 0) := rfl
theorem zM_24 : zmg 24 = (6, yX6_setStrokes, cX6_setStrokes, 2, (some .int), 1, 0) := rfl
theorem zM_25 : zmg 25 = (6, yX6_puts, cX6_puts, 4, (some .int), 2, 0) := rfl
theorem zM_26 : zmg 26 = (5, yX5_setThrow, cX5_setThrow, 4, (some .int), 2, 0) := rfl
theorem zM_27 : zmg 27 = (5, yX5_isNoCylinder, cX5_isNoCylinder, 2, (some .boolean), 1, 0) := rfl
theorem zM_28 : zmg 28 = (5, yX5_isNoTurn, cX5_isNoTurn, 1, (some .boolean), 1, 1) := rfl
theorem zM_29 : zmg 29 = (6, yX6_setThrow, cX6_setThrow, 3, (some .int), 2, 0) := rfl
theorem zM_30 : zmg 30 = (6, yX6_isCylinder, cX6_isCylinder, 2, (some .boolean), 1, 0) := rfl
theorem zM_31 : zmg 31 = (5, yX5_setMass, cX5_setMass, 4, (some .int), 2, 0) := rfl
theorem zM_32 : zmg 32 = (6, yX6_setMass, cX6_setMass, 3, (some .int), 2, 0) := rfl
theorem zM_33 : zmg 33 = (5, yX5_setPlace, cX5_setPlace, 4, (some .int), 2, 0) := rfl
theorem zM_34 : zmg 34 = (5, yX5_isNoPlace, cX5_isNoPlace, 1, (some .boolean), 1, 1) := rfl
theorem zM_35 : zmg 35 = (6, yX6_setPlace, cX6_setPlace, 3, (some .int), 2, 0) := rfl
theorem zM_36 : zmg 36 = (5, yX5_setWeight, cX5_setWeight, 5, (some .int), 3, 0) := rfl
theorem zM_37 : zmg 37 = (4, yX4_remove, cX4_remove, 5, none, 2, 0) := rfl
theorem zM_38 : zmg 38 = (4, yX4_rankOf, cX4_rankOf, 5, (some .int), 2, 0) := rfl
theorem zM_39 : zmg 39 = (4, yX4_standsAt, cX4_standsAt, 4, (some .boolean), 3, 0) := rfl
theorem zM_40 : zmg 40 = (4, yX4_copyWithin, cX4_copyWithin, 3, none, 2, 0) := rfl
theorem zM_41 : zmg 41 = (4, yX4_put, cX4_put, 6, (some .boolean), 3, 0) := rfl
theorem zM_42 : zmg 42 = (6, yX6_setWeight, cX6_setWeight, 7, (some .int), 3, 0) := rfl
theorem zM_43 : zmg 43 = (6, yX6_weightAt, cX6_weightAt, 4, (some .int), 2, 0) := rfl
theorem zM_44 : zmg 44 = (5, yX5_weight, cX5_weight, 4, (some .int), 2, 0) := rfl
theorem zM_45 : zmg 45 = (6, yX6_weight, cX6_weight, 3, (some .int), 2, 0) := rfl
theorem zM_46 : zmg 46 = (5, yX5_cylinder, cX5_cylinder, 3, (some .int), 2, 0) := rfl
theorem zM_47 : zmg 47 = (5, yX5_isChosen, cX5_isChosen, 1, (some .boolean), 0, 0) := rfl
theorem zM_48 : zmg 48 = (0, yX0_slotOf, cX0_slotOf, 3, (some .int), 2, 0) := rfl
theorem zM_49 : zmg 49 = (6, yX6_cylinder, cX6_cylinder, 3, (some .int), 2, 0) := rfl
theorem zM_50 : zmg 50 = (5, yX5_vector, cX5_vector, 4, (some .int), 3, 0) := rfl
theorem zM_51 : zmg 51 = (5, yX5_addUp, cX5_addUp, 7, none, 1, 0) := rfl
theorem zM_52 : zmg 52 = (2, yX2_clear, cX2_clear, 1, none, 0, 0) := rfl
theorem zM_53 : zmg 53 = (2, yX2_add, cX2_add, 5, none, 2, 0) := rfl
theorem zM_54 : zmg 54 = (8, yJ9_floorMod_7cf53, cJ9_floorMod_7cf53, 3, (some .int), 2, 1) := rfl
theorem zM_55 : zmg 55 = (2, yX2_part, cX2_part, 3, (some .int), 2, 0) := rfl
theorem zM_56 : zmg 56 = (6, yX6_vector, cX6_vector, 4, (some .int), 3, 0) := rfl
theorem zM_57 : zmg 57 = (6, yX6_sums, cX6_sums, 4, none, 1, 0) := rfl
theorem zM_58 : zmg 58 = (6, yX6_adds, cX6_adds, 4, none, 2, 0) := rfl
theorem zM_59 : zmg 59 = (5, yX5_balanced, cX5_balanced, 3, (some .int), 0, 0) := rfl
theorem zM_60 : zmg 60 = (2, yX2_isZero, cX2_isZero, 1, (some .boolean), 0, 0) := rfl
theorem zM_61 : zmg 61 = (6, yX6_balanced, cX6_balanced, 1, (some .int), 0, 0) := rfl
theorem zM_62 : zmg 62 = (6, yX6_balancedNow, cX6_balancedNow, 3, (some .int), 0, 0) := rfl
theorem zM_63 : zmg 63 = (6, yX6_isNothing, cX6_isNothing, 1, (some .boolean), 0, 0) := rfl
theorem zM_64 : zmg 64 = (5, yX5_isMirrored, cX5_isMirrored, 1, (some .int), 0, 0) := rfl
theorem zM_65 : zmg 65 = (1, yX1_looksTheSameFromBehind, cX1_looksTheSameFromBehind, 3, (some .boolean), 0, 0) := rfl
theorem zM_66 : zmg 66 = (6, yX6_isMirrored, cX6_isMirrored, 1, (some .int), 0, 0) := rfl
theorem zM_67 : zmg 67 = (6, yX6_mirrored, cX6_mirrored, 4, (some .int), 0, 0) := rfl
theorem zM_68 : zmg 68 = (5, yX5_counterWeight, cX5_counterWeight, 1, (some .int), 0, 0) := rfl
theorem zM_69 : zmg 69 = (2, yX2_counter, cX2_counter, 4, (some .int), 1, 0) := rfl
theorem zM_70 : zmg 70 = (2, yX2_massAgainst, cX2_massAgainst, 8, (some .int), 2, 0) := rfl
theorem zM_71 : zmg 71 = (2, yX2_quotient, cX2_quotient, 2, (some .int), 2, 1) := rfl
theorem zM_72 : zmg 72 = (6, yX6_counterWeight, cX6_counterWeight, 1, (some .int), 0, 0) := rfl
theorem zM_73 : zmg 73 = (6, yX6_counterNow, cX6_counterNow, 1, (some .int), 0, 0) := rfl
theorem zM_74 : zmg 74 = (6, yX6_counter, cX6_counter, 5, (some .int), 1, 0) := rfl
theorem zM_75 : zmg 75 = (5, yX5_counterPair, cX5_counterPair, 3, (some .int), 2, 0) := rfl
theorem zM_76 : zmg 76 = (6, yX6_counterPair, cX6_counterPair, 3, (some .int), 2, 0) := rfl
theorem zM_77 : zmg 77 = (5, yX5_orders, cX5_orders, 1, (some .int), 0, 0) := rfl
theorem zM_78 : zmg 78 = (6, yX6_orders, cX6_orders, 1, (some .int), 0, 0) := rfl
theorem zM_79 : zmg 79 = (6, yX6_findOrders, cX6_findOrders, 5, none, 0, 0) := rfl
theorem zM_80 : zmg 80 = (6, yX6_laysSlots, cX6_laysSlots, 3, none, 1, 0) := rfl
theorem zM_81 : zmg 81 = (6, yX6_orderOfSlots, cX6_orderOfSlots, 7, (some .int), 0, 0) := rfl
theorem zM_82 : zmg 82 = (6, yX6_cycle, cX6_cycle, 1, (some .int), 0, 0) := rfl
theorem zM_83 : zmg 83 = (5, yX5_order, cX5_order, 3, (some .int), 2, 0) := rfl
theorem zM_84 : zmg 84 = (5, yX5_isNoOrder, cX5_isNoOrder, 2, (some .boolean), 1, 0) := rfl
theorem zM_85 : zmg 85 = (0, yX0_cylinderAt, cX0_cylinderAt, 3, (some .int), 2, 0) := rfl
theorem zM_86 : zmg 86 = (6, yX6_order, cX6_order, 3, (some .int), 2, 0) := rfl
theorem zM_87 : zmg 87 = (6, yX6_isOrder, cX6_isOrder, 2, (some .boolean), 1, 0) := rfl
theorem zM_88 : zmg 88 = (6, yX6_cylinderAt, cX6_cylinderAt, 3, (some .int), 2, 0) := rfl
theorem zM_89 : zmg 89 = (5, yX5_orderCost, cX5_orderCost, 3, (some .int), 2, 0) := rfl
theorem zM_90 : zmg 90 = (0, yX0_penalty, cX0_penalty, 6, (some .int), 1, 0) := rfl
theorem zM_91 : zmg 91 = (8, Lib.Math.abs.name, Lib.Math.abs.code, 1, (some .int), 1, 1) := rfl
theorem zM_92 : zmg 92 = (0, yX0_greatestLoad, cX0_greatestLoad, 4, (some .int), 1, 0) := rfl
theorem zM_93 : zmg 93 = (8, Lib.Math.max.name, Lib.Math.max.code, 2, (some .int), 2, 1) := rfl
theorem zM_94 : zmg 94 = (0, yX0_peakOf, cX0_peakOf, 7, (some .int), 3, 0) := rfl
theorem zM_95 : zmg 95 = (0, yX0_loadOf, cX0_loadOf, 5, (some .int), 4, 0) := rfl
theorem zM_96 : zmg 96 = (0, yX0_shareOf, cX0_shareOf, 6, (some .int), 4, 0) := rfl
theorem zM_97 : zmg 97 = (0, yX0_slotsFrom, cX0_slotsFrom, 3, (some .int), 2, 0) := rfl
theorem zM_98 : zmg 98 = (6, yX6_orderCost, cX6_orderCost, 3, (some .int), 2, 0) := rfl
theorem zM_99 : zmg 99 = (6, yX6_penalty, cX6_penalty, 5, (some .int), 1, 0) := rfl
theorem zM_100 : zmg 100 = (6, yX6_peakOfAll, cX6_peakOfAll, 5, (some .int), 1, 0) := rfl
theorem zM_101 : zmg 101 = (6, yX6_laysOrder, cX6_laysOrder, 4, none, 1, 0) := rfl
theorem zM_102 : zmg 102 = (6, yX6_peakOf, cX6_peakOf, 5, (some .int), 1, 0) := rfl
theorem zM_103 : zmg 103 = (6, yX6_loadIn, cX6_loadIn, 6, (some .int), 2, 0) := rfl
theorem zM_104 : zmg 104 = (5, yX5_bestOrder, cX5_bestOrder, 5, (some .int), 0, 0) := rfl
theorem zM_105 : zmg 105 = (6, yX6_bestOrder, cX6_bestOrder, 1, (some .int), 0, 0) := rfl
theorem zM_106 : zmg 106 = (6, yX6_best, cX6_best, 5, (some .int), 0, 0) := rfl
theorem zM_107 : zmg 107 = (5, yX5_choose, cX5_choose, 2, (some .int), 1, 0) := rfl
theorem zM_108 : zmg 108 = (6, yX6_choose, cX6_choose, 3, (some .int), 1, 0) := rfl
theorem zM_109 : zmg 109 = (5, yX5_append, cX5_append, 2, (some .int), 1, 0) := rfl
theorem zM_110 : zmg 110 = (3, yX3_put, cX3_put, 2, (some .boolean), 1, 0) := rfl
theorem zM_111 : zmg 111 = (6, yX6_append, cX6_append, 2, (some .int), 1, 0) := rfl
theorem zM_112 : zmg 112 = (5, yX5_clearText, cX5_clearText, 2, (some .int), 0, 0) := rfl
theorem zM_113 : zmg 113 = (6, yX6_clearText, cX6_clearText, 2, (some .int), 0, 0) := rfl
theorem zM_114 : zmg 114 = (5, yX5_faultPosition, cX5_faultPosition, 1, (some .int), 0, 0) := rfl
theorem zM_115 : zmg 115 = (3, yX3_faultFor, cX3_faultFor, 6, (some .int), 1, 0) := rfl
theorem zM_116 : zmg 116 = (6, yX6_faultPosition, cX6_faultPosition, 2, (some .int), 0, 0) := rfl
theorem zM_117 : zmg 117 = (6, yX6_fault, cX6_fault, 4, (some .int), 0, 0) := rfl
theorem zM_118 : zmg 118 = (5, yX5_find, cX5_find, 2, (some .int), 0, 0) := rfl
theorem zM_119 : zmg 119 = (5, yX5_textTells, cX5_textTells, 6, (some .boolean), 1, 0) := rfl
theorem zM_120 : zmg 120 = (3, yX3_cylinderAt, cX3_cylinderAt, 2, (some .int), 1, 0) := rfl
theorem zM_121 : zmg 121 = (6, yX6_find, cX6_find, 4, (some .int), 0, 0) := rfl
theorem zM_122 : zmg 122 = (5, yX5_turn, cX5_turn, 3, (some .int), 2, 0) := rfl
theorem zM_123 : zmg 123 = (7, yJ6_bitCount_0f7a4, cJ6_bitCount_0f7a4, 1, (some .int), 1, 1) := rfl
theorem zM_124 : zmg 124 = (6, yX6_turn, cX6_turn, 3, (some .int), 2, 0) := rfl
theorem zM_125 : zmg 125 = (6, yX6_onMany, cX6_onMany, 3, (some .int), 0, 0) := rfl
theorem zM_126 : zmg 126 = (5, yX5_longestGap, cX5_longestGap, 1, (some .int), 0, 0) := rfl
theorem zM_127 : zmg 127 = (0, yX0_gap, cX0_gap, 5, (some .int), 2, 0) := rfl
theorem zM_128 : zmg 128 = (0, yX0_gapBehind, cX0_gapBehind, 6, (some .int), 3, 0) := rfl
theorem zM_129 : zmg 129 = (8, Lib.Math.min.name, Lib.Math.min.code, 2, (some .int), 2, 1) := rfl
theorem zM_130 : zmg 130 = (6, yX6_longestGap, cX6_longestGap, 1, (some .int), 0, 0) := rfl
theorem zM_131 : zmg 131 = (6, yX6_gapBut, cX6_gapBut, 7, (some .int), 1, 0) := rfl
theorem zM_132 : zmg 132 = (5, yX5_load, cX5_load, 3, (some .int), 2, 0) := rfl
theorem zM_133 : zmg 133 = (5, yX5_isNoBearing, cX5_isNoBearing, 2, (some .boolean), 1, 0) := rfl
theorem zM_134 : zmg 134 = (6, yX6_load, cX6_load, 3, (some .int), 2, 0) := rfl
theorem zM_135 : zmg 135 = (6, yX6_isBearing, cX6_isBearing, 2, (some .boolean), 1, 0) := rfl
theorem zM_136 : zmg 136 = (6, yX6_laysChosen, cX6_laysChosen, 2, none, 0, 0) := rfl
theorem zM_137 : zmg 137 = (5, yX5_peak, cX5_peak, 2, (some .int), 1, 0) := rfl
theorem zM_138 : zmg 138 = (6, yX6_peak, cX6_peak, 2, (some .int), 1, 0) := rfl
theorem zM_139 : zmg 139 = (5, yX5_bestOff, cX5_bestOff, 5, (some .int), 0, 0) := rfl
theorem zM_140 : zmg 140 = (6, yX6_bestOff, cX6_bestOff, 1, (some .int), 0, 0) := rfl
theorem zM_141 : zmg 141 = (6, yX6_bestOffNow, cX6_bestOffNow, 5, (some .int), 0, 0) := rfl
theorem zM_142 : zmg 142 = (5, yX5_save, cX5_save, 2, (some .int), 1, 0) := rfl
theorem zM_143 : zmg 143 = (1, yX1_takeOver, cX1_takeOver, 2, none, 1, 0) := rfl
theorem zM_144 : zmg 144 = (4, yX4_takeOver, cX4_takeOver, 2, none, 1, 0) := rfl
theorem zM_145 : zmg 145 = (6, yX6_save, cX6_save, 3, (some .int), 1, 0) := rfl
theorem zM_146 : zmg 146 = (5, yX5_restore, cX5_restore, 2, (some .int), 1, 0) := rfl
theorem zM_147 : zmg 147 = (6, yX6_restore, cX6_restore, 3, (some .int), 1, 0) := rfl
theorem zM_148 : zmg 148 = (5, yX5_checksum, cX5_checksum, 5, (some .long), 0, 0) := rfl
theorem zM_149 : zmg 149 = (5, yX5_mix, cX5_mix, 4, (some .long), 2, 1) := rfl
theorem zM_150 : zmg 150 = (5, yX5_mixBalance, cX5_mixBalance, 6, (some .long), 1, 0) := rfl
theorem zM_151 : zmg 151 = (5, yX5_mixChosen, cX5_mixChosen, 6, (some .long), 1, 0) := rfl
theorem zM_152 : zmg 152 = (6, yX6_checksum, cX6_checksum, 5, (some .long), 0, 0) := rfl
theorem zM_153 : zmg 153 = (6, yX6_more, cX6_more, 3, (some .long), 2, 1) := rfl
