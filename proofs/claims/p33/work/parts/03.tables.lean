/-! ===== the link tables of the program, as lists; made by wip/gen/gen02.py ===== -/
/-- the words that every method of ours may use -/
def zBW : List Cond := lw_tbl.filter goodWord
theorem zBW_good : GoodIn zBW zBW := fun w h => ⟨h, good_of_word (List.mem_filter.mp h).2⟩
theorem zBW_in : ∀ w ∈ zBW, w ∈ lw_tbl := fun w h => (List.mem_filter.mp h).1
theorem zmem {α : Type} {l : List α} {f : α → Cond} {is : List Nat} (h : l.map f = is.filterMap (fun i => lw_tbl[i]?)) (hg : l.all (fun q => goodWord (f q)) = true) : ∀ q ∈ l, f q ∈ zBW := by
  intro q hq
  have h1 : f q ∈ l.map f := List.mem_map.mpr ⟨q, hq, rfl⟩
  rw [h] at h1
  obtain ⟨i, -, hi⟩ := List.mem_filterMap.mp h1
  exact List.mem_filter.mpr ⟨List.mem_of_getElem? hi, List.all_eq_true.mp hg q hq⟩
def zcn : Nat → String
  | 0 => RX0
  | 1 => RX1
  | 2 => RX2
  | 3 => RX3
  | 4 => RX4
  | 5 => RX5
  | 6 => RX6
  | 7 => RJ6
  | 8 => RJ9
  | 9 => RJ10
  | _ => RL
/-- fields: own class, pool entry, class, place, final, type (0 int, 1 boolean, 2 a reference), nest (0: none; 1 + the host) -/
def zf : List (Nat × Nat × Nat × Nat × Bool × Nat × Nat) := [(4, 29, 4, 0, false, 0, 0), (5, 93, 4, 0, false, 0, 0), (4, 9, 4, 1, true, 2, 0), (5, 101, 4, 1, true, 2, 0), (4, 15, 4, 2, true, 2, 0), (5, 102, 4, 2, true, 2, 0), (4, 18, 4, 3, true, 2, 0), (5, 103, 4, 3, true, 2, 0), (1, 36, 1, 0, false, 0, 0), (0, 25, 1, 0, false, 0, 0), (5, 48, 1, 0, false, 0, 0), (1, 9, 1, 1, false, 0, 0), (5, 59, 1, 1, false, 0, 0), (1, 15, 1, 2, true, 2, 0), (5, 70, 1, 2, true, 2, 0), (1, 19, 1, 3, true, 2, 0), (5, 74, 1, 3, true, 2, 0), (1, 22, 1, 4, true, 2, 0), (5, 80, 1, 4, true, 2, 0), (1, 28, 1, 5, true, 2, 0), (5, 83, 1, 5, true, 2, 0), (1, 42, 1, 6, false, 0, 0), (5, 111, 1, 6, false, 0, 0), (1, 49, 1, 7, false, 0, 0), (5, 104, 1, 7, false, 0, 0), (0, 21, 0, 0, false, 0, 0), (5, 136, 0, 0, false, 0, 6), (0, 30, 0, 1, false, 0, 0), (0, 35, 0, 2, false, 0, 0), (0, 37, 0, 3, false, 0, 0), (0, 9, 0, 4, true, 2, 0), (0, 15, 0, 5, true, 2, 0), (0, 18, 0, 6, true, 2, 0), (2, 9, 2, 0, false, 0, 0), (2, 15, 2, 1, false, 0, 0), (2, 18, 2, 2, false, 0, 0), (2, 21, 2, 3, false, 0, 0), (3, 15, 3, 0, false, 0, 0), (5, 151, 3, 0, false, 0, 6), (3, 9, 3, 1, true, 2, 0), (5, 10, 5, 0, true, 2, 0), (5, 19, 5, 1, true, 2, 0), (5, 26, 5, 2, true, 2, 0), (5, 33, 5, 3, true, 2, 0), (5, 37, 5, 4, true, 2, 0), (5, 40, 5, 5, true, 2, 0), (5, 187, 5, 6, false, 1, 0), (5, 191, 5, 7, false, 1, 0)]
def zk : List (Nat × Nat × Nat × Nat) := [(10, 103, 0, 0), (5, 9, 2, 0), (1, 27, 3, 6), (1, 32, 4, 0), (1, 39, 5, 0), (1, 45, 6, 0), (5, 18, 7, 6), (5, 25, 8, 6), (5, 32, 9, 6), (5, 43, 10, 0), (0, 31, 11, 0), (0, 40, 12, 0), (0, 44, 13, 0), (0, 48, 14, 0), (10, 90, 31, 0), (5, 52, 4, 0), (5, 56, 32, 0), (5, 239, 5, 0), (10, 58, 42, 0), (5, 77, 39, 0), (5, 67, 36, 0), (5, 87, 43, 0), (4, 21, 44, 0), (4, 25, 45, 0), (4, 33, 46, 0), (5, 96, 47, 0), (10, 111, 19, 0), (5, 129, 20, 0), (10, 27, 21, 0), (10, 86, 89, 0), (5, 62, 35, 0), (5, 107, 23, 0), (5, 161, 79, 0), (10, 71, 22, 0), (5, 166, 24, 0), (0, 81, 26, 0), (0, 68, 28, 0), (0, 78, 29, 0), (0, 84, 27, 0), (0, 65, 25, 0), (10, 48, 82, 0), (5, 184, 17, 0), (1, 58, 18, 0), (10, 62, 16, 0), (10, 44, 61, 0), (5, 196, 62, 0), (5, 200, 63, 0), (5, 114, 28, 0), (5, 203, 64, 0), (5, 206, 65, 0), (5, 119, 66, 0), (5, 242, 67, 0), (5, 245, 68, 0), (2, 24, 69, 0), (5, 122, 70, 0), (5, 219, 71, 0), (5, 126, 72, 0), (5, 222, 19, 0), (5, 225, 73, 0), (5, 132, 74, 0), (2, 37, 72, 0), (2, 41, 75, 0), (2, 45, 76, 0), (5, 210, 21, 0), (5, 213, 49, 0), (5, 146, 50, 0), (0, 61, 51, 0), (0, 71, 52, 0), (0, 75, 53, 0), (5, 143, 54, 0), (0, 52, 56, 0), (0, 56, 55, 0), (5, 216, 77, 0), (5, 228, 22, 0), (5, 231, 78, 0), (5, 234, 80, 0), (5, 169, 81, 0), (5, 180, 51, 0), (10, 114, 30, 0), (10, 104, 15, 0), (10, 118, 33, 0), (10, 9, 34, 0), (10, 17, 37, 0), (10, 20, 38, 0), (10, 23, 40, 0), (10, 122, 41, 0), (10, 125, 48, 0), (10, 31, 49, 0), (10, 36, 57, 0), (5, 137, 58, 0), (5, 140, 56, 0), (10, 41, 59, 0), (10, 129, 60, 0), (10, 51, 73, 0), (10, 54, 71, 0), (10, 65, 83, 0), (10, 136, 91, 0), (10, 68, 86, 0), (10, 74, 63, 0), (10, 77, 90, 0), (5, 172, 11, 0), (5, 176, 52, 0), (10, 80, 80, 0), (10, 83, 78, 0), (10, 133, 84, 0), (10, 93, 64, 0), (10, 96, 85, 0), (10, 100, 87, 0), (5, 149, 88, 0)]
def zo : List (Nat × Nat × Unit) := [(5, 1, ()), (1, 3, ()), (4, 3, ()), (0, 3, ()), (2, 3, ()), (3, 3, ())]
def zy : List (Nat × Nat × Unit) := [(1, 52, ()), (4, 37, ())]
def zn : List (Nat × Nat × Nat) := [(10, 10, 5), (5, 7, 1), (5, 16, 0), (5, 23, 2), (5, 30, 3), (1, 25, 4)]
def zc : List (Nat × Nat × Int32) := [(10, 110, (-1000003)), (5, 66, (-1000001)), (5, 157, (-1000003)), (5, 118, (-1000005)), (10, 7, (15562471)), (10, 8, (2147483647)), (5, 47, (-1000002)), (10, 15, (-1000002)), (10, 16, (-1000001)), (5, 100, (-1000004)), (10, 57, (-1000005)), (2, 44, (-1000005)), (7, 265, (1431655765)), (7, 266, (858993459)), (7, 267, (252645135))]
def zj : List (Nat × Nat × Int64) := [(10, 34, (-1)), (10, 39, (8)), (5, 194, (137)), (5, 237, (31))]
def zs : List (Nat × Nat × Nat × Nat) := [(2, 30, 0, 6), (2, 34, 1, 6)]
def zst : List (String × String × String) := [("CrankLayout", "COS_A", "[I"), ("CrankLayout", "COS_B", "[I")]
def zty : Nat → Nat → FieldType
  | 0 => tyX0
  | 1 => tyX1
  | 2 => tyX2
  | 3 => tyX3
  | 4 => tyX4
  | _ => tyX5
/-- the methods: class, name, bytes, locals, answer, parameters, kind (0 of an object, 1 static, 2 constructor) -/
def zmL : List (Nat × MethodName × ByteArray × Nat × Option FieldType × Nat × Nat) := [
  (5, yX5_init, cX5_init, 1, none, 0, 2),
  (99, objectInit, ⟨#[0xb1]⟩, 1, none, 0, 2),
  (1, yX1_init, cX1_init, 1, none, 0, 2),
  (4, yX4_init, cX4_init, 1, none, 0, 2),
  (1, yX1_begin, cX1_begin, 3, none, 1, 0),
  (1, yX1_dropChoice, cX1_dropChoice, 1, none, 0, 0),
  (1, yX1_all, cX1_all, 1, (some .int), 0, 0),
  (0, yX0_init, cX0_init, 1, none, 0, 2),
  (2, yX2_init, cX2_init, 1, none, 0, 2),
  (3, yX3_init, cX3_init, 1, none, 0, 2),
  (0, yX0_layOut, cX0_layOut, 2, none, 1, 0),
  (1, yX1_slots, cX1_slots, 1, (some .int), 0, 0),
  (0, yX0_extend, cX0_extend, 6, none, 4, 1),
  (0, yX0_enter, cX0_enter, 5, none, 1, 0),
  (1, yX1_lowSlot, cX1_lowSlot, 2, (some .int), 1, 0),
  (10, yL_begins, cL_begins, 4, none, 3, 1),
  (5, yX5_restore, cX5_restore, 2, (some .int), 1, 0),
  (1, yX1_takeOver, cX1_takeOver, 2, none, 1, 0),
  (4, yX4_takeOver, cX4_takeOver, 2, none, 1, 0),
  (5, yX5_isMirrored, cX5_isMirrored, 1, (some .int), 0, 0),
  (1, yX1_looksTheSameFromBehind, cX1_looksTheSameFromBehind, 3, (some .boolean), 0, 0),
  (5, yX5_orders, cX5_orders, 1, (some .int), 0, 0),
  (5, yX5_longestGap, cX5_longestGap, 1, (some .int), 0, 0),
  (5, yX5_isChosen, cX5_isChosen, 1, (some .boolean), 0, 0),
  (0, yX0_gap, cX0_gap, 5, (some .int), 2, 0),
  (8, Lib.Math.max.name, Lib.Math.max.code, 2, (some .int), 2, 1),
  (0, yX0_gapBehind, cX0_gapBehind, 6, (some .int), 3, 0),
  (8, Lib.Math.min.name, Lib.Math.min.code, 2, (some .int), 2, 1),
  (0, yX0_slotOf, cX0_slotOf, 3, (some .int), 2, 0),
  (0, yX0_slotsFrom, cX0_slotsFrom, 3, (some .int), 2, 0),
  (10, yL_cell, cL_cell, 2, (some .int), 2, 1),
  (5, yX5_setCylinders, cX5_setCylinders, 3, (some .int), 1, 0),
  (5, yX5_firingsChanged, cX5_firingsChanged, 1, none, 0, 0),
  (10, yL_sets, cL_sets, 7, (some .boolean), 4, 1),
  (5, yX5_setThrow, cX5_setThrow, 4, (some .int), 2, 0),
  (5, yX5_isNoCylinder, cX5_isNoCylinder, 2, (some .boolean), 1, 0),
  (5, yX5_isNoTurn, cX5_isNoTurn, 1, (some .boolean), 1, 1),
  (5, yX5_setMass, cX5_setMass, 4, (some .int), 2, 0),
  (5, yX5_setPlace, cX5_setPlace, 4, (some .int), 2, 0),
  (5, yX5_isNoPlace, cX5_isNoPlace, 1, (some .boolean), 1, 1),
  (5, yX5_setStrokes, cX5_setStrokes, 3, (some .int), 1, 0),
  (10, yL_spreads, cL_spreads, 11, (some .boolean), 4, 1),
  (5, yX5_setWeight, cX5_setWeight, 5, (some .int), 3, 0),
  (4, yX4_remove, cX4_remove, 5, none, 2, 0),
  (4, yX4_rankOf, cX4_rankOf, 5, (some .int), 2, 0),
  (4, yX4_standsAt, cX4_standsAt, 4, (some .boolean), 3, 0),
  (4, yX4_copyWithin, cX4_copyWithin, 3, none, 2, 0),
  (4, yX4_put, cX4_put, 6, (some .boolean), 3, 0),
  (10, yL_sound, cL_sound, 12, (some .boolean), 2, 1),
  (5, yX5_bestOrder, cX5_bestOrder, 5, (some .int), 0, 0),
  (0, yX0_greatestLoad, cX0_greatestLoad, 4, (some .int), 1, 0),
  (0, yX0_peakOf, cX0_peakOf, 7, (some .int), 3, 0),
  (0, yX0_loadOf, cX0_loadOf, 5, (some .int), 4, 0),
  (0, yX0_shareOf, cX0_shareOf, 6, (some .int), 4, 0),
  (0, yX0_penalty, cX0_penalty, 6, (some .int), 1, 0),
  (8, Lib.Math.abs.name, Lib.Math.abs.code, 1, (some .int), 1, 1),
  (0, yX0_cylinderAt, cX0_cylinderAt, 3, (some .int), 2, 0),
  (5, yX5_order, cX5_order, 3, (some .int), 2, 0),
  (5, yX5_isNoOrder, cX5_isNoOrder, 2, (some .boolean), 1, 0),
  (5, yX5_orderCost, cX5_orderCost, 3, (some .int), 2, 0),
  (10, yL_balances, cL_balances, 9, (some .boolean), 3, 1),
  (5, yX5_checksum, cX5_checksum, 5, (some .long), 0, 0),
  (5, yX5_mix, cX5_mix, 4, (some .long), 2, 1),
  (5, yX5_cylinder, cX5_cylinder, 3, (some .int), 2, 0),
  (5, yX5_weight, cX5_weight, 4, (some .int), 2, 0),
  (5, yX5_mixBalance, cX5_mixBalance, 6, (some .long), 1, 0),
  (5, yX5_addUp, cX5_addUp, 7, none, 1, 0),
  (2, yX2_clear, cX2_clear, 1, none, 0, 0),
  (2, yX2_add, cX2_add, 5, none, 2, 0),
  (8, yJ9_floorMod_7cf53, cJ9_floorMod_7cf53, 3, (some .int), 2, 1),
  (2, yX2_part, cX2_part, 3, (some .int), 2, 0),
  (5, yX5_balanced, cX5_balanced, 3, (some .int), 0, 0),
  (2, yX2_isZero, cX2_isZero, 1, (some .boolean), 0, 0),
  (5, yX5_counterWeight, cX5_counterWeight, 1, (some .int), 0, 0),
  (2, yX2_counter, cX2_counter, 4, (some .int), 1, 0),
  (2, yX2_massAgainst, cX2_massAgainst, 8, (some .int), 2, 0),
  (2, yX2_quotient, cX2_quotient, 2, (some .int), 2, 1),
  (5, yX5_mixChosen, cX5_mixChosen, 6, (some .long), 1, 0),
  (5, yX5_bestOff, cX5_bestOff, 5, (some .int), 0, 0),
  (7, yJ6_bitCount_0f7a4, cJ6_bitCount_0f7a4, 1, (some .int), 1, 1),
  (5, yX5_peak, cX5_peak, 2, (some .int), 1, 0),
  (5, yX5_isNoBearing, cX5_isNoBearing, 2, (some .boolean), 1, 0),
  (5, yX5_save, cX5_save, 2, (some .int), 1, 0),
  (5, yX5_counterPair, cX5_counterPair, 3, (some .int), 2, 0),
  (10, yL_refuses, cL_refuses, 5, (some .boolean), 2, 1),
  (5, yX5_vector, cX5_vector, 4, (some .int), 3, 0),
  (5, yX5_choose, cX5_choose, 2, (some .int), 1, 0),
  (5, yX5_append, cX5_append, 2, (some .int), 1, 0),
  (3, yX3_put, cX3_put, 2, (some .boolean), 1, 0),
  (5, yX5_turn, cX5_turn, 3, (some .int), 2, 0),
  (5, yX5_load, cX5_load, 3, (some .int), 2, 0),
  (10, yL_fires, cL_fires, 14, (some .boolean), 5, 1)]
def zfind {α : Type} : List (Nat × Nat × α) → Nat → Nat → Option α
  | [], _, _ => none
  | (a, b, x) :: t, o, i => if a = o ∧ b = i then some x else zfind t o i
theorem zfind_mem {α : Type} {x : α} {o i : Nat} : ∀ {l : List (Nat × Nat × α)}, zfind l o i = some x → (o, i, x) ∈ l
  | [], h => by cases h
  | (a, b, y) :: t, h => by
    unfold zfind at h
    split at h
    · rename_i hh
      cases h
      rw [hh.1, hh.2]
      exact List.mem_cons_self
    · exact List.mem_cons_of_mem _ (zfind_mem h)
theorem zmemN {α : Type} {l : List α} {f : α → Cond} {is : List Nat} (h : l.map f = is.filterMap (fun i => lw_tbl[i]?)) : ∀ q ∈ l, f q ∈ lw_tbl := by
  intro q hq
  have h1 : f q ∈ l.map f := List.mem_map.mpr ⟨q, hq, rfl⟩
  rw [h] at h1
  obtain ⟨i, -, hi⟩ := List.mem_filterMap.mp h1
  exact List.mem_of_getElem? hi
def zfw (q : Nat × Nat × Nat × Nat × Bool × Nat × Nat) : Cond := Cond.fieldLink (zcn q.1) q.2.1 (((vwCl.getD q.2.2.1 (RX0, TX0, 0)).2.1 q.2.2.2.1).1) (((vwCl.getD q.2.2.1 (RX0, TX0, 0)).2.1 q.2.2.2.1).2.1) (((vwCl.getD q.2.2.1 (RX0, TX0, 0)).2.1 q.2.2.2.1).2.2.1)
def zfwN (q : Nat × Nat × Nat × Nat × Bool × Nat × Nat) : Cond := Cond.fieldLinkNest (zcn q.1) q.2.1 (((vwCl.getD q.2.2.1 (RX0, TX0, 0)).2.1 q.2.2.2.1).1) (((vwCl.getD q.2.2.1 (RX0, TX0, 0)).2.1 q.2.2.2.1).2.1) (((vwCl.getD q.2.2.1 (RX0, TX0, 0)).2.1 q.2.2.2.1).2.2.1) (zcn (q.2.2.2.2.2.2 - 1))
def zfP : List (Nat × Nat × Nat × Nat × Bool × Nat × Nat) := zf.filter (fun q => q.2.2.2.2.2.2 == 0)
def zfN : List (Nat × Nat × Nat × Nat × Bool × Nat × Nat) := zf.filter (fun q => !(q.2.2.2.2.2.2 == 0))
set_option maxRecDepth 1000000 in
set_option maxHeartbeats 4000000 in
theorem zfP_w : zfP.map zfw = ([46, 47, 48, 49, 50, 51, 52, 53, 76, 77, 78, 79, 80, 81, 82, 83, 84, 85, 86, 87, 88, 89, 90, 91, 92, 116, 118, 119, 120, 121, 122, 123, 145, 146, 147, 148, 164, 166, 192, 193, 194, 195, 196, 197, 198, 199] : List Nat).filterMap (fun i => lw_tbl[i]?) := by decide +kernel
set_option maxRecDepth 1000000 in
theorem zfP_m : ∀ q ∈ zfP, zfw q ∈ zBW := zmem zfP_w (by decide +kernel)
set_option maxRecDepth 1000000 in
set_option maxHeartbeats 4000000 in
theorem zfN_w : zfN.map zfwN = ([117, 165] : List Nat).filterMap (fun i => lw_tbl[i]?) := by decide +kernel
theorem zfN_m : ∀ q ∈ zfN, zfwN q ∈ lw_tbl := zmemN zfN_w
def zft : Nat → FieldType → Bool
  | 0, .int => true
  | 1, .boolean => true
  | 2, .object _ => true
  | 2, .array _ => true
  | _, _ => false
theorem zf_ok : zf.all (fun q => decide (q.2.2.1 < vwCl.length) && decide (q.2.2.2.1 < (vwCl.getD q.2.2.1 (RX0, TX0, 0)).2.2) && (q.2.2.2.2.1 == ((vwCl.getD q.2.2.1 (RX0, TX0, 0)).2.1 q.2.2.2.1).2.2.2) && zft q.2.2.2.2.2.1 (zty q.2.2.1 q.2.2.2.1) && decide (((vwCl.getD q.2.2.1 (RX0, TX0, 0)).2.1 q.2.2.2.1).1 = zcn q.2.2.1) && (q.2.2.2.2.2.2 == 0 || decide (q.1 ≠ q.2.2.1))) = true := by decide +kernel
def zmg (k : Nat) : Nat × MethodName × ByteArray × Nat × Option FieldType × Nat × Nat := zmL.getD k (99, objectInit, ⟨#[0xb1]⟩, 1, none, 0, 2)
def zkw (q : Nat × Nat × Nat × Nat) : Cond := Cond.methodLink (zcn q.1) q.2.1 (zmg q.2.2.1).2.1
def zkwN (q : Nat × Nat × Nat × Nat) : Cond := Cond.methodLinkNest (zcn q.1) q.2.1 (zmg q.2.2.1).2.1 (zcn (q.2.2.2 - 1))
def zkP : List (Nat × Nat × Nat × Nat) := zk.filter (fun q => q.2.2.2 == 0)
def zkN : List (Nat × Nat × Nat × Nat) := zk.filter (fun q => !(q.2.2.2 == 0))
set_option maxRecDepth 1000000 in
set_option maxHeartbeats 4000000 in
theorem zkP_w : zkP.map zkw = ([28, 36, 64, 68, 72, 173, 177, 181, 184, 188, 217, 222, 223, 227, 228, 232, 235, 238, 242, 246, 250, 254, 259, 263, 267, 271, 275, 280, 285, 291, 296, 300, 304, 308, 312, 315, 318, 322, 329, 334, 338, 343, 347, 351, 352, 356, 360, 364, 368, 372, 379, 383, 387, 391, 392, 396, 400, 401, 405, 409, 410, 414, 418, 422, 426, 430, 434, 438, 441, 445, 446, 450, 454, 458, 459, 464, 467, 470, 476, 480, 484, 488, 491, 494, 496, 500, 504, 506, 510, 513, 514, 516, 520, 523, 527, 528, 532, 533, 534, 535, 536, 539, 540, 544, 548] : List Nat).filterMap (fun i => lw_tbl[i]?) := by decide +kernel
set_option maxRecDepth 1000000 in
theorem zkP_m : ∀ q ∈ zkP, zkw q ∈ zBW := zmem zkP_w (by decide +kernel)
set_option maxRecDepth 1000000 in
set_option maxHeartbeats 4000000 in
theorem zkN_w : zkN.map zkwN = ([42, 112, 141, 160] : List Nat).filterMap (fun i => lw_tbl[i]?) := by decide +kernel
theorem zkN_m : ∀ q ∈ zkN, zkwN q ∈ lw_tbl := zmemN zkN_w
theorem zk_ok : zk.all (fun q => decide (q.2.2.1 < zmL.length) && decide ((zmg q.2.2.1).1 < 99) && (q.2.2.2 == 0 || (zmg q.2.2.1).2.2.2.2.2.2 == 2)) = true := by decide +kernel
def zow (q : Nat × Nat × Unit) : Cond := Cond.methodLink (zcn q.1) q.2.1 objectInit
set_option maxRecDepth 1000000 in
set_option maxHeartbeats 4000000 in
theorem zo_w : zo.map zow = ([31, 39, 45, 115, 144, 163] : List Nat).filterMap (fun i => lw_tbl[i]?) := by decide +kernel
set_option maxRecDepth 1000000 in
theorem zo_m : ∀ q ∈ zo, zow q ∈ zBW := zmem zo_w (by decide +kernel)
def zow2 (q : Nat) : Cond := bif q == 0 then Cond.instanceMethod objectInit else Cond.code objectInit ⟨#[0xb1]⟩ 1 none
set_option maxRecDepth 1000000 in
set_option maxHeartbeats 4000000 in
theorem zo2_w : [0, 1].map zow2 = ([32, 33] : List Nat).filterMap (fun i => lw_tbl[i]?) := by decide +kernel
set_option maxRecDepth 1000000 in
theorem zo2_m : ∀ q ∈ [0, 1], zow2 q ∈ zBW := zmem zo2_w (by decide +kernel)
def zyw (q : Nat × Nat × Unit) : Cond := Cond.methodLink (zcn q.1) q.2.1 arraycopyName
set_option maxRecDepth 1000000 in
set_option maxHeartbeats 4000000 in
theorem zy_w : zy.map zyw = ([326, 333] : List Nat).filterMap (fun i => lw_tbl[i]?) := by decide +kernel
set_option maxRecDepth 1000000 in
theorem zy_m : ∀ q ∈ zy, zyw q ∈ zBW := zmem zy_w (by decide +kernel)
def zyw2 (q : Nat) : Cond := bif q == 0 then Cond.native arraycopyName else bif q == 1 then Cond.static arraycopyName else Cond.initialized "java/lang/System"
set_option maxRecDepth 1000000 in
set_option maxHeartbeats 4000000 in
theorem zy2_w : [0, 1, 2].map zyw2 = ([328, 327, 23] : List Nat).filterMap (fun i => lw_tbl[i]?) := by decide +kernel
set_option maxRecDepth 1000000 in
theorem zy2_m : ∀ q ∈ [0, 1, 2], zyw2 q ∈ zBW := zmem zy2_w (by decide +kernel)
def znw (q : Nat × Nat × Nat) : Cond := Cond.classLink (zcn q.1) q.2.1 (vwCl.getD q.2.2 (RX0, TX0, 0)).1
set_option maxRecDepth 1000000 in
set_option maxHeartbeats 4000000 in
theorem zn_w : zn.map znw = ([26, 34, 110, 139, 158, 40] : List Nat).filterMap (fun i => lw_tbl[i]?) := by decide +kernel
set_option maxRecDepth 1000000 in
theorem zn_m : ∀ q ∈ zn, znw q ∈ zBW := zmem zn_w (by decide +kernel)
def znw2 (q : Nat × Nat × Nat) : Cond := Cond.instantiable (vwCl.getD q.2.2 (RX0, TX0, 0)).1 (vwCl.getD q.2.2 (RX0, TX0, 0)).2.2
set_option maxRecDepth 1000000 in
set_option maxHeartbeats 4000000 in
theorem zn2_w : zn.map znw2 = ([27, 35, 111, 140, 159, 41] : List Nat).filterMap (fun i => lw_tbl[i]?) := by decide +kernel
set_option maxRecDepth 1000000 in
theorem zn2_m : ∀ q ∈ zn, znw2 q ∈ zBW := zmem zn2_w (by decide +kernel)
def znw3 (q : Nat × Nat × Nat) : Cond := Cond.initialized (vwCl.getD q.2.2 (RX0, TX0, 0)).1
set_option maxRecDepth 1000000 in
set_option maxHeartbeats 4000000 in
theorem zn3_w : zn.map znw3 = ([17, 18, 20, 21, 22, 19] : List Nat).filterMap (fun i => lw_tbl[i]?) := by decide +kernel
set_option maxRecDepth 1000000 in
theorem zn3_m : ∀ q ∈ zn, znw3 q ∈ zBW := zmem zn3_w (by decide +kernel)
theorem zn_ok : zn.all (fun q => decide (q.2.2 < vwCl.length)) = true := by decide +kernel
def zcw (q : Nat × Nat × Int32) : Cond := Cond.constant (zcn q.1) q.2.1 q.2.2
set_option maxRecDepth 1000000 in
set_option maxHeartbeats 4000000 in
theorem zc_w : zc.map zcw = ([552, 279, 284, 295, 462, 463, 221, 474, 475, 258, 515, 408, 288, 289, 290] : List Nat).filterMap (fun i => lw_tbl[i]?) := by decide +kernel
set_option maxRecDepth 1000000 in
theorem zc_m : ∀ q ∈ zc, zcw q ∈ zBW := zmem zc_w (by decide +kernel)
def zjw (q : Nat × Nat × Int64) : Cond := Cond.constantLong (zcn q.1) q.2.1 q.2.2
set_option maxRecDepth 1000000 in
set_option maxHeartbeats 4000000 in
theorem zj_w : zj.map zjw = ([495, 505, 342, 346] : List Nat).filterMap (fun i => lw_tbl[i]?) := by decide +kernel
set_option maxRecDepth 1000000 in
theorem zj_m : ∀ q ∈ zj, zjw q ∈ zBW := zmem zj_w (by decide +kernel)
def zsw (q : Nat × Nat × Nat × Nat) : Cond := Cond.fieldLink (zcn q.1) q.2.1 (zst.getD q.2.2.1 ("", "", "")).1 (zst.getD q.2.2.1 ("", "", "")).2.1 (zst.getD q.2.2.1 ("", "", "")).2.2
def zswN (q : Nat × Nat × Nat × Nat) : Cond := Cond.fieldLinkNest (zcn q.1) q.2.1 (zst.getD q.2.2.1 ("", "", "")).1 (zst.getD q.2.2.1 ("", "", "")).2.1 (zst.getD q.2.2.1 ("", "", "")).2.2 (zcn (q.2.2.2 - 1))
def zsP : List (Nat × Nat × Nat × Nat) := zs.filter (fun q => q.2.2.2 == 0)
def zsN : List (Nat × Nat × Nat × Nat) := zs.filter (fun q => !(q.2.2.2 == 0))
set_option maxRecDepth 1000000 in
set_option maxHeartbeats 4000000 in
theorem zsP_w : zsP.map zsw = ([] : List Nat).filterMap (fun i => lw_tbl[i]?) := by decide +kernel
set_option maxRecDepth 1000000 in
theorem zsP_m : ∀ q ∈ zsP, zsw q ∈ zBW := zmem zsP_w (by decide +kernel)
set_option maxRecDepth 1000000 in
set_option maxHeartbeats 4000000 in
theorem zsN_w : zsN.map zswN = ([375, 377] : List Nat).filterMap (fun i => lw_tbl[i]?) := by decide +kernel
theorem zsN_m : ∀ q ∈ zsN, zswN q ∈ lw_tbl := zmemN zsN_w
theorem zs_ok : zs.all (fun q => decide (q.2.2.1 < zst.length)) = true := by decide +kernel
def zaw (ty : FieldType) : Cond := Cond.arrayClass ty
set_option maxRecDepth 1000000 in
set_option maxHeartbeats 4000000 in
theorem za_w : [FieldType.int, FieldType.byte].map zaw = ([63, 172] : List Nat).filterMap (fun i => lw_tbl[i]?) := by decide +kernel
set_option maxRecDepth 1000000 in
theorem za_m : ∀ q ∈ [FieldType.int, FieldType.byte], zaw q ∈ zBW := zmem za_w (by decide +kernel)
def zmw0 (q : Nat × MethodName × ByteArray × Nat × Option FieldType × Nat × Nat) : Cond := Cond.code q.2.1 q.2.2.1 q.2.2.2.1 q.2.2.2.2.1
set_option maxRecDepth 1000000 in
set_option maxHeartbeats 4000000 in
theorem zm0_w : zmL.map zmw0 = ([30, 33, 38, 44, 67, 71, 75, 114, 143, 162, 176, 180, 183, 187, 191, 466, 337, 325, 332, 262, 266, 270, 294, 283, 299, 317, 303, 314, 307, 311, 461, 220, 226, 469, 473, 278, 237, 479, 483, 234, 487, 490, 231, 241, 245, 249, 253, 257, 493, 413, 417, 421, 425, 429, 433, 440, 437, 499, 503, 509, 512, 341, 345, 350, 355, 359, 363, 367, 371, 374, 382, 386, 390, 395, 399, 404, 407, 444, 449, 287, 453, 457, 321, 519, 538, 543, 526, 547, 551, 274, 531, 522] : List Nat).filterMap (fun i => lw_tbl[i]?) := by rfl
set_option maxRecDepth 1000000 in
theorem zm0_m : ∀ q ∈ zmL, zmw0 q ∈ zBW := zmem zm0_w (by decide +kernel)
def zmw1 (q : Nat × MethodName × ByteArray × Nat × Option FieldType × Nat × Nat) : Cond := bif q.2.2.2.2.2.2 == 1 then Cond.static q.2.1 else Cond.instanceMethod q.2.1
set_option maxRecDepth 1000000 in
set_option maxHeartbeats 4000000 in
theorem zm1_w : zmL.map zmw1 = ([29, 32, 37, 43, 65, 69, 73, 113, 142, 161, 174, 178, 182, 186, 189, 465, 335, 323, 330, 260, 264, 268, 292, 282, 297, 316, 302, 313, 305, 310, 460, 218, 225, 468, 471, 277, 236, 477, 481, 233, 485, 489, 229, 239, 244, 248, 252, 255, 492, 411, 415, 419, 423, 428, 431, 439, 435, 497, 502, 507, 511, 339, 344, 348, 353, 358, 362, 365, 369, 373, 380, 384, 388, 393, 397, 403, 406, 443, 447, 286, 451, 456, 319, 517, 537, 541, 524, 545, 549, 272, 529, 521] : List Nat).filterMap (fun i => lw_tbl[i]?) := by decide +kernel
set_option maxRecDepth 1000000 in
theorem zm1_m : ∀ q ∈ zmL, zmw1 q ∈ zBW := zmem zm1_w (by decide +kernel)
def zmw2 (q : Nat × MethodName × ByteArray × Nat × Option FieldType × Nat × Nat) : Cond := Cond.initialized q.2.1.cls
def zmR : List (Nat × MethodName × ByteArray × Nat × Option FieldType × Nat × Nat) := zmL.filter (fun q => decide (q.1 < 99))
set_option maxRecDepth 1000000 in
set_option maxHeartbeats 4000000 in
theorem zm2_w : zmR.map zmw2 = ([17, 18, 19, 18, 18, 18, 20, 21, 22, 20, 18, 20, 20, 18, 16, 17, 18, 19, 17, 18, 17, 17, 17, 20, 24, 20, 24, 20, 20, 16, 17, 17, 16, 17, 17, 17, 17, 17, 17, 17, 16, 17, 19, 19, 19, 19, 19, 16, 17, 20, 20, 20, 20, 20, 24, 20, 17, 17, 17, 16, 17, 17, 17, 17, 17, 17, 21, 21, 24, 21, 17, 21, 17, 21, 21, 21, 17, 17, 25, 17, 17, 17, 17, 16, 17, 17, 17, 22, 17, 17, 16] : List Nat).filterMap (fun i => lw_tbl[i]?) := by decide +kernel
set_option maxRecDepth 1000000 in
theorem zm2_m : ∀ q ∈ zmR, zmw2 q ∈ zBW := zmem zm2_w (by decide +kernel)
def zmw3 (q : Nat × MethodName × ByteArray × Nat × Option FieldType × Nat × Nat) : Cond := Cond.selects q.2.1.cls q.2.1 q.2.1
def zmV : List (Nat × MethodName × ByteArray × Nat × Option FieldType × Nat × Nat) := zmL.filter (fun q => q.2.2.2.2.2.2 == 0)
set_option maxRecDepth 1000000 in
set_option maxHeartbeats 4000000 in
theorem zm3_w : zmV.map zmw3 = ([66, 70, 74, 175, 179, 0, 190, 336, 324, 331, 261, 265, 269, 293, 6, 298, 7, 306, 8, 219, 1, 472, 5, 478, 482, 486, 230, 240, 2, 3, 4, 256, 412, 416, 420, 424, 12, 432, 436, 498, 15, 508, 340, 349, 354, 9, 10, 366, 370, 381, 385, 389, 394, 398, 11, 13, 448, 452, 14, 320, 518, 542, 525, 546, 550, 273, 530] : List Nat).filterMap (fun i => lw_tbl[i]?) := by decide +kernel
set_option maxRecDepth 1000000 in
theorem zm3_m : ∀ q ∈ zmV, zmw3 q ∈ zBW := zmem zm3_w (by decide +kernel)
def zmok (q : Nat × MethodName × ByteArray × Nat × Option FieldType × Nat × Nat) : Bool :=
  decide (q.1 = 99) || (decide (q.2.1.cls = zcn q.1) && decide (q.2.1.cls ≠ "java/lang/invoke/MethodHandle") && decide (q.2.1.cls ≠ "java/lang/invoke/VarHandle") && decide ((parseMethodDescriptor q.2.1.desc).map (fun d => d.parameters.length) = some q.2.2.2.2.2.1) && decide (q.2.2.2.1 ≤ 40)
    && (bif q.2.2.2.2.2.2 == 2 then decide (q.2.1.name = "<init>") && decide (q.2.2.2.2.1 = none) else true) && (bif q.2.2.2.2.2.2 == 0 then decide (q.1 < vwCl.length) else true) && plainFor q.2.1)
set_option maxRecDepth 1000000 in
theorem zm_ok : zmL.all zmok = true := by decide +kernel
theorem ztyk : ∀ ci k, ci < vwCl.length → k < (vwCl.getD ci (RX0, TX0, 0)).2.2 → (zft 0 (zty ci k) = true ∨ zft 1 (zty ci k) = true ∨ zft 2 (zty ci k) = true) := fun ci k h hk => (show ∀ ci, ci < vwCl.length → ∀ k, k < (vwCl.getD ci (RX0, TX0, 0)).2.2 → (zft 0 (zty ci k) = true ∨ zft 1 (zty ci k) = true ∨ zft 2 (zty ci k) = true) by decide +kernel) ci h k hk
theorem zcn_cl : ∀ ci, ci < vwCl.length → (vwCl.getD ci (RX0, TX0, 0)).1 = zcn ci := by decide +kernel
set_option maxRecDepth 1000000 in
set_option maxHeartbeats 4000000 in
theorem ziX0_w : wsX00.map (fun q => q) = ([124, 126, 128, 130, 132, 134, 136] : List Nat).filterMap (fun i => lw_tbl[i]?) := by decide +kernel
set_option maxRecDepth 1000000 in
theorem ziX0_m : ∀ q ∈ wsX00, (fun q => q) q ∈ zBW := zmem ziX0_w (by decide +kernel)
set_option maxRecDepth 1000000 in
set_option maxHeartbeats 4000000 in
theorem ziX1_w : wsX10.map (fun q => q) = ([93, 95, 97, 99, 101, 103, 105, 107] : List Nat).filterMap (fun i => lw_tbl[i]?) := by decide +kernel
set_option maxRecDepth 1000000 in
theorem ziX1_m : ∀ q ∈ wsX10, (fun q => q) q ∈ zBW := zmem ziX1_w (by decide +kernel)
set_option maxRecDepth 1000000 in
set_option maxHeartbeats 4000000 in
theorem ziX2_w : wsX20.map (fun q => q) = ([149, 151, 153, 155] : List Nat).filterMap (fun i => lw_tbl[i]?) := by decide +kernel
set_option maxRecDepth 1000000 in
theorem ziX2_m : ∀ q ∈ wsX20, (fun q => q) q ∈ zBW := zmem ziX2_w (by decide +kernel)
set_option maxRecDepth 1000000 in
set_option maxHeartbeats 4000000 in
theorem ziX3_w : wsX30.map (fun q => q) = ([167, 169] : List Nat).filterMap (fun i => lw_tbl[i]?) := by decide +kernel
set_option maxRecDepth 1000000 in
theorem ziX3_m : ∀ q ∈ wsX30, (fun q => q) q ∈ zBW := zmem ziX3_w (by decide +kernel)
set_option maxRecDepth 1000000 in
set_option maxHeartbeats 4000000 in
theorem ziX4_w : wsX40.map (fun q => q) = ([54, 56, 58, 60] : List Nat).filterMap (fun i => lw_tbl[i]?) := by decide +kernel
set_option maxRecDepth 1000000 in
theorem ziX4_m : ∀ q ∈ wsX40, (fun q => q) q ∈ zBW := zmem ziX4_w (by decide +kernel)
set_option maxRecDepth 1000000 in
set_option maxHeartbeats 4000000 in
theorem ziX5_w : wsX50.map (fun q => q) = ([200, 202, 204, 206, 208, 210, 212, 214] : List Nat).filterMap (fun i => lw_tbl[i]?) := by decide +kernel
set_option maxRecDepth 1000000 in
theorem ziX5_m : ∀ q ∈ wsX50, (fun q => q) q ∈ zBW := zmem ziX5_w (by decide +kernel)
theorem zclass (ci : Nat) (q : vw_C) (h : vwCl[ci]? = some q) : (∀ k, k < q.2.2 → parseFieldDescriptor (q.2.1 k).2.2.1 = some (zty ci k)) ∧ (∀ a, a < q.2.2 → ∀ b, b < q.2.2 → a ≠ b → (q.2.1 a).2.1 ≠ (q.2.1 b).2.1) ∧ (∀ w ∈ u_ws q.1 q.2.1 q.2.2, w ∈ zBW) := by
  match ci, h with
  | 0, h => cases h; exact ⟨tyX0_ok, nmX0, ziX0_m⟩
  | 1, h => cases h; exact ⟨tyX1_ok, nmX1, ziX1_m⟩
  | 2, h => cases h; exact ⟨tyX2_ok, nmX2, ziX2_m⟩
  | 3, h => cases h; exact ⟨tyX3_ok, nmX3, ziX3_m⟩
  | 4, h => cases h; exact ⟨tyX4_ok, nmX4, ziX4_m⟩
  | 5, h => cases h; exact ⟨tyX5_ok, nmX5, ziX5_m⟩
  | k + 6, h => simp [vwCl] at h
theorem zinst (ci : Nat) (q : vw_C) (h : vwCl[ci]? = some q) : Cond.instantiable q.1 q.2.2 ∈ zBW := by
  match ci, h with
  | 0, h => cases h; exact zn2_m (5, 16, 0) (by decide +kernel)
  | 1, h => cases h; exact zn2_m (5, 7, 1) (by decide +kernel)
  | 2, h => cases h; exact zn2_m (5, 23, 2) (by decide +kernel)
  | 3, h => cases h; exact zn2_m (5, 30, 3) (by decide +kernel)
  | 4, h => cases h; exact zn2_m (1, 25, 4) (by decide +kernel)
  | 5, h => cases h; exact zn2_m (10, 10, 5) (by decide +kernel)
  | k + 6, h => simp [vwCl] at h
theorem zF_4_29 : zfind zf 4 29 = some (4, 0, false, 0, 0) := by decide +kernel
theorem zF_5_93 : zfind zf 5 93 = some (4, 0, false, 0, 0) := by decide +kernel
theorem zF_4_9 : zfind zf 4 9 = some (4, 1, true, 2, 0) := by decide +kernel
theorem zF_5_101 : zfind zf 5 101 = some (4, 1, true, 2, 0) := by decide +kernel
theorem zF_4_15 : zfind zf 4 15 = some (4, 2, true, 2, 0) := by decide +kernel
theorem zF_5_102 : zfind zf 5 102 = some (4, 2, true, 2, 0) := by decide +kernel
theorem zF_4_18 : zfind zf 4 18 = some (4, 3, true, 2, 0) := by decide +kernel
theorem zF_5_103 : zfind zf 5 103 = some (4, 3, true, 2, 0) := by decide +kernel
theorem zF_1_36 : zfind zf 1 36 = some (1, 0, false, 0, 0) := by decide +kernel
theorem zF_0_25 : zfind zf 0 25 = some (1, 0, false, 0, 0) := by decide +kernel
theorem zF_5_48 : zfind zf 5 48 = some (1, 0, false, 0, 0) := by decide +kernel
theorem zF_1_9 : zfind zf 1 9 = some (1, 1, false, 0, 0) := by decide +kernel
theorem zF_5_59 : zfind zf 5 59 = some (1, 1, false, 0, 0) := by decide +kernel
theorem zF_1_15 : zfind zf 1 15 = some (1, 2, true, 2, 0) := by decide +kernel
theorem zF_5_70 : zfind zf 5 70 = some (1, 2, true, 2, 0) := by decide +kernel
theorem zF_1_19 : zfind zf 1 19 = some (1, 3, true, 2, 0) := by decide +kernel
theorem zF_5_74 : zfind zf 5 74 = some (1, 3, true, 2, 0) := by decide +kernel
theorem zF_1_22 : zfind zf 1 22 = some (1, 4, true, 2, 0) := by decide +kernel
theorem zF_5_80 : zfind zf 5 80 = some (1, 4, true, 2, 0) := by decide +kernel
theorem zF_1_28 : zfind zf 1 28 = some (1, 5, true, 2, 0) := by decide +kernel
theorem zF_5_83 : zfind zf 5 83 = some (1, 5, true, 2, 0) := by decide +kernel
theorem zF_1_42 : zfind zf 1 42 = some (1, 6, false, 0, 0) := by decide +kernel
theorem zF_5_111 : zfind zf 5 111 = some (1, 6, false, 0, 0) := by decide +kernel
theorem zF_1_49 : zfind zf 1 49 = some (1, 7, false, 0, 0) := by decide +kernel
theorem zF_5_104 : zfind zf 5 104 = some (1, 7, false, 0, 0) := by decide +kernel
theorem zF_0_21 : zfind zf 0 21 = some (0, 0, false, 0, 0) := by decide +kernel
theorem zF_5_136 : zfind zf 5 136 = some (0, 0, false, 0, 6) := by decide +kernel
theorem zF_0_30 : zfind zf 0 30 = some (0, 1, false, 0, 0) := by decide +kernel
theorem zF_0_35 : zfind zf 0 35 = some (0, 2, false, 0, 0) := by decide +kernel
theorem zF_0_37 : zfind zf 0 37 = some (0, 3, false, 0, 0) := by decide +kernel
theorem zF_0_9 : zfind zf 0 9 = some (0, 4, true, 2, 0) := by decide +kernel
theorem zF_0_15 : zfind zf 0 15 = some (0, 5, true, 2, 0) := by decide +kernel
theorem zF_0_18 : zfind zf 0 18 = some (0, 6, true, 2, 0) := by decide +kernel
theorem zF_2_9 : zfind zf 2 9 = some (2, 0, false, 0, 0) := by decide +kernel
theorem zF_2_15 : zfind zf 2 15 = some (2, 1, false, 0, 0) := by decide +kernel
theorem zF_2_18 : zfind zf 2 18 = some (2, 2, false, 0, 0) := by decide +kernel
theorem zF_2_21 : zfind zf 2 21 = some (2, 3, false, 0, 0) := by decide +kernel
theorem zF_3_15 : zfind zf 3 15 = some (3, 0, false, 0, 0) := by decide +kernel
theorem zF_5_151 : zfind zf 5 151 = some (3, 0, false, 0, 6) := by decide +kernel
theorem zF_3_9 : zfind zf 3 9 = some (3, 1, true, 2, 0) := by decide +kernel
theorem zF_5_10 : zfind zf 5 10 = some (5, 0, true, 2, 0) := by decide +kernel
theorem zF_5_19 : zfind zf 5 19 = some (5, 1, true, 2, 0) := by decide +kernel
theorem zF_5_26 : zfind zf 5 26 = some (5, 2, true, 2, 0) := by decide +kernel
theorem zF_5_33 : zfind zf 5 33 = some (5, 3, true, 2, 0) := by decide +kernel
theorem zF_5_37 : zfind zf 5 37 = some (5, 4, true, 2, 0) := by decide +kernel
theorem zF_5_40 : zfind zf 5 40 = some (5, 5, true, 2, 0) := by decide +kernel
theorem zF_5_187 : zfind zf 5 187 = some (5, 6, false, 1, 0) := by decide +kernel
theorem zF_5_191 : zfind zf 5 191 = some (5, 7, false, 1, 0) := by decide +kernel
theorem zK_10_103 : zfind zk 10 103 = some (0, 0) := by decide +kernel
theorem zK_5_9 : zfind zk 5 9 = some (2, 0) := by decide +kernel
theorem zK_1_27 : zfind zk 1 27 = some (3, 6) := by decide +kernel
theorem zK_1_32 : zfind zk 1 32 = some (4, 0) := by decide +kernel
theorem zK_1_39 : zfind zk 1 39 = some (5, 0) := by decide +kernel
theorem zK_1_45 : zfind zk 1 45 = some (6, 0) := by decide +kernel
theorem zK_5_18 : zfind zk 5 18 = some (7, 6) := by decide +kernel
theorem zK_5_25 : zfind zk 5 25 = some (8, 6) := by decide +kernel
theorem zK_5_32 : zfind zk 5 32 = some (9, 6) := by decide +kernel
theorem zK_5_43 : zfind zk 5 43 = some (10, 0) := by decide +kernel
theorem zK_0_31 : zfind zk 0 31 = some (11, 0) := by decide +kernel
theorem zK_0_40 : zfind zk 0 40 = some (12, 0) := by decide +kernel
theorem zK_0_44 : zfind zk 0 44 = some (13, 0) := by decide +kernel
theorem zK_0_48 : zfind zk 0 48 = some (14, 0) := by decide +kernel
theorem zK_10_90 : zfind zk 10 90 = some (31, 0) := by decide +kernel
theorem zK_5_52 : zfind zk 5 52 = some (4, 0) := by decide +kernel
theorem zK_5_56 : zfind zk 5 56 = some (32, 0) := by decide +kernel
theorem zK_5_239 : zfind zk 5 239 = some (5, 0) := by decide +kernel
theorem zK_10_58 : zfind zk 10 58 = some (42, 0) := by decide +kernel
theorem zK_5_77 : zfind zk 5 77 = some (39, 0) := by decide +kernel
theorem zK_5_67 : zfind zk 5 67 = some (36, 0) := by decide +kernel
theorem zK_5_87 : zfind zk 5 87 = some (43, 0) := by decide +kernel
theorem zK_4_21 : zfind zk 4 21 = some (44, 0) := by decide +kernel
theorem zK_4_25 : zfind zk 4 25 = some (45, 0) := by decide +kernel
theorem zK_4_33 : zfind zk 4 33 = some (46, 0) := by decide +kernel
theorem zK_5_96 : zfind zk 5 96 = some (47, 0) := by decide +kernel
theorem zK_10_111 : zfind zk 10 111 = some (19, 0) := by decide +kernel
theorem zK_5_129 : zfind zk 5 129 = some (20, 0) := by decide +kernel
theorem zK_10_27 : zfind zk 10 27 = some (21, 0) := by decide +kernel
theorem zK_10_86 : zfind zk 10 86 = some (89, 0) := by decide +kernel
theorem zK_5_62 : zfind zk 5 62 = some (35, 0) := by decide +kernel
theorem zK_5_107 : zfind zk 5 107 = some (23, 0) := by decide +kernel
theorem zK_5_161 : zfind zk 5 161 = some (79, 0) := by decide +kernel
theorem zK_10_71 : zfind zk 10 71 = some (22, 0) := by decide +kernel
theorem zK_5_166 : zfind zk 5 166 = some (24, 0) := by decide +kernel
theorem zK_0_81 : zfind zk 0 81 = some (26, 0) := by decide +kernel
theorem zK_0_68 : zfind zk 0 68 = some (28, 0) := by decide +kernel
theorem zK_0_78 : zfind zk 0 78 = some (29, 0) := by decide +kernel
theorem zK_0_84 : zfind zk 0 84 = some (27, 0) := by decide +kernel
theorem zK_0_65 : zfind zk 0 65 = some (25, 0) := by decide +kernel
theorem zK_10_48 : zfind zk 10 48 = some (82, 0) := by decide +kernel
theorem zK_5_184 : zfind zk 5 184 = some (17, 0) := by decide +kernel
theorem zK_1_58 : zfind zk 1 58 = some (18, 0) := by decide +kernel
theorem zK_10_62 : zfind zk 10 62 = some (16, 0) := by decide +kernel
theorem zK_10_44 : zfind zk 10 44 = some (61, 0) := by decide +kernel
theorem zK_5_196 : zfind zk 5 196 = some (62, 0) := by decide +kernel
theorem zK_5_200 : zfind zk 5 200 = some (63, 0) := by decide +kernel
theorem zK_5_114 : zfind zk 5 114 = some (28, 0) := by decide +kernel
theorem zK_5_203 : zfind zk 5 203 = some (64, 0) := by decide +kernel
theorem zK_5_206 : zfind zk 5 206 = some (65, 0) := by decide +kernel
theorem zK_5_119 : zfind zk 5 119 = some (66, 0) := by decide +kernel
theorem zK_5_242 : zfind zk 5 242 = some (67, 0) := by decide +kernel
theorem zK_5_245 : zfind zk 5 245 = some (68, 0) := by decide +kernel
theorem zK_2_24 : zfind zk 2 24 = some (69, 0) := by decide +kernel
theorem zK_5_122 : zfind zk 5 122 = some (70, 0) := by decide +kernel
theorem zK_5_219 : zfind zk 5 219 = some (71, 0) := by decide +kernel
theorem zK_5_126 : zfind zk 5 126 = some (72, 0) := by decide +kernel
theorem zK_5_222 : zfind zk 5 222 = some (19, 0) := by decide +kernel
theorem zK_5_225 : zfind zk 5 225 = some (73, 0) := by decide +kernel
theorem zK_5_132 : zfind zk 5 132 = some (74, 0) := by decide +kernel
theorem zK_2_37 : zfind zk 2 37 = some (72, 0) := by decide +kernel
theorem zK_2_41 : zfind zk 2 41 = some (75, 0) := by decide +kernel
theorem zK_2_45 : zfind zk 2 45 = some (76, 0) := by decide +kernel
theorem zK_5_210 : zfind zk 5 210 = some (21, 0) := by decide +kernel
theorem zK_5_213 : zfind zk 5 213 = some (49, 0) := by decide +kernel
theorem zK_5_146 : zfind zk 5 146 = some (50, 0) := by decide +kernel
theorem zK_0_61 : zfind zk 0 61 = some (51, 0) := by decide +kernel
theorem zK_0_71 : zfind zk 0 71 = some (52, 0) := by decide +kernel
theorem zK_0_75 : zfind zk 0 75 = some (53, 0) := by decide +kernel
theorem zK_5_143 : zfind zk 5 143 = some (54, 0) := by decide +kernel
theorem zK_0_52 : zfind zk 0 52 = some (56, 0) := by decide +kernel
theorem zK_0_56 : zfind zk 0 56 = some (55, 0) := by decide +kernel
theorem zK_5_216 : zfind zk 5 216 = some (77, 0) := by decide +kernel
theorem zK_5_228 : zfind zk 5 228 = some (22, 0) := by decide +kernel
theorem zK_5_231 : zfind zk 5 231 = some (78, 0) := by decide +kernel
theorem zK_5_234 : zfind zk 5 234 = some (80, 0) := by decide +kernel
theorem zK_5_169 : zfind zk 5 169 = some (81, 0) := by decide +kernel
theorem zK_5_180 : zfind zk 5 180 = some (51, 0) := by decide +kernel
theorem zK_10_114 : zfind zk 10 114 = some (30, 0) := by decide +kernel
theorem zK_10_104 : zfind zk 10 104 = some (15, 0) := by decide +kernel
theorem zK_10_118 : zfind zk 10 118 = some (33, 0) := by decide +kernel
theorem zK_10_9 : zfind zk 10 9 = some (34, 0) := by decide +kernel
theorem zK_10_17 : zfind zk 10 17 = some (37, 0) := by decide +kernel
theorem zK_10_20 : zfind zk 10 20 = some (38, 0) := by decide +kernel
theorem zK_10_23 : zfind zk 10 23 = some (40, 0) := by decide +kernel
theorem zK_10_122 : zfind zk 10 122 = some (41, 0) := by decide +kernel
theorem zK_10_125 : zfind zk 10 125 = some (48, 0) := by decide +kernel
theorem zK_10_31 : zfind zk 10 31 = some (49, 0) := by decide +kernel
theorem zK_10_36 : zfind zk 10 36 = some (57, 0) := by decide +kernel
theorem zK_5_137 : zfind zk 5 137 = some (58, 0) := by decide +kernel
theorem zK_5_140 : zfind zk 5 140 = some (56, 0) := by decide +kernel
theorem zK_10_41 : zfind zk 10 41 = some (59, 0) := by decide +kernel
theorem zK_10_129 : zfind zk 10 129 = some (60, 0) := by decide +kernel
theorem zK_10_51 : zfind zk 10 51 = some (73, 0) := by decide +kernel
theorem zK_10_54 : zfind zk 10 54 = some (71, 0) := by decide +kernel
theorem zK_10_65 : zfind zk 10 65 = some (83, 0) := by decide +kernel
theorem zK_10_136 : zfind zk 10 136 = some (91, 0) := by decide +kernel
theorem zK_10_68 : zfind zk 10 68 = some (86, 0) := by decide +kernel
theorem zK_10_74 : zfind zk 10 74 = some (63, 0) := by decide +kernel
theorem zK_10_77 : zfind zk 10 77 = some (90, 0) := by decide +kernel
theorem zK_5_172 : zfind zk 5 172 = some (11, 0) := by decide +kernel
theorem zK_5_176 : zfind zk 5 176 = some (52, 0) := by decide +kernel
theorem zK_10_80 : zfind zk 10 80 = some (80, 0) := by decide +kernel
theorem zK_10_83 : zfind zk 10 83 = some (78, 0) := by decide +kernel
theorem zK_10_133 : zfind zk 10 133 = some (84, 0) := by decide +kernel
theorem zK_10_93 : zfind zk 10 93 = some (64, 0) := by decide +kernel
theorem zK_10_96 : zfind zk 10 96 = some (85, 0) := by decide +kernel
theorem zK_10_100 : zfind zk 10 100 = some (87, 0) := by decide +kernel
theorem zK_5_149 : zfind zk 5 149 = some (88, 0) := by decide +kernel
theorem zO_5_1 : zfind zo 5 1 = some () := by decide +kernel
theorem zO_1_3 : zfind zo 1 3 = some () := by decide +kernel
theorem zO_4_3 : zfind zo 4 3 = some () := by decide +kernel
theorem zO_0_3 : zfind zo 0 3 = some () := by decide +kernel
theorem zO_2_3 : zfind zo 2 3 = some () := by decide +kernel
theorem zO_3_3 : zfind zo 3 3 = some () := by decide +kernel
theorem zY_1_52 : zfind zy 1 52 = some () := by decide +kernel
theorem zY_4_37 : zfind zy 4 37 = some () := by decide +kernel
theorem zN_10_10 : zfind zn 10 10 = some 5 := by decide +kernel
theorem zN_5_7 : zfind zn 5 7 = some 1 := by decide +kernel
theorem zN_5_16 : zfind zn 5 16 = some 0 := by decide +kernel
theorem zN_5_23 : zfind zn 5 23 = some 2 := by decide +kernel
theorem zN_5_30 : zfind zn 5 30 = some 3 := by decide +kernel
theorem zN_1_25 : zfind zn 1 25 = some 4 := by decide +kernel
theorem zC_10_110 : zfind zc 10 110 = some (-1000003) := by decide +kernel
theorem zC_5_66 : zfind zc 5 66 = some (-1000001) := by decide +kernel
theorem zC_5_157 : zfind zc 5 157 = some (-1000003) := by decide +kernel
theorem zC_5_118 : zfind zc 5 118 = some (-1000005) := by decide +kernel
theorem zC_10_7 : zfind zc 10 7 = some (15562471) := by decide +kernel
theorem zC_10_8 : zfind zc 10 8 = some (2147483647) := by decide +kernel
theorem zC_5_47 : zfind zc 5 47 = some (-1000002) := by decide +kernel
theorem zC_10_15 : zfind zc 10 15 = some (-1000002) := by decide +kernel
theorem zC_10_16 : zfind zc 10 16 = some (-1000001) := by decide +kernel
theorem zC_5_100 : zfind zc 5 100 = some (-1000004) := by decide +kernel
theorem zC_10_57 : zfind zc 10 57 = some (-1000005) := by decide +kernel
theorem zC_2_44 : zfind zc 2 44 = some (-1000005) := by decide +kernel
theorem zC_7_265 : zfind zc 7 265 = some (1431655765) := by decide +kernel
theorem zC_7_266 : zfind zc 7 266 = some (858993459) := by decide +kernel
theorem zC_7_267 : zfind zc 7 267 = some (252645135) := by decide +kernel
theorem zJ_10_34 : zfind zj 10 34 = some (-1) := by decide +kernel
theorem zJ_10_39 : zfind zj 10 39 = some (8) := by decide +kernel
theorem zJ_5_194 : zfind zj 5 194 = some (137) := by decide +kernel
theorem zJ_5_237 : zfind zj 5 237 = some (31) := by decide +kernel
theorem zS_2_30 : zfind zs 2 30 = some (0, 6) := by decide +kernel
theorem zS_2_34 : zfind zs 2 34 = some (1, 6) := by decide +kernel
theorem zO_10_103 : zfind zo 10 103 = none := by decide +kernel
theorem zO_5_9 : zfind zo 5 9 = none := by decide +kernel
theorem zO_1_27 : zfind zo 1 27 = none := by decide +kernel
theorem zO_5_18 : zfind zo 5 18 = none := by decide +kernel
theorem zO_5_25 : zfind zo 5 25 = none := by decide +kernel
theorem zO_5_32 : zfind zo 5 32 = none := by decide +kernel
theorem zY_0_40 : zfind zy 0 40 = none := by decide +kernel
theorem zY_5_77 : zfind zy 5 77 = none := by decide +kernel
theorem zY_5_67 : zfind zy 5 67 = none := by decide +kernel
theorem zY_5_161 : zfind zy 5 161 = none := by decide +kernel
theorem zY_0_84 : zfind zy 0 84 = none := by decide +kernel
theorem zY_0_65 : zfind zy 0 65 = none := by decide +kernel
theorem zY_5_196 : zfind zy 5 196 = none := by decide +kernel
theorem zY_2_24 : zfind zy 2 24 = none := by decide +kernel
theorem zY_2_45 : zfind zy 2 45 = none := by decide +kernel
theorem zY_0_56 : zfind zy 0 56 = none := by decide +kernel
theorem zY_10_114 : zfind zy 10 114 = none := by decide +kernel
theorem zY_10_104 : zfind zy 10 104 = none := by decide +kernel
theorem zY_10_118 : zfind zy 10 118 = none := by decide +kernel
theorem zY_10_122 : zfind zy 10 122 = none := by decide +kernel
theorem zY_10_125 : zfind zy 10 125 = none := by decide +kernel
theorem zY_10_129 : zfind zy 10 129 = none := by decide +kernel
theorem zY_10_136 : zfind zy 10 136 = none := by decide +kernel
theorem zY_10_133 : zfind zy 10 133 = none := by decide +kernel
theorem zM_0 : zmg 0 = (5, yX5_init, cX5_init, 1, none, 0, 2) := rfl
theorem zM_1 : zmg 1 = (99, objectInit, ⟨#[0xb1]⟩, 1, none, 0, 2) := rfl
theorem zM_2 : zmg 2 = (1, yX1_init, cX1_init, 1, none, 0, 2) := rfl
theorem zM_3 : zmg 3 = (4, yX4_init, cX4_init, 1, none, 0, 2) := rfl
theorem zM_4 : zmg 4 = (1, yX1_begin, cX1_begin, 3, none, 1, 0) := rfl
theorem zM_5 : zmg 5 = (1, yX1_dropChoice, cX1_dropChoice, 1, none, 0, 0) := rfl
theorem zM_6 : zmg 6 = (1, yX1_all, cX1_all, 1, (some .int), 0, 0) := rfl
theorem zM_7 : zmg 7 = (0, yX0_init, cX0_init, 1, none, 0, 2) := rfl
theorem zM_8 : zmg 8 = (2, yX2_init, cX2_init, 1, none, 0, 2) := rfl
theorem zM_9 : zmg 9 = (3, yX3_init, cX3_init, 1, none, 0, 2) := rfl
theorem zM_10 : zmg 10 = (0, yX0_layOut, cX0_layOut, 2, none, 1, 0) := rfl
theorem zM_11 : zmg 11 = (1, yX1_slots, cX1_slots, 1, (some .int), 0, 0) := rfl
theorem zM_12 : zmg 12 = (0, yX0_extend, cX0_extend, 6, none, 4, 1) := rfl
theorem zM_13 : zmg 13 = (0, yX0_enter, cX0_enter, 5, none, 1, 0) := rfl
theorem zM_14 : zmg 14 = (1, yX1_lowSlot, cX1_lowSlot, 2, (some .int), 1, 0) := rfl
theorem zM_15 : zmg 15 = (10, yL_begins, cL_begins, 4, none, 3, 1) := rfl
theorem zM_16 : zmg 16 = (5, yX5_restore, cX5_restore, 2, (some .int), 1, 0) := rfl
theorem zM_17 : zmg 17 = (1, yX1_takeOver, cX1_takeOver, 2, none, 1, 0) := rfl
theorem zM_18 : zmg 18 = (4, yX4_takeOver, cX4_takeOver, 2, none, 1, 0) := rfl
theorem zM_19 : zmg 19 = (5, yX5_isMirrored, cX5_isMirrored, 1, (some .int), 0, 0) := rfl
theorem zM_20 : zmg 20 = (1, yX1_looksTheSameFromBehind, cX1_looksTheSameFromBehind, 3, (some .boolean), 0, 0) := rfl
theorem zM_21 : zmg 21 = (5, yX5_orders, cX5_orders, 1, (some .int), 0, 0) := rfl
theorem zM_22 : zmg 22 = (5, yX5_longestGap, cX5_longestGap, 1, (some .int), 0, 0) := rfl
theorem zM_23 : zmg 23 = (5, yX5_isChosen, cX5_isChosen, 1, (some .boolean), 0, 0) := rfl
theorem zM_24 : zmg 24 = (0, yX0_gap, cX0_gap, 5, (some .int), 2, 0) := rfl
theorem zM_25 : zmg 25 = (8, Lib.Math.max.name, Lib.Math.max.code, 2, (some .int), 2, 1) := rfl
theorem zM_26 : zmg 26 = (0, yX0_gapBehind, cX0_gapBehind, 6, (some .int), 3, 0) := rfl
theorem zM_27 : zmg 27 = (8, Lib.Math.min.name, Lib.Math.min.code, 2, (some .int), 2, 1) := rfl
theorem zM_28 : zmg 28 = (0, yX0_slotOf, cX0_slotOf, 3, (some .int), 2, 0) := rfl
theorem zM_29 : zmg 29 = (0, yX0_slotsFrom, cX0_slotsFrom, 3, (some .int), 2, 0) := rfl
theorem zM_30 : zmg 30 = (10, yL_cell, cL_cell, 2, (some .int), 2, 1) := rfl
theorem zM_31 : zmg 31 = (5, yX5_setCylinders, cX5_setCylinders, 3, (some .int), 1, 0) := rfl
theorem zM_32 : zmg 32 = (5, yX5_firingsChanged, cX5_firingsChanged, 1, none, 0, 0) := rfl
theorem zM_33 : zmg 33 = (10, yL_sets, cL_sets, 7, (some .boolean), 4, 1) := rfl
theorem zM_34 : zmg 34 = (5, yX5_setThrow, cX5_setThrow, 4, (some .int), 2, 0) := rfl
theorem zM_35 : zmg 35 = (5, yX5_isNoCylinder, cX5_isNoCylinder, 2, (some .boolean), 1, 0) := rfl
theorem zM_36 : zmg 36 = (5, yX5_isNoTurn, cX5_isNoTurn, 1, (some .boolean), 1, 1) := rfl
theorem zM_37 : zmg 37 = (5, yX5_setMass, cX5_setMass, 4, (some .int), 2, 0) := rfl
theorem zM_38 : zmg 38 = (5, yX5_setPlace, cX5_setPlace, 4, (some .int), 2, 0) := rfl
theorem zM_39 : zmg 39 = (5, yX5_isNoPlace, cX5_isNoPlace, 1, (some .boolean), 1, 1) := rfl
theorem zM_40 : zmg 40 = (5, yX5_setStrokes, cX5_setStrokes, 3, (some .int), 1, 0) := rfl
theorem zM_41 : zmg 41 = (10, yL_spreads, cL_spreads, 11, (some .boolean), 4, 1) := rfl
theorem zM_42 : zmg 42 = (5, yX5_setWeight, cX5_setWeight, 5, (some .int), 3, 0) := rfl
theorem zM_43 : zmg 43 = (4, yX4_remove, cX4_remove, 5, none, 2, 0) := rfl
theorem zM_44 : zmg 44 = (4, yX4_rankOf, cX4_rankOf, 5, (some .int), 2, 0) := rfl
theorem zM_45 : zmg 45 = (4, yX4_standsAt, cX4_standsAt, 4, (some .boolean), 3, 0) := rfl
theorem zM_46 : zmg 46 = (4, yX4_copyWithin, cX4_copyWithin, 3, none, 2, 0) := rfl
theorem zM_47 : zmg 47 = (4, yX4_put, cX4_put, 6, (some .boolean), 3, 0) := rfl
theorem zM_48 : zmg 48 = (10, yL_sound, cL_sound, 12, (some .boolean), 2, 1) := rfl
theorem zM_49 : zmg 49 = (5, yX5_bestOrder, cX5_bestOrder, 5, (some .int), 0, 0) := rfl
theorem zM_50 : zmg 50 = (0, yX0_greatestLoad, cX0_greatestLoad, 4, (some .int), 1, 0) := rfl
theorem zM_51 : zmg 51 = (0, yX0_peakOf, cX0_peakOf, 7, (some .int), 3, 0) := rfl
theorem zM_52 : zmg 52 = (0, yX0_loadOf, cX0_loadOf, 5, (some .int), 4, 0) := rfl
theorem zM_53 : zmg 53 = (0, yX0_shareOf, cX0_shareOf, 6, (some .int), 4, 0) := rfl
theorem zM_54 : zmg 54 = (0, yX0_penalty, cX0_penalty, 6, (some .int), 1, 0) := rfl
theorem zM_55 : zmg 55 = (8, Lib.Math.abs.name, Lib.Math.abs.code, 1, (some .int), 1, 1) := rfl
theorem zM_56 : zmg 56 = (0, yX0_cylinderAt, cX0_cylinderAt, 3, (some .int), 2, 0) := rfl
theorem zM_57 : zmg 57 = (5, yX5_order, cX5_order, 3, (some .int), 2, 0) := rfl
theorem zM_58 : zmg 58 = (5, yX5_isNoOrder, cX5_isNoOrder, 2, (some .boolean), 1, 0) := rfl
theorem zM_59 : zmg 59 = (5, yX5_orderCost, cX5_orderCost, 3, (some .int), 2, 0) := rfl
theorem zM_60 : zmg 60 = (10, yL_balances, cL_balances, 9, (some .boolean), 3, 1) := rfl
theorem zM_61 : zmg 61 = (5, yX5_checksum, cX5_checksum, 5, (some .long), 0, 0) := rfl
theorem zM_62 : zmg 62 = (5, yX5_mix, cX5_mix, 4, (some .long), 2, 1) := rfl
theorem zM_63 : zmg 63 = (5, yX5_cylinder, cX5_cylinder, 3, (some .int), 2, 0) := rfl
theorem zM_64 : zmg 64 = (5, yX5_weight, cX5_weight, 4, (some .int), 2, 0) := rfl
theorem zM_65 : zmg 65 = (5, yX5_mixBalance, cX5_mixBalance, 6, (some .long), 1, 0) := rfl
theorem zM_66 : zmg 66 = (5, yX5_addUp, cX5_addUp, 7, none, 1, 0) := rfl
theorem zM_67 : zmg 67 = (2, yX2_clear, cX2_clear, 1, none, 0, 0) := rfl
theorem zM_68 : zmg 68 = (2, yX2_add, cX2_add, 5, none, 2, 0) := rfl
theorem zM_69 : zmg 69 = (8, yJ9_floorMod_7cf53, cJ9_floorMod_7cf53, 3, (some .int), 2, 1) := rfl
theorem zM_70 : zmg 70 = (2, yX2_part, cX2_part, 3, (some .int), 2, 0) := rfl
theorem zM_71 : zmg 71 = (5, yX5_balanced, cX5_balanced, 3, (some .int), 0, 0) := rfl
theorem zM_72 : zmg 72 = (2, yX2_isZero, cX2_isZero, 1, (some .boolean), 0, 0) := rfl
theorem zM_73 : zmg 73 = (5, yX5_counterWeight, cX5_counterWeight, 1, (some .int), 0, 0) := rfl
theorem zM_74 : zmg 74 = (2, yX2_counter, cX2_counter, 4, (some .int), 1, 0) := rfl
theorem zM_75 : zmg 75 = (2, yX2_massAgainst, cX2_massAgainst, 8, (some .int), 2, 0) := rfl
theorem zM_76 : zmg 76 = (2, yX2_quotient, cX2_quotient, 2, (some .int), 2, 1) := rfl
theorem zM_77 : zmg 77 = (5, yX5_mixChosen, cX5_mixChosen, 6, (some .long), 1, 0) := rfl
theorem zM_78 : zmg 78 = (5, yX5_bestOff, cX5_bestOff, 5, (some .int), 0, 0) := rfl
theorem zM_79 : zmg 79 = (7, yJ6_bitCount_0f7a4, cJ6_bitCount_0f7a4, 1, (some .int), 1, 1) := rfl
theorem zM_80 : zmg 80 = (5, yX5_peak, cX5_peak, 2, (some .int), 1, 0) := rfl
theorem zM_81 : zmg 81 = (5, yX5_isNoBearing, cX5_isNoBearing, 2, (some .boolean), 1, 0) := rfl
theorem zM_82 : zmg 82 = (5, yX5_save, cX5_save, 2, (some .int), 1, 0) := rfl
theorem zM_83 : zmg 83 = (5, yX5_counterPair, cX5_counterPair, 3, (some .int), 2, 0) := rfl
theorem zM_84 : zmg 84 = (10, yL_refuses, cL_refuses, 5, (some .boolean), 2, 1) := rfl
theorem zM_85 : zmg 85 = (5, yX5_vector, cX5_vector, 4, (some .int), 3, 0) := rfl
theorem zM_86 : zmg 86 = (5, yX5_choose, cX5_choose, 2, (some .int), 1, 0) := rfl
theorem zM_87 : zmg 87 = (5, yX5_append, cX5_append, 2, (some .int), 1, 0) := rfl
theorem zM_88 : zmg 88 = (3, yX3_put, cX3_put, 2, (some .boolean), 1, 0) := rfl
theorem zM_89 : zmg 89 = (5, yX5_turn, cX5_turn, 3, (some .int), 2, 0) := rfl
theorem zM_90 : zmg 90 = (5, yX5_load, cX5_load, 3, (some .int), 2, 0) := rfl
theorem zM_91 : zmg 91 = (10, yL_fires, cL_fires, 14, (some .boolean), 5, 1) := rfl
