/-! ===== Firings: reads ===== -/
/-- a load, so many slots behind -/
def zsh (k : Nat) : Nat := if k < 4 then 8 / 2 ^ k else 0
/-- slots from a to b around the cycle -/
def zfrom (cy a b : Nat) : Nat := if a ≤ b then b - a else b + cy - a
/-- what cylinder j gives in slot s -/
def zsr (cy n om : Nat) (sl : Nat → Nat) (j s : Nat) : Nat := if j < n ∧ om.testBit j = true then zsh (zfrom cy (sl j) s) else 0
def zld2 (cy n om : Nat) (sl : Nat → Nat) (b s : Nat) : Nat := (if b = 0 then 0 else zsr cy n om sl (b - 1) s) + zsr cy n om sl b s
theorem zsh_le (k : Nat) : zsh k ≤ 8 := by
  unfold zsh
  split
  · exact Nat.div_le_self _ _
  · omega
theorem zsr_le {cy n om : Nat} {sl : Nat → Nat} {j s : Nat} : zsr cy n om sl j s ≤ 8 := by
  unfold zsr
  split
  · exact zsh_le _
  · omega
theorem zix8 (o k : Nat) : nI o * 8 + nI k = nI (8 * o + k) := by
  rw [show (8 : Int32) = nI 8 from rfl, pk_mul, nI_add, Nat.mul_comm]
section
variable {fz : zFz} {L : Nat} {xs : Nat → Int32} {d : Nat} {se : List zSh} {M : zMm} {st : zS} {Q : Option Value → zS → Prop}
set_option maxHeartbeats 4000000 in
set_option maxRecDepth 100000 in
theorem s_X0_cylinderAt {x y : Int32} {o k : Nat} (hx : x = nI o) (hy : y = nI k) (ho : o < 8) (hk : k < 8) (h : Q (some (.int (M 11 (8 * o + k)))) (SG se, M)) : zcl fz (d + 1) 56 [.ref 9, .int x, .int y] (SG se, M) Q := by
  subst hx hy
  refine zcl_intro zM_56 (by rw [zmL_len]; decide) (by decide) rfl (Nat.le_of_ble_eq_true rfl) ?_
  refine zx_ok [] 300 ?_; simp only [zx_step, zxd_ok, zxo_1, zxo_2, zxo_3, zxo_4, zxo_5, zone, zstep, zild, zlld, zald, zist, zast, zlst, ziinc, zbin, zun, zbinL, zdup, zdup2, zpop1, ztgt, zbr, zcm, zif0, zif2, ztsw, zlsw, zlen, zgetf, zputf, zgets, zxald, zxast, zlenA, zokI, zokB, zarr, zcallK, zstat, zspec, zcopy, zretI, zretL, zretV, zwide, zisO, znewa, znew, zatp, zinit, zent, zf4_0, zf4_1, zf4_2, zf4_3, true_and, and_true, or_true, true_or, or_false, false_or, and_false, false_and, Classical.not_not, not_false_eq_true, not_true_eq_false, ne_eq, List.not_mem_nil, List.mem_cons, ↓reduceIte, ite_true, ite_false, List.getElem?_cons_zero, List.getElem?_cons_succ, List.set_cons_zero, List.set_cons_succ, List.length_cons, List.length_nil, List.take_succ_cons, List.take_zero, List.drop_succ_cons, List.drop_zero, List.reverse_cons, List.reverse_nil, List.nil_append, List.cons_append, List.append_nil, List.map_cons, List.map_nil, List.sum_cons, List.sum_nil, List.replicate_succ, List.replicate_zero, Value.category, Nat.reduceAdd, Nat.reduceSub, Nat.reduceMul, Nat.reduceLT, Nat.reduceLeDiff, Nat.reduceEqDiff, Nat.reduceBEq, Int.reduceAdd, Int.reduceSub, Int.reduceLE, Int.reduceLT, Int.reduceToNat, Int.reduceNeg, Int.reduceNegSucc, Int.cast_ofNat_Int, forall_const, imp_self, Option.toList_some, Option.toList_none, zrt_i, zrt_l, zrt_v, zrt_b, eq_self, nI_1, zfz_0, zfz_1, zfz_2, zl2_0, SH_0, SH_1, SH_2, SH_3, SH_4, SH_5, SH_6, SH_7, SH_8, SH_9, SH_10, SH_11, SH_12, SH_13, SH_14, SH_15, SH_16, SH_17, SH_18, SH_19, SH_20, SH_21, SH_22, SH_23, SH_24, SH_25, SH_26, SH_27, SH_28, SH_29, SH_30, SH_31, SH_32, SH_33, b8_m101, b8_m100, b8_m8, b8_6, b8_7, b8_8, b8_9, b8_10, b8_12, b8_16, b8_24, b8_30, b8_40, b8_63, b8_64, b8_99, b8_100, b8_101, b8_127, b16_128, b16_200, b16_201, b16_439, b16_999, b16_1000, b16_12000, bi_m1, bi_0, bi_1, bi_2, bi_3, bi_4, bi_5, dX0_cylinderAt_0, dX0_cylinderAt_1, dX0_cylinderAt_4, dX0_cylinderAt_5, dX0_cylinderAt_7, dX0_cylinderAt_8, dX0_cylinderAt_9, dX0_cylinderAt_10, dX0_cylinderAt_11, zF_0_15]; try simp only [zup_at, zupd_at, bx_uu, Nat.reduceEqDiff, ↓reduceIte]
  simp (disch := omega) only [zix8, nI_toInt, Int.toNat_natCast]
  exact ⟨⟨by omega, by omega⟩, h⟩
set_option maxHeartbeats 4000000 in
set_option maxRecDepth 100000 in
theorem s_X0_slotOf {x y : Int32} {o k : Nat} (hx : x = nI o) (hy : y = nI k) (ho : o < 8) (hk : k < 8) (h : Q (some (.int (M 12 (8 * o + k)))) (SG se, M)) : zcl fz (d + 1) 28 [.ref 9, .int x, .int y] (SG se, M) Q := by
  subst hx hy
  refine zcl_intro zM_28 (by rw [zmL_len]; decide) (by decide) rfl (Nat.le_of_ble_eq_true rfl) ?_
  refine zx_ok [] 300 ?_; simp only [zx_step, zxd_ok, zxo_1, zxo_2, zxo_3, zxo_4, zxo_5, zone, zstep, zild, zlld, zald, zist, zast, zlst, ziinc, zbin, zun, zbinL, zdup, zdup2, zpop1, ztgt, zbr, zcm, zif0, zif2, ztsw, zlsw, zlen, zgetf, zputf, zgets, zxald, zxast, zlenA, zokI, zokB, zarr, zcallK, zstat, zspec, zcopy, zretI, zretL, zretV, zwide, zisO, znewa, znew, zatp, zinit, zent, zf4_0, zf4_1, zf4_2, zf4_3, true_and, and_true, or_true, true_or, or_false, false_or, and_false, false_and, Classical.not_not, not_false_eq_true, not_true_eq_false, ne_eq, List.not_mem_nil, List.mem_cons, ↓reduceIte, ite_true, ite_false, List.getElem?_cons_zero, List.getElem?_cons_succ, List.set_cons_zero, List.set_cons_succ, List.length_cons, List.length_nil, List.take_succ_cons, List.take_zero, List.drop_succ_cons, List.drop_zero, List.reverse_cons, List.reverse_nil, List.nil_append, List.cons_append, List.append_nil, List.map_cons, List.map_nil, List.sum_cons, List.sum_nil, List.replicate_succ, List.replicate_zero, Value.category, Nat.reduceAdd, Nat.reduceSub, Nat.reduceMul, Nat.reduceLT, Nat.reduceLeDiff, Nat.reduceEqDiff, Nat.reduceBEq, Int.reduceAdd, Int.reduceSub, Int.reduceLE, Int.reduceLT, Int.reduceToNat, Int.reduceNeg, Int.reduceNegSucc, Int.cast_ofNat_Int, forall_const, imp_self, Option.toList_some, Option.toList_none, zrt_i, zrt_l, zrt_v, zrt_b, eq_self, nI_1, zfz_0, zfz_1, zfz_2, zl2_0, SH_0, SH_1, SH_2, SH_3, SH_4, SH_5, SH_6, SH_7, SH_8, SH_9, SH_10, SH_11, SH_12, SH_13, SH_14, SH_15, SH_16, SH_17, SH_18, SH_19, SH_20, SH_21, SH_22, SH_23, SH_24, SH_25, SH_26, SH_27, SH_28, SH_29, SH_30, SH_31, SH_32, SH_33, b8_m101, b8_m100, b8_m8, b8_6, b8_7, b8_8, b8_9, b8_10, b8_12, b8_16, b8_24, b8_30, b8_40, b8_63, b8_64, b8_99, b8_100, b8_101, b8_127, b16_128, b16_200, b16_201, b16_439, b16_999, b16_1000, b16_12000, bi_m1, bi_0, bi_1, bi_2, bi_3, bi_4, bi_5, dX0_slotOf_0, dX0_slotOf_1, dX0_slotOf_4, dX0_slotOf_5, dX0_slotOf_7, dX0_slotOf_8, dX0_slotOf_9, dX0_slotOf_10, dX0_slotOf_11, zF_0_18]; try simp only [zup_at, zupd_at, bx_uu, Nat.reduceEqDiff, ↓reduceIte]
  simp (disch := omega) only [zix8, nI_toInt, Int.toNat_natCast]
  exact ⟨⟨by omega, by omega⟩, h⟩
set_option maxHeartbeats 4000000 in
set_option maxRecDepth 100000 in
theorem s_X0_slotsFrom {x y : Int32} {a b cy : Nat} (hx : x = nI a) (hy : y = nI b) (ha : a < cy) (hb : b < 1000) (hcy : cy < 1000) (hM : M 9 2 = nI cy) (h : Q (some (.int (nI (zfrom cy a b)))) (SG se, M)) : zcl fz (d + 1) 29 [.ref 9, .int x, .int y] (SG se, M) Q := by
  subst hx hy
  refine zcl_intro zM_29 (by rw [zmL_len]; decide) (by decide) rfl (Nat.le_of_ble_eq_true rfl) ?_
  refine zx_ok [] 300 ?_; simp only [zx_step, zxd_ok, zxo_1, zxo_2, zxo_3, zxo_4, zxo_5, zone, zstep, zild, zlld, zald, zist, zast, zlst, ziinc, zbin, zun, zbinL, zdup, zdup2, zpop1, ztgt, zbr, zcm, zif0, zif2, ztsw, zlsw, zlen, zgetf, zputf, zgets, zxald, zxast, zlenA, zokI, zokB, zarr, zcallK, zstat, zspec, zcopy, zretI, zretL, zretV, zwide, zisO, znewa, znew, zatp, zinit, zent, zf4_0, zf4_1, zf4_2, zf4_3, true_and, and_true, or_true, true_or, or_false, false_or, and_false, false_and, Classical.not_not, not_false_eq_true, not_true_eq_false, ne_eq, List.not_mem_nil, List.mem_cons, ↓reduceIte, ite_true, ite_false, List.getElem?_cons_zero, List.getElem?_cons_succ, List.set_cons_zero, List.set_cons_succ, List.length_cons, List.length_nil, List.take_succ_cons, List.take_zero, List.drop_succ_cons, List.drop_zero, List.reverse_cons, List.reverse_nil, List.nil_append, List.cons_append, List.append_nil, List.map_cons, List.map_nil, List.sum_cons, List.sum_nil, List.replicate_succ, List.replicate_zero, Value.category, Nat.reduceAdd, Nat.reduceSub, Nat.reduceMul, Nat.reduceLT, Nat.reduceLeDiff, Nat.reduceEqDiff, Nat.reduceBEq, Int.reduceAdd, Int.reduceSub, Int.reduceLE, Int.reduceLT, Int.reduceToNat, Int.reduceNeg, Int.reduceNegSucc, Int.cast_ofNat_Int, forall_const, imp_self, Option.toList_some, Option.toList_none, zrt_i, zrt_l, zrt_v, zrt_b, eq_self, nI_1, zfz_0, zfz_1, zfz_2, zl2_0, SH_0, SH_1, SH_2, SH_3, SH_4, SH_5, SH_6, SH_7, SH_8, SH_9, SH_10, SH_11, SH_12, SH_13, SH_14, SH_15, SH_16, SH_17, SH_18, SH_19, SH_20, SH_21, SH_22, SH_23, SH_24, SH_25, SH_26, SH_27, SH_28, SH_29, SH_30, SH_31, SH_32, SH_33, b8_m101, b8_m100, b8_m8, b8_6, b8_7, b8_8, b8_9, b8_10, b8_12, b8_16, b8_24, b8_30, b8_40, b8_63, b8_64, b8_99, b8_100, b8_101, b8_127, b16_128, b16_200, b16_201, b16_439, b16_999, b16_1000, b16_12000, bi_m1, bi_0, bi_1, bi_2, bi_3, bi_4, bi_5, dX0_slotsFrom_0, dX0_slotsFrom_1, dX0_slotsFrom_2, dX0_slotsFrom_5, dX0_slotsFrom_6, dX0_slotsFrom_7, dX0_slotsFrom_8, dX0_slotsFrom_11, dX0_slotsFrom_12, dX0_slotsFrom_13, dX0_slotsFrom_14, dX0_slotsFrom_15, dX0_slotsFrom_18, dX0_slotsFrom_19, zF_0_35]; try simp only [zup_at, zupd_at, bx_uu, Nat.reduceEqDiff, ↓reduceIte]
  simp (disch := omega) only [nI_ltI, nI_leI, hM]
  unfold zfrom at h
  refine ⟨fun h1 => ?_, fun h1 => ?_⟩
  · rw [if_neg (by omega)] at h
    have e : nI b - nI a + nI cy = nI (b + cy - a) := by
      apply Int32.toInt_inj.mp
      rw [nI_toInt (by omega), fb_addI, pk_sub_toInt (by omega) (by omega), nI_toInt (by omega)]
      · omega
      · rw [pk_sub_toInt (by omega) (by omega), nI_toInt (by omega)]; omega
      · rw [pk_sub_toInt (by omega) (by omega), nI_toInt (by omega)]; omega
    rwa [e]
  · rw [if_pos (by omega)] at h
    rwa [pk_sub (by omega)]
set_option maxHeartbeats 4000000 in
set_option maxRecDepth 100000 in
theorem s_X0_shareOf {x v z w : Int32} {o om s cy n : Nat} {sl : Nat → Nat} {j : Int} (hx : x = nI o) (hv : v = nI om) (hz : z.toInt = j) (hw : w = nI s) (ho : o < 8) (hom : om < 256) (hs : s < cy) (hcy : cy < 1000) (hn : n ≤ 8) (h1 : M 9 1 = nI n) (h2 : M 9 2 = nI cy) (h3 : ∀ c, c < n → M 12 (8 * o + c) = nI (sl c) ∧ sl c < cy) (h : Q (some (.int (nI (if 0 ≤ j then zsr cy n om sl j.toNat s else 0)))) (SG se, M)) : zcl fz (d + 2) 53 [.ref 9, .int x, .int v, .int z, .int w] (SG se, M) Q := by
  subst hx hv hw
  refine zcl_intro zM_53 (by rw [zmL_len]; decide) (by decide) rfl (Nat.le_of_ble_eq_true rfl) ?_
  refine zx_ok [] 300 ?_; simp only [zx_step, zxd_ok, zxo_1, zxo_2, zxo_3, zxo_4, zxo_5, zone, zstep, zild, zlld, zald, zist, zast, zlst, ziinc, zbin, zun, zbinL, zdup, zdup2, zpop1, ztgt, zbr, zcm, zif0, zif2, ztsw, zlsw, zlen, zgetf, zputf, zgets, zxald, zxast, zlenA, zokI, zokB, zarr, zcallK, zstat, zspec, zcopy, zretI, zretL, zretV, zwide, zisO, znewa, znew, zatp, zinit, zent, zf4_0, zf4_1, zf4_2, zf4_3, true_and, and_true, or_true, true_or, or_false, false_or, and_false, false_and, Classical.not_not, not_false_eq_true, not_true_eq_false, ne_eq, List.not_mem_nil, List.mem_cons, ↓reduceIte, ite_true, ite_false, List.getElem?_cons_zero, List.getElem?_cons_succ, List.set_cons_zero, List.set_cons_succ, List.length_cons, List.length_nil, List.take_succ_cons, List.take_zero, List.drop_succ_cons, List.drop_zero, List.reverse_cons, List.reverse_nil, List.nil_append, List.cons_append, List.append_nil, List.map_cons, List.map_nil, List.sum_cons, List.sum_nil, List.replicate_succ, List.replicate_zero, Value.category, Nat.reduceAdd, Nat.reduceSub, Nat.reduceMul, Nat.reduceLT, Nat.reduceLeDiff, Nat.reduceEqDiff, Nat.reduceBEq, Int.reduceAdd, Int.reduceSub, Int.reduceLE, Int.reduceLT, Int.reduceToNat, Int.reduceNeg, Int.reduceNegSucc, Int.cast_ofNat_Int, forall_const, imp_self, Option.toList_some, Option.toList_none, zrt_i, zrt_l, zrt_v, zrt_b, eq_self, nI_1, zfz_0, zfz_1, zfz_2, zl2_0, SH_0, SH_1, SH_2, SH_3, SH_4, SH_5, SH_6, SH_7, SH_8, SH_9, SH_10, SH_11, SH_12, SH_13, SH_14, SH_15, SH_16, SH_17, SH_18, SH_19, SH_20, SH_21, SH_22, SH_23, SH_24, SH_25, SH_26, SH_27, SH_28, SH_29, SH_30, SH_31, SH_32, SH_33, b8_m101, b8_m100, b8_m8, b8_6, b8_7, b8_8, b8_9, b8_10, b8_12, b8_16, b8_24, b8_30, b8_40, b8_63, b8_64, b8_99, b8_100, b8_101, b8_127, b16_128, b16_200, b16_201, b16_439, b16_999, b16_1000, b16_12000, bi_m1, bi_0, bi_1, bi_2, bi_3, bi_4, bi_5, dX0_shareOf_0, dX0_shareOf_1, dX0_shareOf_4, dX0_shareOf_5, dX0_shareOf_6, dX0_shareOf_9, dX0_shareOf_12, dX0_shareOf_13, dX0_shareOf_14, dX0_shareOf_15, dX0_shareOf_16, dX0_shareOf_17, dX0_shareOf_20, dX0_shareOf_21, dX0_shareOf_22, dX0_shareOf_23, dX0_shareOf_24, dX0_shareOf_25, dX0_shareOf_26, dX0_shareOf_29, dX0_shareOf_31, dX0_shareOf_34, dX0_shareOf_36, dX0_shareOf_38, dX0_shareOf_39, dX0_shareOf_42, dX0_shareOf_44, dX0_shareOf_46, dX0_shareOf_47, dX0_shareOf_50, dX0_shareOf_51, zF_0_30, zK_0_68, zM_28, zK_0_78, zM_29]; try simp only [zup_at, zupd_at, bx_uu, Nat.reduceEqDiff, ↓reduceIte]
  have h0 : (¬ (0 ≤ j ∧ j < n)) → Q (some (.int 0)) (SG se, M) := by
    intro g
    have e : (if 0 ≤ j then zsr cy n om sl j.toNat s else 0) = 0 := by
      split
      · unfold zsr
        rw [if_neg (by omega)]
      · rfl
    rw [e] at h
    exact h
  refine ⟨fun g1 => ?_, fun g1 => ⟨fun g2 => ?_, fun g2 => ?_⟩⟩
  · refine h0 ?_
    rw [fa_lt, Int32.toInt_zero, hz] at g1
    omega
  · refine h0 ?_
    rw [h1, fa_le, hz, nI_toInt (by omega)] at g2
    omega
  · rw [h1, fa_le, hz, nI_toInt (by omega)] at g2
    have hz2 : z = nI j.toNat := by
      rw [fa_lt, Int32.toInt_zero, hz] at g1
      apply Int32.toInt_inj.mp
      rw [nI_toInt (by omega), hz]
      omega
    rw [fa_lt, Int32.toInt_zero, hz] at g1
    have hj : j.toNat < 8 := by omega
    rw [hz2, zbit om hom _ hj]
    have hj0 : 0 ≤ j := by omega
    rw [if_pos hj0] at h
    refine ⟨fun g3 => ?_, fun g3 => ?_⟩
    · have hb : om.testBit j.toNat = true := by
        by_cases q : om.testBit j.toNat = true
        · exact q
        · rw [if_neg q] at g3
          exact absurd rfl g3
      unfold zsr at h
      rw [if_pos ⟨by omega, hb⟩] at h
      obtain ⟨e1, e2⟩ := h3 j.toNat (by omega)
      refine s_X0_slotOf rfl rfl ho (by omega) ?_
      refine zx_ok [] 300 ?_; simp only [zx_step, zxd_ok, zxo_1, zxo_2, zxo_3, zxo_4, zxo_5, zone, zstep, zild, zlld, zald, zist, zast, zlst, ziinc, zbin, zun, zbinL, zdup, zdup2, zpop1, ztgt, zbr, zcm, zif0, zif2, ztsw, zlsw, zlen, zgetf, zputf, zgets, zxald, zxast, zlenA, zokI, zokB, zarr, zcallK, zstat, zspec, zcopy, zretI, zretL, zretV, zwide, zisO, znewa, znew, zatp, zinit, zent, zf4_0, zf4_1, zf4_2, zf4_3, true_and, and_true, or_true, true_or, or_false, false_or, and_false, false_and, Classical.not_not, not_false_eq_true, not_true_eq_false, ne_eq, List.not_mem_nil, List.mem_cons, ↓reduceIte, ite_true, ite_false, List.getElem?_cons_zero, List.getElem?_cons_succ, List.set_cons_zero, List.set_cons_succ, List.length_cons, List.length_nil, List.take_succ_cons, List.take_zero, List.drop_succ_cons, List.drop_zero, List.reverse_cons, List.reverse_nil, List.nil_append, List.cons_append, List.append_nil, List.map_cons, List.map_nil, List.sum_cons, List.sum_nil, List.replicate_succ, List.replicate_zero, Value.category, Nat.reduceAdd, Nat.reduceSub, Nat.reduceMul, Nat.reduceLT, Nat.reduceLeDiff, Nat.reduceEqDiff, Nat.reduceBEq, Int.reduceAdd, Int.reduceSub, Int.reduceLE, Int.reduceLT, Int.reduceToNat, Int.reduceNeg, Int.reduceNegSucc, Int.cast_ofNat_Int, forall_const, imp_self, Option.toList_some, Option.toList_none, zrt_i, zrt_l, zrt_v, zrt_b, eq_self, nI_1, zfz_0, zfz_1, zfz_2, zl2_0, SH_0, SH_1, SH_2, SH_3, SH_4, SH_5, SH_6, SH_7, SH_8, SH_9, SH_10, SH_11, SH_12, SH_13, SH_14, SH_15, SH_16, SH_17, SH_18, SH_19, SH_20, SH_21, SH_22, SH_23, SH_24, SH_25, SH_26, SH_27, SH_28, SH_29, SH_30, SH_31, SH_32, SH_33, b8_m101, b8_m100, b8_m8, b8_6, b8_7, b8_8, b8_9, b8_10, b8_12, b8_16, b8_24, b8_30, b8_40, b8_63, b8_64, b8_99, b8_100, b8_101, b8_127, b16_128, b16_200, b16_201, b16_439, b16_999, b16_1000, b16_12000, bi_m1, bi_0, bi_1, bi_2, bi_3, bi_4, bi_5, dX0_shareOf_0, dX0_shareOf_1, dX0_shareOf_4, dX0_shareOf_5, dX0_shareOf_6, dX0_shareOf_9, dX0_shareOf_12, dX0_shareOf_13, dX0_shareOf_14, dX0_shareOf_15, dX0_shareOf_16, dX0_shareOf_17, dX0_shareOf_20, dX0_shareOf_21, dX0_shareOf_22, dX0_shareOf_23, dX0_shareOf_24, dX0_shareOf_25, dX0_shareOf_26, dX0_shareOf_29, dX0_shareOf_31, dX0_shareOf_34, dX0_shareOf_36, dX0_shareOf_38, dX0_shareOf_39, dX0_shareOf_42, dX0_shareOf_44, dX0_shareOf_46, dX0_shareOf_47, dX0_shareOf_50, dX0_shareOf_51, zF_0_30, zK_0_68, zM_28, zK_0_78, zM_29]; try simp only [zup_at, zupd_at, bx_uu, Nat.reduceEqDiff, ↓reduceIte]
      refine s_X0_slotsFrom e1 rfl e2 (by omega) hcy h2 ?_
      refine zx_ok [] 300 ?_; simp only [zx_step, zxd_ok, zxo_1, zxo_2, zxo_3, zxo_4, zxo_5, zone, zstep, zild, zlld, zald, zist, zast, zlst, ziinc, zbin, zun, zbinL, zdup, zdup2, zpop1, ztgt, zbr, zcm, zif0, zif2, ztsw, zlsw, zlen, zgetf, zputf, zgets, zxald, zxast, zlenA, zokI, zokB, zarr, zcallK, zstat, zspec, zcopy, zretI, zretL, zretV, zwide, zisO, znewa, znew, zatp, zinit, zent, zf4_0, zf4_1, zf4_2, zf4_3, true_and, and_true, or_true, true_or, or_false, false_or, and_false, false_and, Classical.not_not, not_false_eq_true, not_true_eq_false, ne_eq, List.not_mem_nil, List.mem_cons, ↓reduceIte, ite_true, ite_false, List.getElem?_cons_zero, List.getElem?_cons_succ, List.set_cons_zero, List.set_cons_succ, List.length_cons, List.length_nil, List.take_succ_cons, List.take_zero, List.drop_succ_cons, List.drop_zero, List.reverse_cons, List.reverse_nil, List.nil_append, List.cons_append, List.append_nil, List.map_cons, List.map_nil, List.sum_cons, List.sum_nil, List.replicate_succ, List.replicate_zero, Value.category, Nat.reduceAdd, Nat.reduceSub, Nat.reduceMul, Nat.reduceLT, Nat.reduceLeDiff, Nat.reduceEqDiff, Nat.reduceBEq, Int.reduceAdd, Int.reduceSub, Int.reduceLE, Int.reduceLT, Int.reduceToNat, Int.reduceNeg, Int.reduceNegSucc, Int.cast_ofNat_Int, forall_const, imp_self, Option.toList_some, Option.toList_none, zrt_i, zrt_l, zrt_v, zrt_b, eq_self, nI_1, zfz_0, zfz_1, zfz_2, zl2_0, SH_0, SH_1, SH_2, SH_3, SH_4, SH_5, SH_6, SH_7, SH_8, SH_9, SH_10, SH_11, SH_12, SH_13, SH_14, SH_15, SH_16, SH_17, SH_18, SH_19, SH_20, SH_21, SH_22, SH_23, SH_24, SH_25, SH_26, SH_27, SH_28, SH_29, SH_30, SH_31, SH_32, SH_33, b8_m101, b8_m100, b8_m8, b8_6, b8_7, b8_8, b8_9, b8_10, b8_12, b8_16, b8_24, b8_30, b8_40, b8_63, b8_64, b8_99, b8_100, b8_101, b8_127, b16_128, b16_200, b16_201, b16_439, b16_999, b16_1000, b16_12000, bi_m1, bi_0, bi_1, bi_2, bi_3, bi_4, bi_5, dX0_shareOf_0, dX0_shareOf_1, dX0_shareOf_4, dX0_shareOf_5, dX0_shareOf_6, dX0_shareOf_9, dX0_shareOf_12, dX0_shareOf_13, dX0_shareOf_14, dX0_shareOf_15, dX0_shareOf_16, dX0_shareOf_17, dX0_shareOf_20, dX0_shareOf_21, dX0_shareOf_22, dX0_shareOf_23, dX0_shareOf_24, dX0_shareOf_25, dX0_shareOf_26, dX0_shareOf_29, dX0_shareOf_31, dX0_shareOf_34, dX0_shareOf_36, dX0_shareOf_38, dX0_shareOf_39, dX0_shareOf_42, dX0_shareOf_44, dX0_shareOf_46, dX0_shareOf_47, dX0_shareOf_50, dX0_shareOf_51, zF_0_30, zK_0_68, zM_28, zK_0_78, zM_29]; try simp only [zup_at, zupd_at, bx_uu, Nat.reduceEqDiff, ↓reduceIte]
      have hf : zfrom cy (sl j.toNat) s < 2000 := by
        unfold zfrom
        split <;> omega
      rw [show (4 : Int32) = nI 4 from rfl]
      simp (disch := omega) only [nI_leI]
      unfold zsh at h
      refine ⟨fun g4 => ?_, fun g4 => ?_⟩
      · rw [if_neg (by omega)] at h
        exact h
      · rw [if_pos (by omega)] at h
        rw [zbsh _ (by omega)]
        exact h
    · have : ¬ (j.toNat < n ∧ om.testBit j.toNat = true) := by
        intro q
        rw [if_pos q.2] at g3
        exact absurd g3 (by decide)
      unfold zsr at h
      rw [if_neg this] at h
      exact h
set_option maxHeartbeats 4000000 in
set_option maxRecDepth 100000 in
theorem s_X0_loadOf {x v z w : Int32} {o om s cy n b : Nat} {sl : Nat → Nat} (hx : x = nI o) (hv : v = nI om) (hz : z = nI b) (hw : w = nI s) (ho : o < 8) (hom : om < 256) (hs : s < cy) (hcy : cy < 1000) (hn : n ≤ 8) (hb : b ≤ n) (h1 : M 9 1 = nI n) (h2 : M 9 2 = nI cy) (h3 : ∀ c, c < n → M 12 (8 * o + c) = nI (sl c) ∧ sl c < cy) (h : Q (some (.int (nI (zld2 cy n om sl b s)))) (SG se, M)) : zcl fz (d + 3) 52 [.ref 9, .int x, .int v, .int z, .int w] (SG se, M) Q := by
  subst hz
  refine zcl_intro zM_52 (by rw [zmL_len]; decide) (by decide) rfl (Nat.le_of_ble_eq_true rfl) ?_
  refine zx_ok [] 300 ?_; simp only [zx_step, zxd_ok, zxo_1, zxo_2, zxo_3, zxo_4, zxo_5, zone, zstep, zild, zlld, zald, zist, zast, zlst, ziinc, zbin, zun, zbinL, zdup, zdup2, zpop1, ztgt, zbr, zcm, zif0, zif2, ztsw, zlsw, zlen, zgetf, zputf, zgets, zxald, zxast, zlenA, zokI, zokB, zarr, zcallK, zstat, zspec, zcopy, zretI, zretL, zretV, zwide, zisO, znewa, znew, zatp, zinit, zent, zf4_0, zf4_1, zf4_2, zf4_3, true_and, and_true, or_true, true_or, or_false, false_or, and_false, false_and, Classical.not_not, not_false_eq_true, not_true_eq_false, ne_eq, List.not_mem_nil, List.mem_cons, ↓reduceIte, ite_true, ite_false, List.getElem?_cons_zero, List.getElem?_cons_succ, List.set_cons_zero, List.set_cons_succ, List.length_cons, List.length_nil, List.take_succ_cons, List.take_zero, List.drop_succ_cons, List.drop_zero, List.reverse_cons, List.reverse_nil, List.nil_append, List.cons_append, List.append_nil, List.map_cons, List.map_nil, List.sum_cons, List.sum_nil, List.replicate_succ, List.replicate_zero, Value.category, Nat.reduceAdd, Nat.reduceSub, Nat.reduceMul, Nat.reduceLT, Nat.reduceLeDiff, Nat.reduceEqDiff, Nat.reduceBEq, Int.reduceAdd, Int.reduceSub, Int.reduceLE, Int.reduceLT, Int.reduceToNat, Int.reduceNeg, Int.reduceNegSucc, Int.cast_ofNat_Int, forall_const, imp_self, Option.toList_some, Option.toList_none, zrt_i, zrt_l, zrt_v, zrt_b, eq_self, nI_1, zfz_0, zfz_1, zfz_2, zl2_0, SH_0, SH_1, SH_2, SH_3, SH_4, SH_5, SH_6, SH_7, SH_8, SH_9, SH_10, SH_11, SH_12, SH_13, SH_14, SH_15, SH_16, SH_17, SH_18, SH_19, SH_20, SH_21, SH_22, SH_23, SH_24, SH_25, SH_26, SH_27, SH_28, SH_29, SH_30, SH_31, SH_32, SH_33, b8_m101, b8_m100, b8_m8, b8_6, b8_7, b8_8, b8_9, b8_10, b8_12, b8_16, b8_24, b8_30, b8_40, b8_63, b8_64, b8_99, b8_100, b8_101, b8_127, b16_128, b16_200, b16_201, b16_439, b16_999, b16_1000, b16_12000, bi_m1, bi_0, bi_1, bi_2, bi_3, bi_4, bi_5, dX0_loadOf_0, dX0_loadOf_1, dX0_loadOf_2, dX0_loadOf_3, dX0_loadOf_4, dX0_loadOf_5, dX0_loadOf_6, dX0_loadOf_8, dX0_loadOf_11, dX0_loadOf_12, dX0_loadOf_13, dX0_loadOf_14, dX0_loadOf_15, dX0_loadOf_17, dX0_loadOf_20, dX0_loadOf_21, zK_0_75, zM_53]; try simp only [zup_at, zupd_at, bx_uu, Nat.reduceEqDiff, ↓reduceIte]
  have ez : (nI b - 1).toInt = (b : Int) - 1 := pk_sub_toInt (b := 1) (by omega) (by decide)
  refine s_X0_shareOf hx hv ez hw ho hom hs hcy hn h1 h2 h3 ?_
  refine zx_ok [] 300 ?_; simp only [zx_step, zxd_ok, zxo_1, zxo_2, zxo_3, zxo_4, zxo_5, zone, zstep, zild, zlld, zald, zist, zast, zlst, ziinc, zbin, zun, zbinL, zdup, zdup2, zpop1, ztgt, zbr, zcm, zif0, zif2, ztsw, zlsw, zlen, zgetf, zputf, zgets, zxald, zxast, zlenA, zokI, zokB, zarr, zcallK, zstat, zspec, zcopy, zretI, zretL, zretV, zwide, zisO, znewa, znew, zatp, zinit, zent, zf4_0, zf4_1, zf4_2, zf4_3, true_and, and_true, or_true, true_or, or_false, false_or, and_false, false_and, Classical.not_not, not_false_eq_true, not_true_eq_false, ne_eq, List.not_mem_nil, List.mem_cons, ↓reduceIte, ite_true, ite_false, List.getElem?_cons_zero, List.getElem?_cons_succ, List.set_cons_zero, List.set_cons_succ, List.length_cons, List.length_nil, List.take_succ_cons, List.take_zero, List.drop_succ_cons, List.drop_zero, List.reverse_cons, List.reverse_nil, List.nil_append, List.cons_append, List.append_nil, List.map_cons, List.map_nil, List.sum_cons, List.sum_nil, List.replicate_succ, List.replicate_zero, Value.category, Nat.reduceAdd, Nat.reduceSub, Nat.reduceMul, Nat.reduceLT, Nat.reduceLeDiff, Nat.reduceEqDiff, Nat.reduceBEq, Int.reduceAdd, Int.reduceSub, Int.reduceLE, Int.reduceLT, Int.reduceToNat, Int.reduceNeg, Int.reduceNegSucc, Int.cast_ofNat_Int, forall_const, imp_self, Option.toList_some, Option.toList_none, zrt_i, zrt_l, zrt_v, zrt_b, eq_self, nI_1, zfz_0, zfz_1, zfz_2, zl2_0, SH_0, SH_1, SH_2, SH_3, SH_4, SH_5, SH_6, SH_7, SH_8, SH_9, SH_10, SH_11, SH_12, SH_13, SH_14, SH_15, SH_16, SH_17, SH_18, SH_19, SH_20, SH_21, SH_22, SH_23, SH_24, SH_25, SH_26, SH_27, SH_28, SH_29, SH_30, SH_31, SH_32, SH_33, b8_m101, b8_m100, b8_m8, b8_6, b8_7, b8_8, b8_9, b8_10, b8_12, b8_16, b8_24, b8_30, b8_40, b8_63, b8_64, b8_99, b8_100, b8_101, b8_127, b16_128, b16_200, b16_201, b16_439, b16_999, b16_1000, b16_12000, bi_m1, bi_0, bi_1, bi_2, bi_3, bi_4, bi_5, dX0_loadOf_0, dX0_loadOf_1, dX0_loadOf_2, dX0_loadOf_3, dX0_loadOf_4, dX0_loadOf_5, dX0_loadOf_6, dX0_loadOf_8, dX0_loadOf_11, dX0_loadOf_12, dX0_loadOf_13, dX0_loadOf_14, dX0_loadOf_15, dX0_loadOf_17, dX0_loadOf_20, dX0_loadOf_21, zK_0_75, zM_53]; try simp only [zup_at, zupd_at, bx_uu, Nat.reduceEqDiff, ↓reduceIte]
  refine s_X0_shareOf (j := (b : Int)) hx hv (nI_toInt (by omega)) hw ho hom hs hcy hn h1 h2 h3 ?_
  refine zx_ok [] 300 ?_; simp only [zx_step, zxd_ok, zxo_1, zxo_2, zxo_3, zxo_4, zxo_5, zone, zstep, zild, zlld, zald, zist, zast, zlst, ziinc, zbin, zun, zbinL, zdup, zdup2, zpop1, ztgt, zbr, zcm, zif0, zif2, ztsw, zlsw, zlen, zgetf, zputf, zgets, zxald, zxast, zlenA, zokI, zokB, zarr, zcallK, zstat, zspec, zcopy, zretI, zretL, zretV, zwide, zisO, znewa, znew, zatp, zinit, zent, zf4_0, zf4_1, zf4_2, zf4_3, true_and, and_true, or_true, true_or, or_false, false_or, and_false, false_and, Classical.not_not, not_false_eq_true, not_true_eq_false, ne_eq, List.not_mem_nil, List.mem_cons, ↓reduceIte, ite_true, ite_false, List.getElem?_cons_zero, List.getElem?_cons_succ, List.set_cons_zero, List.set_cons_succ, List.length_cons, List.length_nil, List.take_succ_cons, List.take_zero, List.drop_succ_cons, List.drop_zero, List.reverse_cons, List.reverse_nil, List.nil_append, List.cons_append, List.append_nil, List.map_cons, List.map_nil, List.sum_cons, List.sum_nil, List.replicate_succ, List.replicate_zero, Value.category, Nat.reduceAdd, Nat.reduceSub, Nat.reduceMul, Nat.reduceLT, Nat.reduceLeDiff, Nat.reduceEqDiff, Nat.reduceBEq, Int.reduceAdd, Int.reduceSub, Int.reduceLE, Int.reduceLT, Int.reduceToNat, Int.reduceNeg, Int.reduceNegSucc, Int.cast_ofNat_Int, forall_const, imp_self, Option.toList_some, Option.toList_none, zrt_i, zrt_l, zrt_v, zrt_b, eq_self, nI_1, zfz_0, zfz_1, zfz_2, zl2_0, SH_0, SH_1, SH_2, SH_3, SH_4, SH_5, SH_6, SH_7, SH_8, SH_9, SH_10, SH_11, SH_12, SH_13, SH_14, SH_15, SH_16, SH_17, SH_18, SH_19, SH_20, SH_21, SH_22, SH_23, SH_24, SH_25, SH_26, SH_27, SH_28, SH_29, SH_30, SH_31, SH_32, SH_33, b8_m101, b8_m100, b8_m8, b8_6, b8_7, b8_8, b8_9, b8_10, b8_12, b8_16, b8_24, b8_30, b8_40, b8_63, b8_64, b8_99, b8_100, b8_101, b8_127, b16_128, b16_200, b16_201, b16_439, b16_999, b16_1000, b16_12000, bi_m1, bi_0, bi_1, bi_2, bi_3, bi_4, bi_5, dX0_loadOf_0, dX0_loadOf_1, dX0_loadOf_2, dX0_loadOf_3, dX0_loadOf_4, dX0_loadOf_5, dX0_loadOf_6, dX0_loadOf_8, dX0_loadOf_11, dX0_loadOf_12, dX0_loadOf_13, dX0_loadOf_14, dX0_loadOf_15, dX0_loadOf_17, dX0_loadOf_20, dX0_loadOf_21, zK_0_75, zM_53]; try simp only [zup_at, zupd_at, bx_uu, Nat.reduceEqDiff, ↓reduceIte]
  rw [nI_add]
  have e : (if 0 ≤ (b : Int) - 1 then zsr cy n om sl ((b : Int) - 1).toNat s else 0) + (if 0 ≤ (b : Int) then zsr cy n om sl (b : Int).toNat s else 0) = zld2 cy n om sl b s := by
    unfold zld2
    rw [if_pos (show 0 ≤ (b : Int) by omega), Int.toNat_natCast]
    congr 1
    by_cases hb0 : b = 0
    · rw [if_pos hb0, if_neg (by omega)]
    · rw [if_neg hb0, if_pos (by omega), show ((b : Int) - 1).toNat = b - 1 by omega]
  rw [e]
  exact h
end
