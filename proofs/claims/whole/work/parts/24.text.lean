/-! ===== Text ===== -/
/-- the fault position from byte i on, r bytes before the end, these numbers used -/
def zflt (n len : Nat) (tx : Nat → Nat) : Nat → Nat → Nat → Option Nat
  | 0, _, _ => if len < 2 * n - 1 then some len else none
  | r + 1, i, u => if 2 * n - 1 ≤ i then some i else if i % 2 = 1 then (if tx i = 45 then zflt n len tx r (i + 1) u else some i) else if tx i < 49 ∨ n ≤ tx i - 49 ∨ u.testBit (tx i - 49) = true then some i else zflt n len tx r (i + 1) (u ||| 2 ^ (tx i - 49))
theorem zflt_z (n len : Nat) (tx : Nat → Nat) (i u : Nat) : zflt n len tx 0 i u = if len < 2 * n - 1 then some len else none := rfl
theorem zflt_s (n len : Nat) (tx : Nat → Nat) (r i u : Nat) : zflt n len tx (r + 1) i u = if 2 * n - 1 ≤ i then some i else if i % 2 = 1 then (if tx i = 45 then zflt n len tx r (i + 1) u else some i) else if tx i < 49 ∨ n ≤ tx i - 49 ∨ u.testBit (tx i - 49) = true then some i else zflt n len tx r (i + 1) (u ||| 2 ^ (tx i - 49)) := rfl
def zoN (x : Option Nat) : Int32 := match x with
  | some i => nI i
  | none => -1000005
theorem zrem2 (i : Nat) (h : i < 1000) : nI i - nI i / 2 * 2 = nI (i % 2) := pk_rem (d := 2) (by omega) (by decide) (by decide)
section
variable {fz : zFz} {L : Nat} {xs : Nat → Int32} {d : Nat} {se : List zSh} {M : zMm} {st : zS} {Q : Option Value → zS → Prop}
set_option maxHeartbeats 4000000 in
set_option maxRecDepth 100000 in
theorem s_X3_put {x : Int32} {a len : Nat} (hx : x = nI a) (ha : a < 128) (hl : len ≤ 40) (h0 : M 14 0 = nI len) (hf : len = 40 → Q (some (.int 0)) (SG se, M)) (h : len < 40 → Q (some (.int 1)) (SG se, va_up (va_up M 15 (upd (M 15) len (nI a))) 14 (upd (M 14) 0 (nI (len + 1))))) : zcl fz (d + 1) 110 [.ref 14, .int x] (SG se, M) Q := by
  subst hx
  refine zcl_intro zM_110 (by rw [zmL_len]; decide) (by decide) rfl (Nat.le_of_ble_eq_true rfl) ?_
  refine zx_ok [] 300 ?_; simp only [zx_step, zxd_ok, zxo_1, zxo_2, zxo_3, zxo_4, zxo_5, zone, zstep, zild, zlld, zald, zist, zast, zlst, ziinc, zbin, zun, zbinL, zdup, zdup2, zpop1, ztgt, zbr, zcm, zif0, zif2, ztsw, zlsw, zlen, zgetf, zputf, zgets, zxald, zxast, zlenA, zokI, zokB, zarr, zcallK, zstat, zspec, zcopy, zretI, zretL, zretV, zwide, zisO, znewa, znew, zatp, zinit, zent, zf4_0, zf4_1, zf4_2, zf4_3, true_and, and_true, or_true, true_or, or_false, false_or, and_false, false_and, Classical.not_not, not_false_eq_true, not_true_eq_false, ne_eq, List.not_mem_nil, List.mem_cons, ↓reduceIte, ite_true, ite_false, List.getElem?_cons_zero, List.getElem?_cons_succ, List.set_cons_zero, List.set_cons_succ, List.length_cons, List.length_nil, List.take_succ_cons, List.take_zero, List.drop_succ_cons, List.drop_zero, List.reverse_cons, List.reverse_nil, List.nil_append, List.cons_append, List.append_nil, List.map_cons, List.map_nil, List.sum_cons, List.sum_nil, List.replicate_succ, List.replicate_zero, Value.category, Nat.reduceAdd, Nat.reduceSub, Nat.reduceMul, Nat.reduceLT, Nat.reduceLeDiff, Nat.reduceEqDiff, Nat.reduceBEq, Int.reduceAdd, Int.reduceSub, Int.reduceLE, Int.reduceLT, Int.reduceToNat, Int.reduceNeg, Int.reduceNegSucc, Int.cast_ofNat_Int, forall_const, imp_self, Option.toList_some, Option.toList_none, zrt_i, zrt_l, zrt_v, zrt_b, eq_self, nI_1, zfz_0, zfz_1, zfz_2, SH_0, SH_1, SH_2, SH_3, SH_4, SH_5, SH_6, SH_7, SH_8, SH_9, SH_10, SH_11, SH_12, SH_13, SH_14, SH_15, SH_16, SH_17, SH_18, SH_19, SH_20, SH_21, SH_22, SH_23, SH_24, SH_25, SH_26, SH_27, SH_28, SH_29, SH_30, SH_31, SH_32, SH_33, SH_34, SH_35, SH_36, SH_37, SH_38, SH_39, SH_40, SH_41, b8_m100, b8_m2, b8_6, b8_7, b8_8, b8_9, b8_10, b8_11, b8_12, b8_16, b8_24, b8_31, b8_40, b8_44, b8_45, b8_49, b8_63, b8_64, b8_68, b8_99, b8_100, b8_127, b16_128, b16_136, b16_255, b16_999, b16_1000, bi_m1, bi_0, bi_1, bi_2, bi_3, bi_4, bi_5, dX3_put_0, dX3_put_1, dX3_put_4, dX3_put_6, dX3_put_9, dX3_put_10, dX3_put_11, dX3_put_12, dX3_put_15, dX3_put_16, dX3_put_19, dX3_put_20, dX3_put_21, dX3_put_22, dX3_put_23, dX3_put_24, dX3_put_27, dX3_put_28, dX3_put_29, dX3_put_32, dX3_put_33, zF_3_15, zF_3_9]; try simp only [zup_at, zupd_at, bx_uu, Nat.reduceEqDiff, ↓reduceIte]
  rw [h0, show (40 : Int32) = nI 40 from rfl]
  have e : vp_nar .byte (nI a).toInt8.toInt32 = nI a := by
    rw [vp_nar_byte, fb_byte_twice, fa_byte_small ha]
  simp (disch := omega) only [nI_ltI, nI_toInt, Int.toNat_natCast, e, nI_1]
  refine ⟨fun g => ?_, fun g => hf (by omega)⟩
  exact ⟨⟨by omega, by omega⟩, h (by omega)⟩
set_option maxHeartbeats 4000000 in
set_option maxRecDepth 100000 in
theorem s_X3_cylinderAt {x : Int32} {k : Nat} (hx : x = nI k) (hk : k < 20) (h : Q (some (.int (M 15 (2 * k) - 49))) (SG se, M)) : zcl fz (d + 1) 120 [.ref 14, .int x] (SG se, M) Q := by
  subst hx
  refine zcl_intro zM_120 (by rw [zmL_len]; decide) (by decide) rfl (Nat.le_of_ble_eq_true rfl) ?_
  refine zx_ok [] 300 ?_; simp only [zx_step, zxd_ok, zxo_1, zxo_2, zxo_3, zxo_4, zxo_5, zone, zstep, zild, zlld, zald, zist, zast, zlst, ziinc, zbin, zun, zbinL, zdup, zdup2, zpop1, ztgt, zbr, zcm, zif0, zif2, ztsw, zlsw, zlen, zgetf, zputf, zgets, zxald, zxast, zlenA, zokI, zokB, zarr, zcallK, zstat, zspec, zcopy, zretI, zretL, zretV, zwide, zisO, znewa, znew, zatp, zinit, zent, zf4_0, zf4_1, zf4_2, zf4_3, true_and, and_true, or_true, true_or, or_false, false_or, and_false, false_and, Classical.not_not, not_false_eq_true, not_true_eq_false, ne_eq, List.not_mem_nil, List.mem_cons, ↓reduceIte, ite_true, ite_false, List.getElem?_cons_zero, List.getElem?_cons_succ, List.set_cons_zero, List.set_cons_succ, List.length_cons, List.length_nil, List.take_succ_cons, List.take_zero, List.drop_succ_cons, List.drop_zero, List.reverse_cons, List.reverse_nil, List.nil_append, List.cons_append, List.append_nil, List.map_cons, List.map_nil, List.sum_cons, List.sum_nil, List.replicate_succ, List.replicate_zero, Value.category, Nat.reduceAdd, Nat.reduceSub, Nat.reduceMul, Nat.reduceLT, Nat.reduceLeDiff, Nat.reduceEqDiff, Nat.reduceBEq, Int.reduceAdd, Int.reduceSub, Int.reduceLE, Int.reduceLT, Int.reduceToNat, Int.reduceNeg, Int.reduceNegSucc, Int.cast_ofNat_Int, forall_const, imp_self, Option.toList_some, Option.toList_none, zrt_i, zrt_l, zrt_v, zrt_b, eq_self, nI_1, zfz_0, zfz_1, zfz_2, SH_0, SH_1, SH_2, SH_3, SH_4, SH_5, SH_6, SH_7, SH_8, SH_9, SH_10, SH_11, SH_12, SH_13, SH_14, SH_15, SH_16, SH_17, SH_18, SH_19, SH_20, SH_21, SH_22, SH_23, SH_24, SH_25, SH_26, SH_27, SH_28, SH_29, SH_30, SH_31, SH_32, SH_33, SH_34, SH_35, SH_36, SH_37, SH_38, SH_39, SH_40, SH_41, b8_m100, b8_m2, b8_6, b8_7, b8_8, b8_9, b8_10, b8_11, b8_12, b8_16, b8_24, b8_31, b8_40, b8_44, b8_45, b8_49, b8_63, b8_64, b8_68, b8_99, b8_100, b8_127, b16_128, b16_136, b16_255, b16_999, b16_1000, bi_m1, bi_0, bi_1, bi_2, bi_3, bi_4, bi_5, dX3_cylinderAt_0, dX3_cylinderAt_1, dX3_cylinderAt_4, dX3_cylinderAt_5, dX3_cylinderAt_6, dX3_cylinderAt_7, dX3_cylinderAt_8, dX3_cylinderAt_10, dX3_cylinderAt_11, zF_3_9]; try simp only [zup_at, zupd_at, bx_uu, Nat.reduceEqDiff, ↓reduceIte]
  rw [show (2 : Int32) = nI 2 from rfl, pk_mul]
  simp (disch := omega) only [nI_toInt, Int.toNat_natCast]
  exact ⟨⟨by omega, by omega⟩, h⟩
set_option maxHeartbeats 4000000 in
set_option maxRecDepth 100000 in
theorem s_X3_faultFor {x : Int32} {n len : Nat} {tx : Nat → Nat} (hx : x = nI n) (hn1 : 1 ≤ n) (hn : n ≤ 8) (hl : len ≤ 40) (h0 : M 14 0 = nI len) (ht : ∀ j, j < len → M 15 j = nI (tx j) ∧ tx j < 128) (h : Q (some (.int (zoN (zflt n len tx len 0 0)))) (SG se, M)) : zcl fz (d + 1) 115 [.ref 14, .int x] (SG se, M) Q := by
  subst hx
  refine zcl_intro zM_115 (by rw [zmL_len]; decide) (by decide) rfl (Nat.le_of_ble_eq_true rfl) ?_
  refine zx_ok [11] 300 ?_; simp only [zx_step, zxd_ok, zxo_1, zxo_2, zxo_3, zxo_4, zxo_5, zone, zstep, zild, zlld, zald, zist, zast, zlst, ziinc, zbin, zun, zbinL, zdup, zdup2, zpop1, ztgt, zbr, zcm, zif0, zif2, ztsw, zlsw, zlen, zgetf, zputf, zgets, zxald, zxast, zlenA, zokI, zokB, zarr, zcallK, zstat, zspec, zcopy, zretI, zretL, zretV, zwide, zisO, znewa, znew, zatp, zinit, zent, zf4_0, zf4_1, zf4_2, zf4_3, true_and, and_true, or_true, true_or, or_false, false_or, and_false, false_and, Classical.not_not, not_false_eq_true, not_true_eq_false, ne_eq, List.not_mem_nil, List.mem_cons, ↓reduceIte, ite_true, ite_false, List.getElem?_cons_zero, List.getElem?_cons_succ, List.set_cons_zero, List.set_cons_succ, List.length_cons, List.length_nil, List.take_succ_cons, List.take_zero, List.drop_succ_cons, List.drop_zero, List.reverse_cons, List.reverse_nil, List.nil_append, List.cons_append, List.append_nil, List.map_cons, List.map_nil, List.sum_cons, List.sum_nil, List.replicate_succ, List.replicate_zero, Value.category, Nat.reduceAdd, Nat.reduceSub, Nat.reduceMul, Nat.reduceLT, Nat.reduceLeDiff, Nat.reduceEqDiff, Nat.reduceBEq, Int.reduceAdd, Int.reduceSub, Int.reduceLE, Int.reduceLT, Int.reduceToNat, Int.reduceNeg, Int.reduceNegSucc, Int.cast_ofNat_Int, forall_const, imp_self, Option.toList_some, Option.toList_none, zrt_i, zrt_l, zrt_v, zrt_b, eq_self, nI_1, zfz_0, zfz_1, zfz_2, SH_0, SH_1, SH_2, SH_3, SH_4, SH_5, SH_6, SH_7, SH_8, SH_9, SH_10, SH_11, SH_12, SH_13, SH_14, SH_15, SH_16, SH_17, SH_18, SH_19, SH_20, SH_21, SH_22, SH_23, SH_24, SH_25, SH_26, SH_27, SH_28, SH_29, SH_30, SH_31, SH_32, SH_33, SH_34, SH_35, SH_36, SH_37, SH_38, SH_39, SH_40, SH_41, b8_m100, b8_m2, b8_6, b8_7, b8_8, b8_9, b8_10, b8_11, b8_12, b8_16, b8_24, b8_31, b8_40, b8_44, b8_45, b8_49, b8_63, b8_64, b8_68, b8_99, b8_100, b8_127, b16_128, b16_136, b16_255, b16_999, b16_1000, bi_m1, bi_0, bi_1, bi_2, bi_3, bi_4, bi_5, dX3_faultFor_0, dX3_faultFor_1, dX3_faultFor_2, dX3_faultFor_3, dX3_faultFor_4, dX3_faultFor_5, dX3_faultFor_6, dX3_faultFor_7, dX3_faultFor_8, dX3_faultFor_9, dX3_faultFor_11, dX3_faultFor_13, dX3_faultFor_14, dX3_faultFor_17, dX3_faultFor_20, dX3_faultFor_22, dX3_faultFor_23, dX3_faultFor_26, dX3_faultFor_28, dX3_faultFor_29, dX3_faultFor_31, dX3_faultFor_32, dX3_faultFor_33, dX3_faultFor_34, dX3_faultFor_37, dX3_faultFor_38, dX3_faultFor_41, dX3_faultFor_43, dX3_faultFor_44, dX3_faultFor_46, dX3_faultFor_49, dX3_faultFor_51, dX3_faultFor_52, dX3_faultFor_53, dX3_faultFor_56, dX3_faultFor_58, dX3_faultFor_59, dX3_faultFor_61, dX3_faultFor_62, dX3_faultFor_64, dX3_faultFor_66, dX3_faultFor_69, dX3_faultFor_71, dX3_faultFor_72, dX3_faultFor_75, dX3_faultFor_76, dX3_faultFor_78, dX3_faultFor_79, dX3_faultFor_80, dX3_faultFor_81, dX3_faultFor_82, dX3_faultFor_85, dX3_faultFor_87, dX3_faultFor_88, dX3_faultFor_89, dX3_faultFor_90, dX3_faultFor_92, dX3_faultFor_93, dX3_faultFor_94, dX3_faultFor_95, dX3_faultFor_98, dX3_faultFor_101, dX3_faultFor_102, dX3_faultFor_105, dX3_faultFor_106, dX3_faultFor_109, dX3_faultFor_110, dX3_faultFor_113, dX3_faultFor_116, dX3_faultFor_118, zF_3_15, zF_3_9, zC_3_19]; try simp only [zup_at, zupd_at, bx_uu, Nat.reduceEqDiff, ↓reduceIte]
  have e0 : (2 : Int32) * nI n - 1 = nI (2 * n - 1) := by
    rw [show (2 : Int32) = nI 2 from rfl, pk_mul]
    exact pk_sub (b := 1) (by omega)
  rw [e0]
  refine zloopI len (fun i c => ∃ u w, c = (11, [some (.ref 14), some (.int (nI n)), some (.int (nI (2 * n - 1))), some (.int (nI u)), some (.int (nI i)), w], [], (SG se, M)) ∧ u < 256 ∧ zflt n len tx len 0 0 = zflt n len tx (len - i) i u) ?_ ?_ 0 _ (by omega) ⟨0, none, rfl, by omega, rfl⟩
  · rintro c ⟨u, w, rfl, hu, he⟩
    rw [Nat.sub_self, zflt_z] at he
    rw [he] at h
    refine zx_ok [11] 300 ?_; simp only [zx_step, zxd_ok, zxo_1, zxo_2, zxo_3, zxo_4, zxo_5, zone, zstep, zild, zlld, zald, zist, zast, zlst, ziinc, zbin, zun, zbinL, zdup, zdup2, zpop1, ztgt, zbr, zcm, zif0, zif2, ztsw, zlsw, zlen, zgetf, zputf, zgets, zxald, zxast, zlenA, zokI, zokB, zarr, zcallK, zstat, zspec, zcopy, zretI, zretL, zretV, zwide, zisO, znewa, znew, zatp, zinit, zent, zf4_0, zf4_1, zf4_2, zf4_3, true_and, and_true, or_true, true_or, or_false, false_or, and_false, false_and, Classical.not_not, not_false_eq_true, not_true_eq_false, ne_eq, List.not_mem_nil, List.mem_cons, ↓reduceIte, ite_true, ite_false, List.getElem?_cons_zero, List.getElem?_cons_succ, List.set_cons_zero, List.set_cons_succ, List.length_cons, List.length_nil, List.take_succ_cons, List.take_zero, List.drop_succ_cons, List.drop_zero, List.reverse_cons, List.reverse_nil, List.nil_append, List.cons_append, List.append_nil, List.map_cons, List.map_nil, List.sum_cons, List.sum_nil, List.replicate_succ, List.replicate_zero, Value.category, Nat.reduceAdd, Nat.reduceSub, Nat.reduceMul, Nat.reduceLT, Nat.reduceLeDiff, Nat.reduceEqDiff, Nat.reduceBEq, Int.reduceAdd, Int.reduceSub, Int.reduceLE, Int.reduceLT, Int.reduceToNat, Int.reduceNeg, Int.reduceNegSucc, Int.cast_ofNat_Int, forall_const, imp_self, Option.toList_some, Option.toList_none, zrt_i, zrt_l, zrt_v, zrt_b, eq_self, nI_1, zfz_0, zfz_1, zfz_2, SH_0, SH_1, SH_2, SH_3, SH_4, SH_5, SH_6, SH_7, SH_8, SH_9, SH_10, SH_11, SH_12, SH_13, SH_14, SH_15, SH_16, SH_17, SH_18, SH_19, SH_20, SH_21, SH_22, SH_23, SH_24, SH_25, SH_26, SH_27, SH_28, SH_29, SH_30, SH_31, SH_32, SH_33, SH_34, SH_35, SH_36, SH_37, SH_38, SH_39, SH_40, SH_41, b8_m100, b8_m2, b8_6, b8_7, b8_8, b8_9, b8_10, b8_11, b8_12, b8_16, b8_24, b8_31, b8_40, b8_44, b8_45, b8_49, b8_63, b8_64, b8_68, b8_99, b8_100, b8_127, b16_128, b16_136, b16_255, b16_999, b16_1000, bi_m1, bi_0, bi_1, bi_2, bi_3, bi_4, bi_5, dX3_faultFor_0, dX3_faultFor_1, dX3_faultFor_2, dX3_faultFor_3, dX3_faultFor_4, dX3_faultFor_5, dX3_faultFor_6, dX3_faultFor_7, dX3_faultFor_8, dX3_faultFor_9, dX3_faultFor_11, dX3_faultFor_13, dX3_faultFor_14, dX3_faultFor_17, dX3_faultFor_20, dX3_faultFor_22, dX3_faultFor_23, dX3_faultFor_26, dX3_faultFor_28, dX3_faultFor_29, dX3_faultFor_31, dX3_faultFor_32, dX3_faultFor_33, dX3_faultFor_34, dX3_faultFor_37, dX3_faultFor_38, dX3_faultFor_41, dX3_faultFor_43, dX3_faultFor_44, dX3_faultFor_46, dX3_faultFor_49, dX3_faultFor_51, dX3_faultFor_52, dX3_faultFor_53, dX3_faultFor_56, dX3_faultFor_58, dX3_faultFor_59, dX3_faultFor_61, dX3_faultFor_62, dX3_faultFor_64, dX3_faultFor_66, dX3_faultFor_69, dX3_faultFor_71, dX3_faultFor_72, dX3_faultFor_75, dX3_faultFor_76, dX3_faultFor_78, dX3_faultFor_79, dX3_faultFor_80, dX3_faultFor_81, dX3_faultFor_82, dX3_faultFor_85, dX3_faultFor_87, dX3_faultFor_88, dX3_faultFor_89, dX3_faultFor_90, dX3_faultFor_92, dX3_faultFor_93, dX3_faultFor_94, dX3_faultFor_95, dX3_faultFor_98, dX3_faultFor_101, dX3_faultFor_102, dX3_faultFor_105, dX3_faultFor_106, dX3_faultFor_109, dX3_faultFor_110, dX3_faultFor_113, dX3_faultFor_116, dX3_faultFor_118, zF_3_15, zF_3_9, zC_3_19]; try simp only [zup_at, zupd_at, bx_uu, Nat.reduceEqDiff, ↓reduceIte]
    rw [h0]
    refine ⟨fun _ => ?_, fun g => absurd (nI_le (Nat.le_refl len) (by omega)) g⟩
    simp (disch := omega) only [nI_leI]
    refine ⟨fun g => ?_, fun g => ?_⟩
    · rw [if_neg (by omega)] at h
      exact h
    · rw [if_pos (by omega)] at h
      exact h
  · rintro i c hi ⟨u, w, rfl, hu, he⟩ ih
    have ei : len - i = (len - (i + 1)) + 1 := by omega
    rw [ei, zflt_s] at he
    refine zx_ok [11] 300 ?_; simp only [zx_step, zxd_ok, zxo_1, zxo_2, zxo_3, zxo_4, zxo_5, zone, zstep, zild, zlld, zald, zist, zast, zlst, ziinc, zbin, zun, zbinL, zdup, zdup2, zpop1, ztgt, zbr, zcm, zif0, zif2, ztsw, zlsw, zlen, zgetf, zputf, zgets, zxald, zxast, zlenA, zokI, zokB, zarr, zcallK, zstat, zspec, zcopy, zretI, zretL, zretV, zwide, zisO, znewa, znew, zatp, zinit, zent, zf4_0, zf4_1, zf4_2, zf4_3, true_and, and_true, or_true, true_or, or_false, false_or, and_false, false_and, Classical.not_not, not_false_eq_true, not_true_eq_false, ne_eq, List.not_mem_nil, List.mem_cons, ↓reduceIte, ite_true, ite_false, List.getElem?_cons_zero, List.getElem?_cons_succ, List.set_cons_zero, List.set_cons_succ, List.length_cons, List.length_nil, List.take_succ_cons, List.take_zero, List.drop_succ_cons, List.drop_zero, List.reverse_cons, List.reverse_nil, List.nil_append, List.cons_append, List.append_nil, List.map_cons, List.map_nil, List.sum_cons, List.sum_nil, List.replicate_succ, List.replicate_zero, Value.category, Nat.reduceAdd, Nat.reduceSub, Nat.reduceMul, Nat.reduceLT, Nat.reduceLeDiff, Nat.reduceEqDiff, Nat.reduceBEq, Int.reduceAdd, Int.reduceSub, Int.reduceLE, Int.reduceLT, Int.reduceToNat, Int.reduceNeg, Int.reduceNegSucc, Int.cast_ofNat_Int, forall_const, imp_self, Option.toList_some, Option.toList_none, zrt_i, zrt_l, zrt_v, zrt_b, eq_self, nI_1, zfz_0, zfz_1, zfz_2, SH_0, SH_1, SH_2, SH_3, SH_4, SH_5, SH_6, SH_7, SH_8, SH_9, SH_10, SH_11, SH_12, SH_13, SH_14, SH_15, SH_16, SH_17, SH_18, SH_19, SH_20, SH_21, SH_22, SH_23, SH_24, SH_25, SH_26, SH_27, SH_28, SH_29, SH_30, SH_31, SH_32, SH_33, SH_34, SH_35, SH_36, SH_37, SH_38, SH_39, SH_40, SH_41, b8_m100, b8_m2, b8_6, b8_7, b8_8, b8_9, b8_10, b8_11, b8_12, b8_16, b8_24, b8_31, b8_40, b8_44, b8_45, b8_49, b8_63, b8_64, b8_68, b8_99, b8_100, b8_127, b16_128, b16_136, b16_255, b16_999, b16_1000, bi_m1, bi_0, bi_1, bi_2, bi_3, bi_4, bi_5, dX3_faultFor_0, dX3_faultFor_1, dX3_faultFor_2, dX3_faultFor_3, dX3_faultFor_4, dX3_faultFor_5, dX3_faultFor_6, dX3_faultFor_7, dX3_faultFor_8, dX3_faultFor_9, dX3_faultFor_11, dX3_faultFor_13, dX3_faultFor_14, dX3_faultFor_17, dX3_faultFor_20, dX3_faultFor_22, dX3_faultFor_23, dX3_faultFor_26, dX3_faultFor_28, dX3_faultFor_29, dX3_faultFor_31, dX3_faultFor_32, dX3_faultFor_33, dX3_faultFor_34, dX3_faultFor_37, dX3_faultFor_38, dX3_faultFor_41, dX3_faultFor_43, dX3_faultFor_44, dX3_faultFor_46, dX3_faultFor_49, dX3_faultFor_51, dX3_faultFor_52, dX3_faultFor_53, dX3_faultFor_56, dX3_faultFor_58, dX3_faultFor_59, dX3_faultFor_61, dX3_faultFor_62, dX3_faultFor_64, dX3_faultFor_66, dX3_faultFor_69, dX3_faultFor_71, dX3_faultFor_72, dX3_faultFor_75, dX3_faultFor_76, dX3_faultFor_78, dX3_faultFor_79, dX3_faultFor_80, dX3_faultFor_81, dX3_faultFor_82, dX3_faultFor_85, dX3_faultFor_87, dX3_faultFor_88, dX3_faultFor_89, dX3_faultFor_90, dX3_faultFor_92, dX3_faultFor_93, dX3_faultFor_94, dX3_faultFor_95, dX3_faultFor_98, dX3_faultFor_101, dX3_faultFor_102, dX3_faultFor_105, dX3_faultFor_106, dX3_faultFor_109, dX3_faultFor_110, dX3_faultFor_113, dX3_faultFor_116, dX3_faultFor_118, zF_3_15, zF_3_9, zC_3_19]; try simp only [zup_at, zupd_at, bx_uu, Nat.reduceEqDiff, ↓reduceIte]
    rw [h0]
    refine ⟨fun g => absurd g (nI_ge hi (by omega)), fun _ => ?_⟩
    obtain ⟨t1, t2⟩ := ht i hi
    have t3 : ((nI i).toInt) = (i : Int) := nI_toInt (by omega)
    simp only [t3, Int.toNat_natCast, t1, zrem2 i (by omega)]
    simp (disch := omega) only [nI_ltI]
    have c45 : (nI (tx i) = 45) = (tx i = 45) := propext (nI_eq (a := tx i) (b := 45) (by omega) (by decide))
    have c1 : (nI (i % 2) = 1) = (i % 2 = 1) := propext (nI_eq (a := i % 2) (b := 1) (by omega) (by decide))
    have c49 : (nI (tx i) - 49).toInt = (tx i : Int) - 49 := pk_sub_toInt (b := 49) (by omega) (by decide)
    rw [c45, c1]
    have hu5 : 2 ^ 5 = 32 := rfl
    refine ⟨fun g1 => ⟨by decide, fun g2 => ⟨⟨by omega, by omega⟩, ?_⟩, fun g2 => ⟨⟨by omega, by omega⟩, fun g3 => ?_, fun g3 => ?_⟩⟩, fun g1 => ?_⟩
    · rw [if_neg (by omega), if_neg g2] at he
      rcases Nat.lt_or_ge (tx i) 49 with q | q
      · rw [if_pos (Or.inl q)] at he
        have lt : nI (tx i) - 49 < 0 := by
          rw [Int32.lt_iff_toInt_lt, c49]
          show (tx i : Int) - 49 < 0
          omega
        rw [he] at h
        exact ⟨fun _ => h, fun g => absurd lt g⟩
      · have ek : nI (tx i) - 49 = nI (tx i - 49) := pk_sub (b := 49) q
        rw [ek, show (0 : Int32) = nI 0 from rfl]
        have hk8 : tx i - 49 < 128 := by omega
        simp (disch := omega) only [nI_ltI, nI_leI]
        refine ⟨fun g => absurd g (by omega), fun _ => ⟨fun g => ?_, fun g => ?_⟩⟩
        · rw [if_pos (Or.inr (Or.inl g))] at he
          rw [he] at h
          exact h
        · simp (disch := omega) only [zbit1]
          refine ⟨fun g3 => ?_, fun g3 => ?_⟩
          · rw [if_neg (fun e => by rcases e with e | e | e <;> first | omega | exact g3 e)] at he
            obtain ⟨b1, b2⟩ := zbset u hu (tx i - 49) (by omega)
            rw [b1]
            exact ih _ ⟨_, _, rfl, b2, he⟩
          · rw [if_pos (Or.inr (Or.inr g3))] at he
            rw [he] at h
            exact h
    · rw [if_neg (by omega), if_pos g2, if_pos g3] at he
      exact ih _ ⟨u, w, rfl, hu, he⟩
    · rw [if_neg (by omega), if_pos g2, if_neg g3] at he
      rw [he] at h
      exact h
    · rw [if_pos (by omega)] at he
      rw [he] at h
      exact h
end
