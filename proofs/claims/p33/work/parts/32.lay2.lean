/-- the orders of a shaft, by their numbers -/
def zord (n sk : Nat) (t : Nat → Nat) : List Nat := if 6 * sk % n = 0 then (zdfs n (6 * sk / n) t (n - 1) 1 0 1).take 8 else []
section
variable {fz : zFz} {L : Nat} {xs : Nat → Int32} {d : Nat} {se : List zSh} {M : zMm} {Q : Option Value → zS → Prop}
set_option maxHeartbeats 4000000 in
set_option maxRecDepth 100000 in
theorem s_X0_layOut {n sk : Nat} {t : Nat → Nat} (hn1 : 1 ≤ n) (hn : n ≤ 8) (hs : sk = 2 ∨ sk = 4) (h0 : M 1 0 = nI n) (h1 : M 1 1 = nI sk) (ht : ∀ c, c < 8 → t c < 12 ∧ M 2 c = nI (t c))
    (h : ∀ M', (∀ c, c ≠ 9 → c ≠ 10 → c ≠ 11 → c ≠ 12 → M' c = M c) → M' 9 1 = nI n → M' 9 2 = nI (6 * sk) → zRO n (6 * sk) (6 * sk / n) (t 0) (zord n sk t) M' → Q none (SG se, M')) : zcl fz (d + 12) 10 [.ref 9, .ref 1] (SG se, M) Q := by
  have hlo : zlo (t 0) < 12 := Nat.mod_lt _ (by decide)
  have hcy : 12 ≤ 6 * sk ∧ 6 * sk ≤ 24 := by omega
  have hsp : 6 * sk / n ≤ 6 * sk := Nat.div_le_self _ _
  refine zcl_intro zM_10 (by rw [zmL_len]; decide) (by decide) rfl (Nat.le_of_ble_eq_true rfl) ?_
  refine zx_ok [] 300 ?_; simp only [zx_step, zxd_ok, zxo_1, zxo_2, zxo_3, zxo_4, zxo_5, zone, zstep, zild, zlld, zald, zist, zast, zlst, ziinc, zbin, zun, zbinL, zdup, zdup2, zpop1, ztgt, zbr, zcm, zif0, zif2, ztsw, zlsw, zlen, zgetf, zputf, zgets, zxald, zxast, zlenA, zokI, zokB, zarr, zcallK, zstat, zspec, zcopy, zretI, zretL, zretV, zwide, zisO, znewa, znew, zatp, zinit, zent, zf4_0, zf4_1, zf4_2, zf4_3, true_and, and_true, or_true, true_or, or_false, false_or, and_false, false_and, Classical.not_not, not_false_eq_true, not_true_eq_false, ne_eq, List.not_mem_nil, List.mem_cons, ↓reduceIte, ite_true, ite_false, List.getElem?_cons_zero, List.getElem?_cons_succ, List.set_cons_zero, List.set_cons_succ, List.length_cons, List.length_nil, List.take_succ_cons, List.take_zero, List.drop_succ_cons, List.drop_zero, List.reverse_cons, List.reverse_nil, List.nil_append, List.cons_append, List.append_nil, List.map_cons, List.map_nil, List.sum_cons, List.sum_nil, List.replicate_succ, List.replicate_zero, Value.category, Nat.reduceAdd, Nat.reduceSub, Nat.reduceMul, Nat.reduceLT, Nat.reduceLeDiff, Nat.reduceEqDiff, Nat.reduceBEq, Int.reduceAdd, Int.reduceSub, Int.reduceLE, Int.reduceLT, Int.reduceToNat, Int.reduceNeg, Int.reduceNegSucc, Int.cast_ofNat_Int, forall_const, imp_self, Option.toList_some, Option.toList_none, zrt_i, zrt_l, zrt_v, zrt_b, eq_self, nI_1, zfz_0, zfz_1, zfz_2, zl2_0, SH_0, SH_1, SH_2, SH_3, SH_4, SH_5, SH_6, SH_7, SH_8, SH_9, SH_10, SH_11, SH_12, SH_13, SH_14, SH_15, SH_16, SH_17, SH_18, SH_19, SH_20, SH_21, SH_22, SH_23, SH_24, SH_25, SH_26, SH_27, SH_28, SH_29, SH_30, SH_31, SH_32, SH_33, b8_m101, b8_m100, b8_m8, b8_6, b8_7, b8_8, b8_9, b8_10, b8_12, b8_16, b8_24, b8_30, b8_40, b8_63, b8_64, b8_99, b8_100, b8_101, b8_127, b16_128, b16_200, b16_201, b16_439, b16_999, b16_1000, b16_12000, bi_m1, bi_0, bi_1, bi_2, bi_3, bi_4, bi_5, dX0_layOut_0, dX0_layOut_1, dX0_layOut_2, dX0_layOut_5, dX0_layOut_6, dX0_layOut_7, dX0_layOut_10, dX0_layOut_13, dX0_layOut_14, dX0_layOut_15, dX0_layOut_18, dX0_layOut_21, dX0_layOut_22, dX0_layOut_25, dX0_layOut_26, dX0_layOut_29, dX0_layOut_30, dX0_layOut_33, dX0_layOut_34, dX0_layOut_37, dX0_layOut_38, dX0_layOut_41, dX0_layOut_42, dX0_layOut_43, dX0_layOut_46, dX0_layOut_47, dX0_layOut_50, dX0_layOut_51, dX0_layOut_54, dX0_layOut_55, dX0_layOut_58, dX0_layOut_59, dX0_layOut_60, dX0_layOut_61, dX0_layOut_62, dX0_layOut_63, dX0_layOut_64, dX0_layOut_65, dX0_layOut_68, zF_0_21, zF_0_25, zF_0_30, zK_0_31, zM_11, zF_0_35, zF_0_37, zF_0_9, zK_0_40, zM_12, zY_0_40]; try simp only [zup_at, zupd_at, bx_uu, Nat.reduceEqDiff, ↓reduceIte]
  refine s_X1_slots hs (by simp only [zup_at, Nat.reduceEqDiff, ↓reduceIte]; exact h1) ?_
  refine zx_ok [] 300 ?_; simp only [zx_step, zxd_ok, zxo_1, zxo_2, zxo_3, zxo_4, zxo_5, zone, zstep, zild, zlld, zald, zist, zast, zlst, ziinc, zbin, zun, zbinL, zdup, zdup2, zpop1, ztgt, zbr, zcm, zif0, zif2, ztsw, zlsw, zlen, zgetf, zputf, zgets, zxald, zxast, zlenA, zokI, zokB, zarr, zcallK, zstat, zspec, zcopy, zretI, zretL, zretV, zwide, zisO, znewa, znew, zatp, zinit, zent, zf4_0, zf4_1, zf4_2, zf4_3, true_and, and_true, or_true, true_or, or_false, false_or, and_false, false_and, Classical.not_not, not_false_eq_true, not_true_eq_false, ne_eq, List.not_mem_nil, List.mem_cons, ↓reduceIte, ite_true, ite_false, List.getElem?_cons_zero, List.getElem?_cons_succ, List.set_cons_zero, List.set_cons_succ, List.length_cons, List.length_nil, List.take_succ_cons, List.take_zero, List.drop_succ_cons, List.drop_zero, List.reverse_cons, List.reverse_nil, List.nil_append, List.cons_append, List.append_nil, List.map_cons, List.map_nil, List.sum_cons, List.sum_nil, List.replicate_succ, List.replicate_zero, Value.category, Nat.reduceAdd, Nat.reduceSub, Nat.reduceMul, Nat.reduceLT, Nat.reduceLeDiff, Nat.reduceEqDiff, Nat.reduceBEq, Int.reduceAdd, Int.reduceSub, Int.reduceLE, Int.reduceLT, Int.reduceToNat, Int.reduceNeg, Int.reduceNegSucc, Int.cast_ofNat_Int, forall_const, imp_self, Option.toList_some, Option.toList_none, zrt_i, zrt_l, zrt_v, zrt_b, eq_self, nI_1, zfz_0, zfz_1, zfz_2, zl2_0, SH_0, SH_1, SH_2, SH_3, SH_4, SH_5, SH_6, SH_7, SH_8, SH_9, SH_10, SH_11, SH_12, SH_13, SH_14, SH_15, SH_16, SH_17, SH_18, SH_19, SH_20, SH_21, SH_22, SH_23, SH_24, SH_25, SH_26, SH_27, SH_28, SH_29, SH_30, SH_31, SH_32, SH_33, b8_m101, b8_m100, b8_m8, b8_6, b8_7, b8_8, b8_9, b8_10, b8_12, b8_16, b8_24, b8_30, b8_40, b8_63, b8_64, b8_99, b8_100, b8_101, b8_127, b16_128, b16_200, b16_201, b16_439, b16_999, b16_1000, b16_12000, bi_m1, bi_0, bi_1, bi_2, bi_3, bi_4, bi_5, dX0_layOut_0, dX0_layOut_1, dX0_layOut_2, dX0_layOut_5, dX0_layOut_6, dX0_layOut_7, dX0_layOut_10, dX0_layOut_13, dX0_layOut_14, dX0_layOut_15, dX0_layOut_18, dX0_layOut_21, dX0_layOut_22, dX0_layOut_25, dX0_layOut_26, dX0_layOut_29, dX0_layOut_30, dX0_layOut_33, dX0_layOut_34, dX0_layOut_37, dX0_layOut_38, dX0_layOut_41, dX0_layOut_42, dX0_layOut_43, dX0_layOut_46, dX0_layOut_47, dX0_layOut_50, dX0_layOut_51, dX0_layOut_54, dX0_layOut_55, dX0_layOut_58, dX0_layOut_59, dX0_layOut_60, dX0_layOut_61, dX0_layOut_62, dX0_layOut_63, dX0_layOut_64, dX0_layOut_65, dX0_layOut_68, zF_0_21, zF_0_25, zF_0_30, zK_0_31, zM_11, zF_0_35, zF_0_37, zF_0_9, zK_0_40, zM_12, zY_0_40]; try simp only [zup_at, zupd_at, bx_uu, Nat.reduceEqDiff, ↓reduceIte]
  rw [h0]
  have hr : nI (6 * sk) - nI (6 * sk) / nI n * nI n = nI (6 * sk % n) := pk_rem (by omega) (by omega) (by omega)
  have hq : nI (6 * sk) / nI n = nI (6 * sk / n) := pk_div (by omega) (by omega) (by omega)
  rw [hr, hq]
  have hm : 6 * sk % n < n := Nat.mod_lt _ (by omega)
  have hn0 : ¬ nI n = 0 := fun q => by
    have := (nI_eq (a := n) (b := 0) (by omega) (by decide)).mp q
    omega
  have hn2 : ¬ nI n < (1 : Int32) := Int32.not_lt.mpr (nI_le (a := 1) hn1 (by omega))
  have hz : (nI (6 * sk % n) = 0) = (6 * sk % n = 0) := propext (nI_eq (a := 6 * sk % n) (b := 0) (by omega) (by decide))
  rw [hz]
  refine ⟨fun g => absurd g hn2, fun _ => ⟨hn0, fun g => ?_, fun g => ⟨hn0, by decide, ?_⟩⟩⟩
  · refine h _ (fun c c1 c2 c3 c4 => ?_) ?_ ?_ ?_
    · simp only [zup_at, c1, ↓reduceIte]
    · simp only [zup_at, zupd_at, Nat.reduceEqDiff, ↓reduceIte]
    · simp only [zup_at, zupd_at, Nat.reduceEqDiff, ↓reduceIte]
    · rw [zord, if_neg g]
      refine ⟨?_, Nat.zero_le _, fun o ho => absurd ho (Nat.not_lt_zero o)⟩
      simp only [zup_at, zupd_at, Nat.reduceEqDiff, ↓reduceIte]
      rfl
  · have ed : d + 11 = (d + (9 - n)) + (n - 1) + 3 := by omega
    rw [ed]
    have hl : zlo (t 0) < 6 * sk := by omega
    refine ⟨fun (q : False) => q.elim, ?_⟩
    refine s_X0_extend (t := t) hn hcy.2 hl hsp (fun c hc => (ht c hc).1) (n - 1) 1 0 1 _ [] _ _ _ _ rfl rfl (by omega) (by omega) (by omega) (fun j hj => ?_) (fun j hj => ?_) (fun i j h1 h2 => by omega) ?_ ?_ ?_ (fun c hc => ?_) ?_ (fun M2 c2 c9 c10 cR => ?_)
    · have ej : j = 0 := by omega
      subst ej
      rfl
    · have ej : j = 0 := by omega
      subst ej
      rfl
    · simp only [zup_at, zupd_at, Nat.reduceEqDiff, ↓reduceIte]
    · simp only [zup_at, zupd_at, Nat.reduceEqDiff, ↓reduceIte]
    · simp only [zup_at, zupd_at, Nat.reduceEqDiff, ↓reduceIte]
    · simp only [zup_at, Nat.reduceEqDiff, ↓reduceIte]
      exact (ht c hc).2
    · refine ⟨?_, Nat.zero_le _, fun o ho => absurd ho (Nat.not_lt_zero o)⟩
      simp only [zup_at, zupd_at, Nat.reduceEqDiff, ↓reduceIte]
      rfl
    · refine zx_ok [] 300 ?_; simp only [zx_step, zxd_ok, zxo_1, zxo_2, zxo_3, zxo_4, zxo_5, zone, zstep, zild, zlld, zald, zist, zast, zlst, ziinc, zbin, zun, zbinL, zdup, zdup2, zpop1, ztgt, zbr, zcm, zif0, zif2, ztsw, zlsw, zlen, zgetf, zputf, zgets, zxald, zxast, zlenA, zokI, zokB, zarr, zcallK, zstat, zspec, zcopy, zretI, zretL, zretV, zwide, zisO, znewa, znew, zatp, zinit, zent, zf4_0, zf4_1, zf4_2, zf4_3, true_and, and_true, or_true, true_or, or_false, false_or, and_false, false_and, Classical.not_not, not_false_eq_true, not_true_eq_false, ne_eq, List.not_mem_nil, List.mem_cons, ↓reduceIte, ite_true, ite_false, List.getElem?_cons_zero, List.getElem?_cons_succ, List.set_cons_zero, List.set_cons_succ, List.length_cons, List.length_nil, List.take_succ_cons, List.take_zero, List.drop_succ_cons, List.drop_zero, List.reverse_cons, List.reverse_nil, List.nil_append, List.cons_append, List.append_nil, List.map_cons, List.map_nil, List.sum_cons, List.sum_nil, List.replicate_succ, List.replicate_zero, Value.category, Nat.reduceAdd, Nat.reduceSub, Nat.reduceMul, Nat.reduceLT, Nat.reduceLeDiff, Nat.reduceEqDiff, Nat.reduceBEq, Int.reduceAdd, Int.reduceSub, Int.reduceLE, Int.reduceLT, Int.reduceToNat, Int.reduceNeg, Int.reduceNegSucc, Int.cast_ofNat_Int, forall_const, imp_self, Option.toList_some, Option.toList_none, zrt_i, zrt_l, zrt_v, zrt_b, eq_self, nI_1, zfz_0, zfz_1, zfz_2, zl2_0, SH_0, SH_1, SH_2, SH_3, SH_4, SH_5, SH_6, SH_7, SH_8, SH_9, SH_10, SH_11, SH_12, SH_13, SH_14, SH_15, SH_16, SH_17, SH_18, SH_19, SH_20, SH_21, SH_22, SH_23, SH_24, SH_25, SH_26, SH_27, SH_28, SH_29, SH_30, SH_31, SH_32, SH_33, b8_m101, b8_m100, b8_m8, b8_6, b8_7, b8_8, b8_9, b8_10, b8_12, b8_16, b8_24, b8_30, b8_40, b8_63, b8_64, b8_99, b8_100, b8_101, b8_127, b16_128, b16_200, b16_201, b16_439, b16_999, b16_1000, b16_12000, bi_m1, bi_0, bi_1, bi_2, bi_3, bi_4, bi_5, dX0_layOut_0, dX0_layOut_1, dX0_layOut_2, dX0_layOut_5, dX0_layOut_6, dX0_layOut_7, dX0_layOut_10, dX0_layOut_13, dX0_layOut_14, dX0_layOut_15, dX0_layOut_18, dX0_layOut_21, dX0_layOut_22, dX0_layOut_25, dX0_layOut_26, dX0_layOut_29, dX0_layOut_30, dX0_layOut_33, dX0_layOut_34, dX0_layOut_37, dX0_layOut_38, dX0_layOut_41, dX0_layOut_42, dX0_layOut_43, dX0_layOut_46, dX0_layOut_47, dX0_layOut_50, dX0_layOut_51, dX0_layOut_54, dX0_layOut_55, dX0_layOut_58, dX0_layOut_59, dX0_layOut_60, dX0_layOut_61, dX0_layOut_62, dX0_layOut_63, dX0_layOut_64, dX0_layOut_65, dX0_layOut_68, zF_0_21, zF_0_25, zF_0_30, zK_0_31, zM_11, zF_0_35, zF_0_37, zF_0_9, zK_0_40, zM_12, zY_0_40]; try simp only [zup_at, zupd_at, bx_uu, Nat.reduceEqDiff, ↓reduceIte]
      simp only [zup_at, zupd_at, Nat.reduceEqDiff, ↓reduceIte] at c9
      refine h _ (fun c e1 e2 e3 e4 => ?_) ?_ ?_ ?_
      · rw [c2 c e1 e2 e3 e4, zup_at, if_neg e2, zup_at, if_neg e1]
      · rw [c9 1 (by decide)]
        rfl
      · rw [c9 2 (by decide)]
        rfl
      · rw [zord, if_pos g]
        rw [List.nil_append] at cR
        exact cR
end
