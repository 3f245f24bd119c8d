/-! ===== Weights ===== -/
/-- a weight's key: its place first, its turn next -/
def zky (p t : Int32) : Int := 12 * p.toInt + t.toInt
/-- how many of the first k keys are below K -/
def zrkn (f : Nat → Int) (K : Int) : Nat → Nat
  | 0 => 0
  | k + 1 => zrkn f K k + if f k < K then 1 else 0
theorem zrkn_s (f : Nat → Int) (K : Int) (k : Nat) : zrkn f K (k + 1) = zrkn f K k + if f k < K then 1 else 0 := rfl
theorem zrkn_le (f : Nat → Int) (K : Int) : ∀ k, zrkn f K k ≤ k
  | 0 => Nat.le_refl 0
  | k + 1 => by
    have h := zrkn_le f K k
    rw [zrkn_s]
    split <;> omega
theorem zrkn_at {f : Nat → Int} {K : Int} : ∀ {k}, (∀ i j, i < j → j < k → f i < f j) → (∀ i, i < zrkn f K k → f i < K) ∧ ∀ i, zrkn f K k ≤ i → i < k → K ≤ f i
  | 0, _ => ⟨fun i h => absurd h (Nat.not_lt_zero i), fun i _ h => absurd h (Nat.not_lt_zero i)⟩
  | k + 1, hs => by
    obtain ⟨h1, h2⟩ := zrkn_at (f := f) (K := K) (k := k) (fun i j a b => hs i j a (by omega))
    have hle := zrkn_le f K k
    rw [zrkn_s]
    by_cases g : f k < K
    · rw [if_pos g]
      have e : zrkn f K k = k := by
        rcases Nat.lt_or_ge (zrkn f K k) k with q | q
        · have a := h2 _ (Nat.le_refl _) q
          have b := hs _ k q (by omega)
          omega
        · omega
      rw [e] at h1 ⊢
      refine ⟨fun i hi => ?_, fun i hi hi2 => by omega⟩
      rcases Nat.lt_or_ge i k with q | q
      · exact h1 i q
      · rw [show i = k by omega]
        exact g
    · rw [if_neg g]
      refine ⟨fun i hi => h1 i hi, fun i hi hi2 => ?_⟩
      rcases Nat.lt_or_ge i k with q | q
      · exact h2 i hi q
      · rw [show i = k by omega]
        omega
section
variable {fz : zFz} {L : Nat} {xs : Nat → Int32} {d : Nat} {se : List zSh} {M : zMm} {st : zS} {Q : Option Value → zS → Prop}
set_option maxHeartbeats 4000000 in
set_option maxRecDepth 100000 in
theorem s_X4_rankOf {p t : Int32} {wk : Nat} (hk : wk ≤ 8) (h0 : M 5 0 = nI wk) (ht : ∀ k, k < wk → 0 ≤ (M 7 k).toInt ∧ (M 7 k).toInt < 12) (ht2 : 0 ≤ t.toInt ∧ t.toInt < 12) (h : Q (some (.int (nI (zrkn (fun k => zky (M 6 k) (M 7 k)) (zky p t) wk)))) (SG se, M)) : zcl fz (d + 1) 44 [.ref 5, .int p, .int t] (SG se, M) Q := by
  refine zcl_intro zM_44 (by rw [zmL_len]; decide) (by decide) rfl (Nat.le_of_ble_eq_true rfl) ?_
  refine zx_ok [5] 300 ?_; simp only [zx_step, zxd_ok, zxo_1, zxo_2, zxo_3, zxo_4, zxo_5, zone, zstep, zild, zlld, zald, zist, zast, zlst, ziinc, zbin, zun, zbinL, zdup, zdup2, zpop1, ztgt, zbr, zcm, zif0, zif2, ztsw, zlsw, zlen, zgetf, zputf, zgets, zxald, zxast, zlenA, zokI, zokB, zarr, zcallK, zstat, zspec, zcopy, zretI, zretL, zretV, zwide, zisO, znewa, znew, zatp, zinit, zent, zf4_0, zf4_1, zf4_2, zf4_3, true_and, and_true, or_true, true_or, or_false, false_or, and_false, false_and, Classical.not_not, not_false_eq_true, not_true_eq_false, ne_eq, List.not_mem_nil, List.mem_cons, ↓reduceIte, ite_true, ite_false, List.getElem?_cons_zero, List.getElem?_cons_succ, List.set_cons_zero, List.set_cons_succ, List.length_cons, List.length_nil, List.take_succ_cons, List.take_zero, List.drop_succ_cons, List.drop_zero, List.reverse_cons, List.reverse_nil, List.nil_append, List.cons_append, List.append_nil, List.map_cons, List.map_nil, List.sum_cons, List.sum_nil, List.replicate_succ, List.replicate_zero, Value.category, Nat.reduceAdd, Nat.reduceSub, Nat.reduceMul, Nat.reduceLT, Nat.reduceLeDiff, Nat.reduceEqDiff, Nat.reduceBEq, Int.reduceAdd, Int.reduceSub, Int.reduceLE, Int.reduceLT, Int.reduceToNat, Int.reduceNeg, Int.reduceNegSucc, Int.cast_ofNat_Int, forall_const, imp_self, Option.toList_some, Option.toList_none, zrt_i, zrt_l, zrt_v, zrt_b, eq_self, nI_1, zfz_0, zfz_1, zfz_2, zl2_0, SH_0, SH_1, SH_2, SH_3, SH_4, SH_5, SH_6, SH_7, SH_8, SH_9, SH_10, SH_11, SH_12, SH_13, SH_14, SH_15, SH_16, SH_17, SH_18, SH_19, SH_20, SH_21, SH_22, SH_23, SH_24, SH_25, SH_26, SH_27, SH_28, SH_29, SH_30, SH_31, SH_32, SH_33, b8_m101, b8_m100, b8_m8, b8_6, b8_7, b8_8, b8_9, b8_10, b8_12, b8_16, b8_24, b8_30, b8_40, b8_63, b8_64, b8_99, b8_100, b8_101, b8_127, b16_128, b16_200, b16_201, b16_439, b16_999, b16_1000, b16_12000, bi_m1, bi_0, bi_1, bi_2, bi_3, bi_4, bi_5, dX4_rankOf_0, dX4_rankOf_1, dX4_rankOf_2, dX4_rankOf_3, dX4_rankOf_5, dX4_rankOf_7, dX4_rankOf_8, dX4_rankOf_11, dX4_rankOf_14, dX4_rankOf_15, dX4_rankOf_18, dX4_rankOf_20, dX4_rankOf_21, dX4_rankOf_22, dX4_rankOf_25, dX4_rankOf_26, dX4_rankOf_29, dX4_rankOf_31, dX4_rankOf_32, dX4_rankOf_33, dX4_rankOf_36, dX4_rankOf_37, dX4_rankOf_40, dX4_rankOf_42, dX4_rankOf_43, dX4_rankOf_44, dX4_rankOf_47, dX4_rankOf_50, dX4_rankOf_53, dX4_rankOf_56, dX4_rankOf_57, zF_4_29, zF_4_9, zF_4_15]; try simp only [zup_at, zupd_at, bx_uu, Nat.reduceEqDiff, ↓reduceIte]
  refine zloop wk (fun i => (5, [some (.ref 5), some (.int p), some (.int t), some (.int (nI (zrkn (fun k => zky (M 6 k) (M 7 k)) (zky p t) i))), some (.int (nI i))], [], (SG se, M))) ?_ (fun i hi ih => ?_) 0 (by omega)
  · refine zx_ok [5] 300 ?_; simp only [zx_step, zxd_ok, zxo_1, zxo_2, zxo_3, zxo_4, zxo_5, zone, zstep, zild, zlld, zald, zist, zast, zlst, ziinc, zbin, zun, zbinL, zdup, zdup2, zpop1, ztgt, zbr, zcm, zif0, zif2, ztsw, zlsw, zlen, zgetf, zputf, zgets, zxald, zxast, zlenA, zokI, zokB, zarr, zcallK, zstat, zspec, zcopy, zretI, zretL, zretV, zwide, zisO, znewa, znew, zatp, zinit, zent, zf4_0, zf4_1, zf4_2, zf4_3, true_and, and_true, or_true, true_or, or_false, false_or, and_false, false_and, Classical.not_not, not_false_eq_true, not_true_eq_false, ne_eq, List.not_mem_nil, List.mem_cons, ↓reduceIte, ite_true, ite_false, List.getElem?_cons_zero, List.getElem?_cons_succ, List.set_cons_zero, List.set_cons_succ, List.length_cons, List.length_nil, List.take_succ_cons, List.take_zero, List.drop_succ_cons, List.drop_zero, List.reverse_cons, List.reverse_nil, List.nil_append, List.cons_append, List.append_nil, List.map_cons, List.map_nil, List.sum_cons, List.sum_nil, List.replicate_succ, List.replicate_zero, Value.category, Nat.reduceAdd, Nat.reduceSub, Nat.reduceMul, Nat.reduceLT, Nat.reduceLeDiff, Nat.reduceEqDiff, Nat.reduceBEq, Int.reduceAdd, Int.reduceSub, Int.reduceLE, Int.reduceLT, Int.reduceToNat, Int.reduceNeg, Int.reduceNegSucc, Int.cast_ofNat_Int, forall_const, imp_self, Option.toList_some, Option.toList_none, zrt_i, zrt_l, zrt_v, zrt_b, eq_self, nI_1, zfz_0, zfz_1, zfz_2, zl2_0, SH_0, SH_1, SH_2, SH_3, SH_4, SH_5, SH_6, SH_7, SH_8, SH_9, SH_10, SH_11, SH_12, SH_13, SH_14, SH_15, SH_16, SH_17, SH_18, SH_19, SH_20, SH_21, SH_22, SH_23, SH_24, SH_25, SH_26, SH_27, SH_28, SH_29, SH_30, SH_31, SH_32, SH_33, b8_m101, b8_m100, b8_m8, b8_6, b8_7, b8_8, b8_9, b8_10, b8_12, b8_16, b8_24, b8_30, b8_40, b8_63, b8_64, b8_99, b8_100, b8_101, b8_127, b16_128, b16_200, b16_201, b16_439, b16_999, b16_1000, b16_12000, bi_m1, bi_0, bi_1, bi_2, bi_3, bi_4, bi_5, dX4_rankOf_0, dX4_rankOf_1, dX4_rankOf_2, dX4_rankOf_3, dX4_rankOf_5, dX4_rankOf_7, dX4_rankOf_8, dX4_rankOf_11, dX4_rankOf_14, dX4_rankOf_15, dX4_rankOf_18, dX4_rankOf_20, dX4_rankOf_21, dX4_rankOf_22, dX4_rankOf_25, dX4_rankOf_26, dX4_rankOf_29, dX4_rankOf_31, dX4_rankOf_32, dX4_rankOf_33, dX4_rankOf_36, dX4_rankOf_37, dX4_rankOf_40, dX4_rankOf_42, dX4_rankOf_43, dX4_rankOf_44, dX4_rankOf_47, dX4_rankOf_50, dX4_rankOf_53, dX4_rankOf_56, dX4_rankOf_57, zF_4_29, zF_4_9, zF_4_15]; try simp only [zup_at, zupd_at, bx_uu, Nat.reduceEqDiff, ↓reduceIte]
    rw [h0]
    exact ⟨fun _ => h, fun g => absurd (nI_le (Nat.le_refl wk) (by omega)) g⟩
  · refine zx_ok [5] 300 ?_; simp only [zx_step, zxd_ok, zxo_1, zxo_2, zxo_3, zxo_4, zxo_5, zone, zstep, zild, zlld, zald, zist, zast, zlst, ziinc, zbin, zun, zbinL, zdup, zdup2, zpop1, ztgt, zbr, zcm, zif0, zif2, ztsw, zlsw, zlen, zgetf, zputf, zgets, zxald, zxast, zlenA, zokI, zokB, zarr, zcallK, zstat, zspec, zcopy, zretI, zretL, zretV, zwide, zisO, znewa, znew, zatp, zinit, zent, zf4_0, zf4_1, zf4_2, zf4_3, true_and, and_true, or_true, true_or, or_false, false_or, and_false, false_and, Classical.not_not, not_false_eq_true, not_true_eq_false, ne_eq, List.not_mem_nil, List.mem_cons, ↓reduceIte, ite_true, ite_false, List.getElem?_cons_zero, List.getElem?_cons_succ, List.set_cons_zero, List.set_cons_succ, List.length_cons, List.length_nil, List.take_succ_cons, List.take_zero, List.drop_succ_cons, List.drop_zero, List.reverse_cons, List.reverse_nil, List.nil_append, List.cons_append, List.append_nil, List.map_cons, List.map_nil, List.sum_cons, List.sum_nil, List.replicate_succ, List.replicate_zero, Value.category, Nat.reduceAdd, Nat.reduceSub, Nat.reduceMul, Nat.reduceLT, Nat.reduceLeDiff, Nat.reduceEqDiff, Nat.reduceBEq, Int.reduceAdd, Int.reduceSub, Int.reduceLE, Int.reduceLT, Int.reduceToNat, Int.reduceNeg, Int.reduceNegSucc, Int.cast_ofNat_Int, forall_const, imp_self, Option.toList_some, Option.toList_none, zrt_i, zrt_l, zrt_v, zrt_b, eq_self, nI_1, zfz_0, zfz_1, zfz_2, zl2_0, SH_0, SH_1, SH_2, SH_3, SH_4, SH_5, SH_6, SH_7, SH_8, SH_9, SH_10, SH_11, SH_12, SH_13, SH_14, SH_15, SH_16, SH_17, SH_18, SH_19, SH_20, SH_21, SH_22, SH_23, SH_24, SH_25, SH_26, SH_27, SH_28, SH_29, SH_30, SH_31, SH_32, SH_33, b8_m101, b8_m100, b8_m8, b8_6, b8_7, b8_8, b8_9, b8_10, b8_12, b8_16, b8_24, b8_30, b8_40, b8_63, b8_64, b8_99, b8_100, b8_101, b8_127, b16_128, b16_200, b16_201, b16_439, b16_999, b16_1000, b16_12000, bi_m1, bi_0, bi_1, bi_2, bi_3, bi_4, bi_5, dX4_rankOf_0, dX4_rankOf_1, dX4_rankOf_2, dX4_rankOf_3, dX4_rankOf_5, dX4_rankOf_7, dX4_rankOf_8, dX4_rankOf_11, dX4_rankOf_14, dX4_rankOf_15, dX4_rankOf_18, dX4_rankOf_20, dX4_rankOf_21, dX4_rankOf_22, dX4_rankOf_25, dX4_rankOf_26, dX4_rankOf_29, dX4_rankOf_31, dX4_rankOf_32, dX4_rankOf_33, dX4_rankOf_36, dX4_rankOf_37, dX4_rankOf_40, dX4_rankOf_42, dX4_rankOf_43, dX4_rankOf_44, dX4_rankOf_47, dX4_rankOf_50, dX4_rankOf_53, dX4_rankOf_56, dX4_rankOf_57, zF_4_29, zF_4_9, zF_4_15]; try simp only [zup_at, zupd_at, bx_uu, Nat.reduceEqDiff, ↓reduceIte]
    rw [h0]
    refine ⟨fun g => absurd g (nI_ge hi (by omega)), fun _ => ?_⟩
    have t3 : ((nI i).toInt) = (i : Int) := nI_toInt (by omega)
    simp only [t3, Int.toNat_natCast, Int32.lt_iff_toInt_lt, Int32.le_iff_toInt_le, ← Int32.toInt_inj]
    obtain ⟨a1, a2⟩ := ht i hi
    rw [zrkn_s] at ih
    by_cases g : zky (M 6 i) (M 7 i) < zky p t
    · have g' := g
      simp only [zky] at g'
      rw [if_pos g] at ih
      repeat' first | exact ih | (exfalso; omega) | refine ⟨?_, ?_⟩ | intro _
      all_goals omega
    · have g' := g
      simp only [zky] at g'
      rw [if_neg g] at ih
      repeat' first | exact ih | (exfalso; omega) | refine ⟨?_, ?_⟩ | intro _
      all_goals omega
set_option maxHeartbeats 4000000 in
set_option maxRecDepth 100000 in
theorem s_X4_standsAt {x p t : Int32} {r wk : Nat} (hx : x = nI r) (hr : r ≤ 8) (hk : wk ≤ 8) (h0 : M 5 0 = nI wk) (h1 : r < wk → M 6 r = p → M 7 r = t → Q (some (.int 1)) (SG se, M)) (h2 : ¬ (r < wk ∧ M 6 r = p ∧ M 7 r = t) → Q (some (.int 0)) (SG se, M)) : zcl fz (d + 1) 45 [.ref 5, .int x, .int p, .int t] (SG se, M) Q := by
  subst hx
  refine zcl_intro zM_45 (by rw [zmL_len]; decide) (by decide) rfl (Nat.le_of_ble_eq_true rfl) ?_
  refine zx_ok [] 300 ?_; simp only [zx_step, zxd_ok, zxo_1, zxo_2, zxo_3, zxo_4, zxo_5, zone, zstep, zild, zlld, zald, zist, zast, zlst, ziinc, zbin, zun, zbinL, zdup, zdup2, zpop1, ztgt, zbr, zcm, zif0, zif2, ztsw, zlsw, zlen, zgetf, zputf, zgets, zxald, zxast, zlenA, zokI, zokB, zarr, zcallK, zstat, zspec, zcopy, zretI, zretL, zretV, zwide, zisO, znewa, znew, zatp, zinit, zent, zf4_0, zf4_1, zf4_2, zf4_3, true_and, and_true, or_true, true_or, or_false, false_or, and_false, false_and, Classical.not_not, not_false_eq_true, not_true_eq_false, ne_eq, List.not_mem_nil, List.mem_cons, ↓reduceIte, ite_true, ite_false, List.getElem?_cons_zero, List.getElem?_cons_succ, List.set_cons_zero, List.set_cons_succ, List.length_cons, List.length_nil, List.take_succ_cons, List.take_zero, List.drop_succ_cons, List.drop_zero, List.reverse_cons, List.reverse_nil, List.nil_append, List.cons_append, List.append_nil, List.map_cons, List.map_nil, List.sum_cons, List.sum_nil, List.replicate_succ, List.replicate_zero, Value.category, Nat.reduceAdd, Nat.reduceSub, Nat.reduceMul, Nat.reduceLT, Nat.reduceLeDiff, Nat.reduceEqDiff, Nat.reduceBEq, Int.reduceAdd, Int.reduceSub, Int.reduceLE, Int.reduceLT, Int.reduceToNat, Int.reduceNeg, Int.reduceNegSucc, Int.cast_ofNat_Int, forall_const, imp_self, Option.toList_some, Option.toList_none, zrt_i, zrt_l, zrt_v, zrt_b, eq_self, nI_1, zfz_0, zfz_1, zfz_2, zl2_0, SH_0, SH_1, SH_2, SH_3, SH_4, SH_5, SH_6, SH_7, SH_8, SH_9, SH_10, SH_11, SH_12, SH_13, SH_14, SH_15, SH_16, SH_17, SH_18, SH_19, SH_20, SH_21, SH_22, SH_23, SH_24, SH_25, SH_26, SH_27, SH_28, SH_29, SH_30, SH_31, SH_32, SH_33, b8_m101, b8_m100, b8_m8, b8_6, b8_7, b8_8, b8_9, b8_10, b8_12, b8_16, b8_24, b8_30, b8_40, b8_63, b8_64, b8_99, b8_100, b8_101, b8_127, b16_128, b16_200, b16_201, b16_439, b16_999, b16_1000, b16_12000, bi_m1, bi_0, bi_1, bi_2, bi_3, bi_4, bi_5, dX4_standsAt_0, dX4_standsAt_1, dX4_standsAt_2, dX4_standsAt_5, dX4_standsAt_8, dX4_standsAt_9, dX4_standsAt_12, dX4_standsAt_13, dX4_standsAt_14, dX4_standsAt_15, dX4_standsAt_18, dX4_standsAt_19, dX4_standsAt_22, dX4_standsAt_23, dX4_standsAt_24, dX4_standsAt_25, dX4_standsAt_28, dX4_standsAt_29, dX4_standsAt_32, dX4_standsAt_33, zF_4_29, zF_4_9, zF_4_15]; try simp only [zup_at, zupd_at, bx_uu, Nat.reduceEqDiff, ↓reduceIte]
  have t3 : ((nI r).toInt) = (r : Int) := nI_toInt (by omega)
  rw [h0]
  simp (disch := omega) only [t3, Int.toNat_natCast, nI_leI]
  repeat' first | (exact h1 (by omega) (by assumption) (by assumption)) | (exact h2 (by omega)) | (exact h2 (by intro q; simp_all; done)) | (exfalso; omega) | refine ⟨?_, ?_⟩ | intro _
  all_goals omega
set_option maxHeartbeats 4000000 in
set_option maxRecDepth 100000 in
theorem s_X4_copyWithin {x y : Int32} {a b : Nat} (hx : x = nI a) (hy : y = nI b) (ha : a < 8) (hb : b < 8) (h : Q none (SG se, va_up (va_up (va_up M 6 (upd (M 6) b (M 6 a))) 7 (upd (M 7) b (M 7 a))) 8 (upd (M 8) b (M 8 a)))) : zcl fz (d + 1) 46 [.ref 5, .int x, .int y] (SG se, M) Q := by
  subst hx
  subst hy
  refine zcl_intro zM_46 (by rw [zmL_len]; decide) (by decide) rfl (Nat.le_of_ble_eq_true rfl) ?_
  refine zx_ok [] 300 ?_; simp only [zx_step, zxd_ok, zxo_1, zxo_2, zxo_3, zxo_4, zxo_5, zone, zstep, zild, zlld, zald, zist, zast, zlst, ziinc, zbin, zun, zbinL, zdup, zdup2, zpop1, ztgt, zbr, zcm, zif0, zif2, ztsw, zlsw, zlen, zgetf, zputf, zgets, zxald, zxast, zlenA, zokI, zokB, zarr, zcallK, zstat, zspec, zcopy, zretI, zretL, zretV, zwide, zisO, znewa, znew, zatp, zinit, zent, zf4_0, zf4_1, zf4_2, zf4_3, true_and, and_true, or_true, true_or, or_false, false_or, and_false, false_and, Classical.not_not, not_false_eq_true, not_true_eq_false, ne_eq, List.not_mem_nil, List.mem_cons, ↓reduceIte, ite_true, ite_false, List.getElem?_cons_zero, List.getElem?_cons_succ, List.set_cons_zero, List.set_cons_succ, List.length_cons, List.length_nil, List.take_succ_cons, List.take_zero, List.drop_succ_cons, List.drop_zero, List.reverse_cons, List.reverse_nil, List.nil_append, List.cons_append, List.append_nil, List.map_cons, List.map_nil, List.sum_cons, List.sum_nil, List.replicate_succ, List.replicate_zero, Value.category, Nat.reduceAdd, Nat.reduceSub, Nat.reduceMul, Nat.reduceLT, Nat.reduceLeDiff, Nat.reduceEqDiff, Nat.reduceBEq, Int.reduceAdd, Int.reduceSub, Int.reduceLE, Int.reduceLT, Int.reduceToNat, Int.reduceNeg, Int.reduceNegSucc, Int.cast_ofNat_Int, forall_const, imp_self, Option.toList_some, Option.toList_none, zrt_i, zrt_l, zrt_v, zrt_b, eq_self, nI_1, zfz_0, zfz_1, zfz_2, zl2_0, SH_0, SH_1, SH_2, SH_3, SH_4, SH_5, SH_6, SH_7, SH_8, SH_9, SH_10, SH_11, SH_12, SH_13, SH_14, SH_15, SH_16, SH_17, SH_18, SH_19, SH_20, SH_21, SH_22, SH_23, SH_24, SH_25, SH_26, SH_27, SH_28, SH_29, SH_30, SH_31, SH_32, SH_33, b8_m101, b8_m100, b8_m8, b8_6, b8_7, b8_8, b8_9, b8_10, b8_12, b8_16, b8_24, b8_30, b8_40, b8_63, b8_64, b8_99, b8_100, b8_101, b8_127, b16_128, b16_200, b16_201, b16_439, b16_999, b16_1000, b16_12000, bi_m1, bi_0, bi_1, bi_2, bi_3, bi_4, bi_5, dX4_copyWithin_0, dX4_copyWithin_1, dX4_copyWithin_4, dX4_copyWithin_5, dX4_copyWithin_6, dX4_copyWithin_9, dX4_copyWithin_10, dX4_copyWithin_11, dX4_copyWithin_12, dX4_copyWithin_13, dX4_copyWithin_16, dX4_copyWithin_17, dX4_copyWithin_18, dX4_copyWithin_21, dX4_copyWithin_22, dX4_copyWithin_23, dX4_copyWithin_24, dX4_copyWithin_25, dX4_copyWithin_28, dX4_copyWithin_29, dX4_copyWithin_30, dX4_copyWithin_33, dX4_copyWithin_34, dX4_copyWithin_35, dX4_copyWithin_36, zF_4_9, zF_4_15, zF_4_18]; try simp only [zup_at, zupd_at, bx_uu, Nat.reduceEqDiff, ↓reduceIte]
  simp (disch := omega) only [nI_toInt, Int.toNat_natCast]
  repeat' first | exact h | (exfalso; omega) | refine ⟨?_, ?_⟩ | intro _
  all_goals omega
end
