/-! ===== Firings: penalty, peaks, gaps ===== -/
/-- k steps from a on -/
def zfold {α : Type} (f : Nat → α → α) : Nat → α → α
  | 0, a => a
  | k + 1, a => f k (zfold f k a)
theorem zfold_inv {α : Type} {f : Nat → α → α} {P : α → Prop} {a : α} (h0 : P a) : ∀ k, (∀ i x, i < k → P x → P (f i x)) → P (zfold f k a)
  | 0, _ => h0
  | k + 1, h => h k _ (Nat.lt_succ_self k) (zfold_inv h0 k (fun i x hi hx => h i x (by omega) hx))
/-- the peak of a bearing, met where one of both cylinders fires -/
def zpk2 (cy n om : Nat) (sl : Nat → Nat) (b : Nat) : Nat := max (if 1 ≤ b then zld2 cy n om sl b (sl (b - 1)) else 0) (if b < n then zld2 cy n om sl b (sl b) else 0)
def zgb (cy n om : Nat) (sl : Nat → Nat) (c : Nat) (k : Nat) : Nat := zfold (fun i g => if i ≠ c ∧ om.testBit i = true then min g (zfrom cy (sl c) (sl i)) else g) k cy
def zgp (cy n om : Nat) (sl : Nat → Nat) (k : Nat) : Nat := zfold (fun c l => if om.testBit c = true then max l (zgb cy n om sl c n) else l) k 0
theorem zmaxI {a b : Nat} (ha : a < 2 ^ 31) (hb : b < 2 ^ 31) : (if nI a < nI b then nI b else nI a) = nI (max a b) := by
  by_cases h : a < b
  · rw [if_pos ((nI_ltI ha hb).mpr h), Nat.max_eq_right (by omega)]
  · rw [if_neg (fun q => h ((nI_ltI ha hb).mp q)), Nat.max_eq_left (by omega)]
theorem zminI {a b : Nat} (ha : a < 2 ^ 31) (hb : b < 2 ^ 31) : (if nI b < nI a then nI b else nI a) = nI (min a b) := by
  by_cases h : b < a
  · rw [if_pos ((nI_ltI hb ha).mpr h), Nat.min_eq_right (by omega)]
  · rw [if_neg (fun q => h ((nI_ltI hb ha).mp q)), Nat.min_eq_left (by omega)]
theorem zgb_le {cy n om : Nat} {sl : Nat → Nat} {c k : Nat} : zgb cy n om sl c k ≤ cy := zfold_inv (P := fun g => g ≤ cy) (Nat.le_refl _) k (fun i x _ hx => by
  split
  · exact Nat.le_trans (Nat.min_le_left _ _) hx
  · exact hx)
theorem zgp_le {cy n om : Nat} {sl : Nat → Nat} {k : Nat} : zgp cy n om sl k ≤ cy := zfold_inv (P := fun g => g ≤ cy) (Nat.zero_le _) k (fun i x _ hx => by
  split
  · exact Nat.max_le.mpr ⟨hx, zgb_le⟩
  · exact hx)
theorem zld2_le {cy n om : Nat} {sl : Nat → Nat} {b s : Nat} : zld2 cy n om sl b s ≤ 16 := by
  unfold zld2
  have h1 := zsr_le (cy := cy) (n := n) (om := om) (sl := sl) (j := b) (s := s)
  have h2 := zsr_le (cy := cy) (n := n) (om := om) (sl := sl) (j := b - 1) (s := s)
  split <;> omega
theorem zbit1 {om c : Nat} (h1 : om < 256) (h2 : c < 8) : ((nI om >>> (nI c &&& 31)) &&& 1 = 1) = (om.testBit c = true) := by
  rw [zbit om h1 c h2]
  by_cases h : om.testBit c = true
  · simp [h]
  · rw [if_neg h]
    simp [h]
section
variable {fz : zFz} {L : Nat} {xs : Nat → Int32} {d : Nat} {se : List zSh} {M : zMm} {st : zS} {Q : Option Value → zS → Prop}
theorem s_maxN {x y : Int32} {a b : Nat} (hx : x = nI a) (hy : y = nI b) (ha : a < 2 ^ 31) (hb : b < 2 ^ 31) (h : Q (some (.int (nI (max a b)))) st) : zcl fz (d + 1) 25 [.int x, .int y] st Q := by
  subst hx hy
  exact s_max (by rw [zmaxI ha hb]; exact h)
theorem s_minN {x y : Int32} {a b : Nat} (hx : x = nI a) (hy : y = nI b) (ha : a < 2 ^ 31) (hb : b < 2 ^ 31) (h : Q (some (.int (nI (min a b)))) st) : zcl fz (d + 1) 27 [.int x, .int y] st Q := by
  subst hx hy
  exact s_min (by rw [zminI ha hb]; exact h)
set_option maxHeartbeats 4000000 in
set_option maxRecDepth 100000 in
theorem s_peak_it {z : Int32} {w : Option Value} {o om cy n b pk : Nat} {sl : Nat → Nat} {j : Int} (hz : z.toInt = j) (hj : -1 ≤ j ∧ j ≤ b) (hpk : pk ≤ 16) (ho : o < 8) (hom : om < 256) (hcy : cy < 1000) (hn : n ≤ 8) (hb : b ≤ n) (h1 : M 9 1 = nI n) (h2 : M 9 2 = nI cy) (h3 : ∀ c, c < n → M 12 (8 * o + c) = nI (sl c) ∧ sl c < cy)
    (K : ∀ w', zwp fz (d + 3) 0 false cX0_peakOf (8, [some (.ref 9), some (.int (nI o)), some (.int (nI om)), some (.int (nI b)), some (.int (nI (max pk (if 0 ≤ j ∧ j < n then zld2 cy n om sl b (sl j.toNat) else 0)))), some (.int (z + 1)), w'], [], (SG se, M)) Q) : zwp fz (d + 3) 0 false cX0_peakOf (8, [some (.ref 9), some (.int (nI o)), some (.int (nI om)), some (.int (nI b)), some (.int (nI pk)), some (.int z), w], [], (SG se, M)) Q := by
  have hzb : ¬ nI b < z := by
    rw [fa_lt, hz, nI_toInt (by omega)]
    omega
  refine zx_ok [8] 300 ?_; simp only [zx_step, zxd_ok, zxo_1, zxo_2, zxo_3, zxo_4, zxo_5, zone, zstep, zild, zlld, zald, zist, zast, zlst, ziinc, zbin, zun, zbinL, zdup, zdup2, zpop1, ztgt, zbr, zcm, zif0, zif2, ztsw, zlsw, zlen, zgetf, zputf, zgets, zxald, zxast, zlenA, zokI, zokB, zarr, zcallK, zstat, zspec, zcopy, zretI, zretL, zretV, zwide, zisO, znewa, znew, zatp, zinit, zent, zf4_0, zf4_1, zf4_2, zf4_3, true_and, and_true, or_true, true_or, or_false, false_or, and_false, false_and, Classical.not_not, not_false_eq_true, not_true_eq_false, ne_eq, List.not_mem_nil, List.mem_cons, ↓reduceIte, ite_true, ite_false, List.getElem?_cons_zero, List.getElem?_cons_succ, List.set_cons_zero, List.set_cons_succ, List.length_cons, List.length_nil, List.take_succ_cons, List.take_zero, List.drop_succ_cons, List.drop_zero, List.reverse_cons, List.reverse_nil, List.nil_append, List.cons_append, List.append_nil, List.map_cons, List.map_nil, List.sum_cons, List.sum_nil, List.replicate_succ, List.replicate_zero, Value.category, Nat.reduceAdd, Nat.reduceSub, Nat.reduceMul, Nat.reduceLT, Nat.reduceLeDiff, Nat.reduceEqDiff, Nat.reduceBEq, Int.reduceAdd, Int.reduceSub, Int.reduceLE, Int.reduceLT, Int.reduceToNat, Int.reduceNeg, Int.reduceNegSucc, Int.cast_ofNat_Int, forall_const, imp_self, Option.toList_some, Option.toList_none, zrt_i, zrt_l, zrt_v, zrt_b, eq_self, nI_1, zfz_0, zfz_1, zfz_2, zl2_0, SH_0, SH_1, SH_2, SH_3, SH_4, SH_5, SH_6, SH_7, SH_8, SH_9, SH_10, SH_11, SH_12, SH_13, SH_14, SH_15, SH_16, SH_17, SH_18, SH_19, SH_20, SH_21, SH_22, SH_23, SH_24, SH_25, SH_26, SH_27, SH_28, SH_29, SH_30, SH_31, SH_32, SH_33, b8_m101, b8_m100, b8_m8, b8_6, b8_7, b8_8, b8_9, b8_10, b8_12, b8_16, b8_24, b8_30, b8_40, b8_63, b8_64, b8_99, b8_100, b8_101, b8_127, b16_128, b16_200, b16_201, b16_439, b16_999, b16_1000, b16_12000, bi_m1, bi_0, bi_1, bi_2, bi_3, bi_4, bi_5, dX0_peakOf_0, dX0_peakOf_1, dX0_peakOf_3, dX0_peakOf_4, dX0_peakOf_5, dX0_peakOf_6, dX0_peakOf_8, dX0_peakOf_10, dX0_peakOf_11, dX0_peakOf_14, dX0_peakOf_16, dX0_peakOf_19, dX0_peakOf_21, dX0_peakOf_22, dX0_peakOf_25, dX0_peakOf_28, dX0_peakOf_29, dX0_peakOf_30, dX0_peakOf_32, dX0_peakOf_35, dX0_peakOf_37, dX0_peakOf_39, dX0_peakOf_40, dX0_peakOf_41, dX0_peakOf_42, dX0_peakOf_43, dX0_peakOf_45, dX0_peakOf_48, dX0_peakOf_51, dX0_peakOf_53, dX0_peakOf_56, dX0_peakOf_59, dX0_peakOf_61, zF_0_30, zK_0_68, zM_28, zK_0_71, zM_52, zK_0_65, zM_25, zY_0_65]; try simp only [zup_at, zupd_at, bx_uu, Nat.reduceEqDiff, ↓reduceIte]
  refine ⟨fun g => absurd g hzb, fun _ => ⟨fun g1 => ?_, fun g1 => ⟨fun g2 => ?_, fun g2 => ?_⟩⟩⟩
  · rw [fa_lt, Int32.toInt_zero, hz] at g1
    have := K w
    rwa [if_neg (by omega), Nat.max_eq_left (by omega)] at this
  · rw [h1, fa_le, hz, nI_toInt (by omega)] at g2
    have := K w
    rwa [if_neg (by omega), Nat.max_eq_left (by omega)] at this
  · rw [h1, fa_le, hz, nI_toInt (by omega)] at g2
    rw [fa_lt, Int32.toInt_zero, hz] at g1
    have hz2 : z = nI j.toNat := by
      apply Int32.toInt_inj.mp
      rw [nI_toInt (by omega), hz]
      omega
    obtain ⟨e1, e2⟩ := h3 j.toNat (by omega)
    refine s_X0_slotOf rfl hz2 ho (by omega) ?_
    refine zx_ok [8] 300 ?_; simp only [zx_step, zxd_ok, zxo_1, zxo_2, zxo_3, zxo_4, zxo_5, zone, zstep, zild, zlld, zald, zist, zast, zlst, ziinc, zbin, zun, zbinL, zdup, zdup2, zpop1, ztgt, zbr, zcm, zif0, zif2, ztsw, zlsw, zlen, zgetf, zputf, zgets, zxald, zxast, zlenA, zokI, zokB, zarr, zcallK, zstat, zspec, zcopy, zretI, zretL, zretV, zwide, zisO, znewa, znew, zatp, zinit, zent, zf4_0, zf4_1, zf4_2, zf4_3, true_and, and_true, or_true, true_or, or_false, false_or, and_false, false_and, Classical.not_not, not_false_eq_true, not_true_eq_false, ne_eq, List.not_mem_nil, List.mem_cons, ↓reduceIte, ite_true, ite_false, List.getElem?_cons_zero, List.getElem?_cons_succ, List.set_cons_zero, List.set_cons_succ, List.length_cons, List.length_nil, List.take_succ_cons, List.take_zero, List.drop_succ_cons, List.drop_zero, List.reverse_cons, List.reverse_nil, List.nil_append, List.cons_append, List.append_nil, List.map_cons, List.map_nil, List.sum_cons, List.sum_nil, List.replicate_succ, List.replicate_zero, Value.category, Nat.reduceAdd, Nat.reduceSub, Nat.reduceMul, Nat.reduceLT, Nat.reduceLeDiff, Nat.reduceEqDiff, Nat.reduceBEq, Int.reduceAdd, Int.reduceSub, Int.reduceLE, Int.reduceLT, Int.reduceToNat, Int.reduceNeg, Int.reduceNegSucc, Int.cast_ofNat_Int, forall_const, imp_self, Option.toList_some, Option.toList_none, zrt_i, zrt_l, zrt_v, zrt_b, eq_self, nI_1, zfz_0, zfz_1, zfz_2, zl2_0, SH_0, SH_1, SH_2, SH_3, SH_4, SH_5, SH_6, SH_7, SH_8, SH_9, SH_10, SH_11, SH_12, SH_13, SH_14, SH_15, SH_16, SH_17, SH_18, SH_19, SH_20, SH_21, SH_22, SH_23, SH_24, SH_25, SH_26, SH_27, SH_28, SH_29, SH_30, SH_31, SH_32, SH_33, b8_m101, b8_m100, b8_m8, b8_6, b8_7, b8_8, b8_9, b8_10, b8_12, b8_16, b8_24, b8_30, b8_40, b8_63, b8_64, b8_99, b8_100, b8_101, b8_127, b16_128, b16_200, b16_201, b16_439, b16_999, b16_1000, b16_12000, bi_m1, bi_0, bi_1, bi_2, bi_3, bi_4, bi_5, dX0_peakOf_0, dX0_peakOf_1, dX0_peakOf_3, dX0_peakOf_4, dX0_peakOf_5, dX0_peakOf_6, dX0_peakOf_8, dX0_peakOf_10, dX0_peakOf_11, dX0_peakOf_14, dX0_peakOf_16, dX0_peakOf_19, dX0_peakOf_21, dX0_peakOf_22, dX0_peakOf_25, dX0_peakOf_28, dX0_peakOf_29, dX0_peakOf_30, dX0_peakOf_32, dX0_peakOf_35, dX0_peakOf_37, dX0_peakOf_39, dX0_peakOf_40, dX0_peakOf_41, dX0_peakOf_42, dX0_peakOf_43, dX0_peakOf_45, dX0_peakOf_48, dX0_peakOf_51, dX0_peakOf_53, dX0_peakOf_56, dX0_peakOf_59, dX0_peakOf_61, zF_0_30, zK_0_68, zM_28, zK_0_71, zM_52, zK_0_65, zM_25, zY_0_65]; try simp only [zup_at, zupd_at, bx_uu, Nat.reduceEqDiff, ↓reduceIte]
    refine s_X0_loadOf rfl rfl rfl e1 ho hom e2 hcy hn hb h1 h2 h3 ?_
    refine zx_ok [8] 300 ?_; simp only [zx_step, zxd_ok, zxo_1, zxo_2, zxo_3, zxo_4, zxo_5, zone, zstep, zild, zlld, zald, zist, zast, zlst, ziinc, zbin, zun, zbinL, zdup, zdup2, zpop1, ztgt, zbr, zcm, zif0, zif2, ztsw, zlsw, zlen, zgetf, zputf, zgets, zxald, zxast, zlenA, zokI, zokB, zarr, zcallK, zstat, zspec, zcopy, zretI, zretL, zretV, zwide, zisO, znewa, znew, zatp, zinit, zent, zf4_0, zf4_1, zf4_2, zf4_3, true_and, and_true, or_true, true_or, or_false, false_or, and_false, false_and, Classical.not_not, not_false_eq_true, not_true_eq_false, ne_eq, List.not_mem_nil, List.mem_cons, ↓reduceIte, ite_true, ite_false, List.getElem?_cons_zero, List.getElem?_cons_succ, List.set_cons_zero, List.set_cons_succ, List.length_cons, List.length_nil, List.take_succ_cons, List.take_zero, List.drop_succ_cons, List.drop_zero, List.reverse_cons, List.reverse_nil, List.nil_append, List.cons_append, List.append_nil, List.map_cons, List.map_nil, List.sum_cons, List.sum_nil, List.replicate_succ, List.replicate_zero, Value.category, Nat.reduceAdd, Nat.reduceSub, Nat.reduceMul, Nat.reduceLT, Nat.reduceLeDiff, Nat.reduceEqDiff, Nat.reduceBEq, Int.reduceAdd, Int.reduceSub, Int.reduceLE, Int.reduceLT, Int.reduceToNat, Int.reduceNeg, Int.reduceNegSucc, Int.cast_ofNat_Int, forall_const, imp_self, Option.toList_some, Option.toList_none, zrt_i, zrt_l, zrt_v, zrt_b, eq_self, nI_1, zfz_0, zfz_1, zfz_2, zl2_0, SH_0, SH_1, SH_2, SH_3, SH_4, SH_5, SH_6, SH_7, SH_8, SH_9, SH_10, SH_11, SH_12, SH_13, SH_14, SH_15, SH_16, SH_17, SH_18, SH_19, SH_20, SH_21, SH_22, SH_23, SH_24, SH_25, SH_26, SH_27, SH_28, SH_29, SH_30, SH_31, SH_32, SH_33, b8_m101, b8_m100, b8_m8, b8_6, b8_7, b8_8, b8_9, b8_10, b8_12, b8_16, b8_24, b8_30, b8_40, b8_63, b8_64, b8_99, b8_100, b8_101, b8_127, b16_128, b16_200, b16_201, b16_439, b16_999, b16_1000, b16_12000, bi_m1, bi_0, bi_1, bi_2, bi_3, bi_4, bi_5, dX0_peakOf_0, dX0_peakOf_1, dX0_peakOf_3, dX0_peakOf_4, dX0_peakOf_5, dX0_peakOf_6, dX0_peakOf_8, dX0_peakOf_10, dX0_peakOf_11, dX0_peakOf_14, dX0_peakOf_16, dX0_peakOf_19, dX0_peakOf_21, dX0_peakOf_22, dX0_peakOf_25, dX0_peakOf_28, dX0_peakOf_29, dX0_peakOf_30, dX0_peakOf_32, dX0_peakOf_35, dX0_peakOf_37, dX0_peakOf_39, dX0_peakOf_40, dX0_peakOf_41, dX0_peakOf_42, dX0_peakOf_43, dX0_peakOf_45, dX0_peakOf_48, dX0_peakOf_51, dX0_peakOf_53, dX0_peakOf_56, dX0_peakOf_59, dX0_peakOf_61, zF_0_30, zK_0_68, zM_28, zK_0_71, zM_52, zK_0_65, zM_25, zY_0_65]; try simp only [zup_at, zupd_at, bx_uu, Nat.reduceEqDiff, ↓reduceIte]
    have hl := zld2_le (cy := cy) (n := n) (om := om) (sl := sl) (b := b) (s := sl j.toNat)
    refine s_maxN rfl rfl (by omega) (by omega) ?_
    refine zx_ok [8] 300 ?_; simp only [zx_step, zxd_ok, zxo_1, zxo_2, zxo_3, zxo_4, zxo_5, zone, zstep, zild, zlld, zald, zist, zast, zlst, ziinc, zbin, zun, zbinL, zdup, zdup2, zpop1, ztgt, zbr, zcm, zif0, zif2, ztsw, zlsw, zlen, zgetf, zputf, zgets, zxald, zxast, zlenA, zokI, zokB, zarr, zcallK, zstat, zspec, zcopy, zretI, zretL, zretV, zwide, zisO, znewa, znew, zatp, zinit, zent, zf4_0, zf4_1, zf4_2, zf4_3, true_and, and_true, or_true, true_or, or_false, false_or, and_false, false_and, Classical.not_not, not_false_eq_true, not_true_eq_false, ne_eq, List.not_mem_nil, List.mem_cons, ↓reduceIte, ite_true, ite_false, List.getElem?_cons_zero, List.getElem?_cons_succ, List.set_cons_zero, List.set_cons_succ, List.length_cons, List.length_nil, List.take_succ_cons, List.take_zero, List.drop_succ_cons, List.drop_zero, List.reverse_cons, List.reverse_nil, List.nil_append, List.cons_append, List.append_nil, List.map_cons, List.map_nil, List.sum_cons, List.sum_nil, List.replicate_succ, List.replicate_zero, Value.category, Nat.reduceAdd, Nat.reduceSub, Nat.reduceMul, Nat.reduceLT, Nat.reduceLeDiff, Nat.reduceEqDiff, Nat.reduceBEq, Int.reduceAdd, Int.reduceSub, Int.reduceLE, Int.reduceLT, Int.reduceToNat, Int.reduceNeg, Int.reduceNegSucc, Int.cast_ofNat_Int, forall_const, imp_self, Option.toList_some, Option.toList_none, zrt_i, zrt_l, zrt_v, zrt_b, eq_self, nI_1, zfz_0, zfz_1, zfz_2, zl2_0, SH_0, SH_1, SH_2, SH_3, SH_4, SH_5, SH_6, SH_7, SH_8, SH_9, SH_10, SH_11, SH_12, SH_13, SH_14, SH_15, SH_16, SH_17, SH_18, SH_19, SH_20, SH_21, SH_22, SH_23, SH_24, SH_25, SH_26, SH_27, SH_28, SH_29, SH_30, SH_31, SH_32, SH_33, b8_m101, b8_m100, b8_m8, b8_6, b8_7, b8_8, b8_9, b8_10, b8_12, b8_16, b8_24, b8_30, b8_40, b8_63, b8_64, b8_99, b8_100, b8_101, b8_127, b16_128, b16_200, b16_201, b16_439, b16_999, b16_1000, b16_12000, bi_m1, bi_0, bi_1, bi_2, bi_3, bi_4, bi_5, dX0_peakOf_0, dX0_peakOf_1, dX0_peakOf_3, dX0_peakOf_4, dX0_peakOf_5, dX0_peakOf_6, dX0_peakOf_8, dX0_peakOf_10, dX0_peakOf_11, dX0_peakOf_14, dX0_peakOf_16, dX0_peakOf_19, dX0_peakOf_21, dX0_peakOf_22, dX0_peakOf_25, dX0_peakOf_28, dX0_peakOf_29, dX0_peakOf_30, dX0_peakOf_32, dX0_peakOf_35, dX0_peakOf_37, dX0_peakOf_39, dX0_peakOf_40, dX0_peakOf_41, dX0_peakOf_42, dX0_peakOf_43, dX0_peakOf_45, dX0_peakOf_48, dX0_peakOf_51, dX0_peakOf_53, dX0_peakOf_56, dX0_peakOf_59, dX0_peakOf_61, zF_0_30, zK_0_68, zM_28, zK_0_71, zM_52, zK_0_65, zM_25, zY_0_65]; try simp only [zup_at, zupd_at, bx_uu, Nat.reduceEqDiff, ↓reduceIte]
    have := K (some (.int (M 12 (8 * o + j.toNat))))
    rwa [if_pos (by omega)] at this
set_option maxHeartbeats 4000000 in
set_option maxRecDepth 100000 in
theorem s_X0_peakOf {x v z : Int32} {o om cy n b : Nat} {sl : Nat → Nat} (hx : x = nI o) (hv : v = nI om) (hz : z = nI b) (ho : o < 8) (hom : om < 256) (hcy : cy < 1000) (hn : n ≤ 8) (hb : b ≤ n) (h1 : M 9 1 = nI n) (h2 : M 9 2 = nI cy) (h3 : ∀ c, c < n → M 12 (8 * o + c) = nI (sl c) ∧ sl c < cy) (h : Q (some (.int (nI (zpk2 cy n om sl b)))) (SG se, M)) : zcl fz (d + 4) 51 [.ref 9, .int x, .int v, .int z] (SG se, M) Q := by
  subst hx hv hz
  refine zcl_intro zM_51 (by rw [zmL_len]; decide) (by decide) rfl (Nat.le_of_ble_eq_true rfl) ?_
  refine zx_ok [8] 300 ?_; simp only [zx_step, zxd_ok, zxo_1, zxo_2, zxo_3, zxo_4, zxo_5, zone, zstep, zild, zlld, zald, zist, zast, zlst, ziinc, zbin, zun, zbinL, zdup, zdup2, zpop1, ztgt, zbr, zcm, zif0, zif2, ztsw, zlsw, zlen, zgetf, zputf, zgets, zxald, zxast, zlenA, zokI, zokB, zarr, zcallK, zstat, zspec, zcopy, zretI, zretL, zretV, zwide, zisO, znewa, znew, zatp, zinit, zent, zf4_0, zf4_1, zf4_2, zf4_3, true_and, and_true, or_true, true_or, or_false, false_or, and_false, false_and, Classical.not_not, not_false_eq_true, not_true_eq_false, ne_eq, List.not_mem_nil, List.mem_cons, ↓reduceIte, ite_true, ite_false, List.getElem?_cons_zero, List.getElem?_cons_succ, List.set_cons_zero, List.set_cons_succ, List.length_cons, List.length_nil, List.take_succ_cons, List.take_zero, List.drop_succ_cons, List.drop_zero, List.reverse_cons, List.reverse_nil, List.nil_append, List.cons_append, List.append_nil, List.map_cons, List.map_nil, List.sum_cons, List.sum_nil, List.replicate_succ, List.replicate_zero, Value.category, Nat.reduceAdd, Nat.reduceSub, Nat.reduceMul, Nat.reduceLT, Nat.reduceLeDiff, Nat.reduceEqDiff, Nat.reduceBEq, Int.reduceAdd, Int.reduceSub, Int.reduceLE, Int.reduceLT, Int.reduceToNat, Int.reduceNeg, Int.reduceNegSucc, Int.cast_ofNat_Int, forall_const, imp_self, Option.toList_some, Option.toList_none, zrt_i, zrt_l, zrt_v, zrt_b, eq_self, nI_1, zfz_0, zfz_1, zfz_2, zl2_0, SH_0, SH_1, SH_2, SH_3, SH_4, SH_5, SH_6, SH_7, SH_8, SH_9, SH_10, SH_11, SH_12, SH_13, SH_14, SH_15, SH_16, SH_17, SH_18, SH_19, SH_20, SH_21, SH_22, SH_23, SH_24, SH_25, SH_26, SH_27, SH_28, SH_29, SH_30, SH_31, SH_32, SH_33, b8_m101, b8_m100, b8_m8, b8_6, b8_7, b8_8, b8_9, b8_10, b8_12, b8_16, b8_24, b8_30, b8_40, b8_63, b8_64, b8_99, b8_100, b8_101, b8_127, b16_128, b16_200, b16_201, b16_439, b16_999, b16_1000, b16_12000, bi_m1, bi_0, bi_1, bi_2, bi_3, bi_4, bi_5, dX0_peakOf_0, dX0_peakOf_1, dX0_peakOf_3, dX0_peakOf_4, dX0_peakOf_5, dX0_peakOf_6, dX0_peakOf_8, dX0_peakOf_10, dX0_peakOf_11, dX0_peakOf_14, dX0_peakOf_16, dX0_peakOf_19, dX0_peakOf_21, dX0_peakOf_22, dX0_peakOf_25, dX0_peakOf_28, dX0_peakOf_29, dX0_peakOf_30, dX0_peakOf_32, dX0_peakOf_35, dX0_peakOf_37, dX0_peakOf_39, dX0_peakOf_40, dX0_peakOf_41, dX0_peakOf_42, dX0_peakOf_43, dX0_peakOf_45, dX0_peakOf_48, dX0_peakOf_51, dX0_peakOf_53, dX0_peakOf_56, dX0_peakOf_59, dX0_peakOf_61, zF_0_30, zK_0_68, zM_28, zK_0_71, zM_52, zK_0_65, zM_25, zY_0_65]; try simp only [zup_at, zupd_at, bx_uu, Nat.reduceEqDiff, ↓reduceIte]
  have ez : (nI b - 1).toInt = (b : Int) - 1 := pk_sub_toInt (b := 1) (by omega) (by decide)
  have l1 := zld2_le (cy := cy) (n := n) (om := om) (sl := sl) (b := b) (s := sl (b - 1))
  have l2 := zld2_le (cy := cy) (n := n) (om := om) (sl := sl) (b := b) (s := sl b)
  refine s_peak_it (pk := 0) (d := d) ez (by omega) (by omega) ho hom hcy hn hb h1 h2 h3 (fun w1 => ?_)
  have e1 : nI b - 1 + 1 = nI b := by
    apply Int32.toInt_inj.mp
    rw [fb_addI] <;> rw [ez]
    · rw [nI_toInt (by omega)]
      show (b : Int) - 1 + 1 = b
      omega
    · show -2147483648 ≤ (b : Int) - 1 + 1
      omega
    · show (b : Int) - 1 + 1 < 2147483648
      omega
  rw [e1]
  have m1 : max 0 (if 0 ≤ (b : Int) - 1 ∧ (b : Int) - 1 < n then zld2 cy n om sl b (sl ((b : Int) - 1).toNat) else 0) = (if 1 ≤ b then zld2 cy n om sl b (sl (b - 1)) else 0) := by
    by_cases hb1 : 1 ≤ b
    · rw [if_pos (by omega), if_pos hb1, show ((b : Int) - 1).toNat = b - 1 by omega, Nat.max_eq_right (by omega)]
    · rw [if_neg (by omega), if_neg hb1]
      rfl
  rw [m1]
  refine s_peak_it (d := d) (j := (b : Int)) (nI_toInt (by omega)) (by omega) (by split <;> omega) ho hom hcy hn hb h1 h2 h3 (fun w2 => ?_)
  have m2 : (if 0 ≤ (b : Int) ∧ (b : Int) < n then zld2 cy n om sl b (sl (b : Int).toNat) else 0) = (if b < n then zld2 cy n om sl b (sl b) else 0) := by
    by_cases hb1 : b < n
    · rw [if_pos (by omega), if_pos hb1, Int.toNat_natCast]
    · rw [if_neg (by omega), if_neg hb1]
  rw [m2]
  have hzb : nI b < nI b + 1 := by
    rw [nI_1]
    exact nI_lt (by omega) (by omega)
  refine zx_ok [8] 5 ?_; simp only [zx_step, zxd_ok, zxo_1, zxo_2, zxo_3, zxo_4, zxo_5, zone, zstep, zild, zlld, zald, zist, zast, zlst, ziinc, zbin, zun, zbinL, zdup, zdup2, zpop1, ztgt, zbr, zcm, zif0, zif2, ztsw, zlsw, zlen, zgetf, zputf, zgets, zxald, zxast, zlenA, zokI, zokB, zarr, zcallK, zstat, zspec, zcopy, zretI, zretL, zretV, zwide, zisO, znewa, znew, zatp, zinit, zent, zf4_0, zf4_1, zf4_2, zf4_3, true_and, and_true, or_true, true_or, or_false, false_or, and_false, false_and, Classical.not_not, not_false_eq_true, not_true_eq_false, ne_eq, List.not_mem_nil, List.mem_cons, ↓reduceIte, ite_true, ite_false, List.getElem?_cons_zero, List.getElem?_cons_succ, List.set_cons_zero, List.set_cons_succ, List.length_cons, List.length_nil, List.take_succ_cons, List.take_zero, List.drop_succ_cons, List.drop_zero, List.reverse_cons, List.reverse_nil, List.nil_append, List.cons_append, List.append_nil, List.map_cons, List.map_nil, List.sum_cons, List.sum_nil, List.replicate_succ, List.replicate_zero, Value.category, Nat.reduceAdd, Nat.reduceSub, Nat.reduceMul, Nat.reduceLT, Nat.reduceLeDiff, Nat.reduceEqDiff, Nat.reduceBEq, Int.reduceAdd, Int.reduceSub, Int.reduceLE, Int.reduceLT, Int.reduceToNat, Int.reduceNeg, Int.reduceNegSucc, Int.cast_ofNat_Int, forall_const, imp_self, Option.toList_some, Option.toList_none, zrt_i, zrt_l, zrt_v, zrt_b, eq_self, nI_1, zfz_0, zfz_1, zfz_2, zl2_0, SH_0, SH_1, SH_2, SH_3, SH_4, SH_5, SH_6, SH_7, SH_8, SH_9, SH_10, SH_11, SH_12, SH_13, SH_14, SH_15, SH_16, SH_17, SH_18, SH_19, SH_20, SH_21, SH_22, SH_23, SH_24, SH_25, SH_26, SH_27, SH_28, SH_29, SH_30, SH_31, SH_32, SH_33, b8_m101, b8_m100, b8_m8, b8_6, b8_7, b8_8, b8_9, b8_10, b8_12, b8_16, b8_24, b8_30, b8_40, b8_63, b8_64, b8_99, b8_100, b8_101, b8_127, b16_128, b16_200, b16_201, b16_439, b16_999, b16_1000, b16_12000, bi_m1, bi_0, bi_1, bi_2, bi_3, bi_4, bi_5, dX0_peakOf_0, dX0_peakOf_1, dX0_peakOf_3, dX0_peakOf_4, dX0_peakOf_5, dX0_peakOf_6, dX0_peakOf_8, dX0_peakOf_10, dX0_peakOf_11, dX0_peakOf_14, dX0_peakOf_16, dX0_peakOf_19, dX0_peakOf_21, dX0_peakOf_22, dX0_peakOf_25, dX0_peakOf_28, dX0_peakOf_29, dX0_peakOf_30, dX0_peakOf_32, dX0_peakOf_35, dX0_peakOf_37, dX0_peakOf_39, dX0_peakOf_40, dX0_peakOf_41, dX0_peakOf_42, dX0_peakOf_43, dX0_peakOf_45, dX0_peakOf_48, dX0_peakOf_51, dX0_peakOf_53, dX0_peakOf_56, dX0_peakOf_59, dX0_peakOf_61, zF_0_30, zK_0_68, zM_28, zK_0_71, zM_52, zK_0_65, zM_25, zY_0_65]; try simp only [zup_at, zupd_at, bx_uu, Nat.reduceEqDiff, ↓reduceIte]
  refine ⟨fun _ => h, fun g => ?_⟩
  rw [nI_1] at hzb
  exact absurd hzb g
end
