/-! ===== the model: loads, peaks ===== -/
theorem zsh_mono {j k : Nat} (h : j ≤ k) : zsh k ≤ zsh j := by
  unfold zsh
  by_cases hk : k < 4
  · rw [if_pos hk, if_pos (show j < 4 by omega)]
    have d : ∀ k, k < 4 → ∀ j, j < 4 → j ≤ k → 8 / 2 ^ k ≤ 8 / 2 ^ j := by decide
    exact d k hk j (by omega) h
  · rw [if_neg hk]
    exact Nat.zero_le _
theorem zfrom_eq {cy a b : Nat} (ha : a < cy) (hb : b < cy) : (b + cy - a) % cy = zfrom cy a b := by
  unfold zfrom
  by_cases g : a ≤ b
  · rw [if_pos g, show b + cy - a = (b - a) + cy by omega, Nat.add_mod_right]
    exact Nat.mod_eq_of_lt (by omega)
  · rw [if_neg g]
    exact Nat.mod_eq_of_lt (by omega)
theorem zsr_on {cy n om : Nat} {sl : Nat → Nat} {j s : Nat} (h : j < n ∧ om.testBit j = true) : zsr cy n om sl j s = zsh (zfrom cy (sl j) s) := if_pos h
theorem zsr_off {cy n om : Nat} {sl : Nat → Nat} {j s : Nat} (h : ¬ (j < n ∧ om.testBit j = true)) : zsr cy n om sl j s = 0 := if_neg h
/-- in no slot is the load above that of the firings -/
theorem zld2_pk {cy n om : Nat} {sl : Nat → Nat} (hsl : ∀ c, c < n → sl c < cy) {b s : Nat} (hb : b ≤ n) (hs : s < cy) : zld2 cy n om sl b s ≤ zpk2 cy n om sl b := by
  have own : ∀ j s, j < n → zsr cy n om sl j s ≤ zsr cy n om sl j (sl j) := fun j s hj => by
    by_cases g : om.testBit j = true
    · rw [zsr_on ⟨hj, g⟩, zsr_on ⟨hj, g⟩]
      refine zsh_mono ?_
      unfold zfrom
      rw [if_pos (Nat.le_refl _), Nat.sub_self]
      exact Nat.zero_le _
    · rw [zsr_off (fun q => g q.2)]
      exact Nat.zero_le _
  have two : ∀ i j, i < n → j < n → om.testBit i = true → om.testBit j = true → zfrom cy (sl i) s ≤ zfrom cy (sl j) s → zsr cy n om sl j s ≤ zsr cy n om sl j (sl i) := fun i j hi hj gi gj hle => by
    rw [zsr_on ⟨hj, gj⟩, zsr_on ⟨hj, gj⟩]
    refine zsh_mono ?_
    have a := hsl i hi
    have c := hsl j hj
    unfold zfrom at hle ⊢
    repeat' split at hle
    all_goals split <;> omega
  have p1 : 1 ≤ b → zld2 cy n om sl b (sl (b - 1)) ≤ zpk2 cy n om sl b := fun h => by
    unfold zpk2
    rw [if_pos h]
    exact Nat.le_max_left _ _
  have p2 : b < n → zld2 cy n om sl b (sl b) ≤ zpk2 cy n om sl b := fun h => by
    unfold zpk2
    rw [if_pos h]
    exact Nat.le_max_right _ _
  have e : ∀ s, 1 ≤ b → zld2 cy n om sl b s = zsr cy n om sl (b - 1) s + zsr cy n om sl b s := fun s h => by
    unfold zld2
    rw [if_neg (by omega)]
  rcases Nat.eq_zero_or_pos b with q | q
  · subst q
    by_cases hn : 0 < n
    · refine Nat.le_trans ?_ (p2 hn)
      unfold zld2
      rw [if_pos rfl, if_pos rfl]
      have := own 0 s hn
      omega
    · have z : zld2 cy n om sl 0 s = 0 := by
        unfold zld2
        rw [if_pos rfl, zsr_off (fun q => by omega)]
      rw [z]
      exact Nat.zero_le _
  · have o1 := own (b - 1) s (by omega)
    by_cases hbn : b < n
    · have o2 := own b s hbn
      by_cases g1 : om.testBit (b - 1) = true
      · by_cases g2 : om.testBit b = true
        · rcases Nat.le_total (zfrom cy (sl (b - 1)) s) (zfrom cy (sl b) s) with w | w
          · refine Nat.le_trans ?_ (p1 q)
            rw [e _ q, e _ q]
            have := two (b - 1) b (by omega) hbn g1 g2 w
            omega
          · refine Nat.le_trans ?_ (p2 hbn)
            rw [e _ q, e _ q]
            have := two b (b - 1) hbn (by omega) g2 g1 w
            omega
        · refine Nat.le_trans ?_ (p1 q)
          rw [e _ q, e _ q, zsr_off (j := b) (fun w => g2 w.2)]
          omega
      · refine Nat.le_trans ?_ (p2 hbn)
        rw [e _ q, e _ q, zsr_off (j := b - 1) (s := s) (fun w => g1 w.2)]
        omega
    · refine Nat.le_trans ?_ (p1 q)
      rw [e _ q, e _ q, zsr_off (j := b) (fun w => hbn w.1)]
      omega
def zmxs (f : Nat → Nat) : Nat → Nat
  | 0 => 0
  | k + 1 => max (zmxs f k) (f k)
theorem zmxs_le {f : Nat → Nat} {B : Nat} : ∀ {k}, (∀ i, i < k → f i ≤ B) → zmxs f k ≤ B
  | 0, _ => Nat.zero_le _
  | k + 1, h => Nat.max_le.mpr ⟨zmxs_le (fun i hi => h i (by omega)), h k (by omega)⟩
theorem zmxs_ge {f : Nat → Nat} : ∀ {k i}, i < k → f i ≤ zmxs f k
  | 0, i, h => absurd h (Nat.not_lt_zero i)
  | k + 1, i, h => by
    rcases Nat.lt_or_ge i k with q | q
    · exact Nat.le_trans (zmxs_ge q) (Nat.le_max_left _ _)
    · rw [show i = k by omega]
      exact Nat.le_max_right _ _
theorem zmxs_pk {cy n om : Nat} {sl : Nat → Nat} (hsl : ∀ c, c < n → sl c < cy) {b : Nat} (hb : b ≤ n) : zmxs (zld2 cy n om sl b) cy = zpk2 cy n om sl b := by
  refine Nat.le_antisymm (zmxs_le (fun s hs => zld2_pk hsl hb hs)) ?_
  unfold zpk2
  refine Nat.max_le.mpr ⟨?_, ?_⟩
  · split
    · next h => exact zmxs_ge (hsl _ (by omega))
    · exact Nat.zero_le _
  · split
    · next h => exact zmxs_ge (hsl _ h)
    · exact Nat.zero_le _
theorem zld2_cong {cy n om gv : Nat} {sl : Nat → Nat} (h : ∀ j, j < n → gv.testBit j = om.testBit j) (b s : Nat) : zld2 cy n gv sl b s = zld2 cy n om sl b s := by
  have e : ∀ j, zsr cy n gv sl j s = zsr cy n om sl j s := fun j => by
    unfold zsr
    by_cases g : j < n
    · rw [h j g]
    · rw [if_neg (fun q => g q.1), if_neg (fun q => g q.1)]
  unfold zld2
  rw [e, e]
theorem zpk2_cong {cy n om gv : Nat} {sl : Nat → Nat} (h : ∀ j, j < n → gv.testBit j = om.testBit j) (b : Nat) : zpk2 cy n gv sl b = zpk2 cy n om sl b := by
  unfold zpk2
  rw [zld2_cong h, zld2_cong h]
section
variable {fz : zFz} {L : Nat} {xs : Nat → Int32} {d : Nat} {se : List zSh} {M : zMm} {st : zS} {Q : Option Value → zS → Prop}
set_option maxHeartbeats 4000000 in
set_option maxRecDepth 100000 in
theorem s_X6_laysOrder {S : zSt} {x : Int32} {o : Nat} (hS : zWF S) (hv : zIV S (M 33)) (hO : zOM S M) (ho : o < S.od.length) (hx : x = nI o) (h : ∀ M', (∀ c, c ≠ 41 → M' c = M c) → (∀ c, c < S.n → M' 41 c = nI (S.sl o c)) → Q none (SG SHm, M')) : zcl fz (d + 2) 101 [.ref 32, .int x] (SG SHm, M) Q := by
  have n1 := hS.n1
  have n8 := hS.n8
  have s24 := hS.s24
  obtain ⟨hd, hV⟩ := zod_VO hS ho
  have hl0 := zlo_lt (S.t 0)
  have t12 := hS.t12 0 (by omega)
  have hsp : 6 * S.sk / S.n ≤ 24 := Nat.le_trans (Nat.div_le_self _ _) (by omega)
  have hsl : ∀ c, S.sl o c = (zlo (S.t 0) + zfi (zdg S.n (S.od.getD o 0)) c S.n * (6 * S.sk / S.n)) % (6 * S.sk) := fun c => rfl
  have hsq : ∀ k, S.sq o k = zdg S.n (S.od.getD o 0) k := fun k => rfl
  have hcyc : M 33 1 = nI S.sk := hv.sk
  subst hx
  refine zcl_intro zM_101 (by rw [zmL_len]; decide) (by decide) rfl (Nat.le_of_ble_eq_true rfl) ?_
  refine zx_ok [19] 300 ?_; simp only [zx_step, zxd_ok, zxo_1, zxo_2, zxo_3, zxo_4, zxo_5, zone, zstep, zild, zlld, zald, zist, zast, zlst, ziinc, zbin, zun, zbinL, zdup, zdup2, zpop1, ztgt, zbr, zcm, zif0, zif2, ztsw, zlsw, zlen, zgetf, zputf, zgets, zxald, zxast, zlenA, zokI, zokB, zarr, zcallK, zstat, zspec, zcopy, zretI, zretL, zretV, zwide, zisO, znewa, znew, zatp, zinit, zent, zf4_0, zf4_1, zf4_2, zf4_3, true_and, and_true, or_true, true_or, or_false, false_or, and_false, false_and, Classical.not_not, not_false_eq_true, not_true_eq_false, ne_eq, List.not_mem_nil, List.mem_cons, ↓reduceIte, ite_true, ite_false, List.getElem?_cons_zero, List.getElem?_cons_succ, List.set_cons_zero, List.set_cons_succ, List.length_cons, List.length_nil, List.take_succ_cons, List.take_zero, List.drop_succ_cons, List.drop_zero, List.reverse_cons, List.reverse_nil, List.nil_append, List.cons_append, List.append_nil, List.map_cons, List.map_nil, List.sum_cons, List.sum_nil, List.replicate_succ, List.replicate_zero, Value.category, Nat.reduceAdd, Nat.reduceSub, Nat.reduceMul, Nat.reduceLT, Nat.reduceLeDiff, Nat.reduceEqDiff, Nat.reduceBEq, Int.reduceAdd, Int.reduceSub, Int.reduceLE, Int.reduceLT, Int.reduceToNat, Int.reduceNeg, Int.reduceNegSucc, Int.cast_ofNat_Int, forall_const, imp_self, Option.toList_some, Option.toList_none, zrt_i, zrt_l, zrt_v, zrt_b, eq_self, nI_1, zfz_0, zfz_1, zfz_2, SH_0, SH_1, SH_2, SH_3, SH_4, SH_5, SH_6, SH_7, SH_8, SH_9, SH_10, SH_11, SH_12, SH_13, SH_14, SH_15, SH_16, SH_17, SH_18, SH_19, SH_20, SH_21, SH_22, SH_23, SH_24, SH_25, SH_26, SH_27, SH_28, SH_29, SH_30, SH_31, SH_32, SH_33, SH_34, SH_35, SH_36, SH_37, SH_38, SH_39, SH_40, SH_41, b8_m100, b8_m2, b8_6, b8_7, b8_8, b8_9, b8_10, b8_11, b8_12, b8_16, b8_24, b8_31, b8_40, b8_44, b8_45, b8_49, b8_63, b8_64, b8_68, b8_99, b8_100, b8_127, b16_128, b16_136, b16_255, b16_999, b16_1000, bi_m1, bi_0, bi_1, bi_2, bi_3, bi_4, bi_5, dX6_laysOrder_0, dX6_laysOrder_2, dX6_laysOrder_3, dX6_laysOrder_6, dX6_laysOrder_7, dX6_laysOrder_8, dX6_laysOrder_11, dX6_laysOrder_12, dX6_laysOrder_13, dX6_laysOrder_15, dX6_laysOrder_16, dX6_laysOrder_17, dX6_laysOrder_18, dX6_laysOrder_19, dX6_laysOrder_20, dX6_laysOrder_21, dX6_laysOrder_24, dX6_laysOrder_25, dX6_laysOrder_26, dX6_laysOrder_29, dX6_laysOrder_30, dX6_laysOrder_33, dX6_laysOrder_34, dX6_laysOrder_35, dX6_laysOrder_36, dX6_laysOrder_39, dX6_laysOrder_40, dX6_laysOrder_41, dX6_laysOrder_42, dX6_laysOrder_43, dX6_laysOrder_46, dX6_laysOrder_47, dX6_laysOrder_50, dX6_laysOrder_51, dX6_laysOrder_52, dX6_laysOrder_53, dX6_laysOrder_54, dX6_laysOrder_55, dX6_laysOrder_58, dX6_laysOrder_59, dX6_laysOrder_60, dX6_laysOrder_63, dX6_laysOrder_66, zF_6_7, zK_6_42, zM_17, zY_6_42, zF_6_35, zK_6_111, zM_88, zK_6_92, zM_82, zt_0, zt_1, zt_2, zt_3, zt_4, zt_5, zt_6, zt_7, zt_8, zt_9, zt_10, zt_11, zvn, z10, false_imp_iff, true_imp_iff]; (try simp only [zup_at, zupd_at, bx_uu, Nat.reduceEqDiff, ↓reduceIte])
  refine s_X6_at (c := 0) (w := 0) rfl rfl ?_; refine zx_ok [19] 300 ?_; simp only [zx_step, zxd_ok, zxo_1, zxo_2, zxo_3, zxo_4, zxo_5, zone, zstep, zild, zlld, zald, zist, zast, zlst, ziinc, zbin, zun, zbinL, zdup, zdup2, zpop1, ztgt, zbr, zcm, zif0, zif2, ztsw, zlsw, zlen, zgetf, zputf, zgets, zxald, zxast, zlenA, zokI, zokB, zarr, zcallK, zstat, zspec, zcopy, zretI, zretL, zretV, zwide, zisO, znewa, znew, zatp, zinit, zent, zf4_0, zf4_1, zf4_2, zf4_3, true_and, and_true, or_true, true_or, or_false, false_or, and_false, false_and, Classical.not_not, not_false_eq_true, not_true_eq_false, ne_eq, List.not_mem_nil, List.mem_cons, ↓reduceIte, ite_true, ite_false, List.getElem?_cons_zero, List.getElem?_cons_succ, List.set_cons_zero, List.set_cons_succ, List.length_cons, List.length_nil, List.take_succ_cons, List.take_zero, List.drop_succ_cons, List.drop_zero, List.reverse_cons, List.reverse_nil, List.nil_append, List.cons_append, List.append_nil, List.map_cons, List.map_nil, List.sum_cons, List.sum_nil, List.replicate_succ, List.replicate_zero, Value.category, Nat.reduceAdd, Nat.reduceSub, Nat.reduceMul, Nat.reduceLT, Nat.reduceLeDiff, Nat.reduceEqDiff, Nat.reduceBEq, Int.reduceAdd, Int.reduceSub, Int.reduceLE, Int.reduceLT, Int.reduceToNat, Int.reduceNeg, Int.reduceNegSucc, Int.cast_ofNat_Int, forall_const, imp_self, Option.toList_some, Option.toList_none, zrt_i, zrt_l, zrt_v, zrt_b, eq_self, nI_1, zfz_0, zfz_1, zfz_2, SH_0, SH_1, SH_2, SH_3, SH_4, SH_5, SH_6, SH_7, SH_8, SH_9, SH_10, SH_11, SH_12, SH_13, SH_14, SH_15, SH_16, SH_17, SH_18, SH_19, SH_20, SH_21, SH_22, SH_23, SH_24, SH_25, SH_26, SH_27, SH_28, SH_29, SH_30, SH_31, SH_32, SH_33, SH_34, SH_35, SH_36, SH_37, SH_38, SH_39, SH_40, SH_41, b8_m100, b8_m2, b8_6, b8_7, b8_8, b8_9, b8_10, b8_11, b8_12, b8_16, b8_24, b8_31, b8_40, b8_44, b8_45, b8_49, b8_63, b8_64, b8_68, b8_99, b8_100, b8_127, b16_128, b16_136, b16_255, b16_999, b16_1000, bi_m1, bi_0, bi_1, bi_2, bi_3, bi_4, bi_5, dX6_laysOrder_0, dX6_laysOrder_2, dX6_laysOrder_3, dX6_laysOrder_6, dX6_laysOrder_7, dX6_laysOrder_8, dX6_laysOrder_11, dX6_laysOrder_12, dX6_laysOrder_13, dX6_laysOrder_15, dX6_laysOrder_16, dX6_laysOrder_17, dX6_laysOrder_18, dX6_laysOrder_19, dX6_laysOrder_20, dX6_laysOrder_21, dX6_laysOrder_24, dX6_laysOrder_25, dX6_laysOrder_26, dX6_laysOrder_29, dX6_laysOrder_30, dX6_laysOrder_33, dX6_laysOrder_34, dX6_laysOrder_35, dX6_laysOrder_36, dX6_laysOrder_39, dX6_laysOrder_40, dX6_laysOrder_41, dX6_laysOrder_42, dX6_laysOrder_43, dX6_laysOrder_46, dX6_laysOrder_47, dX6_laysOrder_50, dX6_laysOrder_51, dX6_laysOrder_52, dX6_laysOrder_53, dX6_laysOrder_54, dX6_laysOrder_55, dX6_laysOrder_58, dX6_laysOrder_59, dX6_laysOrder_60, dX6_laysOrder_63, dX6_laysOrder_66, zF_6_7, zK_6_42, zM_17, zY_6_42, zF_6_35, zK_6_111, zM_88, zK_6_92, zM_82, zt_0, zt_1, zt_2, zt_3, zt_4, zt_5, zt_6, zt_7, zt_8, zt_9, zt_10, zt_11, zvn, z10, false_imp_iff, true_imp_iff]; (try simp only [zup_at, zupd_at, bx_uu, Nat.reduceEqDiff, ↓reduceIte]); (try simp (disch := omega) only [nI_toInt, Int.toNat_natCast]); (repeat (refine ⟨⟨by omega, by omega⟩, ?_⟩))
  rw [hv.t 0 (by omega), show (12 : Int32) - nI (S.t 0) = nI (12 - S.t 0) from pk_sub (a := 12) (by omega), zrem12 _ (by omega)]
  refine ⟨by decide, ?_⟩
  have e0 : nI ((12 - S.t 0) % 12) = nI ((zlo (S.t 0) + 0 * (6 * S.sk / S.n)) % (6 * S.sk)) := by
    rw [Nat.zero_mul, Nat.add_zero, Nat.mod_eq_of_lt (show zlo (S.t 0) < 6 * S.sk by omega)]
    rfl
  rw [e0]
  refine zloopI S.n (fun i c => ∃ M', c = (19, [some (.ref 32), some (.int (nI o)), some (.int (nI ((zlo (S.t 0) + i * (6 * S.sk / S.n)) % (6 * S.sk)))), some (.int (nI i))], [], (SG SHm, M')) ∧ (∀ c, c ≠ 41 → M' c = M c) ∧ ∀ j, j < i → M' 41 (S.sq o j) = nI ((zlo (S.t 0) + j * (6 * S.sk / S.n)) % (6 * S.sk))) ?_ ?_ 0 _ (by omega) ⟨M, rfl, fun _ _ => rfl, fun j hj => absurd hj (Nat.not_lt_zero j)⟩
  · rintro c ⟨M', rfl, b, bs⟩
    have k1 := h M' b (fun c hc => by
      obtain ⟨i1, i2⟩ := zVO_idx hV hc
      have := bs _ i1
      rw [hsq, i2] at this
      rw [this, hsl])
    refine zx_ok [19] 300 ?_; simp only [zx_step, zxd_ok, zxo_1, zxo_2, zxo_3, zxo_4, zxo_5, zone, zstep, zild, zlld, zald, zist, zast, zlst, ziinc, zbin, zun, zbinL, zdup, zdup2, zpop1, ztgt, zbr, zcm, zif0, zif2, ztsw, zlsw, zlen, zgetf, zputf, zgets, zxald, zxast, zlenA, zokI, zokB, zarr, zcallK, zstat, zspec, zcopy, zretI, zretL, zretV, zwide, zisO, znewa, znew, zatp, zinit, zent, zf4_0, zf4_1, zf4_2, zf4_3, true_and, and_true, or_true, true_or, or_false, false_or, and_false, false_and, Classical.not_not, not_false_eq_true, not_true_eq_false, ne_eq, List.not_mem_nil, List.mem_cons, ↓reduceIte, ite_true, ite_false, List.getElem?_cons_zero, List.getElem?_cons_succ, List.set_cons_zero, List.set_cons_succ, List.length_cons, List.length_nil, List.take_succ_cons, List.take_zero, List.drop_succ_cons, List.drop_zero, List.reverse_cons, List.reverse_nil, List.nil_append, List.cons_append, List.append_nil, List.map_cons, List.map_nil, List.sum_cons, List.sum_nil, List.replicate_succ, List.replicate_zero, Value.category, Nat.reduceAdd, Nat.reduceSub, Nat.reduceMul, Nat.reduceLT, Nat.reduceLeDiff, Nat.reduceEqDiff, Nat.reduceBEq, Int.reduceAdd, Int.reduceSub, Int.reduceLE, Int.reduceLT, Int.reduceToNat, Int.reduceNeg, Int.reduceNegSucc, Int.cast_ofNat_Int, forall_const, imp_self, Option.toList_some, Option.toList_none, zrt_i, zrt_l, zrt_v, zrt_b, eq_self, nI_1, zfz_0, zfz_1, zfz_2, SH_0, SH_1, SH_2, SH_3, SH_4, SH_5, SH_6, SH_7, SH_8, SH_9, SH_10, SH_11, SH_12, SH_13, SH_14, SH_15, SH_16, SH_17, SH_18, SH_19, SH_20, SH_21, SH_22, SH_23, SH_24, SH_25, SH_26, SH_27, SH_28, SH_29, SH_30, SH_31, SH_32, SH_33, SH_34, SH_35, SH_36, SH_37, SH_38, SH_39, SH_40, SH_41, b8_m100, b8_m2, b8_6, b8_7, b8_8, b8_9, b8_10, b8_11, b8_12, b8_16, b8_24, b8_31, b8_40, b8_44, b8_45, b8_49, b8_63, b8_64, b8_68, b8_99, b8_100, b8_127, b16_128, b16_136, b16_255, b16_999, b16_1000, bi_m1, bi_0, bi_1, bi_2, bi_3, bi_4, bi_5, dX6_laysOrder_0, dX6_laysOrder_2, dX6_laysOrder_3, dX6_laysOrder_6, dX6_laysOrder_7, dX6_laysOrder_8, dX6_laysOrder_11, dX6_laysOrder_12, dX6_laysOrder_13, dX6_laysOrder_15, dX6_laysOrder_16, dX6_laysOrder_17, dX6_laysOrder_18, dX6_laysOrder_19, dX6_laysOrder_20, dX6_laysOrder_21, dX6_laysOrder_24, dX6_laysOrder_25, dX6_laysOrder_26, dX6_laysOrder_29, dX6_laysOrder_30, dX6_laysOrder_33, dX6_laysOrder_34, dX6_laysOrder_35, dX6_laysOrder_36, dX6_laysOrder_39, dX6_laysOrder_40, dX6_laysOrder_41, dX6_laysOrder_42, dX6_laysOrder_43, dX6_laysOrder_46, dX6_laysOrder_47, dX6_laysOrder_50, dX6_laysOrder_51, dX6_laysOrder_52, dX6_laysOrder_53, dX6_laysOrder_54, dX6_laysOrder_55, dX6_laysOrder_58, dX6_laysOrder_59, dX6_laysOrder_60, dX6_laysOrder_63, dX6_laysOrder_66, zF_6_7, zK_6_42, zM_17, zY_6_42, zF_6_35, zK_6_111, zM_88, zK_6_92, zM_82, zt_0, zt_1, zt_2, zt_3, zt_4, zt_5, zt_6, zt_7, zt_8, zt_9, zt_10, zt_11, zvn, z10, false_imp_iff, true_imp_iff]; (try simp only [zup_at, zupd_at, bx_uu, Nat.reduceEqDiff, ↓reduceIte])
    rw [b 33 (by decide), hv.n]
    exact ⟨fun _ => k1, fun q => absurd (nI_le (Nat.le_refl _) (by omega)) q⟩
  · rintro i c hi ⟨M', rfl, b, bs⟩ ih
    have hO' : zOM S M' := ⟨by rw [b 32 (by decide)]; exact hO.m, by rw [b 40 (by decide)]; exact hO.f⟩
    have b33 : M' 33 = M 33 := b 33 (by decide)
    have hk8 : S.sq o i < S.n := hV.lt i hi
    have hml : (zlo (S.t 0) + i * (6 * S.sk / S.n)) % (6 * S.sk) < 24 := Nat.lt_of_lt_of_le (Nat.mod_lt _ (by omega)) (by omega)
    have hnx : ((zlo (S.t 0) + i * (6 * S.sk / S.n)) % (6 * S.sk) + 6 * S.sk / S.n) % (6 * S.sk) = (zlo (S.t 0) + (i + 1) * (6 * S.sk / S.n)) % (6 * S.sk) := by
      rw [Nat.mod_add_mod, Nat.add_mul, Nat.one_mul, Nat.add_assoc]
    refine zx_ok [19] 300 ?_; simp only [zx_step, zxd_ok, zxo_1, zxo_2, zxo_3, zxo_4, zxo_5, zone, zstep, zild, zlld, zald, zist, zast, zlst, ziinc, zbin, zun, zbinL, zdup, zdup2, zpop1, ztgt, zbr, zcm, zif0, zif2, ztsw, zlsw, zlen, zgetf, zputf, zgets, zxald, zxast, zlenA, zokI, zokB, zarr, zcallK, zstat, zspec, zcopy, zretI, zretL, zretV, zwide, zisO, znewa, znew, zatp, zinit, zent, zf4_0, zf4_1, zf4_2, zf4_3, true_and, and_true, or_true, true_or, or_false, false_or, and_false, false_and, Classical.not_not, not_false_eq_true, not_true_eq_false, ne_eq, List.not_mem_nil, List.mem_cons, ↓reduceIte, ite_true, ite_false, List.getElem?_cons_zero, List.getElem?_cons_succ, List.set_cons_zero, List.set_cons_succ, List.length_cons, List.length_nil, List.take_succ_cons, List.take_zero, List.drop_succ_cons, List.drop_zero, List.reverse_cons, List.reverse_nil, List.nil_append, List.cons_append, List.append_nil, List.map_cons, List.map_nil, List.sum_cons, List.sum_nil, List.replicate_succ, List.replicate_zero, Value.category, Nat.reduceAdd, Nat.reduceSub, Nat.reduceMul, Nat.reduceLT, Nat.reduceLeDiff, Nat.reduceEqDiff, Nat.reduceBEq, Int.reduceAdd, Int.reduceSub, Int.reduceLE, Int.reduceLT, Int.reduceToNat, Int.reduceNeg, Int.reduceNegSucc, Int.cast_ofNat_Int, forall_const, imp_self, Option.toList_some, Option.toList_none, zrt_i, zrt_l, zrt_v, zrt_b, eq_self, nI_1, zfz_0, zfz_1, zfz_2, SH_0, SH_1, SH_2, SH_3, SH_4, SH_5, SH_6, SH_7, SH_8, SH_9, SH_10, SH_11, SH_12, SH_13, SH_14, SH_15, SH_16, SH_17, SH_18, SH_19, SH_20, SH_21, SH_22, SH_23, SH_24, SH_25, SH_26, SH_27, SH_28, SH_29, SH_30, SH_31, SH_32, SH_33, SH_34, SH_35, SH_36, SH_37, SH_38, SH_39, SH_40, SH_41, b8_m100, b8_m2, b8_6, b8_7, b8_8, b8_9, b8_10, b8_11, b8_12, b8_16, b8_24, b8_31, b8_40, b8_44, b8_45, b8_49, b8_63, b8_64, b8_68, b8_99, b8_100, b8_127, b16_128, b16_136, b16_255, b16_999, b16_1000, bi_m1, bi_0, bi_1, bi_2, bi_3, bi_4, bi_5, dX6_laysOrder_0, dX6_laysOrder_2, dX6_laysOrder_3, dX6_laysOrder_6, dX6_laysOrder_7, dX6_laysOrder_8, dX6_laysOrder_11, dX6_laysOrder_12, dX6_laysOrder_13, dX6_laysOrder_15, dX6_laysOrder_16, dX6_laysOrder_17, dX6_laysOrder_18, dX6_laysOrder_19, dX6_laysOrder_20, dX6_laysOrder_21, dX6_laysOrder_24, dX6_laysOrder_25, dX6_laysOrder_26, dX6_laysOrder_29, dX6_laysOrder_30, dX6_laysOrder_33, dX6_laysOrder_34, dX6_laysOrder_35, dX6_laysOrder_36, dX6_laysOrder_39, dX6_laysOrder_40, dX6_laysOrder_41, dX6_laysOrder_42, dX6_laysOrder_43, dX6_laysOrder_46, dX6_laysOrder_47, dX6_laysOrder_50, dX6_laysOrder_51, dX6_laysOrder_52, dX6_laysOrder_53, dX6_laysOrder_54, dX6_laysOrder_55, dX6_laysOrder_58, dX6_laysOrder_59, dX6_laysOrder_60, dX6_laysOrder_63, dX6_laysOrder_66, zF_6_7, zK_6_42, zM_17, zY_6_42, zF_6_35, zK_6_111, zM_88, zK_6_92, zM_82, zt_0, zt_1, zt_2, zt_3, zt_4, zt_5, zt_6, zt_7, zt_8, zt_9, zt_10, zt_11, zvn, z10, false_imp_iff, true_imp_iff]; (try simp only [zup_at, zupd_at, bx_uu, Nat.reduceEqDiff, ↓reduceIte])
    rw [b33, hv.n]
    refine ⟨fun q => absurd q (nI_ge hi (by omega)), fun _ => ?_⟩
    refine s_X6_cylinderAt (S := S) hS (by rw [b33]; exact hv.n) hO' ho hi rfl rfl ?_
    refine zx_ok [19] 300 ?_; simp only [zx_step, zxd_ok, zxo_1, zxo_2, zxo_3, zxo_4, zxo_5, zone, zstep, zild, zlld, zald, zist, zast, zlst, ziinc, zbin, zun, zbinL, zdup, zdup2, zpop1, ztgt, zbr, zcm, zif0, zif2, ztsw, zlsw, zlen, zgetf, zputf, zgets, zxald, zxast, zlenA, zokI, zokB, zarr, zcallK, zstat, zspec, zcopy, zretI, zretL, zretV, zwide, zisO, znewa, znew, zatp, zinit, zent, zf4_0, zf4_1, zf4_2, zf4_3, true_and, and_true, or_true, true_or, or_false, false_or, and_false, false_and, Classical.not_not, not_false_eq_true, not_true_eq_false, ne_eq, List.not_mem_nil, List.mem_cons, ↓reduceIte, ite_true, ite_false, List.getElem?_cons_zero, List.getElem?_cons_succ, List.set_cons_zero, List.set_cons_succ, List.length_cons, List.length_nil, List.take_succ_cons, List.take_zero, List.drop_succ_cons, List.drop_zero, List.reverse_cons, List.reverse_nil, List.nil_append, List.cons_append, List.append_nil, List.map_cons, List.map_nil, List.sum_cons, List.sum_nil, List.replicate_succ, List.replicate_zero, Value.category, Nat.reduceAdd, Nat.reduceSub, Nat.reduceMul, Nat.reduceLT, Nat.reduceLeDiff, Nat.reduceEqDiff, Nat.reduceBEq, Int.reduceAdd, Int.reduceSub, Int.reduceLE, Int.reduceLT, Int.reduceToNat, Int.reduceNeg, Int.reduceNegSucc, Int.cast_ofNat_Int, forall_const, imp_self, Option.toList_some, Option.toList_none, zrt_i, zrt_l, zrt_v, zrt_b, eq_self, nI_1, zfz_0, zfz_1, zfz_2, SH_0, SH_1, SH_2, SH_3, SH_4, SH_5, SH_6, SH_7, SH_8, SH_9, SH_10, SH_11, SH_12, SH_13, SH_14, SH_15, SH_16, SH_17, SH_18, SH_19, SH_20, SH_21, SH_22, SH_23, SH_24, SH_25, SH_26, SH_27, SH_28, SH_29, SH_30, SH_31, SH_32, SH_33, SH_34, SH_35, SH_36, SH_37, SH_38, SH_39, SH_40, SH_41, b8_m100, b8_m2, b8_6, b8_7, b8_8, b8_9, b8_10, b8_11, b8_12, b8_16, b8_24, b8_31, b8_40, b8_44, b8_45, b8_49, b8_63, b8_64, b8_68, b8_99, b8_100, b8_127, b16_128, b16_136, b16_255, b16_999, b16_1000, bi_m1, bi_0, bi_1, bi_2, bi_3, bi_4, bi_5, dX6_laysOrder_0, dX6_laysOrder_2, dX6_laysOrder_3, dX6_laysOrder_6, dX6_laysOrder_7, dX6_laysOrder_8, dX6_laysOrder_11, dX6_laysOrder_12, dX6_laysOrder_13, dX6_laysOrder_15, dX6_laysOrder_16, dX6_laysOrder_17, dX6_laysOrder_18, dX6_laysOrder_19, dX6_laysOrder_20, dX6_laysOrder_21, dX6_laysOrder_24, dX6_laysOrder_25, dX6_laysOrder_26, dX6_laysOrder_29, dX6_laysOrder_30, dX6_laysOrder_33, dX6_laysOrder_34, dX6_laysOrder_35, dX6_laysOrder_36, dX6_laysOrder_39, dX6_laysOrder_40, dX6_laysOrder_41, dX6_laysOrder_42, dX6_laysOrder_43, dX6_laysOrder_46, dX6_laysOrder_47, dX6_laysOrder_50, dX6_laysOrder_51, dX6_laysOrder_52, dX6_laysOrder_53, dX6_laysOrder_54, dX6_laysOrder_55, dX6_laysOrder_58, dX6_laysOrder_59, dX6_laysOrder_60, dX6_laysOrder_63, dX6_laysOrder_66, zF_6_7, zK_6_42, zM_17, zY_6_42, zF_6_35, zK_6_111, zM_88, zK_6_92, zM_82, zt_0, zt_1, zt_2, zt_3, zt_4, zt_5, zt_6, zt_7, zt_8, zt_9, zt_10, zt_11, zvn, z10, false_imp_iff, true_imp_iff]; (try simp only [zup_at, zupd_at, bx_uu, Nat.reduceEqDiff, ↓reduceIte])
    simp (disch := omega) only [nI_toInt, Int.toNat_natCast]
    refine ⟨⟨by omega, by omega⟩, ?_⟩
    refine s_X6_cycle (k := S.sk) (by rw [zup_at, if_neg (by decide), b33]; exact hcyc) ?_
    refine zx_ok [19] 300 ?_; simp only [zx_step, zxd_ok, zxo_1, zxo_2, zxo_3, zxo_4, zxo_5, zone, zstep, zild, zlld, zald, zist, zast, zlst, ziinc, zbin, zun, zbinL, zdup, zdup2, zpop1, ztgt, zbr, zcm, zif0, zif2, ztsw, zlsw, zlen, zgetf, zputf, zgets, zxald, zxast, zlenA, zokI, zokB, zarr, zcallK, zstat, zspec, zcopy, zretI, zretL, zretV, zwide, zisO, znewa, znew, zatp, zinit, zent, zf4_0, zf4_1, zf4_2, zf4_3, true_and, and_true, or_true, true_or, or_false, false_or, and_false, false_and, Classical.not_not, not_false_eq_true, not_true_eq_false, ne_eq, List.not_mem_nil, List.mem_cons, ↓reduceIte, ite_true, ite_false, List.getElem?_cons_zero, List.getElem?_cons_succ, List.set_cons_zero, List.set_cons_succ, List.length_cons, List.length_nil, List.take_succ_cons, List.take_zero, List.drop_succ_cons, List.drop_zero, List.reverse_cons, List.reverse_nil, List.nil_append, List.cons_append, List.append_nil, List.map_cons, List.map_nil, List.sum_cons, List.sum_nil, List.replicate_succ, List.replicate_zero, Value.category, Nat.reduceAdd, Nat.reduceSub, Nat.reduceMul, Nat.reduceLT, Nat.reduceLeDiff, Nat.reduceEqDiff, Nat.reduceBEq, Int.reduceAdd, Int.reduceSub, Int.reduceLE, Int.reduceLT, Int.reduceToNat, Int.reduceNeg, Int.reduceNegSucc, Int.cast_ofNat_Int, forall_const, imp_self, Option.toList_some, Option.toList_none, zrt_i, zrt_l, zrt_v, zrt_b, eq_self, nI_1, zfz_0, zfz_1, zfz_2, SH_0, SH_1, SH_2, SH_3, SH_4, SH_5, SH_6, SH_7, SH_8, SH_9, SH_10, SH_11, SH_12, SH_13, SH_14, SH_15, SH_16, SH_17, SH_18, SH_19, SH_20, SH_21, SH_22, SH_23, SH_24, SH_25, SH_26, SH_27, SH_28, SH_29, SH_30, SH_31, SH_32, SH_33, SH_34, SH_35, SH_36, SH_37, SH_38, SH_39, SH_40, SH_41, b8_m100, b8_m2, b8_6, b8_7, b8_8, b8_9, b8_10, b8_11, b8_12, b8_16, b8_24, b8_31, b8_40, b8_44, b8_45, b8_49, b8_63, b8_64, b8_68, b8_99, b8_100, b8_127, b16_128, b16_136, b16_255, b16_999, b16_1000, bi_m1, bi_0, bi_1, bi_2, bi_3, bi_4, bi_5, dX6_laysOrder_0, dX6_laysOrder_2, dX6_laysOrder_3, dX6_laysOrder_6, dX6_laysOrder_7, dX6_laysOrder_8, dX6_laysOrder_11, dX6_laysOrder_12, dX6_laysOrder_13, dX6_laysOrder_15, dX6_laysOrder_16, dX6_laysOrder_17, dX6_laysOrder_18, dX6_laysOrder_19, dX6_laysOrder_20, dX6_laysOrder_21, dX6_laysOrder_24, dX6_laysOrder_25, dX6_laysOrder_26, dX6_laysOrder_29, dX6_laysOrder_30, dX6_laysOrder_33, dX6_laysOrder_34, dX6_laysOrder_35, dX6_laysOrder_36, dX6_laysOrder_39, dX6_laysOrder_40, dX6_laysOrder_41, dX6_laysOrder_42, dX6_laysOrder_43, dX6_laysOrder_46, dX6_laysOrder_47, dX6_laysOrder_50, dX6_laysOrder_51, dX6_laysOrder_52, dX6_laysOrder_53, dX6_laysOrder_54, dX6_laysOrder_55, dX6_laysOrder_58, dX6_laysOrder_59, dX6_laysOrder_60, dX6_laysOrder_63, dX6_laysOrder_66, zF_6_7, zK_6_42, zM_17, zY_6_42, zF_6_35, zK_6_111, zM_88, zK_6_92, zM_82, zt_0, zt_1, zt_2, zt_3, zt_4, zt_5, zt_6, zt_7, zt_8, zt_9, zt_10, zt_11, zvn, z10, false_imp_iff, true_imp_iff]; (try simp only [zup_at, zupd_at, bx_uu, Nat.reduceEqDiff, ↓reduceIte])
    rw [b33, hv.n, zn0 n1 (by omega), pk_div (by omega) (by omega) (by omega), nI_add]
    refine ⟨fun q => q, ?_⟩
    refine s_X6_cycle (k := S.sk) (by rw [zup_at, if_neg (by decide), b33]; exact hcyc) ?_
    refine zx_ok [19] 300 ?_; simp only [zx_step, zxd_ok, zxo_1, zxo_2, zxo_3, zxo_4, zxo_5, zone, zstep, zild, zlld, zald, zist, zast, zlst, ziinc, zbin, zun, zbinL, zdup, zdup2, zpop1, ztgt, zbr, zcm, zif0, zif2, ztsw, zlsw, zlen, zgetf, zputf, zgets, zxald, zxast, zlenA, zokI, zokB, zarr, zcallK, zstat, zspec, zcopy, zretI, zretL, zretV, zwide, zisO, znewa, znew, zatp, zinit, zent, zf4_0, zf4_1, zf4_2, zf4_3, true_and, and_true, or_true, true_or, or_false, false_or, and_false, false_and, Classical.not_not, not_false_eq_true, not_true_eq_false, ne_eq, List.not_mem_nil, List.mem_cons, ↓reduceIte, ite_true, ite_false, List.getElem?_cons_zero, List.getElem?_cons_succ, List.set_cons_zero, List.set_cons_succ, List.length_cons, List.length_nil, List.take_succ_cons, List.take_zero, List.drop_succ_cons, List.drop_zero, List.reverse_cons, List.reverse_nil, List.nil_append, List.cons_append, List.append_nil, List.map_cons, List.map_nil, List.sum_cons, List.sum_nil, List.replicate_succ, List.replicate_zero, Value.category, Nat.reduceAdd, Nat.reduceSub, Nat.reduceMul, Nat.reduceLT, Nat.reduceLeDiff, Nat.reduceEqDiff, Nat.reduceBEq, Int.reduceAdd, Int.reduceSub, Int.reduceLE, Int.reduceLT, Int.reduceToNat, Int.reduceNeg, Int.reduceNegSucc, Int.cast_ofNat_Int, forall_const, imp_self, Option.toList_some, Option.toList_none, zrt_i, zrt_l, zrt_v, zrt_b, eq_self, nI_1, zfz_0, zfz_1, zfz_2, SH_0, SH_1, SH_2, SH_3, SH_4, SH_5, SH_6, SH_7, SH_8, SH_9, SH_10, SH_11, SH_12, SH_13, SH_14, SH_15, SH_16, SH_17, SH_18, SH_19, SH_20, SH_21, SH_22, SH_23, SH_24, SH_25, SH_26, SH_27, SH_28, SH_29, SH_30, SH_31, SH_32, SH_33, SH_34, SH_35, SH_36, SH_37, SH_38, SH_39, SH_40, SH_41, b8_m100, b8_m2, b8_6, b8_7, b8_8, b8_9, b8_10, b8_11, b8_12, b8_16, b8_24, b8_31, b8_40, b8_44, b8_45, b8_49, b8_63, b8_64, b8_68, b8_99, b8_100, b8_127, b16_128, b16_136, b16_255, b16_999, b16_1000, bi_m1, bi_0, bi_1, bi_2, bi_3, bi_4, bi_5, dX6_laysOrder_0, dX6_laysOrder_2, dX6_laysOrder_3, dX6_laysOrder_6, dX6_laysOrder_7, dX6_laysOrder_8, dX6_laysOrder_11, dX6_laysOrder_12, dX6_laysOrder_13, dX6_laysOrder_15, dX6_laysOrder_16, dX6_laysOrder_17, dX6_laysOrder_18, dX6_laysOrder_19, dX6_laysOrder_20, dX6_laysOrder_21, dX6_laysOrder_24, dX6_laysOrder_25, dX6_laysOrder_26, dX6_laysOrder_29, dX6_laysOrder_30, dX6_laysOrder_33, dX6_laysOrder_34, dX6_laysOrder_35, dX6_laysOrder_36, dX6_laysOrder_39, dX6_laysOrder_40, dX6_laysOrder_41, dX6_laysOrder_42, dX6_laysOrder_43, dX6_laysOrder_46, dX6_laysOrder_47, dX6_laysOrder_50, dX6_laysOrder_51, dX6_laysOrder_52, dX6_laysOrder_53, dX6_laysOrder_54, dX6_laysOrder_55, dX6_laysOrder_58, dX6_laysOrder_59, dX6_laysOrder_60, dX6_laysOrder_63, dX6_laysOrder_66, zF_6_7, zK_6_42, zM_17, zY_6_42, zF_6_35, zK_6_111, zM_88, zK_6_92, zM_82, zt_0, zt_1, zt_2, zt_3, zt_4, zt_5, zt_6, zt_7, zt_8, zt_9, zt_10, zt_11, zvn, z10, false_imp_iff, true_imp_iff]; (try simp only [zup_at, zupd_at, bx_uu, Nat.reduceEqDiff, ↓reduceIte])
    rw [zn0 (by omega) (by omega), pk_rem (by omega) (by omega) (by omega), hnx]
    refine ⟨fun q => q, ?_⟩
    refine ih _ ⟨_, rfl, fun c hc => by rw [zup_at, if_neg hc]; exact b c hc, fun j hj => ?_⟩
    rw [zup_at, if_pos rfl, zupd_at]
    by_cases q : j = i
    · rw [if_pos (by rw [q]), q]
    · have ne : S.sq o j ≠ S.sq o i := hV.inj j i (by omega) hi
      rw [if_neg ne]
      exact bs j (by omega)
end
