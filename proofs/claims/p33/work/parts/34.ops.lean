/-! ===== the class's methods that change the shaft ===== -/
theorem zRC_frame {a : Nat} {S : zSt} {M M' : zMm} (b : ∀ c, a ≤ c → c < a + 8 → M' c = M c) (h : zRC a S M) : zRC a S M' := by
  have b0 := b a (by omega) (by omega)
  have b1 := b (a + 1) (by omega) (by omega)
  have b2 := b (a + 2) (by omega) (by omega)
  have b3 := b (a + 3) (by omega) (by omega)
  have b4 := b (a + 4) (by omega) (by omega)
  have b5 := b (a + 5) (by omega) (by omega)
  have b6 := b (a + 6) (by omega) (by omega)
  have b7 := b (a + 7) (by omega) (by omega)
  refine ⟨?_, ?_, ?_, ?_, ?_, ?_, ?_, ?_, ?_, ?_, ?_⟩
  · rw [b0]; exact h.n
  · rw [b0]; exact h.sk
  · rw [b1]; exact h.t
  · rw [b2]; exact h.ms
  · rw [b3]; exact h.pl
  · rw [b4]; exact h.wk
  · rw [b5]; exact h.wp
  · rw [b6]; exact h.wt
  · rw [b7]; exact h.wm
  · rw [b0]; exact h.ch
  · rw [b0]; exact h.om
theorem zRO_frame {n cy sp t0 : Nat} {l : List Nat} {M M' : zMm} (b9 : M' 9 = M 9) (b11 : M' 11 = M 11) (b12 : M' 12 = M 12) (h : zRO n cy sp t0 l M) : zRO n cy sp t0 l M' := by
  unfold zRO at h ⊢
  rw [b9, b11, b12]
  exact h
theorem zRF_frame {S : zSt} {M M' : zMm} (b9 : M' 9 = M 9) (b11 : M' 11 = M 11) (b12 : M' 12 = M 12) (h : zRF S M) : zRF S M' := by
  refine ⟨?_, ?_, zRO_frame b9 b11 b12 h.od⟩
  · rw [b9]; exact h.n
  · rw [b9]; exact h.cy
def zX.wS (X : zX) (S : zSt) : zX := zX.mk S X.k0 X.k1 X.len X.tx
theorem zIC_S {X : zX} {S : zSt} {M M' : zMm} (b : ∀ c, (c < 1 ∨ 13 ≤ c) → M' c = M c) (h : zIC X M) (hC : zRC 1 S M') (hF : zRF S M') : zIC (X.wS S) M' := by
  refine ⟨hC, hF, ?_, ?_, fun K hK => ?_, fun K hK => ?_, ?_, fun j hj => ?_⟩
  · rw [b 0 (by omega)]; exact h.f0
  · rw [b 0 (by omega)]; exact h.f1
  · exact zRC_frame (fun c h1 h2 => b c (by omega)) (h.k0 K hK)
  · exact zRC_frame (fun c h1 h2 => b c (by omega)) (h.k1 K hK)
  · rw [b 14 (by omega)]; exact h.len
  · rw [b 15 (by omega)]; exact h.tx j hj
/-- the choice dropped, all on -/
def zSt.drop (S : zSt) : zSt := zSt.mk S.n S.sk S.t S.ms S.pl S.wk S.wp S.wt S.wm none (2 ^ S.n - 1)
section
variable {fz : zFz} {L : Nat} {xs : Nat → Int32} {d : Nat} {se : List zSh} {M : zMm} {st : zS} {Q : Option Value → zS → Prop}
set_option maxHeartbeats 4000000 in
set_option maxRecDepth 100000 in
theorem s_X5_firingsChanged {S : zSt} (n1 : 1 ≤ S.n) (n8 : S.n ≤ 8) (s24 : S.sk = 2 ∨ S.sk = 4) (t12 : ∀ c, c < 8 → S.t c < 12) (hC : zRC 1 S M)
    (h : ∀ M', (∀ c, (c < 1 ∨ 13 ≤ c) → M' c = M c) → zRC 1 S.drop M' → zRF S.drop M' → Q none (SG se, M')) : zcl fz (d + 13) 32 [.ref 0] (SG se, M) Q := by
  refine zcl_intro zM_32 (by rw [zmL_len]; decide) (by decide) rfl (Nat.le_of_ble_eq_true rfl) ?_
  refine zx_ok [] 300 ?_; simp only [zx_step, zxd_ok, zxo_1, zxo_2, zxo_3, zxo_4, zxo_5, zone, zstep, zild, zlld, zald, zist, zast, zlst, ziinc, zbin, zun, zbinL, zdup, zdup2, zpop1, ztgt, zbr, zcm, zif0, zif2, ztsw, zlsw, zlen, zgetf, zputf, zgets, zxald, zxast, zlenA, zokI, zokB, zarr, zcallK, zstat, zspec, zcopy, zretI, zretL, zretV, zwide, zisO, znewa, znew, zatp, zinit, zent, zf4_0, zf4_1, zf4_2, zf4_3, true_and, and_true, or_true, true_or, or_false, false_or, and_false, false_and, Classical.not_not, not_false_eq_true, not_true_eq_false, ne_eq, List.not_mem_nil, List.mem_cons, ↓reduceIte, ite_true, ite_false, List.getElem?_cons_zero, List.getElem?_cons_succ, List.set_cons_zero, List.set_cons_succ, List.length_cons, List.length_nil, List.take_succ_cons, List.take_zero, List.drop_succ_cons, List.drop_zero, List.reverse_cons, List.reverse_nil, List.nil_append, List.cons_append, List.append_nil, List.map_cons, List.map_nil, List.sum_cons, List.sum_nil, List.replicate_succ, List.replicate_zero, Value.category, Nat.reduceAdd, Nat.reduceSub, Nat.reduceMul, Nat.reduceLT, Nat.reduceLeDiff, Nat.reduceEqDiff, Nat.reduceBEq, Int.reduceAdd, Int.reduceSub, Int.reduceLE, Int.reduceLT, Int.reduceToNat, Int.reduceNeg, Int.reduceNegSucc, Int.cast_ofNat_Int, forall_const, imp_self, Option.toList_some, Option.toList_none, zrt_i, zrt_l, zrt_v, zrt_b, eq_self, nI_1, zfz_0, zfz_1, zfz_2, zl2_0, SH_0, SH_1, SH_2, SH_3, SH_4, SH_5, SH_6, SH_7, SH_8, SH_9, SH_10, SH_11, SH_12, SH_13, SH_14, SH_15, SH_16, SH_17, SH_18, SH_19, SH_20, SH_21, SH_22, SH_23, SH_24, SH_25, SH_26, SH_27, SH_28, SH_29, SH_30, SH_31, SH_32, SH_33, b8_m101, b8_m100, b8_m8, b8_6, b8_7, b8_8, b8_9, b8_10, b8_12, b8_16, b8_24, b8_30, b8_40, b8_63, b8_64, b8_99, b8_100, b8_101, b8_127, b16_128, b16_200, b16_201, b16_439, b16_999, b16_1000, b16_12000, bi_m1, bi_0, bi_1, bi_2, bi_3, bi_4, bi_5, dX5_firingsChanged_0, dX5_firingsChanged_1, dX5_firingsChanged_4, dX5_firingsChanged_7, dX5_firingsChanged_8, dX5_firingsChanged_11, dX5_firingsChanged_12, dX5_firingsChanged_15, dX5_firingsChanged_18, zF_5_10, zK_5_239, zM_5, zF_5_19, zK_5_43, zM_10]; try simp only [zup_at, zupd_at, bx_uu, Nat.reduceEqDiff, ↓reduceIte]
  refine s_X1_dropChoice n8 hC.n ?_
  refine zx_ok [] 300 ?_; simp only [zx_step, zxd_ok, zxo_1, zxo_2, zxo_3, zxo_4, zxo_5, zone, zstep, zild, zlld, zald, zist, zast, zlst, ziinc, zbin, zun, zbinL, zdup, zdup2, zpop1, ztgt, zbr, zcm, zif0, zif2, ztsw, zlsw, zlen, zgetf, zputf, zgets, zxald, zxast, zlenA, zokI, zokB, zarr, zcallK, zstat, zspec, zcopy, zretI, zretL, zretV, zwide, zisO, znewa, znew, zatp, zinit, zent, zf4_0, zf4_1, zf4_2, zf4_3, true_and, and_true, or_true, true_or, or_false, false_or, and_false, false_and, Classical.not_not, not_false_eq_true, not_true_eq_false, ne_eq, List.not_mem_nil, List.mem_cons, ↓reduceIte, ite_true, ite_false, List.getElem?_cons_zero, List.getElem?_cons_succ, List.set_cons_zero, List.set_cons_succ, List.length_cons, List.length_nil, List.take_succ_cons, List.take_zero, List.drop_succ_cons, List.drop_zero, List.reverse_cons, List.reverse_nil, List.nil_append, List.cons_append, List.append_nil, List.map_cons, List.map_nil, List.sum_cons, List.sum_nil, List.replicate_succ, List.replicate_zero, Value.category, Nat.reduceAdd, Nat.reduceSub, Nat.reduceMul, Nat.reduceLT, Nat.reduceLeDiff, Nat.reduceEqDiff, Nat.reduceBEq, Int.reduceAdd, Int.reduceSub, Int.reduceLE, Int.reduceLT, Int.reduceToNat, Int.reduceNeg, Int.reduceNegSucc, Int.cast_ofNat_Int, forall_const, imp_self, Option.toList_some, Option.toList_none, zrt_i, zrt_l, zrt_v, zrt_b, eq_self, nI_1, zfz_0, zfz_1, zfz_2, zl2_0, SH_0, SH_1, SH_2, SH_3, SH_4, SH_5, SH_6, SH_7, SH_8, SH_9, SH_10, SH_11, SH_12, SH_13, SH_14, SH_15, SH_16, SH_17, SH_18, SH_19, SH_20, SH_21, SH_22, SH_23, SH_24, SH_25, SH_26, SH_27, SH_28, SH_29, SH_30, SH_31, SH_32, SH_33, b8_m101, b8_m100, b8_m8, b8_6, b8_7, b8_8, b8_9, b8_10, b8_12, b8_16, b8_24, b8_30, b8_40, b8_63, b8_64, b8_99, b8_100, b8_101, b8_127, b16_128, b16_200, b16_201, b16_439, b16_999, b16_1000, b16_12000, bi_m1, bi_0, bi_1, bi_2, bi_3, bi_4, bi_5, dX5_firingsChanged_0, dX5_firingsChanged_1, dX5_firingsChanged_4, dX5_firingsChanged_7, dX5_firingsChanged_8, dX5_firingsChanged_11, dX5_firingsChanged_12, dX5_firingsChanged_15, dX5_firingsChanged_18, zF_5_10, zK_5_239, zM_5, zF_5_19, zK_5_43, zM_10]; try simp only [zup_at, zupd_at, bx_uu, Nat.reduceEqDiff, ↓reduceIte]
  refine s_X0_layOut (n := S.n) (sk := S.sk) (t := S.t) n1 n8 s24 ?_ ?_ (fun c hc => ⟨t12 c hc, ?_⟩) (fun M' b b1 b2 bR => ?_)
  · simp only [zup_at, zupd_at, Nat.reduceEqDiff, ↓reduceIte]
    exact hC.n
  · simp only [zup_at, zupd_at, Nat.reduceEqDiff, ↓reduceIte]
    exact hC.sk
  · simp only [zup_at, zupd_at, Nat.reduceEqDiff, ↓reduceIte]
    exact hC.t c hc
  · refine zx_ok [] 300 ?_; simp only [zx_step, zxd_ok, zxo_1, zxo_2, zxo_3, zxo_4, zxo_5, zone, zstep, zild, zlld, zald, zist, zast, zlst, ziinc, zbin, zun, zbinL, zdup, zdup2, zpop1, ztgt, zbr, zcm, zif0, zif2, ztsw, zlsw, zlen, zgetf, zputf, zgets, zxald, zxast, zlenA, zokI, zokB, zarr, zcallK, zstat, zspec, zcopy, zretI, zretL, zretV, zwide, zisO, znewa, znew, zatp, zinit, zent, zf4_0, zf4_1, zf4_2, zf4_3, true_and, and_true, or_true, true_or, or_false, false_or, and_false, false_and, Classical.not_not, not_false_eq_true, not_true_eq_false, ne_eq, List.not_mem_nil, List.mem_cons, ↓reduceIte, ite_true, ite_false, List.getElem?_cons_zero, List.getElem?_cons_succ, List.set_cons_zero, List.set_cons_succ, List.length_cons, List.length_nil, List.take_succ_cons, List.take_zero, List.drop_succ_cons, List.drop_zero, List.reverse_cons, List.reverse_nil, List.nil_append, List.cons_append, List.append_nil, List.map_cons, List.map_nil, List.sum_cons, List.sum_nil, List.replicate_succ, List.replicate_zero, Value.category, Nat.reduceAdd, Nat.reduceSub, Nat.reduceMul, Nat.reduceLT, Nat.reduceLeDiff, Nat.reduceEqDiff, Nat.reduceBEq, Int.reduceAdd, Int.reduceSub, Int.reduceLE, Int.reduceLT, Int.reduceToNat, Int.reduceNeg, Int.reduceNegSucc, Int.cast_ofNat_Int, forall_const, imp_self, Option.toList_some, Option.toList_none, zrt_i, zrt_l, zrt_v, zrt_b, eq_self, nI_1, zfz_0, zfz_1, zfz_2, zl2_0, SH_0, SH_1, SH_2, SH_3, SH_4, SH_5, SH_6, SH_7, SH_8, SH_9, SH_10, SH_11, SH_12, SH_13, SH_14, SH_15, SH_16, SH_17, SH_18, SH_19, SH_20, SH_21, SH_22, SH_23, SH_24, SH_25, SH_26, SH_27, SH_28, SH_29, SH_30, SH_31, SH_32, SH_33, b8_m101, b8_m100, b8_m8, b8_6, b8_7, b8_8, b8_9, b8_10, b8_12, b8_16, b8_24, b8_30, b8_40, b8_63, b8_64, b8_99, b8_100, b8_101, b8_127, b16_128, b16_200, b16_201, b16_439, b16_999, b16_1000, b16_12000, bi_m1, bi_0, bi_1, bi_2, bi_3, bi_4, bi_5, dX5_firingsChanged_0, dX5_firingsChanged_1, dX5_firingsChanged_4, dX5_firingsChanged_7, dX5_firingsChanged_8, dX5_firingsChanged_11, dX5_firingsChanged_12, dX5_firingsChanged_15, dX5_firingsChanged_18, zF_5_10, zK_5_239, zM_5, zF_5_19, zK_5_43, zM_10]; try simp only [zup_at, zupd_at, bx_uu, Nat.reduceEqDiff, ↓reduceIte]
    have q : ∀ c, c ≠ 1 → (c < 9 ∨ 13 ≤ c) → M' c = M c := fun c h1 h2 => by
      rw [b c (by omega) (by omega) (by omega) (by omega), zup_at, if_neg h1]
    have q1 : M' 1 = upd (upd (M 1) 6 (-1)) 7 (nI (2 ^ S.n - 1)) := by
      rw [b 1 (by decide) (by decide) (by decide) (by decide), zup_at, if_pos rfl]
    refine h M' (fun c hc => q c (by omega) (by omega)) ⟨?_, ?_, ?_, ?_, ?_, ?_, ?_, ?_, ?_, ?_, ?_⟩ ⟨b1, b2, bR⟩
    · rw [q1]; exact hC.n
    · rw [q1]; exact hC.sk
    · rw [q _ (by omega) (by omega)]; exact hC.t
    · rw [q _ (by omega) (by omega)]; exact hC.ms
    · rw [q _ (by omega) (by omega)]; exact hC.pl
    · rw [q _ (by omega) (by omega)]; exact hC.wk
    · rw [q _ (by omega) (by omega)]; exact hC.wp
    · rw [q _ (by omega) (by omega)]; exact hC.wt
    · rw [q _ (by omega) (by omega)]; exact hC.wm
    · rw [q1]; rfl
    · rw [q1]; rfl
/-- n cylinders anew -/
def zSt.cyl (S : zSt) (n : Nat) : zSt := zSt.mk n S.sk (fun _ => 0) (fun _ => 10) (fun c => nI (10 * c)) S.wk S.wp S.wt S.wm none (2 ^ n - 1)
set_option maxHeartbeats 4000000 in
set_option maxRecDepth 100000 in
theorem s_X5_setCylinders {X : zX} {x : Int32} (hX : zXF X) (hI : zIC X M)
    (h1 : ∀ c, c < 8 → x = nI (c + 1) → ∀ M', (∀ c, 32 ≤ c → M' c = M c) → zIC (X.wS (X.S.cyl (c + 1))) M' → Q (some (.int (nI X.S.n))) (SG se, M'))
    (h2 : (∀ c, c < 8 → x ≠ nI (c + 1)) → Q (some (.int (-1000002))) (SG se, M)) : zcl fz (d + 14) 31 [.ref 0, .int x] (SG se, M) Q := by
  refine zcl_intro zM_31 (by rw [zmL_len]; decide) (by decide) rfl (Nat.le_of_ble_eq_true rfl) ?_
  refine zx_ok [] 300 ?_; simp only [zx_step, zxd_ok, zxo_1, zxo_2, zxo_3, zxo_4, zxo_5, zone, zstep, zild, zlld, zald, zist, zast, zlst, ziinc, zbin, zun, zbinL, zdup, zdup2, zpop1, ztgt, zbr, zcm, zif0, zif2, ztsw, zlsw, zlen, zgetf, zputf, zgets, zxald, zxast, zlenA, zokI, zokB, zarr, zcallK, zstat, zspec, zcopy, zretI, zretL, zretV, zwide, zisO, znewa, znew, zatp, zinit, zent, zf4_0, zf4_1, zf4_2, zf4_3, true_and, and_true, or_true, true_or, or_false, false_or, and_false, false_and, Classical.not_not, not_false_eq_true, not_true_eq_false, ne_eq, List.not_mem_nil, List.mem_cons, ↓reduceIte, ite_true, ite_false, List.getElem?_cons_zero, List.getElem?_cons_succ, List.set_cons_zero, List.set_cons_succ, List.length_cons, List.length_nil, List.take_succ_cons, List.take_zero, List.drop_succ_cons, List.drop_zero, List.reverse_cons, List.reverse_nil, List.nil_append, List.cons_append, List.append_nil, List.map_cons, List.map_nil, List.sum_cons, List.sum_nil, List.replicate_succ, List.replicate_zero, Value.category, Nat.reduceAdd, Nat.reduceSub, Nat.reduceMul, Nat.reduceLT, Nat.reduceLeDiff, Nat.reduceEqDiff, Nat.reduceBEq, Int.reduceAdd, Int.reduceSub, Int.reduceLE, Int.reduceLT, Int.reduceToNat, Int.reduceNeg, Int.reduceNegSucc, Int.cast_ofNat_Int, forall_const, imp_self, Option.toList_some, Option.toList_none, zrt_i, zrt_l, zrt_v, zrt_b, eq_self, nI_1, zfz_0, zfz_1, zfz_2, zl2_0, SH_0, SH_1, SH_2, SH_3, SH_4, SH_5, SH_6, SH_7, SH_8, SH_9, SH_10, SH_11, SH_12, SH_13, SH_14, SH_15, SH_16, SH_17, SH_18, SH_19, SH_20, SH_21, SH_22, SH_23, SH_24, SH_25, SH_26, SH_27, SH_28, SH_29, SH_30, SH_31, SH_32, SH_33, b8_m101, b8_m100, b8_m8, b8_6, b8_7, b8_8, b8_9, b8_10, b8_12, b8_16, b8_24, b8_30, b8_40, b8_63, b8_64, b8_99, b8_100, b8_101, b8_127, b16_128, b16_200, b16_201, b16_439, b16_999, b16_1000, b16_12000, bi_m1, bi_0, bi_1, bi_2, bi_3, bi_4, bi_5, dX5_setCylinders_0, dX5_setCylinders_1, dX5_setCylinders_2, dX5_setCylinders_5, dX5_setCylinders_6, dX5_setCylinders_8, dX5_setCylinders_11, dX5_setCylinders_13, dX5_setCylinders_14, dX5_setCylinders_15, dX5_setCylinders_18, dX5_setCylinders_21, dX5_setCylinders_22, dX5_setCylinders_23, dX5_setCylinders_26, dX5_setCylinders_27, dX5_setCylinders_30, dX5_setCylinders_31, dX5_setCylinders_34, dX5_setCylinders_35, zC_5_47, zF_5_10, zF_5_48, zK_5_52, zM_4, zK_5_56, zM_32]; try simp only [zup_at, zupd_at, bx_uu, Nat.reduceEqDiff, ↓reduceIte]
  have e1 : (x < 1) = (x.toInt < 1) := propext Int32.lt_iff_toInt_lt
  have e2 : (x ≤ 8) = (x.toInt ≤ 8) := propext Int32.le_iff_toInt_le
  rw [e1, e2]
  have hq : ¬ (1 ≤ x.toInt ∧ x.toInt ≤ 8) → Q (some (.int (-1000002))) (SG se, M) := fun q => h2 (fun c hc e => q (by
    rw [e, nI_toInt (by omega)]
    omega))
  refine ⟨fun q => hq (by omega), fun q => ⟨fun q2 => ?_, fun q2 => hq (by omega)⟩⟩
  have ex : x = nI (x.toInt.toNat - 1 + 1) := by
    rw [← Int32.toInt_inj, nI_toInt (by omega)]
    omega
  have h1 := h1 (x.toInt.toNat - 1) (by omega) ex
  generalize hk : x.toInt.toNat - 1 = k at ex h1
  have hk8 : k < 8 := by omega
  rw [hI.S.n]
  refine s_X1_begin (d := d + 10) ex (by omega) (fun M' b b1 b2 b3 b4 => ?_)
  refine zx_ok [] 300 ?_; simp only [zx_step, zxd_ok, zxo_1, zxo_2, zxo_3, zxo_4, zxo_5, zone, zstep, zild, zlld, zald, zist, zast, zlst, ziinc, zbin, zun, zbinL, zdup, zdup2, zpop1, ztgt, zbr, zcm, zif0, zif2, ztsw, zlsw, zlen, zgetf, zputf, zgets, zxald, zxast, zlenA, zokI, zokB, zarr, zcallK, zstat, zspec, zcopy, zretI, zretL, zretV, zwide, zisO, znewa, znew, zatp, zinit, zent, zf4_0, zf4_1, zf4_2, zf4_3, true_and, and_true, or_true, true_or, or_false, false_or, and_false, false_and, Classical.not_not, not_false_eq_true, not_true_eq_false, ne_eq, List.not_mem_nil, List.mem_cons, ↓reduceIte, ite_true, ite_false, List.getElem?_cons_zero, List.getElem?_cons_succ, List.set_cons_zero, List.set_cons_succ, List.length_cons, List.length_nil, List.take_succ_cons, List.take_zero, List.drop_succ_cons, List.drop_zero, List.reverse_cons, List.reverse_nil, List.nil_append, List.cons_append, List.append_nil, List.map_cons, List.map_nil, List.sum_cons, List.sum_nil, List.replicate_succ, List.replicate_zero, Value.category, Nat.reduceAdd, Nat.reduceSub, Nat.reduceMul, Nat.reduceLT, Nat.reduceLeDiff, Nat.reduceEqDiff, Nat.reduceBEq, Int.reduceAdd, Int.reduceSub, Int.reduceLE, Int.reduceLT, Int.reduceToNat, Int.reduceNeg, Int.reduceNegSucc, Int.cast_ofNat_Int, forall_const, imp_self, Option.toList_some, Option.toList_none, zrt_i, zrt_l, zrt_v, zrt_b, eq_self, nI_1, zfz_0, zfz_1, zfz_2, zl2_0, SH_0, SH_1, SH_2, SH_3, SH_4, SH_5, SH_6, SH_7, SH_8, SH_9, SH_10, SH_11, SH_12, SH_13, SH_14, SH_15, SH_16, SH_17, SH_18, SH_19, SH_20, SH_21, SH_22, SH_23, SH_24, SH_25, SH_26, SH_27, SH_28, SH_29, SH_30, SH_31, SH_32, SH_33, b8_m101, b8_m100, b8_m8, b8_6, b8_7, b8_8, b8_9, b8_10, b8_12, b8_16, b8_24, b8_30, b8_40, b8_63, b8_64, b8_99, b8_100, b8_101, b8_127, b16_128, b16_200, b16_201, b16_439, b16_999, b16_1000, b16_12000, bi_m1, bi_0, bi_1, bi_2, bi_3, bi_4, bi_5, dX5_setCylinders_0, dX5_setCylinders_1, dX5_setCylinders_2, dX5_setCylinders_5, dX5_setCylinders_6, dX5_setCylinders_8, dX5_setCylinders_11, dX5_setCylinders_13, dX5_setCylinders_14, dX5_setCylinders_15, dX5_setCylinders_18, dX5_setCylinders_21, dX5_setCylinders_22, dX5_setCylinders_23, dX5_setCylinders_26, dX5_setCylinders_27, dX5_setCylinders_30, dX5_setCylinders_31, dX5_setCylinders_34, dX5_setCylinders_35, zC_5_47, zF_5_10, zF_5_48, zK_5_52, zM_4, zK_5_56, zM_32]; try simp only [zup_at, zupd_at, bx_uu, Nat.reduceEqDiff, ↓reduceIte]
  have q : ∀ c, (c < 1 ∨ 5 ≤ c) → M' c = M c := fun c hc => b c (by omega) (by omega) (by omega) (by omega)
  refine s_X5_firingsChanged (S := X.S.cyl (k + 1)) (by show 1 ≤ k + 1; omega) (by show k + 1 ≤ 8; omega) hX.S.s24 (fun c hc => by show 0 < 12; omega) ⟨?_, ?_, b2, b3, b4, ?_, ?_, ?_, ?_, ?_, ?_⟩ (fun M2 c2 cC cF => ?_)
  · rw [b1]; rfl
  · rw [b1]; exact hI.S.sk
  · rw [q _ (by omega)]; exact hI.S.wk
  · rw [q _ (by omega)]; exact hI.S.wp
  · rw [q _ (by omega)]; exact hI.S.wt
  · rw [q _ (by omega)]; exact hI.S.wm
  · rw [b1]; rfl
  · rw [b1]; rfl
  · refine zx_ok [] 300 ?_; simp only [zx_step, zxd_ok, zxo_1, zxo_2, zxo_3, zxo_4, zxo_5, zone, zstep, zild, zlld, zald, zist, zast, zlst, ziinc, zbin, zun, zbinL, zdup, zdup2, zpop1, ztgt, zbr, zcm, zif0, zif2, ztsw, zlsw, zlen, zgetf, zputf, zgets, zxald, zxast, zlenA, zokI, zokB, zarr, zcallK, zstat, zspec, zcopy, zretI, zretL, zretV, zwide, zisO, znewa, znew, zatp, zinit, zent, zf4_0, zf4_1, zf4_2, zf4_3, true_and, and_true, or_true, true_or, or_false, false_or, and_false, false_and, Classical.not_not, not_false_eq_true, not_true_eq_false, ne_eq, List.not_mem_nil, List.mem_cons, ↓reduceIte, ite_true, ite_false, List.getElem?_cons_zero, List.getElem?_cons_succ, List.set_cons_zero, List.set_cons_succ, List.length_cons, List.length_nil, List.take_succ_cons, List.take_zero, List.drop_succ_cons, List.drop_zero, List.reverse_cons, List.reverse_nil, List.nil_append, List.cons_append, List.append_nil, List.map_cons, List.map_nil, List.sum_cons, List.sum_nil, List.replicate_succ, List.replicate_zero, Value.category, Nat.reduceAdd, Nat.reduceSub, Nat.reduceMul, Nat.reduceLT, Nat.reduceLeDiff, Nat.reduceEqDiff, Nat.reduceBEq, Int.reduceAdd, Int.reduceSub, Int.reduceLE, Int.reduceLT, Int.reduceToNat, Int.reduceNeg, Int.reduceNegSucc, Int.cast_ofNat_Int, forall_const, imp_self, Option.toList_some, Option.toList_none, zrt_i, zrt_l, zrt_v, zrt_b, eq_self, nI_1, zfz_0, zfz_1, zfz_2, zl2_0, SH_0, SH_1, SH_2, SH_3, SH_4, SH_5, SH_6, SH_7, SH_8, SH_9, SH_10, SH_11, SH_12, SH_13, SH_14, SH_15, SH_16, SH_17, SH_18, SH_19, SH_20, SH_21, SH_22, SH_23, SH_24, SH_25, SH_26, SH_27, SH_28, SH_29, SH_30, SH_31, SH_32, SH_33, b8_m101, b8_m100, b8_m8, b8_6, b8_7, b8_8, b8_9, b8_10, b8_12, b8_16, b8_24, b8_30, b8_40, b8_63, b8_64, b8_99, b8_100, b8_101, b8_127, b16_128, b16_200, b16_201, b16_439, b16_999, b16_1000, b16_12000, bi_m1, bi_0, bi_1, bi_2, bi_3, bi_4, bi_5, dX5_setCylinders_0, dX5_setCylinders_1, dX5_setCylinders_2, dX5_setCylinders_5, dX5_setCylinders_6, dX5_setCylinders_8, dX5_setCylinders_11, dX5_setCylinders_13, dX5_setCylinders_14, dX5_setCylinders_15, dX5_setCylinders_18, dX5_setCylinders_21, dX5_setCylinders_22, dX5_setCylinders_23, dX5_setCylinders_26, dX5_setCylinders_27, dX5_setCylinders_30, dX5_setCylinders_31, dX5_setCylinders_34, dX5_setCylinders_35, zC_5_47, zF_5_10, zF_5_48, zK_5_52, zM_4, zK_5_56, zM_32]; try simp only [zup_at, zupd_at, bx_uu, Nat.reduceEqDiff, ↓reduceIte]
    exact h1 M2 (fun c hc => by rw [c2 c (by omega), q c (by omega)]) (zIC_S (fun c hc => by rw [c2 c (by omega), q c (by omega)]) hI cC cF)
end
