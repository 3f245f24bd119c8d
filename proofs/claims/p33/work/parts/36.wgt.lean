/-! ===== setWeight ===== -/
theorem zrkn_congr {f g : Nat → Int} {K : Int} : ∀ {k}, (∀ i, i < k → f i = g i) → zrkn f K k = zrkn g K k
  | 0, _ => rfl
  | k + 1, h => by rw [zrkn_s, zrkn_s, zrkn_congr (fun i hi => h i (by omega)), h k (by omega)]
def zinG {α : Type} (f : Nat → α) (r : Nat) (x : α) (k j : Nat) : α := if j = r then x else if r < j ∧ j ≤ k then f (j - 1) else f j
def zdnG {α : Type} (f : Nat → α) (r s j : Nat) : α := if r ≤ j ∧ j < s then f (j + 1) else f j
def zSt.wrk (S : zSt) (p : Int32) (t : Nat) : Nat := zrkn (fun k => 12 * (S.wp k).toInt + S.wt k) (12 * p.toInt + t) S.wk
def zSt.wst (S : zSt) (p : Int32) (t : Nat) : Bool := decide (S.wrk p t < S.wk ∧ S.wp (S.wrk p t) = p ∧ S.wt (S.wrk p t) = t)
def zSt.wrm (S : zSt) (p : Int32) (t : Nat) : zSt := zSt.mk S.n S.sk S.t S.ms S.pl (S.wk - 1) (zdnG S.wp (S.wrk p t) (S.wk - 1)) (zdnG S.wt (S.wrk p t) (S.wk - 1)) (zdnG S.wm (S.wrk p t) (S.wk - 1)) S.ch S.om
def zSt.wse (S : zSt) (p : Int32) (t m : Nat) : zSt := zSt.mk S.n S.sk S.t S.ms S.pl S.wk S.wp S.wt (znu S.wm (S.wrk p t) m) S.ch S.om
def zSt.win (S : zSt) (p : Int32) (t m : Nat) : zSt := zSt.mk S.n S.sk S.t S.ms S.pl (S.wk + 1) (zinG S.wp (S.wrk p t) p S.wk) (zinG S.wt (S.wrk p t) t S.wk) (zinG S.wm (S.wrk p t) m S.wk) S.ch S.om
def zSt.wgt (S : zSt) (p : Int32) (t m : Nat) : zSt := if m = 0 then (if S.wst p t = true then S.wrm p t else S) else if S.wst p t = true then S.wse p t m else if S.wk = 8 then S else S.win p t m
def zSt.wgtR (S : zSt) (p : Int32) (t m : Nat) : Int32 := if m ≠ 0 ∧ S.wst p t = false ∧ S.wk = 8 then -1000004 else nI (S.wgt p t m).wk
theorem zwsS (X : zX) : X.wS X.S = X := rfl
section
variable {fz : zFz} {L : Nat} {xs : Nat → Int32} {d : Nat} {se : List zSh} {M : zMm} {st : zS} {Q : Option Value → zS → Prop}
theorem zwrk_M {S : zSt} {x : Int32} {t : Nat} (ht : t < 12) (hS : zWF S) (hC : zRC 1 S M) : S.wrk x t = zrkn (fun k => zky (M 6 k) (M 7 k)) (zky x (nI t)) S.wk := by
  have e : zky x (nI t) = 12 * x.toInt + t := by
    unfold zky
    rw [nI_toInt (by omega)]
  rw [e]
  refine zrkn_congr (fun i hi => ?_)
  have a : M 6 i = S.wp i := hC.wp i hi
  have b : M 7 i = nI (S.wt i) := hC.wt i hi
  have := hS.wt12 i hi
  show _ = zky (M 6 i) (M 7 i)
  unfold zky
  rw [a, b, nI_toInt (by omega)]
theorem zwst_M {S : zSt} {x : Int32} {t : Nat} (ht : t < 12) (hS : zWF S) (hC : zRC 1 S M) : (S.wst x t = true) ↔ (S.wrk x t < S.wk ∧ M 6 (S.wrk x t) = x ∧ M 7 (S.wrk x t) = nI t) := by
  unfold zSt.wst
  rw [decide_eq_true_iff]
  refine ⟨fun ⟨h1, h2, h3⟩ => ⟨h1, ?_, ?_⟩, fun ⟨h1, h2, h3⟩ => ⟨h1, ?_, ?_⟩⟩
  · rw [show M 6 _ = S.wp _ from hC.wp _ h1, h2]
  · rw [show M 7 _ = nI (S.wt _) from hC.wt _ h1, h3]
  · exact (show S.wp _ = M 6 _ from (hC.wp _ h1).symm).trans h2
  · rw [show M 7 _ = nI (S.wt _) from hC.wt _ h1] at h3
    have := hS.wt12 _ h1
    exact (nI_eq (by omega) (by omega)).mp h3
set_option maxHeartbeats 4000000 in
set_option maxRecDepth 100000 in
theorem s_X5_setWeight {X : zX} {x y z : Int32} (hX : zXF X) (hI : zIC X M)
    (h1 : ∀ t m, t < 12 → m < 1000 → -100 ≤ x.toInt ∧ x.toInt ≤ 100 → y = nI t → z = nI m → ∀ M', (∀ c, 32 ≤ c → M' c = M c) → zIC (X.wS (X.S.wgt x t m)) M' → Q (some (.int (X.S.wgtR x t m))) (SG se, M'))
    (h2 : (¬ (-100 ≤ x.toInt ∧ x.toInt ≤ 100) ∨ (∀ t, t < 12 → y ≠ nI t) ∨ (∀ m, m < 1000 → z ≠ nI m)) → Q (some (.int (-1000002))) (SG se, M)) : zcl fz (d + 14) 42 [.ref 0, .int x, .int y, .int z] (SG se, M) Q := by
  refine zcl_intro zM_42 (by rw [zmL_len]; decide) (by decide) rfl (Nat.le_of_ble_eq_true rfl) ?_
  refine zx_ok [] 300 ?_; simp only [zx_step, zxd_ok, zxo_1, zxo_2, zxo_3, zxo_4, zxo_5, zone, zstep, zild, zlld, zald, zist, zast, zlst, ziinc, zbin, zun, zbinL, zdup, zdup2, zpop1, ztgt, zbr, zcm, zif0, zif2, ztsw, zlsw, zlen, zgetf, zputf, zgets, zxald, zxast, zlenA, zokI, zokB, zarr, zcallK, zstat, zspec, zcopy, zretI, zretL, zretV, zwide, zisO, znewa, znew, zatp, zinit, zent, zf4_0, zf4_1, zf4_2, zf4_3, true_and, and_true, or_true, true_or, or_false, false_or, and_false, false_and, Classical.not_not, not_false_eq_true, not_true_eq_false, ne_eq, List.not_mem_nil, List.mem_cons, ↓reduceIte, ite_true, ite_false, List.getElem?_cons_zero, List.getElem?_cons_succ, List.set_cons_zero, List.set_cons_succ, List.length_cons, List.length_nil, List.take_succ_cons, List.take_zero, List.drop_succ_cons, List.drop_zero, List.reverse_cons, List.reverse_nil, List.nil_append, List.cons_append, List.append_nil, List.map_cons, List.map_nil, List.sum_cons, List.sum_nil, List.replicate_succ, List.replicate_zero, Value.category, Nat.reduceAdd, Nat.reduceSub, Nat.reduceMul, Nat.reduceLT, Nat.reduceLeDiff, Nat.reduceEqDiff, Nat.reduceBEq, Int.reduceAdd, Int.reduceSub, Int.reduceLE, Int.reduceLT, Int.reduceToNat, Int.reduceNeg, Int.reduceNegSucc, Int.cast_ofNat_Int, forall_const, imp_self, Option.toList_some, Option.toList_none, zrt_i, zrt_l, zrt_v, zrt_b, eq_self, nI_1, zfz_0, zfz_1, zfz_2, zl2_0, SH_0, SH_1, SH_2, SH_3, SH_4, SH_5, SH_6, SH_7, SH_8, SH_9, SH_10, SH_11, SH_12, SH_13, SH_14, SH_15, SH_16, SH_17, SH_18, SH_19, SH_20, SH_21, SH_22, SH_23, SH_24, SH_25, SH_26, SH_27, SH_28, SH_29, SH_30, SH_31, SH_32, SH_33, b8_m101, b8_m100, b8_m8, b8_6, b8_7, b8_8, b8_9, b8_10, b8_12, b8_16, b8_24, b8_30, b8_40, b8_63, b8_64, b8_99, b8_100, b8_101, b8_127, b16_128, b16_200, b16_201, b16_439, b16_999, b16_1000, b16_12000, bi_m1, bi_0, bi_1, bi_2, bi_3, bi_4, bi_5, dX5_setWeight_0, dX5_setWeight_1, dX5_setWeight_4, dX5_setWeight_7, dX5_setWeight_8, dX5_setWeight_11, dX5_setWeight_14, dX5_setWeight_15, dX5_setWeight_18, dX5_setWeight_19, dX5_setWeight_22, dX5_setWeight_25, dX5_setWeight_27, dX5_setWeight_28, dX5_setWeight_29, dX5_setWeight_32, dX5_setWeight_35, dX5_setWeight_37, dX5_setWeight_38, dX5_setWeight_41, dX5_setWeight_43, dX5_setWeight_44, dX5_setWeight_45, dX5_setWeight_48, dX5_setWeight_50, dX5_setWeight_53, dX5_setWeight_54, dX5_setWeight_56, dX5_setWeight_57, dX5_setWeight_58, dX5_setWeight_59, dX5_setWeight_62, dX5_setWeight_65, dX5_setWeight_67, dX5_setWeight_70, dX5_setWeight_73, dX5_setWeight_75, zK_5_77, zM_39, zY_5_77, zK_5_67, zM_36, zY_5_67, zC_5_47, zF_5_10, zF_5_83, zK_5_87, zM_43, zF_5_93, zK_5_96, zM_47, zC_5_100]; try simp only [zup_at, zupd_at, bx_uu, Nat.reduceEqDiff, ↓reduceIte]
  refine s_X5_isNoPlace (fun g => ?_) (fun g => ?_)
  · refine zx_ok [] 300 ?_; simp only [zx_step, zxd_ok, zxo_1, zxo_2, zxo_3, zxo_4, zxo_5, zone, zstep, zild, zlld, zald, zist, zast, zlst, ziinc, zbin, zun, zbinL, zdup, zdup2, zpop1, ztgt, zbr, zcm, zif0, zif2, ztsw, zlsw, zlen, zgetf, zputf, zgets, zxald, zxast, zlenA, zokI, zokB, zarr, zcallK, zstat, zspec, zcopy, zretI, zretL, zretV, zwide, zisO, znewa, znew, zatp, zinit, zent, zf4_0, zf4_1, zf4_2, zf4_3, true_and, and_true, or_true, true_or, or_false, false_or, and_false, false_and, Classical.not_not, not_false_eq_true, not_true_eq_false, ne_eq, List.not_mem_nil, List.mem_cons, ↓reduceIte, ite_true, ite_false, List.getElem?_cons_zero, List.getElem?_cons_succ, List.set_cons_zero, List.set_cons_succ, List.length_cons, List.length_nil, List.take_succ_cons, List.take_zero, List.drop_succ_cons, List.drop_zero, List.reverse_cons, List.reverse_nil, List.nil_append, List.cons_append, List.append_nil, List.map_cons, List.map_nil, List.sum_cons, List.sum_nil, List.replicate_succ, List.replicate_zero, Value.category, Nat.reduceAdd, Nat.reduceSub, Nat.reduceMul, Nat.reduceLT, Nat.reduceLeDiff, Nat.reduceEqDiff, Nat.reduceBEq, Int.reduceAdd, Int.reduceSub, Int.reduceLE, Int.reduceLT, Int.reduceToNat, Int.reduceNeg, Int.reduceNegSucc, Int.cast_ofNat_Int, forall_const, imp_self, Option.toList_some, Option.toList_none, zrt_i, zrt_l, zrt_v, zrt_b, eq_self, nI_1, zfz_0, zfz_1, zfz_2, zl2_0, SH_0, SH_1, SH_2, SH_3, SH_4, SH_5, SH_6, SH_7, SH_8, SH_9, SH_10, SH_11, SH_12, SH_13, SH_14, SH_15, SH_16, SH_17, SH_18, SH_19, SH_20, SH_21, SH_22, SH_23, SH_24, SH_25, SH_26, SH_27, SH_28, SH_29, SH_30, SH_31, SH_32, SH_33, b8_m101, b8_m100, b8_m8, b8_6, b8_7, b8_8, b8_9, b8_10, b8_12, b8_16, b8_24, b8_30, b8_40, b8_63, b8_64, b8_99, b8_100, b8_101, b8_127, b16_128, b16_200, b16_201, b16_439, b16_999, b16_1000, b16_12000, bi_m1, bi_0, bi_1, bi_2, bi_3, bi_4, bi_5, dX5_setWeight_0, dX5_setWeight_1, dX5_setWeight_4, dX5_setWeight_7, dX5_setWeight_8, dX5_setWeight_11, dX5_setWeight_14, dX5_setWeight_15, dX5_setWeight_18, dX5_setWeight_19, dX5_setWeight_22, dX5_setWeight_25, dX5_setWeight_27, dX5_setWeight_28, dX5_setWeight_29, dX5_setWeight_32, dX5_setWeight_35, dX5_setWeight_37, dX5_setWeight_38, dX5_setWeight_41, dX5_setWeight_43, dX5_setWeight_44, dX5_setWeight_45, dX5_setWeight_48, dX5_setWeight_50, dX5_setWeight_53, dX5_setWeight_54, dX5_setWeight_56, dX5_setWeight_57, dX5_setWeight_58, dX5_setWeight_59, dX5_setWeight_62, dX5_setWeight_65, dX5_setWeight_67, dX5_setWeight_70, dX5_setWeight_73, dX5_setWeight_75, zK_5_77, zM_39, zY_5_77, zK_5_67, zM_36, zY_5_67, zC_5_47, zF_5_10, zF_5_83, zK_5_87, zM_43, zF_5_93, zK_5_96, zM_47, zC_5_100]; try simp only [zup_at, zupd_at, bx_uu, Nat.reduceEqDiff, ↓reduceIte]
    refine ⟨fun (q : False) => q.elim, ?_⟩
    refine s_X5_isNoTurn (fun t ht hy => ?_) (fun g2 => ?_)
    · refine zx_ok [] 300 ?_; simp only [zx_step, zxd_ok, zxo_1, zxo_2, zxo_3, zxo_4, zxo_5, zone, zstep, zild, zlld, zald, zist, zast, zlst, ziinc, zbin, zun, zbinL, zdup, zdup2, zpop1, ztgt, zbr, zcm, zif0, zif2, ztsw, zlsw, zlen, zgetf, zputf, zgets, zxald, zxast, zlenA, zokI, zokB, zarr, zcallK, zstat, zspec, zcopy, zretI, zretL, zretV, zwide, zisO, znewa, znew, zatp, zinit, zent, zf4_0, zf4_1, zf4_2, zf4_3, true_and, and_true, or_true, true_or, or_false, false_or, and_false, false_and, Classical.not_not, not_false_eq_true, not_true_eq_false, ne_eq, List.not_mem_nil, List.mem_cons, ↓reduceIte, ite_true, ite_false, List.getElem?_cons_zero, List.getElem?_cons_succ, List.set_cons_zero, List.set_cons_succ, List.length_cons, List.length_nil, List.take_succ_cons, List.take_zero, List.drop_succ_cons, List.drop_zero, List.reverse_cons, List.reverse_nil, List.nil_append, List.cons_append, List.append_nil, List.map_cons, List.map_nil, List.sum_cons, List.sum_nil, List.replicate_succ, List.replicate_zero, Value.category, Nat.reduceAdd, Nat.reduceSub, Nat.reduceMul, Nat.reduceLT, Nat.reduceLeDiff, Nat.reduceEqDiff, Nat.reduceBEq, Int.reduceAdd, Int.reduceSub, Int.reduceLE, Int.reduceLT, Int.reduceToNat, Int.reduceNeg, Int.reduceNegSucc, Int.cast_ofNat_Int, forall_const, imp_self, Option.toList_some, Option.toList_none, zrt_i, zrt_l, zrt_v, zrt_b, eq_self, nI_1, zfz_0, zfz_1, zfz_2, zl2_0, SH_0, SH_1, SH_2, SH_3, SH_4, SH_5, SH_6, SH_7, SH_8, SH_9, SH_10, SH_11, SH_12, SH_13, SH_14, SH_15, SH_16, SH_17, SH_18, SH_19, SH_20, SH_21, SH_22, SH_23, SH_24, SH_25, SH_26, SH_27, SH_28, SH_29, SH_30, SH_31, SH_32, SH_33, b8_m101, b8_m100, b8_m8, b8_6, b8_7, b8_8, b8_9, b8_10, b8_12, b8_16, b8_24, b8_30, b8_40, b8_63, b8_64, b8_99, b8_100, b8_101, b8_127, b16_128, b16_200, b16_201, b16_439, b16_999, b16_1000, b16_12000, bi_m1, bi_0, bi_1, bi_2, bi_3, bi_4, bi_5, dX5_setWeight_0, dX5_setWeight_1, dX5_setWeight_4, dX5_setWeight_7, dX5_setWeight_8, dX5_setWeight_11, dX5_setWeight_14, dX5_setWeight_15, dX5_setWeight_18, dX5_setWeight_19, dX5_setWeight_22, dX5_setWeight_25, dX5_setWeight_27, dX5_setWeight_28, dX5_setWeight_29, dX5_setWeight_32, dX5_setWeight_35, dX5_setWeight_37, dX5_setWeight_38, dX5_setWeight_41, dX5_setWeight_43, dX5_setWeight_44, dX5_setWeight_45, dX5_setWeight_48, dX5_setWeight_50, dX5_setWeight_53, dX5_setWeight_54, dX5_setWeight_56, dX5_setWeight_57, dX5_setWeight_58, dX5_setWeight_59, dX5_setWeight_62, dX5_setWeight_65, dX5_setWeight_67, dX5_setWeight_70, dX5_setWeight_73, dX5_setWeight_75, zK_5_77, zM_39, zY_5_77, zK_5_67, zM_36, zY_5_67, zC_5_47, zF_5_10, zF_5_83, zK_5_87, zM_43, zF_5_93, zK_5_96, zM_47, zC_5_100]; try simp only [zup_at, zupd_at, bx_uu, Nat.reduceEqDiff, ↓reduceIte]
      refine ⟨fun (q : False) => q.elim, ?_⟩
      rcases zrng z (n := 1000) (by omega) with ⟨m, hm, hz⟩ | ⟨g3, g4⟩
      · have k1 := h1 t m ht hm g hy hz
        subst hy
        subst hz
        have a1 : ¬ nI m < 0 := nI_pos (by omega)
        have a2 : nI m ≤ 999 := nI_le (b := 999) (by omega) (by decide)
        have a3 : (nI m = 0) = (m = 0) := propext (nI_eq (a := m) (b := 0) (by omega) (by decide))
        rw [a3]
        have hS := hX.S
        have hC := hI.S
        have w8 := hS.w8
        have hr := zwrk_M (x := x) ht hS hC
        have hs := zwst_M (x := x) ht hS hC
        have htt : (nI t).toInt = (t : Int) := nI_toInt (by omega)
        have hrows : ∀ k, k < X.S.wk → 0 ≤ (M 7 k).toInt ∧ (M 7 k).toInt < 12 := fun k hk => by
          have := hS.wt12 k hk
          rw [show M 7 k = nI (X.S.wt k) from hC.wt k hk, nI_toInt (by omega)]
          omega
        have hrl : X.S.wrk x t ≤ X.S.wk := zrkn_le _ _ _
        have tr : (nI (X.S.wrk x t)).toInt = (X.S.wrk x t : Int) := nI_toInt (by omega)
        have fin : ∀ (S' : zSt) (M' : zMm), (∀ c, c ≠ 5 → c ≠ 6 → c ≠ 7 → c ≠ 8 → M' c = M c) → S'.n = X.S.n → S'.sk = X.S.sk → S'.t = X.S.t → S'.ms = X.S.ms → S'.pl = X.S.pl → S'.ch = X.S.ch → S'.om = X.S.om → M' 5 0 = nI S'.wk → (∀ k, k < S'.wk → M' 6 k = S'.wp k) → (∀ k, k < S'.wk → M' 7 k = nI (S'.wt k)) → (∀ k, k < S'.wk → M' 8 k = nI (S'.wm k)) → (∀ c, 32 ≤ c → M' c = M c) ∧ zIC (X.wS S') M' := fun S' M' b e1 e2 e3 e4 e5 e6 e7 f1 f2 f3 f4 => by
          have q : ∀ c, (c < 5 ∨ 9 ≤ c) → M' c = M c := fun c hc => b c (by omega) (by omega) (by omega) (by omega)
          refine ⟨fun c hc => q c (by omega), zIC_S1 (fun c hc => q c (by omega)) hI ⟨?_, ?_, ?_, ?_, ?_, f1, f2, f3, f4, ?_, ?_⟩ e1 e2 e3⟩
          · rw [q 1 (by omega), e1]; exact hC.n
          · rw [q 1 (by omega), e2]; exact hC.sk
          · rw [q _ (by omega), e3]; exact hC.t
          · rw [q _ (by omega), e4]; exact hC.ms
          · rw [q _ (by omega), e5]; exact hC.pl
          · rw [q 1 (by omega), e6]; exact hC.ch
          · rw [q 1 (by omega), e7]; exact hC.om
        refine ⟨fun q => absurd q a1, fun _ => ⟨fun _ => ⟨fun hm0 => ?_, fun hm0 => ?_⟩, fun q => absurd a2 q⟩⟩
        · refine s_X4_put (wk := X.S.wk) w8 hC.wk hrows (by omega) hr (fun g1 g2 g3 => ?_) (fun g1 g2 => ?_) (fun g1 g2 M' b b5 b6 b7 b8 => ?_)
          · have hst := hs.mpr ⟨g1, g2, g3⟩
            have eS : X.S.wgt x t m = X.S.wse x t m := by rw [zSt.wgt, if_neg hm0, if_pos hst]
            have eR : X.S.wgtR x t m = nI X.S.wk := by
              rw [zSt.wgtR, if_neg (fun w => by rw [hst] at w; exact absurd w.2.1 (by decide)), eS]
              rfl
            rw [eS, eR] at k1
            obtain ⟨u1, u2⟩ := fin (X.S.wse x t m) (va_up M 8 (upd (M 8) (X.S.wrk x t) (nI m))) (fun c c5 c6 c7 c8 => by rw [zup_at, if_neg c8]) rfl rfl rfl rfl rfl rfl rfl hC.wk hC.wp hC.wt (fun k hk => by
              show upd (M 8) (X.S.wrk x t) (nI m) k = nI (znu X.S.wm (X.S.wrk x t) m k)
              unfold znu
              rw [zupd_at]
              split
              · rfl
              · exact hC.wm k hk)
            have k2 := k1 _ u1 u2
            refine zx_ok [] 300 ?_; simp only [zx_step, zxd_ok, zxo_1, zxo_2, zxo_3, zxo_4, zxo_5, zone, zstep, zild, zlld, zald, zist, zast, zlst, ziinc, zbin, zun, zbinL, zdup, zdup2, zpop1, ztgt, zbr, zcm, zif0, zif2, ztsw, zlsw, zlen, zgetf, zputf, zgets, zxald, zxast, zlenA, zokI, zokB, zarr, zcallK, zstat, zspec, zcopy, zretI, zretL, zretV, zwide, zisO, znewa, znew, zatp, zinit, zent, zf4_0, zf4_1, zf4_2, zf4_3, true_and, and_true, or_true, true_or, or_false, false_or, and_false, false_and, Classical.not_not, not_false_eq_true, not_true_eq_false, ne_eq, List.not_mem_nil, List.mem_cons, ↓reduceIte, ite_true, ite_false, List.getElem?_cons_zero, List.getElem?_cons_succ, List.set_cons_zero, List.set_cons_succ, List.length_cons, List.length_nil, List.take_succ_cons, List.take_zero, List.drop_succ_cons, List.drop_zero, List.reverse_cons, List.reverse_nil, List.nil_append, List.cons_append, List.append_nil, List.map_cons, List.map_nil, List.sum_cons, List.sum_nil, List.replicate_succ, List.replicate_zero, Value.category, Nat.reduceAdd, Nat.reduceSub, Nat.reduceMul, Nat.reduceLT, Nat.reduceLeDiff, Nat.reduceEqDiff, Nat.reduceBEq, Int.reduceAdd, Int.reduceSub, Int.reduceLE, Int.reduceLT, Int.reduceToNat, Int.reduceNeg, Int.reduceNegSucc, Int.cast_ofNat_Int, forall_const, imp_self, Option.toList_some, Option.toList_none, zrt_i, zrt_l, zrt_v, zrt_b, eq_self, nI_1, zfz_0, zfz_1, zfz_2, zl2_0, SH_0, SH_1, SH_2, SH_3, SH_4, SH_5, SH_6, SH_7, SH_8, SH_9, SH_10, SH_11, SH_12, SH_13, SH_14, SH_15, SH_16, SH_17, SH_18, SH_19, SH_20, SH_21, SH_22, SH_23, SH_24, SH_25, SH_26, SH_27, SH_28, SH_29, SH_30, SH_31, SH_32, SH_33, b8_m101, b8_m100, b8_m8, b8_6, b8_7, b8_8, b8_9, b8_10, b8_12, b8_16, b8_24, b8_30, b8_40, b8_63, b8_64, b8_99, b8_100, b8_101, b8_127, b16_128, b16_200, b16_201, b16_439, b16_999, b16_1000, b16_12000, bi_m1, bi_0, bi_1, bi_2, bi_3, bi_4, bi_5, dX5_setWeight_0, dX5_setWeight_1, dX5_setWeight_4, dX5_setWeight_7, dX5_setWeight_8, dX5_setWeight_11, dX5_setWeight_14, dX5_setWeight_15, dX5_setWeight_18, dX5_setWeight_19, dX5_setWeight_22, dX5_setWeight_25, dX5_setWeight_27, dX5_setWeight_28, dX5_setWeight_29, dX5_setWeight_32, dX5_setWeight_35, dX5_setWeight_37, dX5_setWeight_38, dX5_setWeight_41, dX5_setWeight_43, dX5_setWeight_44, dX5_setWeight_45, dX5_setWeight_48, dX5_setWeight_50, dX5_setWeight_53, dX5_setWeight_54, dX5_setWeight_56, dX5_setWeight_57, dX5_setWeight_58, dX5_setWeight_59, dX5_setWeight_62, dX5_setWeight_65, dX5_setWeight_67, dX5_setWeight_70, dX5_setWeight_73, dX5_setWeight_75, zK_5_77, zM_39, zY_5_77, zK_5_67, zM_36, zY_5_67, zC_5_47, zF_5_10, zF_5_83, zK_5_87, zM_43, zF_5_93, zK_5_96, zM_47, zC_5_100]; try simp only [zup_at, zupd_at, bx_uu, Nat.reduceEqDiff, ↓reduceIte]
            rw [show M 5 0 = nI X.S.wk from hC.wk]
            (repeat' first | (exact k2) | contradiction | (exfalso; omega) | refine ⟨?_, ?_⟩ | intro _)
          · have hst : X.S.wst x t = false := Bool.eq_false_iff.mpr (fun w => g1 (hs.mp w))
            have eS : X.S.wgt x t m = X.S := by rw [zSt.wgt, if_neg hm0, if_neg (by rw [hst]; decide), if_pos g2]
            have eR : X.S.wgtR x t m = -1000004 := by rw [zSt.wgtR, if_pos ⟨hm0, hst, g2⟩]
            rw [eS, eR, zwsS] at k1
            have k2 := k1 M (fun _ _ => rfl) hI
            refine zx_ok [] 300 ?_; simp only [zx_step, zxd_ok, zxo_1, zxo_2, zxo_3, zxo_4, zxo_5, zone, zstep, zild, zlld, zald, zist, zast, zlst, ziinc, zbin, zun, zbinL, zdup, zdup2, zpop1, ztgt, zbr, zcm, zif0, zif2, ztsw, zlsw, zlen, zgetf, zputf, zgets, zxald, zxast, zlenA, zokI, zokB, zarr, zcallK, zstat, zspec, zcopy, zretI, zretL, zretV, zwide, zisO, znewa, znew, zatp, zinit, zent, zf4_0, zf4_1, zf4_2, zf4_3, true_and, and_true, or_true, true_or, or_false, false_or, and_false, false_and, Classical.not_not, not_false_eq_true, not_true_eq_false, ne_eq, List.not_mem_nil, List.mem_cons, ↓reduceIte, ite_true, ite_false, List.getElem?_cons_zero, List.getElem?_cons_succ, List.set_cons_zero, List.set_cons_succ, List.length_cons, List.length_nil, List.take_succ_cons, List.take_zero, List.drop_succ_cons, List.drop_zero, List.reverse_cons, List.reverse_nil, List.nil_append, List.cons_append, List.append_nil, List.map_cons, List.map_nil, List.sum_cons, List.sum_nil, List.replicate_succ, List.replicate_zero, Value.category, Nat.reduceAdd, Nat.reduceSub, Nat.reduceMul, Nat.reduceLT, Nat.reduceLeDiff, Nat.reduceEqDiff, Nat.reduceBEq, Int.reduceAdd, Int.reduceSub, Int.reduceLE, Int.reduceLT, Int.reduceToNat, Int.reduceNeg, Int.reduceNegSucc, Int.cast_ofNat_Int, forall_const, imp_self, Option.toList_some, Option.toList_none, zrt_i, zrt_l, zrt_v, zrt_b, eq_self, nI_1, zfz_0, zfz_1, zfz_2, zl2_0, SH_0, SH_1, SH_2, SH_3, SH_4, SH_5, SH_6, SH_7, SH_8, SH_9, SH_10, SH_11, SH_12, SH_13, SH_14, SH_15, SH_16, SH_17, SH_18, SH_19, SH_20, SH_21, SH_22, SH_23, SH_24, SH_25, SH_26, SH_27, SH_28, SH_29, SH_30, SH_31, SH_32, SH_33, b8_m101, b8_m100, b8_m8, b8_6, b8_7, b8_8, b8_9, b8_10, b8_12, b8_16, b8_24, b8_30, b8_40, b8_63, b8_64, b8_99, b8_100, b8_101, b8_127, b16_128, b16_200, b16_201, b16_439, b16_999, b16_1000, b16_12000, bi_m1, bi_0, bi_1, bi_2, bi_3, bi_4, bi_5, dX5_setWeight_0, dX5_setWeight_1, dX5_setWeight_4, dX5_setWeight_7, dX5_setWeight_8, dX5_setWeight_11, dX5_setWeight_14, dX5_setWeight_15, dX5_setWeight_18, dX5_setWeight_19, dX5_setWeight_22, dX5_setWeight_25, dX5_setWeight_27, dX5_setWeight_28, dX5_setWeight_29, dX5_setWeight_32, dX5_setWeight_35, dX5_setWeight_37, dX5_setWeight_38, dX5_setWeight_41, dX5_setWeight_43, dX5_setWeight_44, dX5_setWeight_45, dX5_setWeight_48, dX5_setWeight_50, dX5_setWeight_53, dX5_setWeight_54, dX5_setWeight_56, dX5_setWeight_57, dX5_setWeight_58, dX5_setWeight_59, dX5_setWeight_62, dX5_setWeight_65, dX5_setWeight_67, dX5_setWeight_70, dX5_setWeight_73, dX5_setWeight_75, zK_5_77, zM_39, zY_5_77, zK_5_67, zM_36, zY_5_67, zC_5_47, zF_5_10, zF_5_83, zK_5_87, zM_43, zF_5_93, zK_5_96, zM_47, zC_5_100]; try simp only [zup_at, zupd_at, bx_uu, Nat.reduceEqDiff, ↓reduceIte]
            (repeat' first | (exact k2) | contradiction | (exfalso; omega) | refine ⟨?_, ?_⟩ | intro _)
          · have hst : X.S.wst x t = false := Bool.eq_false_iff.mpr (fun w => g1 (hs.mp w))
            have eS : X.S.wgt x t m = X.S.win x t m := by rw [zSt.wgt, if_neg hm0, if_neg (by rw [hst]; decide), if_neg (by omega)]
            have eR : X.S.wgtR x t m = nI (X.S.wk + 1) := by
              rw [zSt.wgtR, if_neg (fun w => by omega), eS]
              rfl
            rw [eS, eR] at k1
            have b50 : M' 5 0 = nI (X.S.wk + 1) := by rw [b5]; rfl
            obtain ⟨u1, u2⟩ := fin (X.S.win x t m) M' b rfl rfl rfl rfl rfl rfl rfl b50 (fun k hk => by
              have hk : k < X.S.wk + 1 := hk
              rw [b6, zins, zmv]
              show _ = zinG X.S.wp (X.S.wrk x t) x X.S.wk k
              unfold zinG
              by_cases e1 : k = X.S.wrk x t
              · rw [if_pos e1, if_pos e1]
              · rw [if_neg e1, if_neg e1]
                split
                · exact hC.wp _ (by omega)
                · exact hC.wp _ (by omega)) (fun k hk => by
              have hk : k < X.S.wk + 1 := hk
              rw [b7, zins, zmv]
              show _ = nI (zinG X.S.wt (X.S.wrk x t) t X.S.wk k)
              unfold zinG
              by_cases e1 : k = X.S.wrk x t
              · rw [if_pos e1, if_pos e1]
              · rw [if_neg e1, if_neg e1]
                split
                · exact hC.wt _ (by omega)
                · exact hC.wt _ (by omega)) (fun k hk => by
              have hk : k < X.S.wk + 1 := hk
              rw [b8, zins, zmv]
              show _ = nI (zinG X.S.wm (X.S.wrk x t) m X.S.wk k)
              unfold zinG
              by_cases e1 : k = X.S.wrk x t
              · rw [if_pos e1, if_pos e1]
              · rw [if_neg e1, if_neg e1]
                split
                · exact hC.wm _ (by omega)
                · exact hC.wm _ (by omega))
            have k2 := k1 _ u1 u2
            refine zx_ok [] 300 ?_; simp only [zx_step, zxd_ok, zxo_1, zxo_2, zxo_3, zxo_4, zxo_5, zone, zstep, zild, zlld, zald, zist, zast, zlst, ziinc, zbin, zun, zbinL, zdup, zdup2, zpop1, ztgt, zbr, zcm, zif0, zif2, ztsw, zlsw, zlen, zgetf, zputf, zgets, zxald, zxast, zlenA, zokI, zokB, zarr, zcallK, zstat, zspec, zcopy, zretI, zretL, zretV, zwide, zisO, znewa, znew, zatp, zinit, zent, zf4_0, zf4_1, zf4_2, zf4_3, true_and, and_true, or_true, true_or, or_false, false_or, and_false, false_and, Classical.not_not, not_false_eq_true, not_true_eq_false, ne_eq, List.not_mem_nil, List.mem_cons, ↓reduceIte, ite_true, ite_false, List.getElem?_cons_zero, List.getElem?_cons_succ, List.set_cons_zero, List.set_cons_succ, List.length_cons, List.length_nil, List.take_succ_cons, List.take_zero, List.drop_succ_cons, List.drop_zero, List.reverse_cons, List.reverse_nil, List.nil_append, List.cons_append, List.append_nil, List.map_cons, List.map_nil, List.sum_cons, List.sum_nil, List.replicate_succ, List.replicate_zero, Value.category, Nat.reduceAdd, Nat.reduceSub, Nat.reduceMul, Nat.reduceLT, Nat.reduceLeDiff, Nat.reduceEqDiff, Nat.reduceBEq, Int.reduceAdd, Int.reduceSub, Int.reduceLE, Int.reduceLT, Int.reduceToNat, Int.reduceNeg, Int.reduceNegSucc, Int.cast_ofNat_Int, forall_const, imp_self, Option.toList_some, Option.toList_none, zrt_i, zrt_l, zrt_v, zrt_b, eq_self, nI_1, zfz_0, zfz_1, zfz_2, zl2_0, SH_0, SH_1, SH_2, SH_3, SH_4, SH_5, SH_6, SH_7, SH_8, SH_9, SH_10, SH_11, SH_12, SH_13, SH_14, SH_15, SH_16, SH_17, SH_18, SH_19, SH_20, SH_21, SH_22, SH_23, SH_24, SH_25, SH_26, SH_27, SH_28, SH_29, SH_30, SH_31, SH_32, SH_33, b8_m101, b8_m100, b8_m8, b8_6, b8_7, b8_8, b8_9, b8_10, b8_12, b8_16, b8_24, b8_30, b8_40, b8_63, b8_64, b8_99, b8_100, b8_101, b8_127, b16_128, b16_200, b16_201, b16_439, b16_999, b16_1000, b16_12000, bi_m1, bi_0, bi_1, bi_2, bi_3, bi_4, bi_5, dX5_setWeight_0, dX5_setWeight_1, dX5_setWeight_4, dX5_setWeight_7, dX5_setWeight_8, dX5_setWeight_11, dX5_setWeight_14, dX5_setWeight_15, dX5_setWeight_18, dX5_setWeight_19, dX5_setWeight_22, dX5_setWeight_25, dX5_setWeight_27, dX5_setWeight_28, dX5_setWeight_29, dX5_setWeight_32, dX5_setWeight_35, dX5_setWeight_37, dX5_setWeight_38, dX5_setWeight_41, dX5_setWeight_43, dX5_setWeight_44, dX5_setWeight_45, dX5_setWeight_48, dX5_setWeight_50, dX5_setWeight_53, dX5_setWeight_54, dX5_setWeight_56, dX5_setWeight_57, dX5_setWeight_58, dX5_setWeight_59, dX5_setWeight_62, dX5_setWeight_65, dX5_setWeight_67, dX5_setWeight_70, dX5_setWeight_73, dX5_setWeight_75, zK_5_77, zM_39, zY_5_77, zK_5_67, zM_36, zY_5_67, zC_5_47, zF_5_10, zF_5_83, zK_5_87, zM_43, zF_5_93, zK_5_96, zM_47, zC_5_100]; try simp only [zup_at, zupd_at, bx_uu, Nat.reduceEqDiff, ↓reduceIte]
            rw [b50]
            (repeat' first | (exact k2) | contradiction | (exfalso; omega) | refine ⟨?_, ?_⟩ | intro _)
        · refine s_X4_remove (wk := X.S.wk) w8 hC.wk hrows (by omega) hr (fun g1 g2 g3 M' b b5 b6 b7 b8 => ?_) (fun g1 => ?_)
          · have hst := hs.mpr ⟨g1, g2, g3⟩
            have eS : X.S.wgt x t m = X.S.wrm x t := by rw [zSt.wgt, if_pos hm0, if_pos hst]
            have eR : X.S.wgtR x t m = nI (X.S.wk - 1) := by
              rw [zSt.wgtR, if_neg (fun w => w.1 hm0), eS]
              rfl
            rw [eS, eR] at k1
            have b50 : M' 5 0 = nI (X.S.wk - 1) := by rw [b5]; rfl
            obtain ⟨u1, u2⟩ := fin (X.S.wrm x t) M' b rfl rfl rfl rfl rfl rfl rfl b50 (fun k hk => by
              have hk : k < X.S.wk - 1 := hk
              rw [b6, zdn]
              show _ = zdnG X.S.wp (X.S.wrk x t) (X.S.wk - 1) k
              unfold zdnG
              split
              · exact hC.wp _ (by omega)
              · exact hC.wp _ (by omega)) (fun k hk => by
              have hk : k < X.S.wk - 1 := hk
              rw [b7, zdn]
              show _ = nI (zdnG X.S.wt (X.S.wrk x t) (X.S.wk - 1) k)
              unfold zdnG
              split
              · exact hC.wt _ (by omega)
              · exact hC.wt _ (by omega)) (fun k hk => by
              have hk : k < X.S.wk - 1 := hk
              rw [b8, zdn]
              show _ = nI (zdnG X.S.wm (X.S.wrk x t) (X.S.wk - 1) k)
              unfold zdnG
              split
              · exact hC.wm _ (by omega)
              · exact hC.wm _ (by omega))
            have k2 := k1 _ u1 u2
            refine zx_ok [] 300 ?_; simp only [zx_step, zxd_ok, zxo_1, zxo_2, zxo_3, zxo_4, zxo_5, zone, zstep, zild, zlld, zald, zist, zast, zlst, ziinc, zbin, zun, zbinL, zdup, zdup2, zpop1, ztgt, zbr, zcm, zif0, zif2, ztsw, zlsw, zlen, zgetf, zputf, zgets, zxald, zxast, zlenA, zokI, zokB, zarr, zcallK, zstat, zspec, zcopy, zretI, zretL, zretV, zwide, zisO, znewa, znew, zatp, zinit, zent, zf4_0, zf4_1, zf4_2, zf4_3, true_and, and_true, or_true, true_or, or_false, false_or, and_false, false_and, Classical.not_not, not_false_eq_true, not_true_eq_false, ne_eq, List.not_mem_nil, List.mem_cons, ↓reduceIte, ite_true, ite_false, List.getElem?_cons_zero, List.getElem?_cons_succ, List.set_cons_zero, List.set_cons_succ, List.length_cons, List.length_nil, List.take_succ_cons, List.take_zero, List.drop_succ_cons, List.drop_zero, List.reverse_cons, List.reverse_nil, List.nil_append, List.cons_append, List.append_nil, List.map_cons, List.map_nil, List.sum_cons, List.sum_nil, List.replicate_succ, List.replicate_zero, Value.category, Nat.reduceAdd, Nat.reduceSub, Nat.reduceMul, Nat.reduceLT, Nat.reduceLeDiff, Nat.reduceEqDiff, Nat.reduceBEq, Int.reduceAdd, Int.reduceSub, Int.reduceLE, Int.reduceLT, Int.reduceToNat, Int.reduceNeg, Int.reduceNegSucc, Int.cast_ofNat_Int, forall_const, imp_self, Option.toList_some, Option.toList_none, zrt_i, zrt_l, zrt_v, zrt_b, eq_self, nI_1, zfz_0, zfz_1, zfz_2, zl2_0, SH_0, SH_1, SH_2, SH_3, SH_4, SH_5, SH_6, SH_7, SH_8, SH_9, SH_10, SH_11, SH_12, SH_13, SH_14, SH_15, SH_16, SH_17, SH_18, SH_19, SH_20, SH_21, SH_22, SH_23, SH_24, SH_25, SH_26, SH_27, SH_28, SH_29, SH_30, SH_31, SH_32, SH_33, b8_m101, b8_m100, b8_m8, b8_6, b8_7, b8_8, b8_9, b8_10, b8_12, b8_16, b8_24, b8_30, b8_40, b8_63, b8_64, b8_99, b8_100, b8_101, b8_127, b16_128, b16_200, b16_201, b16_439, b16_999, b16_1000, b16_12000, bi_m1, bi_0, bi_1, bi_2, bi_3, bi_4, bi_5, dX5_setWeight_0, dX5_setWeight_1, dX5_setWeight_4, dX5_setWeight_7, dX5_setWeight_8, dX5_setWeight_11, dX5_setWeight_14, dX5_setWeight_15, dX5_setWeight_18, dX5_setWeight_19, dX5_setWeight_22, dX5_setWeight_25, dX5_setWeight_27, dX5_setWeight_28, dX5_setWeight_29, dX5_setWeight_32, dX5_setWeight_35, dX5_setWeight_37, dX5_setWeight_38, dX5_setWeight_41, dX5_setWeight_43, dX5_setWeight_44, dX5_setWeight_45, dX5_setWeight_48, dX5_setWeight_50, dX5_setWeight_53, dX5_setWeight_54, dX5_setWeight_56, dX5_setWeight_57, dX5_setWeight_58, dX5_setWeight_59, dX5_setWeight_62, dX5_setWeight_65, dX5_setWeight_67, dX5_setWeight_70, dX5_setWeight_73, dX5_setWeight_75, zK_5_77, zM_39, zY_5_77, zK_5_67, zM_36, zY_5_67, zC_5_47, zF_5_10, zF_5_83, zK_5_87, zM_43, zF_5_93, zK_5_96, zM_47, zC_5_100]; try simp only [zup_at, zupd_at, bx_uu, Nat.reduceEqDiff, ↓reduceIte]
            rw [b50]
            exact k2
          · have hst : X.S.wst x t = false := Bool.eq_false_iff.mpr (fun w => g1 (hs.mp w))
            have eS : X.S.wgt x t m = X.S := by rw [zSt.wgt, if_pos hm0, if_neg (by rw [hst]; decide)]
            have eR : X.S.wgtR x t m = nI X.S.wk := by rw [zSt.wgtR, if_neg (fun w => w.1 hm0), eS]
            rw [eS, eR, zwsS] at k1
            have k2 := k1 M (fun _ _ => rfl) hI
            refine zx_ok [] 300 ?_; simp only [zx_step, zxd_ok, zxo_1, zxo_2, zxo_3, zxo_4, zxo_5, zone, zstep, zild, zlld, zald, zist, zast, zlst, ziinc, zbin, zun, zbinL, zdup, zdup2, zpop1, ztgt, zbr, zcm, zif0, zif2, ztsw, zlsw, zlen, zgetf, zputf, zgets, zxald, zxast, zlenA, zokI, zokB, zarr, zcallK, zstat, zspec, zcopy, zretI, zretL, zretV, zwide, zisO, znewa, znew, zatp, zinit, zent, zf4_0, zf4_1, zf4_2, zf4_3, true_and, and_true, or_true, true_or, or_false, false_or, and_false, false_and, Classical.not_not, not_false_eq_true, not_true_eq_false, ne_eq, List.not_mem_nil, List.mem_cons, ↓reduceIte, ite_true, ite_false, List.getElem?_cons_zero, List.getElem?_cons_succ, List.set_cons_zero, List.set_cons_succ, List.length_cons, List.length_nil, List.take_succ_cons, List.take_zero, List.drop_succ_cons, List.drop_zero, List.reverse_cons, List.reverse_nil, List.nil_append, List.cons_append, List.append_nil, List.map_cons, List.map_nil, List.sum_cons, List.sum_nil, List.replicate_succ, List.replicate_zero, Value.category, Nat.reduceAdd, Nat.reduceSub, Nat.reduceMul, Nat.reduceLT, Nat.reduceLeDiff, Nat.reduceEqDiff, Nat.reduceBEq, Int.reduceAdd, Int.reduceSub, Int.reduceLE, Int.reduceLT, Int.reduceToNat, Int.reduceNeg, Int.reduceNegSucc, Int.cast_ofNat_Int, forall_const, imp_self, Option.toList_some, Option.toList_none, zrt_i, zrt_l, zrt_v, zrt_b, eq_self, nI_1, zfz_0, zfz_1, zfz_2, zl2_0, SH_0, SH_1, SH_2, SH_3, SH_4, SH_5, SH_6, SH_7, SH_8, SH_9, SH_10, SH_11, SH_12, SH_13, SH_14, SH_15, SH_16, SH_17, SH_18, SH_19, SH_20, SH_21, SH_22, SH_23, SH_24, SH_25, SH_26, SH_27, SH_28, SH_29, SH_30, SH_31, SH_32, SH_33, b8_m101, b8_m100, b8_m8, b8_6, b8_7, b8_8, b8_9, b8_10, b8_12, b8_16, b8_24, b8_30, b8_40, b8_63, b8_64, b8_99, b8_100, b8_101, b8_127, b16_128, b16_200, b16_201, b16_439, b16_999, b16_1000, b16_12000, bi_m1, bi_0, bi_1, bi_2, bi_3, bi_4, bi_5, dX5_setWeight_0, dX5_setWeight_1, dX5_setWeight_4, dX5_setWeight_7, dX5_setWeight_8, dX5_setWeight_11, dX5_setWeight_14, dX5_setWeight_15, dX5_setWeight_18, dX5_setWeight_19, dX5_setWeight_22, dX5_setWeight_25, dX5_setWeight_27, dX5_setWeight_28, dX5_setWeight_29, dX5_setWeight_32, dX5_setWeight_35, dX5_setWeight_37, dX5_setWeight_38, dX5_setWeight_41, dX5_setWeight_43, dX5_setWeight_44, dX5_setWeight_45, dX5_setWeight_48, dX5_setWeight_50, dX5_setWeight_53, dX5_setWeight_54, dX5_setWeight_56, dX5_setWeight_57, dX5_setWeight_58, dX5_setWeight_59, dX5_setWeight_62, dX5_setWeight_65, dX5_setWeight_67, dX5_setWeight_70, dX5_setWeight_73, dX5_setWeight_75, zK_5_77, zM_39, zY_5_77, zK_5_67, zM_36, zY_5_67, zC_5_47, zF_5_10, zF_5_83, zK_5_87, zM_43, zF_5_93, zK_5_96, zM_47, zC_5_100]; try simp only [zup_at, zupd_at, bx_uu, Nat.reduceEqDiff, ↓reduceIte]
            rw [show M 5 0 = nI X.S.wk from hC.wk]
            exact k2
      · have := h2 (Or.inr (Or.inr g4))
        have a2 : z ≤ 999 → z < nI 1000 := fun q => by
          rw [Int32.lt_iff_toInt_lt, nI_toInt (by omega)]
          have := Int32.le_iff_toInt_le.mp q
          have e : Int32.toInt 999 = 999 := rfl
          omega
        exact ⟨fun _ => this, fun q => ⟨fun q2 => absurd g3 (fun w => w.elim q (fun w => w (a2 q2))), fun _ => this⟩⟩
    · have := h2 (Or.inr (Or.inl g2))
      refine zx_ok [] 300 ?_; simp only [zx_step, zxd_ok, zxo_1, zxo_2, zxo_3, zxo_4, zxo_5, zone, zstep, zild, zlld, zald, zist, zast, zlst, ziinc, zbin, zun, zbinL, zdup, zdup2, zpop1, ztgt, zbr, zcm, zif0, zif2, ztsw, zlsw, zlen, zgetf, zputf, zgets, zxald, zxast, zlenA, zokI, zokB, zarr, zcallK, zstat, zspec, zcopy, zretI, zretL, zretV, zwide, zisO, znewa, znew, zatp, zinit, zent, zf4_0, zf4_1, zf4_2, zf4_3, true_and, and_true, or_true, true_or, or_false, false_or, and_false, false_and, Classical.not_not, not_false_eq_true, not_true_eq_false, ne_eq, List.not_mem_nil, List.mem_cons, ↓reduceIte, ite_true, ite_false, List.getElem?_cons_zero, List.getElem?_cons_succ, List.set_cons_zero, List.set_cons_succ, List.length_cons, List.length_nil, List.take_succ_cons, List.take_zero, List.drop_succ_cons, List.drop_zero, List.reverse_cons, List.reverse_nil, List.nil_append, List.cons_append, List.append_nil, List.map_cons, List.map_nil, List.sum_cons, List.sum_nil, List.replicate_succ, List.replicate_zero, Value.category, Nat.reduceAdd, Nat.reduceSub, Nat.reduceMul, Nat.reduceLT, Nat.reduceLeDiff, Nat.reduceEqDiff, Nat.reduceBEq, Int.reduceAdd, Int.reduceSub, Int.reduceLE, Int.reduceLT, Int.reduceToNat, Int.reduceNeg, Int.reduceNegSucc, Int.cast_ofNat_Int, forall_const, imp_self, Option.toList_some, Option.toList_none, zrt_i, zrt_l, zrt_v, zrt_b, eq_self, nI_1, zfz_0, zfz_1, zfz_2, zl2_0, SH_0, SH_1, SH_2, SH_3, SH_4, SH_5, SH_6, SH_7, SH_8, SH_9, SH_10, SH_11, SH_12, SH_13, SH_14, SH_15, SH_16, SH_17, SH_18, SH_19, SH_20, SH_21, SH_22, SH_23, SH_24, SH_25, SH_26, SH_27, SH_28, SH_29, SH_30, SH_31, SH_32, SH_33, b8_m101, b8_m100, b8_m8, b8_6, b8_7, b8_8, b8_9, b8_10, b8_12, b8_16, b8_24, b8_30, b8_40, b8_63, b8_64, b8_99, b8_100, b8_101, b8_127, b16_128, b16_200, b16_201, b16_439, b16_999, b16_1000, b16_12000, bi_m1, bi_0, bi_1, bi_2, bi_3, bi_4, bi_5, dX5_setWeight_0, dX5_setWeight_1, dX5_setWeight_4, dX5_setWeight_7, dX5_setWeight_8, dX5_setWeight_11, dX5_setWeight_14, dX5_setWeight_15, dX5_setWeight_18, dX5_setWeight_19, dX5_setWeight_22, dX5_setWeight_25, dX5_setWeight_27, dX5_setWeight_28, dX5_setWeight_29, dX5_setWeight_32, dX5_setWeight_35, dX5_setWeight_37, dX5_setWeight_38, dX5_setWeight_41, dX5_setWeight_43, dX5_setWeight_44, dX5_setWeight_45, dX5_setWeight_48, dX5_setWeight_50, dX5_setWeight_53, dX5_setWeight_54, dX5_setWeight_56, dX5_setWeight_57, dX5_setWeight_58, dX5_setWeight_59, dX5_setWeight_62, dX5_setWeight_65, dX5_setWeight_67, dX5_setWeight_70, dX5_setWeight_73, dX5_setWeight_75, zK_5_77, zM_39, zY_5_77, zK_5_67, zM_36, zY_5_67, zC_5_47, zF_5_10, zF_5_83, zK_5_87, zM_43, zF_5_93, zK_5_96, zM_47, zC_5_100]; try simp only [zup_at, zupd_at, bx_uu, Nat.reduceEqDiff, ↓reduceIte]
      (repeat' first | (exact this) | contradiction | (exfalso; omega) | refine ⟨?_, ?_⟩ | intro _)
  · have := h2 (Or.inl g)
    refine zx_ok [] 300 ?_; simp only [zx_step, zxd_ok, zxo_1, zxo_2, zxo_3, zxo_4, zxo_5, zone, zstep, zild, zlld, zald, zist, zast, zlst, ziinc, zbin, zun, zbinL, zdup, zdup2, zpop1, ztgt, zbr, zcm, zif0, zif2, ztsw, zlsw, zlen, zgetf, zputf, zgets, zxald, zxast, zlenA, zokI, zokB, zarr, zcallK, zstat, zspec, zcopy, zretI, zretL, zretV, zwide, zisO, znewa, znew, zatp, zinit, zent, zf4_0, zf4_1, zf4_2, zf4_3, true_and, and_true, or_true, true_or, or_false, false_or, and_false, false_and, Classical.not_not, not_false_eq_true, not_true_eq_false, ne_eq, List.not_mem_nil, List.mem_cons, ↓reduceIte, ite_true, ite_false, List.getElem?_cons_zero, List.getElem?_cons_succ, List.set_cons_zero, List.set_cons_succ, List.length_cons, List.length_nil, List.take_succ_cons, List.take_zero, List.drop_succ_cons, List.drop_zero, List.reverse_cons, List.reverse_nil, List.nil_append, List.cons_append, List.append_nil, List.map_cons, List.map_nil, List.sum_cons, List.sum_nil, List.replicate_succ, List.replicate_zero, Value.category, Nat.reduceAdd, Nat.reduceSub, Nat.reduceMul, Nat.reduceLT, Nat.reduceLeDiff, Nat.reduceEqDiff, Nat.reduceBEq, Int.reduceAdd, Int.reduceSub, Int.reduceLE, Int.reduceLT, Int.reduceToNat, Int.reduceNeg, Int.reduceNegSucc, Int.cast_ofNat_Int, forall_const, imp_self, Option.toList_some, Option.toList_none, zrt_i, zrt_l, zrt_v, zrt_b, eq_self, nI_1, zfz_0, zfz_1, zfz_2, zl2_0, SH_0, SH_1, SH_2, SH_3, SH_4, SH_5, SH_6, SH_7, SH_8, SH_9, SH_10, SH_11, SH_12, SH_13, SH_14, SH_15, SH_16, SH_17, SH_18, SH_19, SH_20, SH_21, SH_22, SH_23, SH_24, SH_25, SH_26, SH_27, SH_28, SH_29, SH_30, SH_31, SH_32, SH_33, b8_m101, b8_m100, b8_m8, b8_6, b8_7, b8_8, b8_9, b8_10, b8_12, b8_16, b8_24, b8_30, b8_40, b8_63, b8_64, b8_99, b8_100, b8_101, b8_127, b16_128, b16_200, b16_201, b16_439, b16_999, b16_1000, b16_12000, bi_m1, bi_0, bi_1, bi_2, bi_3, bi_4, bi_5, dX5_setWeight_0, dX5_setWeight_1, dX5_setWeight_4, dX5_setWeight_7, dX5_setWeight_8, dX5_setWeight_11, dX5_setWeight_14, dX5_setWeight_15, dX5_setWeight_18, dX5_setWeight_19, dX5_setWeight_22, dX5_setWeight_25, dX5_setWeight_27, dX5_setWeight_28, dX5_setWeight_29, dX5_setWeight_32, dX5_setWeight_35, dX5_setWeight_37, dX5_setWeight_38, dX5_setWeight_41, dX5_setWeight_43, dX5_setWeight_44, dX5_setWeight_45, dX5_setWeight_48, dX5_setWeight_50, dX5_setWeight_53, dX5_setWeight_54, dX5_setWeight_56, dX5_setWeight_57, dX5_setWeight_58, dX5_setWeight_59, dX5_setWeight_62, dX5_setWeight_65, dX5_setWeight_67, dX5_setWeight_70, dX5_setWeight_73, dX5_setWeight_75, zK_5_77, zM_39, zY_5_77, zK_5_67, zM_36, zY_5_67, zC_5_47, zF_5_10, zF_5_83, zK_5_87, zM_43, zF_5_93, zK_5_96, zM_47, zC_5_100]; try simp only [zup_at, zupd_at, bx_uu, Nat.reduceEqDiff, ↓reduceIte]
    (repeat' first | (exact this) | contradiction | (exfalso; omega) | refine ⟨?_, ?_⟩ | intro _)
end
