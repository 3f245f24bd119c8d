/-! ===== Text ===== -/
/-- the fault position from byte i on, r bytes before the end, these numbers used -/
def zflt (n len : Nat) (tx : Nat → Nat) : Nat → Nat → Nat → Option Nat
  | 0, _, _ => if len < 2 * n - 1 then some len else none
  | r + 1, i, u => if 2 * n - 1 ≤ i then some i else if i % 2 = 1 then (if tx i = 45 then zflt n len tx r (i + 1) u else some i) else if tx i < 49 ∨ n ≤ tx i - 49 ∨ u.testBit (tx i - 49) = true then some i else zflt n len tx r (i + 1) (u ||| 2 ^ (tx i - 49))
theorem zflt_z (n len : Nat) (tx : Nat → Nat) (i u : Nat) : zflt n len tx 0 i u = if len < 2 * n - 1 then some len else none := rfl
theorem zflt_s (n len : Nat) (tx : Nat → Nat) (r i u : Nat) : zflt n len tx (r + 1) i u = if 2 * n - 1 ≤ i then some i else if i % 2 = 1 then (if tx i = 45 then zflt n len tx r (i + 1) u else some i) else if tx i < 49 ∨ n ≤ tx i - 49 ∨ u.testBit (tx i - 49) = true then some i else zflt n len tx r (i + 1) (u ||| 2 ^ (tx i - 49)) := rfl
def zoN (x : Option Nat) : Int32 := match x with
  | some i => nI i
  | none => -1000005
theorem zrem2 (i : Nat) (h : i < 1000) : nI i - nI i / 2 * 2 = nI (i % 2) := pk_rem (d := 2) (by omega) (by decide) (by decide)
section
variable {fz : zFz} {L : Nat} {xs : Nat → Int32} {d : Nat} {se : List zSh} {M : zMm} {st : zS} {Q : Option Value → zS → Prop}
set_option maxHeartbeats 4000000 in
set_option maxRecDepth 100000 in
theorem s_X3_put {x : Int32} {a len : Nat} (hx : x = nI a) (ha : a < 128) (hl : len ≤ 40) (h0 : M 14 0 = nI len) (hf : len = 40 → Q (some (.int 0)) (SG se, M)) (h : len < 40 → Q (some (.int 1)) (SG se, va_up (va_up M 15 (upd (M 15) len (nI a))) 14 (upd (M 14) 0 (nI (len + 1))))) : zcl fz (d + 1) 88 [.ref 14, .int x] (SG se, M) Q := by
  subst hx
  refine zcl_intro zM_88 (by rw [zmL_len]; decide) (by decide) rfl (Nat.le_of_ble_eq_true rfl) ?_
  refine zx_ok [] 300 ?_; simp only [zx_step, zxd_ok, zxo_1, zxo_2, zxo_3, zxo_4, zxo_5, zone, zstep, zild, zlld, zald, zist, zast, zlst, ziinc, zbin, zun, zbinL, zdup, zdup2, zpop1, ztgt, zbr, zcm, zif0, zif2, ztsw, zlsw, zlen, zgetf, zputf, zgets, zxald, zxast, zlenA, zokI, zokB, zarr, zcallK, zstat, zspec, zcopy, zretI, zretL, zretV, zwide, zisO, znewa, znew, zatp, zinit, zent, zf4_0, zf4_1, zf4_2, zf4_3, true_and, and_true, or_true, true_or, or_false, false_or, and_false, false_and, Classical.not_not, not_false_eq_true, not_true_eq_false, ne_eq, List.not_mem_nil, List.mem_cons, ↓reduceIte, ite_true, ite_false, List.getElem?_cons_zero, List.getElem?_cons_succ, List.set_cons_zero, List.set_cons_succ, List.length_cons, List.length_nil, List.take_succ_cons, List.take_zero, List.drop_succ_cons, List.drop_zero, List.reverse_cons, List.reverse_nil, List.nil_append, List.cons_append, List.append_nil, List.map_cons, List.map_nil, List.sum_cons, List.sum_nil, List.replicate_succ, List.replicate_zero, Value.category, Nat.reduceAdd, Nat.reduceSub, Nat.reduceMul, Nat.reduceLT, Nat.reduceLeDiff, Nat.reduceEqDiff, Nat.reduceBEq, Int.reduceAdd, Int.reduceSub, Int.reduceLE, Int.reduceLT, Int.reduceToNat, Int.reduceNeg, Int.reduceNegSucc, Int.cast_ofNat_Int, forall_const, imp_self, Option.toList_some, Option.toList_none, zrt_i, zrt_l, zrt_v, zrt_b, eq_self, nI_1, zfz_0, zfz_1, zfz_2, zl2_0, SH_0, SH_1, SH_2, SH_3, SH_4, SH_5, SH_6, SH_7, SH_8, SH_9, SH_10, SH_11, SH_12, SH_13, SH_14, SH_15, SH_16, SH_17, SH_18, SH_19, SH_20, SH_21, SH_22, SH_23, SH_24, SH_25, SH_26, SH_27, SH_28, SH_29, SH_30, SH_31, SH_32, SH_33, b8_m101, b8_m100, b8_m8, b8_6, b8_7, b8_8, b8_9, b8_10, b8_12, b8_16, b8_24, b8_30, b8_40, b8_63, b8_64, b8_99, b8_100, b8_101, b8_127, b16_128, b16_200, b16_201, b16_439, b16_999, b16_1000, b16_12000, bi_m1, bi_0, bi_1, bi_2, bi_3, bi_4, bi_5, dX3_put_0, dX3_put_1, dX3_put_4, dX3_put_6, dX3_put_9, dX3_put_10, dX3_put_11, dX3_put_12, dX3_put_15, dX3_put_16, dX3_put_19, dX3_put_20, dX3_put_21, dX3_put_22, dX3_put_23, dX3_put_24, dX3_put_27, dX3_put_28, dX3_put_29, dX3_put_32, dX3_put_33, zF_3_15, zF_3_9]; try simp only [zup_at, zupd_at, bx_uu, Nat.reduceEqDiff, ↓reduceIte]
  rw [h0, show (40 : Int32) = nI 40 from rfl]
  have e : vp_nar .byte (nI a).toInt8.toInt32 = nI a := by
    rw [vp_nar_byte, fb_byte_twice, fa_byte_small ha]
  simp (disch := omega) only [nI_ltI, nI_toInt, Int.toNat_natCast, e, nI_1]
  refine ⟨fun g => ?_, fun g => hf (by omega)⟩
  exact ⟨⟨by omega, by omega⟩, h (by omega)⟩
end
