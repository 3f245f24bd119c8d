/-! ===== the state both keep ===== -/
/-- a shaft: cylinders, strokes, turns, masses, places; weights; the order chosen, who is on -/
abbrev zSt : Type := (Nat) × (Nat) × (Nat → Nat) × (Nat → Nat) × (Nat → Int32) × (Nat) × (Nat → Int32) × (Nat → Nat) × (Nat → Nat) × (Option Nat) × (Nat)
def zSt.mk (n : Nat) (sk : Nat) (t : Nat → Nat) (ms : Nat → Nat) (pl : Nat → Int32) (wk : Nat) (wp : Nat → Int32) (wt : Nat → Nat) (wm : Nat → Nat) (ch : Option Nat) (om : Nat) : zSt := (n, sk, t, ms, pl, wk, wp, wt, wm, ch, om)
def zSt.n (X : zSt) : Nat := X.1
def zSt.sk (X : zSt) : Nat := X.2.1
def zSt.t (X : zSt) : Nat → Nat := X.2.2.1
def zSt.ms (X : zSt) : Nat → Nat := X.2.2.2.1
def zSt.pl (X : zSt) : Nat → Int32 := X.2.2.2.2.1
def zSt.wk (X : zSt) : Nat := X.2.2.2.2.2.1
def zSt.wp (X : zSt) : Nat → Int32 := X.2.2.2.2.2.2.1
def zSt.wt (X : zSt) : Nat → Nat := X.2.2.2.2.2.2.2.1
def zSt.wm (X : zSt) : Nat → Nat := X.2.2.2.2.2.2.2.2.1
def zSt.ch (X : zSt) : Option Nat := X.2.2.2.2.2.2.2.2.2.1
def zSt.om (X : zSt) : Nat := X.2.2.2.2.2.2.2.2.2.2
theorem zSt_n {n : Nat} {sk : Nat} {t : Nat → Nat} {ms : Nat → Nat} {pl : Nat → Int32} {wk : Nat} {wp : Nat → Int32} {wt : Nat → Nat} {wm : Nat → Nat} {ch : Option Nat} {om : Nat} : (zSt.mk n sk t ms pl wk wp wt wm ch om).n = n := rfl
theorem zSt_sk {n : Nat} {sk : Nat} {t : Nat → Nat} {ms : Nat → Nat} {pl : Nat → Int32} {wk : Nat} {wp : Nat → Int32} {wt : Nat → Nat} {wm : Nat → Nat} {ch : Option Nat} {om : Nat} : (zSt.mk n sk t ms pl wk wp wt wm ch om).sk = sk := rfl
theorem zSt_t {n : Nat} {sk : Nat} {t : Nat → Nat} {ms : Nat → Nat} {pl : Nat → Int32} {wk : Nat} {wp : Nat → Int32} {wt : Nat → Nat} {wm : Nat → Nat} {ch : Option Nat} {om : Nat} : (zSt.mk n sk t ms pl wk wp wt wm ch om).t = t := rfl
theorem zSt_ms {n : Nat} {sk : Nat} {t : Nat → Nat} {ms : Nat → Nat} {pl : Nat → Int32} {wk : Nat} {wp : Nat → Int32} {wt : Nat → Nat} {wm : Nat → Nat} {ch : Option Nat} {om : Nat} : (zSt.mk n sk t ms pl wk wp wt wm ch om).ms = ms := rfl
theorem zSt_pl {n : Nat} {sk : Nat} {t : Nat → Nat} {ms : Nat → Nat} {pl : Nat → Int32} {wk : Nat} {wp : Nat → Int32} {wt : Nat → Nat} {wm : Nat → Nat} {ch : Option Nat} {om : Nat} : (zSt.mk n sk t ms pl wk wp wt wm ch om).pl = pl := rfl
theorem zSt_wk {n : Nat} {sk : Nat} {t : Nat → Nat} {ms : Nat → Nat} {pl : Nat → Int32} {wk : Nat} {wp : Nat → Int32} {wt : Nat → Nat} {wm : Nat → Nat} {ch : Option Nat} {om : Nat} : (zSt.mk n sk t ms pl wk wp wt wm ch om).wk = wk := rfl
theorem zSt_wp {n : Nat} {sk : Nat} {t : Nat → Nat} {ms : Nat → Nat} {pl : Nat → Int32} {wk : Nat} {wp : Nat → Int32} {wt : Nat → Nat} {wm : Nat → Nat} {ch : Option Nat} {om : Nat} : (zSt.mk n sk t ms pl wk wp wt wm ch om).wp = wp := rfl
theorem zSt_wt {n : Nat} {sk : Nat} {t : Nat → Nat} {ms : Nat → Nat} {pl : Nat → Int32} {wk : Nat} {wp : Nat → Int32} {wt : Nat → Nat} {wm : Nat → Nat} {ch : Option Nat} {om : Nat} : (zSt.mk n sk t ms pl wk wp wt wm ch om).wt = wt := rfl
theorem zSt_wm {n : Nat} {sk : Nat} {t : Nat → Nat} {ms : Nat → Nat} {pl : Nat → Int32} {wk : Nat} {wp : Nat → Int32} {wt : Nat → Nat} {wm : Nat → Nat} {ch : Option Nat} {om : Nat} : (zSt.mk n sk t ms pl wk wp wt wm ch om).wm = wm := rfl
theorem zSt_ch {n : Nat} {sk : Nat} {t : Nat → Nat} {ms : Nat → Nat} {pl : Nat → Int32} {wk : Nat} {wp : Nat → Int32} {wt : Nat → Nat} {wm : Nat → Nat} {ch : Option Nat} {om : Nat} : (zSt.mk n sk t ms pl wk wp wt wm ch om).ch = ch := rfl
theorem zSt_om {n : Nat} {sk : Nat} {t : Nat → Nat} {ms : Nat → Nat} {pl : Nat → Int32} {wk : Nat} {wp : Nat → Int32} {wt : Nat → Nat} {wm : Nat → Nat} {ch : Option Nat} {om : Nat} : (zSt.mk n sk t ms pl wk wp wt wm ch om).om = om := rfl
def zSt.od (S : zSt) : List Nat := zord S.n S.sk S.t
/-- a state that can be -/
abbrev zWF (S : zSt) : Prop := (1 ≤ S.n) ∧ (S.n ≤ 8) ∧ (S.sk = 2 ∨ S.sk = 4) ∧ (∀ c, c < 8 → S.t c < 12) ∧ (∀ c, c < 8 → S.ms c < 100) ∧ (∀ c, c < 8 → -100 ≤ (S.pl c).toInt ∧ (S.pl c).toInt ≤ 100) ∧ (S.wk ≤ 8) ∧ (∀ k, k < S.wk → -100 ≤ (S.wp k).toInt ∧ (S.wp k).toInt ≤ 100) ∧ (∀ k, k < S.wk → S.wt k < 12) ∧ (∀ k, k < S.wk → 1 ≤ S.wm k ∧ S.wm k < 1000) ∧ (∀ i j, i < j → j < S.wk → 12 * (S.wp i).toInt + S.wt i < 12 * (S.wp j).toInt + S.wt j) ∧ (∀ o, S.ch = some o → o < S.od.length) ∧ (S.om < 2 ^ S.n)
theorem zWF.n1 {S : zSt} (h : zWF S) : 1 ≤ S.n := h.1
theorem zWF.n8 {S : zSt} (h : zWF S) : S.n ≤ 8 := h.2.1
theorem zWF.s24 {S : zSt} (h : zWF S) : S.sk = 2 ∨ S.sk = 4 := h.2.2.1
theorem zWF.t12 {S : zSt} (h : zWF S) : ∀ c, c < 8 → S.t c < 12 := h.2.2.2.1
theorem zWF.m99 {S : zSt} (h : zWF S) : ∀ c, c < 8 → S.ms c < 100 := h.2.2.2.2.1
theorem zWF.p1 {S : zSt} (h : zWF S) : ∀ c, c < 8 → -100 ≤ (S.pl c).toInt ∧ (S.pl c).toInt ≤ 100 := h.2.2.2.2.2.1
theorem zWF.w8 {S : zSt} (h : zWF S) : S.wk ≤ 8 := h.2.2.2.2.2.2.1
theorem zWF.wq {S : zSt} (h : zWF S) : ∀ k, k < S.wk → -100 ≤ (S.wp k).toInt ∧ (S.wp k).toInt ≤ 100 := h.2.2.2.2.2.2.2.1
theorem zWF.wt12 {S : zSt} (h : zWF S) : ∀ k, k < S.wk → S.wt k < 12 := h.2.2.2.2.2.2.2.2.1
theorem zWF.wmr {S : zSt} (h : zWF S) : ∀ k, k < S.wk → 1 ≤ S.wm k ∧ S.wm k < 1000 := h.2.2.2.2.2.2.2.2.2.1
theorem zWF.wso {S : zSt} (h : zWF S) : ∀ i j, i < j → j < S.wk → 12 * (S.wp i).toInt + S.wt i < 12 * (S.wp j).toInt + S.wt j := h.2.2.2.2.2.2.2.2.2.2.1
theorem zWF.cho {S : zSt} (h : zWF S) : ∀ o, S.ch = some o → o < S.od.length := h.2.2.2.2.2.2.2.2.2.2.2.1
theorem zWF.on8 {S : zSt} (h : zWF S) : S.om < 2 ^ S.n := h.2.2.2.2.2.2.2.2.2.2.2.2
def zcI (x : Option Nat) : Int32 := match x with
  | some o => nI o
  | none => -1
theorem zcI_some {o : Nat} (h : o < 100) : ¬ zcI (some o) = -1 := fun g => by
  have g : nI o = -1 := g
  have := congrArg Int32.toInt g
  rw [nI_toInt (by omega)] at this
  have e : Int32.toInt (-1) = -1 := rfl
  omega
theorem zod_8 (S : zSt) : S.od.length ≤ 8 := by
  unfold zSt.od zord
  split
  · rw [List.length_take]
    omega
  · exact Nat.zero_le _
/-- the class's shaft at cell a -/
abbrev zRC (a : Nat) (S : zSt) (M : zMm) : Prop := (M a 0 = nI S.n) ∧ (M a 1 = nI S.sk) ∧ (∀ c, c < 8 → M (a + 1) c = nI (S.t c)) ∧ (∀ c, c < 8 → M (a + 2) c = nI (S.ms c)) ∧ (∀ c, c < 8 → M (a + 3) c = S.pl c) ∧ (M (a + 4) 0 = nI S.wk) ∧ (∀ k, k < S.wk → M (a + 5) k = S.wp k) ∧ (∀ k, k < S.wk → M (a + 6) k = nI (S.wt k)) ∧ (∀ k, k < S.wk → M (a + 7) k = nI (S.wm k)) ∧ (M a 6 = zcI S.ch) ∧ (M a 7 = nI S.om)
theorem zRC.n {a : Nat} {S : zSt} {M : zMm} (h : zRC a S M) : M a 0 = nI S.n := h.1
theorem zRC.sk {a : Nat} {S : zSt} {M : zMm} (h : zRC a S M) : M a 1 = nI S.sk := h.2.1
theorem zRC.t {a : Nat} {S : zSt} {M : zMm} (h : zRC a S M) : ∀ c, c < 8 → M (a + 1) c = nI (S.t c) := h.2.2.1
theorem zRC.ms {a : Nat} {S : zSt} {M : zMm} (h : zRC a S M) : ∀ c, c < 8 → M (a + 2) c = nI (S.ms c) := h.2.2.2.1
theorem zRC.pl {a : Nat} {S : zSt} {M : zMm} (h : zRC a S M) : ∀ c, c < 8 → M (a + 3) c = S.pl c := h.2.2.2.2.1
theorem zRC.wk {a : Nat} {S : zSt} {M : zMm} (h : zRC a S M) : M (a + 4) 0 = nI S.wk := h.2.2.2.2.2.1
theorem zRC.wp {a : Nat} {S : zSt} {M : zMm} (h : zRC a S M) : ∀ k, k < S.wk → M (a + 5) k = S.wp k := h.2.2.2.2.2.2.1
theorem zRC.wt {a : Nat} {S : zSt} {M : zMm} (h : zRC a S M) : ∀ k, k < S.wk → M (a + 6) k = nI (S.wt k) := h.2.2.2.2.2.2.2.1
theorem zRC.wm {a : Nat} {S : zSt} {M : zMm} (h : zRC a S M) : ∀ k, k < S.wk → M (a + 7) k = nI (S.wm k) := h.2.2.2.2.2.2.2.2.1
theorem zRC.ch {a : Nat} {S : zSt} {M : zMm} (h : zRC a S M) : M a 6 = zcI S.ch := h.2.2.2.2.2.2.2.2.2.1
theorem zRC.om {a : Nat} {S : zSt} {M : zMm} (h : zRC a S M) : M a 7 = nI S.om := h.2.2.2.2.2.2.2.2.2.2
/-- the class's firings -/
abbrev zRF (S : zSt) (M : zMm) : Prop := (M 9 1 = nI S.n) ∧ (M 9 2 = nI (6 * S.sk)) ∧ (zRO S.n (6 * S.sk) (6 * S.sk / S.n) (S.t 0) S.od M)
theorem zRF.n {S : zSt} {M : zMm} (h : zRF S M) : M 9 1 = nI S.n := h.1
theorem zRF.cy {S : zSt} {M : zMm} (h : zRF S M) : M 9 2 = nI (6 * S.sk) := h.2.1
theorem zRF.od {S : zSt} {M : zMm} (h : zRF S M) : zRO S.n (6 * S.sk) (6 * S.sk / S.n) (S.t 0) S.od M := h.2.2
/-- what both keep: the shaft, two kept ones, the text -/
abbrev zX : Type := (zSt) × (Option zSt) × (Option zSt) × (Nat) × (Nat → Nat)
def zX.mk (S : zSt) (k0 : Option zSt) (k1 : Option zSt) (len : Nat) (tx : Nat → Nat) : zX := (S, k0, k1, len, tx)
def zX.S (X : zX) : zSt := X.1
def zX.k0 (X : zX) : Option zSt := X.2.1
def zX.k1 (X : zX) : Option zSt := X.2.2.1
def zX.len (X : zX) : Nat := X.2.2.2.1
def zX.tx (X : zX) : Nat → Nat := X.2.2.2.2
theorem zX_S {S : zSt} {k0 : Option zSt} {k1 : Option zSt} {len : Nat} {tx : Nat → Nat} : (zX.mk S k0 k1 len tx).S = S := rfl
theorem zX_k0 {S : zSt} {k0 : Option zSt} {k1 : Option zSt} {len : Nat} {tx : Nat → Nat} : (zX.mk S k0 k1 len tx).k0 = k0 := rfl
theorem zX_k1 {S : zSt} {k0 : Option zSt} {k1 : Option zSt} {len : Nat} {tx : Nat → Nat} : (zX.mk S k0 k1 len tx).k1 = k1 := rfl
theorem zX_len {S : zSt} {k0 : Option zSt} {k1 : Option zSt} {len : Nat} {tx : Nat → Nat} : (zX.mk S k0 k1 len tx).len = len := rfl
theorem zX_tx {S : zSt} {k0 : Option zSt} {k1 : Option zSt} {len : Nat} {tx : Nat → Nat} : (zX.mk S k0 k1 len tx).tx = tx := rfl
abbrev zXF (X : zX) : Prop := (zWF X.S) ∧ (∀ K, X.k0 = some K → zWF K) ∧ (∀ K, X.k1 = some K → zWF K) ∧ (X.len ≤ 40) ∧ (∀ j, j < X.len → X.tx j < 128)
theorem zXF.S {X : zX} (h : zXF X) : zWF X.S := h.1
theorem zXF.k0 {X : zX} (h : zXF X) : ∀ K, X.k0 = some K → zWF K := h.2.1
theorem zXF.k1 {X : zX} (h : zXF X) : ∀ K, X.k1 = some K → zWF K := h.2.2.1
theorem zXF.len {X : zX} (h : zXF X) : X.len ≤ 40 := h.2.2.2.1
theorem zXF.tx {X : zX} (h : zXF X) : ∀ j, j < X.len → X.tx j < 128 := h.2.2.2.2
/-- the class's cells -/
abbrev zIC (X : zX) (M : zMm) : Prop := (zRC 1 X.S M) ∧ (zRF X.S M) ∧ (M 0 6 = if X.k0.isSome then 1 else 0) ∧ (M 0 7 = if X.k1.isSome then 1 else 0) ∧ (∀ K, X.k0 = some K → zRC 16 K M) ∧ (∀ K, X.k1 = some K → zRC 24 K M) ∧ (M 14 0 = nI X.len) ∧ (∀ j, j < X.len → M 15 j = nI (X.tx j))
theorem zIC.S {X : zX} {M : zMm} (h : zIC X M) : zRC 1 X.S M := h.1
theorem zIC.F {X : zX} {M : zMm} (h : zIC X M) : zRF X.S M := h.2.1
theorem zIC.f0 {X : zX} {M : zMm} (h : zIC X M) : M 0 6 = if X.k0.isSome then 1 else 0 := h.2.2.1
theorem zIC.f1 {X : zX} {M : zMm} (h : zIC X M) : M 0 7 = if X.k1.isSome then 1 else 0 := h.2.2.2.1
theorem zIC.k0 {X : zX} {M : zMm} (h : zIC X M) : ∀ K, X.k0 = some K → zRC 16 K M := h.2.2.2.2.1
theorem zIC.k1 {X : zX} {M : zMm} (h : zIC X M) : ∀ K, X.k1 = some K → zRC 24 K M := h.2.2.2.2.2.1
theorem zIC.len {X : zX} {M : zMm} (h : zIC X M) : M 14 0 = nI X.len := h.2.2.2.2.2.2.1
theorem zIC.tx {X : zX} {M : zMm} (h : zIC X M) : ∀ j, j < X.len → M 15 j = nI (X.tx j) := h.2.2.2.2.2.2.2
section
variable {fz : zFz} {L : Nat} {xs : Nat → Int32} {d : Nat} {se : List zSh} {M : zMm} {st : zS} {Q : Option Value → zS → Prop}
/-- a number in a range, or not -/
theorem zrng (x : Int32) {n : Nat} (hn : n < 2 ^ 31) : (∃ c, c < n ∧ x = nI c) ∨ (x < 0 ∨ ¬ x < nI n) ∧ ∀ c, c < n → x ≠ nI c := by
  by_cases g : x.toInt < 0
  · refine Or.inr ⟨Or.inl (Int32.lt_iff_toInt_lt.mpr g), fun c hc e => ?_⟩
    rw [e, nI_toInt (by omega)] at g
    omega
  · by_cases g2 : x < nI n
    · refine Or.inl ⟨x.toInt.toNat, ?_, ?_⟩
      · have := Int32.lt_iff_toInt_lt.mp g2
        rw [nI_toInt hn] at this
        omega
      · rw [← Int32.toInt_inj, nI_toInt]
        · omega
        · have := Int32.lt_iff_toInt_lt.mp g2
          rw [nI_toInt hn] at this
          omega
    · refine Or.inr ⟨Or.inr g2, fun c hc e => ?_⟩
      rw [e] at g2
      exact g2 (nI_lt hc (by omega))
set_option maxHeartbeats 4000000 in
set_option maxRecDepth 100000 in
theorem s_X5_isNoCylinder {x : Int32} {n : Nat} (hn : n ≤ 8) (h0 : M 1 0 = nI n) (h1 : ∀ c, c < n → x = nI c → Q (some (.int 0)) (SG se, M)) (h2 : (∀ c, c < n → x ≠ nI c) → Q (some (.int 1)) (SG se, M)) : zcl fz (d + 1) 35 [.ref 0, .int x] (SG se, M) Q := by
  refine zcl_intro zM_35 (by rw [zmL_len]; decide) (by decide) rfl (Nat.le_of_ble_eq_true rfl) ?_
  refine zx_ok [] 300 ?_; simp only [zx_step, zxd_ok, zxo_1, zxo_2, zxo_3, zxo_4, zxo_5, zone, zstep, zild, zlld, zald, zist, zast, zlst, ziinc, zbin, zun, zbinL, zdup, zdup2, zpop1, ztgt, zbr, zcm, zif0, zif2, ztsw, zlsw, zlen, zgetf, zputf, zgets, zxald, zxast, zlenA, zokI, zokB, zarr, zcallK, zstat, zspec, zcopy, zretI, zretL, zretV, zwide, zisO, znewa, znew, zatp, zinit, zent, zf4_0, zf4_1, zf4_2, zf4_3, true_and, and_true, or_true, true_or, or_false, false_or, and_false, false_and, Classical.not_not, not_false_eq_true, not_true_eq_false, ne_eq, List.not_mem_nil, List.mem_cons, ↓reduceIte, ite_true, ite_false, List.getElem?_cons_zero, List.getElem?_cons_succ, List.set_cons_zero, List.set_cons_succ, List.length_cons, List.length_nil, List.take_succ_cons, List.take_zero, List.drop_succ_cons, List.drop_zero, List.reverse_cons, List.reverse_nil, List.nil_append, List.cons_append, List.append_nil, List.map_cons, List.map_nil, List.sum_cons, List.sum_nil, List.replicate_succ, List.replicate_zero, Value.category, Nat.reduceAdd, Nat.reduceSub, Nat.reduceMul, Nat.reduceLT, Nat.reduceLeDiff, Nat.reduceEqDiff, Nat.reduceBEq, Int.reduceAdd, Int.reduceSub, Int.reduceLE, Int.reduceLT, Int.reduceToNat, Int.reduceNeg, Int.reduceNegSucc, Int.cast_ofNat_Int, forall_const, imp_self, Option.toList_some, Option.toList_none, zrt_i, zrt_l, zrt_v, zrt_b, eq_self, nI_1, zfz_0, zfz_1, zfz_2, zl2_0, SH_0, SH_1, SH_2, SH_3, SH_4, SH_5, SH_6, SH_7, SH_8, SH_9, SH_10, SH_11, SH_12, SH_13, SH_14, SH_15, SH_16, SH_17, SH_18, SH_19, SH_20, SH_21, SH_22, SH_23, SH_24, SH_25, SH_26, SH_27, SH_28, SH_29, SH_30, SH_31, SH_32, SH_33, b8_m101, b8_m100, b8_m8, b8_6, b8_7, b8_8, b8_9, b8_10, b8_12, b8_16, b8_24, b8_30, b8_40, b8_63, b8_64, b8_99, b8_100, b8_101, b8_127, b16_128, b16_200, b16_201, b16_439, b16_999, b16_1000, b16_12000, bi_m1, bi_0, bi_1, bi_2, bi_3, bi_4, bi_5, dX5_isNoCylinder_0, dX5_isNoCylinder_1, dX5_isNoCylinder_4, dX5_isNoCylinder_5, dX5_isNoCylinder_6, dX5_isNoCylinder_9, dX5_isNoCylinder_12, dX5_isNoCylinder_15, dX5_isNoCylinder_16, dX5_isNoCylinder_19, dX5_isNoCylinder_20, zF_5_10, zF_5_48]; try simp only [zup_at, zupd_at, bx_uu, Nat.reduceEqDiff, ↓reduceIte]
  rw [h0]
  rcases zrng x (n := n) (by omega) with ⟨c, hc, rfl⟩ | ⟨g, g2⟩
  · have a1 : ¬ nI c < 0 := nI_pos (by omega)
    exact ⟨fun q => absurd q a1, fun _ => ⟨fun _ => h1 c hc rfl, fun q => absurd (nI_lt hc (by omega)) q⟩⟩
  · have := h2 g2
    exact ⟨fun _ => this, fun q => ⟨fun q2 => absurd g (fun w => w.elim q (fun w => w q2)), fun _ => this⟩⟩
set_option maxHeartbeats 4000000 in
set_option maxRecDepth 100000 in
theorem s_X5_isNoTurn {x : Int32} (h1 : ∀ c, c < 12 → x = nI c → Q (some (.int 0)) (SG se, M)) (h2 : (∀ c, c < 12 → x ≠ nI c) → Q (some (.int 1)) (SG se, M)) : zcl fz (d + 1) 36 [.int x] (SG se, M) Q := by
  refine zcl_intro zM_36 (by rw [zmL_len]; decide) (by decide) rfl (Nat.le_of_ble_eq_true rfl) ?_
  refine zx_ok [] 300 ?_; simp only [zx_step, zxd_ok, zxo_1, zxo_2, zxo_3, zxo_4, zxo_5, zone, zstep, zild, zlld, zald, zist, zast, zlst, ziinc, zbin, zun, zbinL, zdup, zdup2, zpop1, ztgt, zbr, zcm, zif0, zif2, ztsw, zlsw, zlen, zgetf, zputf, zgets, zxald, zxast, zlenA, zokI, zokB, zarr, zcallK, zstat, zspec, zcopy, zretI, zretL, zretV, zwide, zisO, znewa, znew, zatp, zinit, zent, zf4_0, zf4_1, zf4_2, zf4_3, true_and, and_true, or_true, true_or, or_false, false_or, and_false, false_and, Classical.not_not, not_false_eq_true, not_true_eq_false, ne_eq, List.not_mem_nil, List.mem_cons, ↓reduceIte, ite_true, ite_false, List.getElem?_cons_zero, List.getElem?_cons_succ, List.set_cons_zero, List.set_cons_succ, List.length_cons, List.length_nil, List.take_succ_cons, List.take_zero, List.drop_succ_cons, List.drop_zero, List.reverse_cons, List.reverse_nil, List.nil_append, List.cons_append, List.append_nil, List.map_cons, List.map_nil, List.sum_cons, List.sum_nil, List.replicate_succ, List.replicate_zero, Value.category, Nat.reduceAdd, Nat.reduceSub, Nat.reduceMul, Nat.reduceLT, Nat.reduceLeDiff, Nat.reduceEqDiff, Nat.reduceBEq, Int.reduceAdd, Int.reduceSub, Int.reduceLE, Int.reduceLT, Int.reduceToNat, Int.reduceNeg, Int.reduceNegSucc, Int.cast_ofNat_Int, forall_const, imp_self, Option.toList_some, Option.toList_none, zrt_i, zrt_l, zrt_v, zrt_b, eq_self, nI_1, zfz_0, zfz_1, zfz_2, zl2_0, SH_0, SH_1, SH_2, SH_3, SH_4, SH_5, SH_6, SH_7, SH_8, SH_9, SH_10, SH_11, SH_12, SH_13, SH_14, SH_15, SH_16, SH_17, SH_18, SH_19, SH_20, SH_21, SH_22, SH_23, SH_24, SH_25, SH_26, SH_27, SH_28, SH_29, SH_30, SH_31, SH_32, SH_33, b8_m101, b8_m100, b8_m8, b8_6, b8_7, b8_8, b8_9, b8_10, b8_12, b8_16, b8_24, b8_30, b8_40, b8_63, b8_64, b8_99, b8_100, b8_101, b8_127, b16_128, b16_200, b16_201, b16_439, b16_999, b16_1000, b16_12000, bi_m1, bi_0, bi_1, bi_2, bi_3, bi_4, bi_5, dX5_isNoTurn_0, dX5_isNoTurn_1, dX5_isNoTurn_4, dX5_isNoTurn_5, dX5_isNoTurn_7, dX5_isNoTurn_10, dX5_isNoTurn_11, dX5_isNoTurn_14, dX5_isNoTurn_15]; try simp only [zup_at, zupd_at, bx_uu, Nat.reduceEqDiff, ↓reduceIte]
  rcases zrng x (n := 12) (by omega) with ⟨c, hc, rfl⟩ | ⟨g, g2⟩
  · have a1 : ¬ nI c < 0 := nI_pos (by omega)
    exact ⟨fun q => absurd q a1, fun _ => ⟨fun _ => h1 c hc rfl, fun q => absurd (nI_lt hc (by omega)) q⟩⟩
  · have := h2 g2
    exact ⟨fun _ => this, fun q => ⟨fun q2 => absurd g (fun w => w.elim q (fun w => w q2)), fun _ => this⟩⟩
set_option maxHeartbeats 4000000 in
set_option maxRecDepth 100000 in
theorem s_X5_isNoPlace {x : Int32} (h1 : -100 ≤ x.toInt ∧ x.toInt ≤ 100 → Q (some (.int 0)) (SG se, M)) (h2 : ¬ (-100 ≤ x.toInt ∧ x.toInt ≤ 100) → Q (some (.int 1)) (SG se, M)) : zcl fz (d + 1) 39 [.int x] (SG se, M) Q := by
  refine zcl_intro zM_39 (by rw [zmL_len]; decide) (by decide) rfl (Nat.le_of_ble_eq_true rfl) ?_
  refine zx_ok [] 300 ?_; simp only [zx_step, zxd_ok, zxo_1, zxo_2, zxo_3, zxo_4, zxo_5, zone, zstep, zild, zlld, zald, zist, zast, zlst, ziinc, zbin, zun, zbinL, zdup, zdup2, zpop1, ztgt, zbr, zcm, zif0, zif2, ztsw, zlsw, zlen, zgetf, zputf, zgets, zxald, zxast, zlenA, zokI, zokB, zarr, zcallK, zstat, zspec, zcopy, zretI, zretL, zretV, zwide, zisO, znewa, znew, zatp, zinit, zent, zf4_0, zf4_1, zf4_2, zf4_3, true_and, and_true, or_true, true_or, or_false, false_or, and_false, false_and, Classical.not_not, not_false_eq_true, not_true_eq_false, ne_eq, List.not_mem_nil, List.mem_cons, ↓reduceIte, ite_true, ite_false, List.getElem?_cons_zero, List.getElem?_cons_succ, List.set_cons_zero, List.set_cons_succ, List.length_cons, List.length_nil, List.take_succ_cons, List.take_zero, List.drop_succ_cons, List.drop_zero, List.reverse_cons, List.reverse_nil, List.nil_append, List.cons_append, List.append_nil, List.map_cons, List.map_nil, List.sum_cons, List.sum_nil, List.replicate_succ, List.replicate_zero, Value.category, Nat.reduceAdd, Nat.reduceSub, Nat.reduceMul, Nat.reduceLT, Nat.reduceLeDiff, Nat.reduceEqDiff, Nat.reduceBEq, Int.reduceAdd, Int.reduceSub, Int.reduceLE, Int.reduceLT, Int.reduceToNat, Int.reduceNeg, Int.reduceNegSucc, Int.cast_ofNat_Int, forall_const, imp_self, Option.toList_some, Option.toList_none, zrt_i, zrt_l, zrt_v, zrt_b, eq_self, nI_1, zfz_0, zfz_1, zfz_2, zl2_0, SH_0, SH_1, SH_2, SH_3, SH_4, SH_5, SH_6, SH_7, SH_8, SH_9, SH_10, SH_11, SH_12, SH_13, SH_14, SH_15, SH_16, SH_17, SH_18, SH_19, SH_20, SH_21, SH_22, SH_23, SH_24, SH_25, SH_26, SH_27, SH_28, SH_29, SH_30, SH_31, SH_32, SH_33, b8_m101, b8_m100, b8_m8, b8_6, b8_7, b8_8, b8_9, b8_10, b8_12, b8_16, b8_24, b8_30, b8_40, b8_63, b8_64, b8_99, b8_100, b8_101, b8_127, b16_128, b16_200, b16_201, b16_439, b16_999, b16_1000, b16_12000, bi_m1, bi_0, bi_1, bi_2, bi_3, bi_4, bi_5, dX5_isNoPlace_0, dX5_isNoPlace_1, dX5_isNoPlace_3, dX5_isNoPlace_6, dX5_isNoPlace_7, dX5_isNoPlace_9, dX5_isNoPlace_12, dX5_isNoPlace_13, dX5_isNoPlace_16, dX5_isNoPlace_17]; try simp only [zup_at, zupd_at, bx_uu, Nat.reduceEqDiff, ↓reduceIte]
  have e1 : (x < -100) = (x.toInt < -100) := propext Int32.lt_iff_toInt_lt
  have e2 : (x ≤ 100) = (x.toInt ≤ 100) := propext Int32.le_iff_toInt_le
  rw [e1, e2]
  exact ⟨fun q => h2 (by omega), fun q => ⟨fun q2 => h1 (by omega), fun q2 => h2 (by omega)⟩⟩
set_option maxHeartbeats 4000000 in
set_option maxRecDepth 100000 in
theorem s_X5_isChosen {S : zSt} (hS : zWF S) (h0 : M 1 6 = zcI S.ch) (h1 : ∀ o, S.ch = some o → Q (some (.int 1)) (SG se, M)) (h2 : S.ch = none → Q (some (.int 0)) (SG se, M)) : zcl fz (d + 1) 23 [.ref 0] (SG se, M) Q := by
  refine zcl_intro zM_23 (by rw [zmL_len]; decide) (by decide) rfl (Nat.le_of_ble_eq_true rfl) ?_
  refine zx_ok [] 300 ?_; simp only [zx_step, zxd_ok, zxo_1, zxo_2, zxo_3, zxo_4, zxo_5, zone, zstep, zild, zlld, zald, zist, zast, zlst, ziinc, zbin, zun, zbinL, zdup, zdup2, zpop1, ztgt, zbr, zcm, zif0, zif2, ztsw, zlsw, zlen, zgetf, zputf, zgets, zxald, zxast, zlenA, zokI, zokB, zarr, zcallK, zstat, zspec, zcopy, zretI, zretL, zretV, zwide, zisO, znewa, znew, zatp, zinit, zent, zf4_0, zf4_1, zf4_2, zf4_3, true_and, and_true, or_true, true_or, or_false, false_or, and_false, false_and, Classical.not_not, not_false_eq_true, not_true_eq_false, ne_eq, List.not_mem_nil, List.mem_cons, ↓reduceIte, ite_true, ite_false, List.getElem?_cons_zero, List.getElem?_cons_succ, List.set_cons_zero, List.set_cons_succ, List.length_cons, List.length_nil, List.take_succ_cons, List.take_zero, List.drop_succ_cons, List.drop_zero, List.reverse_cons, List.reverse_nil, List.nil_append, List.cons_append, List.append_nil, List.map_cons, List.map_nil, List.sum_cons, List.sum_nil, List.replicate_succ, List.replicate_zero, Value.category, Nat.reduceAdd, Nat.reduceSub, Nat.reduceMul, Nat.reduceLT, Nat.reduceLeDiff, Nat.reduceEqDiff, Nat.reduceBEq, Int.reduceAdd, Int.reduceSub, Int.reduceLE, Int.reduceLT, Int.reduceToNat, Int.reduceNeg, Int.reduceNegSucc, Int.cast_ofNat_Int, forall_const, imp_self, Option.toList_some, Option.toList_none, zrt_i, zrt_l, zrt_v, zrt_b, eq_self, nI_1, zfz_0, zfz_1, zfz_2, zl2_0, SH_0, SH_1, SH_2, SH_3, SH_4, SH_5, SH_6, SH_7, SH_8, SH_9, SH_10, SH_11, SH_12, SH_13, SH_14, SH_15, SH_16, SH_17, SH_18, SH_19, SH_20, SH_21, SH_22, SH_23, SH_24, SH_25, SH_26, SH_27, SH_28, SH_29, SH_30, SH_31, SH_32, SH_33, b8_m101, b8_m100, b8_m8, b8_6, b8_7, b8_8, b8_9, b8_10, b8_12, b8_16, b8_24, b8_30, b8_40, b8_63, b8_64, b8_99, b8_100, b8_101, b8_127, b16_128, b16_200, b16_201, b16_439, b16_999, b16_1000, b16_12000, bi_m1, bi_0, bi_1, bi_2, bi_3, bi_4, bi_5, dX5_isChosen_0, dX5_isChosen_1, dX5_isChosen_4, dX5_isChosen_7, dX5_isChosen_8, dX5_isChosen_11, dX5_isChosen_12, dX5_isChosen_15, dX5_isChosen_16, zF_5_10, zF_5_111]; try simp only [zup_at, zupd_at, bx_uu, Nat.reduceEqDiff, ↓reduceIte]
  rw [h0]
  cases hc : S.ch with
  | none => exact ⟨fun _ => h2 hc, fun g => absurd rfl g⟩
  | some o =>
    have := hS.cho o hc
    have := zod_8 S
    refine ⟨fun g => ?_, fun _ => h1 o hc⟩
    exact absurd g (zcI_some (by omega))
set_option maxHeartbeats 4000000 in
set_option maxRecDepth 100000 in
theorem s_X5_isNoOrder {x : Int32} {n : Nat} (hn : n ≤ 8) (h0 : M 9 0 = nI n) (h1 : ∀ c, c < n → x = nI c → Q (some (.int 0)) (SG se, M)) (h2 : (∀ c, c < n → x ≠ nI c) → Q (some (.int 1)) (SG se, M)) : zcl fz (d + 1) 58 [.ref 0, .int x] (SG se, M) Q := by
  refine zcl_intro zM_58 (by rw [zmL_len]; decide) (by decide) rfl (Nat.le_of_ble_eq_true rfl) ?_
  refine zx_ok [] 300 ?_; simp only [zx_step, zxd_ok, zxo_1, zxo_2, zxo_3, zxo_4, zxo_5, zone, zstep, zild, zlld, zald, zist, zast, zlst, ziinc, zbin, zun, zbinL, zdup, zdup2, zpop1, ztgt, zbr, zcm, zif0, zif2, ztsw, zlsw, zlen, zgetf, zputf, zgets, zxald, zxast, zlenA, zokI, zokB, zarr, zcallK, zstat, zspec, zcopy, zretI, zretL, zretV, zwide, zisO, znewa, znew, zatp, zinit, zent, zf4_0, zf4_1, zf4_2, zf4_3, true_and, and_true, or_true, true_or, or_false, false_or, and_false, false_and, Classical.not_not, not_false_eq_true, not_true_eq_false, ne_eq, List.not_mem_nil, List.mem_cons, ↓reduceIte, ite_true, ite_false, List.getElem?_cons_zero, List.getElem?_cons_succ, List.set_cons_zero, List.set_cons_succ, List.length_cons, List.length_nil, List.take_succ_cons, List.take_zero, List.drop_succ_cons, List.drop_zero, List.reverse_cons, List.reverse_nil, List.nil_append, List.cons_append, List.append_nil, List.map_cons, List.map_nil, List.sum_cons, List.sum_nil, List.replicate_succ, List.replicate_zero, Value.category, Nat.reduceAdd, Nat.reduceSub, Nat.reduceMul, Nat.reduceLT, Nat.reduceLeDiff, Nat.reduceEqDiff, Nat.reduceBEq, Int.reduceAdd, Int.reduceSub, Int.reduceLE, Int.reduceLT, Int.reduceToNat, Int.reduceNeg, Int.reduceNegSucc, Int.cast_ofNat_Int, forall_const, imp_self, Option.toList_some, Option.toList_none, zrt_i, zrt_l, zrt_v, zrt_b, eq_self, nI_1, zfz_0, zfz_1, zfz_2, zl2_0, SH_0, SH_1, SH_2, SH_3, SH_4, SH_5, SH_6, SH_7, SH_8, SH_9, SH_10, SH_11, SH_12, SH_13, SH_14, SH_15, SH_16, SH_17, SH_18, SH_19, SH_20, SH_21, SH_22, SH_23, SH_24, SH_25, SH_26, SH_27, SH_28, SH_29, SH_30, SH_31, SH_32, SH_33, b8_m101, b8_m100, b8_m8, b8_6, b8_7, b8_8, b8_9, b8_10, b8_12, b8_16, b8_24, b8_30, b8_40, b8_63, b8_64, b8_99, b8_100, b8_101, b8_127, b16_128, b16_200, b16_201, b16_439, b16_999, b16_1000, b16_12000, bi_m1, bi_0, bi_1, bi_2, bi_3, bi_4, bi_5, dX5_isNoOrder_0, dX5_isNoOrder_1, dX5_isNoOrder_4, dX5_isNoOrder_5, dX5_isNoOrder_6, dX5_isNoOrder_9, dX5_isNoOrder_12, dX5_isNoOrder_15, dX5_isNoOrder_16, dX5_isNoOrder_19, dX5_isNoOrder_20, zF_5_19, zF_5_136]; try simp only [zup_at, zupd_at, bx_uu, Nat.reduceEqDiff, ↓reduceIte]
  rw [h0]
  rcases zrng x (n := n) (by omega) with ⟨c, hc, rfl⟩ | ⟨g, g2⟩
  · have a1 : ¬ nI c < 0 := nI_pos (by omega)
    exact ⟨fun q => absurd q a1, fun _ => ⟨fun _ => h1 c hc rfl, fun q => absurd (nI_lt hc (by omega)) q⟩⟩
  · have := h2 g2
    exact ⟨fun _ => this, fun q => ⟨fun q2 => absurd g (fun w => w.elim q (fun w => w q2)), fun _ => this⟩⟩
set_option maxHeartbeats 4000000 in
set_option maxRecDepth 100000 in
theorem s_X5_isNoBearing {x : Int32} {n : Nat} (hn : n ≤ 8) (h0 : M 1 0 = nI n) (h1 : ∀ c, c < n + 1 → x = nI c → Q (some (.int 0)) (SG se, M)) (h2 : (∀ c, c < n + 1 → x ≠ nI c) → Q (some (.int 1)) (SG se, M)) : zcl fz (d + 1) 81 [.ref 0, .int x] (SG se, M) Q := by
  refine zcl_intro zM_81 (by rw [zmL_len]; decide) (by decide) rfl (Nat.le_of_ble_eq_true rfl) ?_
  refine zx_ok [] 300 ?_; simp only [zx_step, zxd_ok, zxo_1, zxo_2, zxo_3, zxo_4, zxo_5, zone, zstep, zild, zlld, zald, zist, zast, zlst, ziinc, zbin, zun, zbinL, zdup, zdup2, zpop1, ztgt, zbr, zcm, zif0, zif2, ztsw, zlsw, zlen, zgetf, zputf, zgets, zxald, zxast, zlenA, zokI, zokB, zarr, zcallK, zstat, zspec, zcopy, zretI, zretL, zretV, zwide, zisO, znewa, znew, zatp, zinit, zent, zf4_0, zf4_1, zf4_2, zf4_3, true_and, and_true, or_true, true_or, or_false, false_or, and_false, false_and, Classical.not_not, not_false_eq_true, not_true_eq_false, ne_eq, List.not_mem_nil, List.mem_cons, ↓reduceIte, ite_true, ite_false, List.getElem?_cons_zero, List.getElem?_cons_succ, List.set_cons_zero, List.set_cons_succ, List.length_cons, List.length_nil, List.take_succ_cons, List.take_zero, List.drop_succ_cons, List.drop_zero, List.reverse_cons, List.reverse_nil, List.nil_append, List.cons_append, List.append_nil, List.map_cons, List.map_nil, List.sum_cons, List.sum_nil, List.replicate_succ, List.replicate_zero, Value.category, Nat.reduceAdd, Nat.reduceSub, Nat.reduceMul, Nat.reduceLT, Nat.reduceLeDiff, Nat.reduceEqDiff, Nat.reduceBEq, Int.reduceAdd, Int.reduceSub, Int.reduceLE, Int.reduceLT, Int.reduceToNat, Int.reduceNeg, Int.reduceNegSucc, Int.cast_ofNat_Int, forall_const, imp_self, Option.toList_some, Option.toList_none, zrt_i, zrt_l, zrt_v, zrt_b, eq_self, nI_1, zfz_0, zfz_1, zfz_2, zl2_0, SH_0, SH_1, SH_2, SH_3, SH_4, SH_5, SH_6, SH_7, SH_8, SH_9, SH_10, SH_11, SH_12, SH_13, SH_14, SH_15, SH_16, SH_17, SH_18, SH_19, SH_20, SH_21, SH_22, SH_23, SH_24, SH_25, SH_26, SH_27, SH_28, SH_29, SH_30, SH_31, SH_32, SH_33, b8_m101, b8_m100, b8_m8, b8_6, b8_7, b8_8, b8_9, b8_10, b8_12, b8_16, b8_24, b8_30, b8_40, b8_63, b8_64, b8_99, b8_100, b8_101, b8_127, b16_128, b16_200, b16_201, b16_439, b16_999, b16_1000, b16_12000, bi_m1, bi_0, bi_1, bi_2, bi_3, bi_4, bi_5, dX5_isNoBearing_0, dX5_isNoBearing_1, dX5_isNoBearing_4, dX5_isNoBearing_5, dX5_isNoBearing_6, dX5_isNoBearing_9, dX5_isNoBearing_12, dX5_isNoBearing_15, dX5_isNoBearing_16, dX5_isNoBearing_19, dX5_isNoBearing_20, zF_5_10, zF_5_48]; try simp only [zup_at, zupd_at, bx_uu, Nat.reduceEqDiff, ↓reduceIte]
  rw [h0]
  rcases zrng x (n := n + 1) (by omega) with ⟨c, hc, rfl⟩ | ⟨g, g2⟩
  · have a1 : ¬ nI c < 0 := nI_pos (by omega)
    exact ⟨fun q => absurd q a1, fun _ => ⟨fun _ => h1 c hc rfl, fun q => absurd (nI_le (by omega) (by omega)) q⟩⟩
  · have := h2 g2
    have e : nI n + 1 = nI (n + 1) := nI_add n 1
    refine ⟨fun _ => this, fun q => ⟨fun q2 => ?_, fun _ => this⟩⟩
    refine absurd g (fun w => w.elim q (fun w => w ?_))
    rw [Int32.lt_iff_toInt_lt, nI_toInt (by omega)]
    have := Int32.le_iff_toInt_le.mp q2
    rw [nI_toInt (by omega)] at this
    omega
end
