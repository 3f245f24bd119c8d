/-! ===== the states that can be are kept ===== -/
theorem zXF_S {X : zX} {S : zSt} (h : zXF X) (hS : zWF S) : zXF (X.wS S) := ⟨hS, h.k0, h.k1, h.len, h.tx⟩
theorem zpow1 (n : Nat) : 2 ^ n - 1 < 2 ^ n := by
  have := Nat.pow_pos (a := 2) (n := n) (by decide)
  omega
theorem zWF_cyl {S : zSt} {n : Nat} (h : zWF S) (h1 : 1 ≤ n) (h8 : n ≤ 8) : zWF (S.cyl n) := by
  refine ⟨h1, h8, h.s24, fun c hc => by show 0 < 12; omega, fun c hc => by show 10 < 100; omega, fun c hc => ?_, h.w8, h.wq, h.wt12, h.wmr, h.wso, fun o ho => (by cases ho), zpow1 n⟩
  show -100 ≤ (nI (10 * c)).toInt ∧ (nI (10 * c)).toInt ≤ 100
  rw [nI_toInt (by omega)]
  omega
theorem zWF_str {S : zSt} {k : Nat} (h : zWF S) (hk : k = 2 ∨ k = 4) : zWF (S.str k) := ⟨h.n1, h.n8, hk, h.t12, h.m99, h.p1, h.w8, h.wq, h.wt12, h.wmr, h.wso, fun o ho => (by cases ho), zpow1 S.n⟩
theorem zWF_thr {S : zSt} {c t : Nat} (h : zWF S) (ht : t < 12) : zWF (S.thr c t) := by
  refine ⟨h.n1, h.n8, h.s24, fun j hj => ?_, h.m99, h.p1, h.w8, h.wq, h.wt12, h.wmr, h.wso, fun o ho => (by cases ho), zpow1 S.n⟩
  show znu S.t c t j < 12
  unfold znu
  split
  · exact ht
  · exact h.t12 j hj
theorem zWF_mas {S : zSt} {c m : Nat} (h : zWF S) (hm : m < 100) : zWF (S.mas c m) := by
  refine ⟨h.n1, h.n8, h.s24, h.t12, fun j hj => ?_, h.p1, h.w8, h.wq, h.wt12, h.wmr, h.wso, h.cho, h.on8⟩
  show znu S.ms c m j < 100
  unfold znu
  split
  · exact hm
  · exact h.m99 j hj
theorem zWF_pla {S : zSt} {c : Nat} {p : Int32} (h : zWF S) (hp : -100 ≤ p.toInt ∧ p.toInt ≤ 100) : zWF (S.pla c p) := by
  refine ⟨h.n1, h.n8, h.s24, h.t12, h.m99, fun j hj => ?_, h.w8, h.wq, h.wt12, h.wmr, h.wso, h.cho, h.on8⟩
  show -100 ≤ (znu S.pl c p j).toInt ∧ (znu S.pl c p j).toInt ≤ 100
  unfold znu
  split
  · exact hp
  · exact h.p1 j hj
theorem zWF_cho1 {S : zSt} {o : Nat} (h : zWF S) (ho : o < S.od.length) : zWF (S.cho1 o) := ⟨h.n1, h.n8, h.s24, h.t12, h.m99, h.p1, h.w8, h.wq, h.wt12, h.wmr, h.wso, fun o2 e => (by cases e; exact ho), h.on8⟩
theorem zWF_on1 {S : zSt} {om : Nat} (h : zWF S) (ho : om < 2 ^ S.n) : zWF (S.on1 om) := ⟨h.n1, h.n8, h.s24, h.t12, h.m99, h.p1, h.w8, h.wq, h.wt12, h.wmr, h.wso, h.cho, ho⟩
theorem zWF_wgt {S : zSt} {p : Int32} {t m : Nat} (h : zWF S) (hp : -100 ≤ p.toInt ∧ p.toInt ≤ 100) (ht : t < 12) (hm : m < 1000) : zWF (S.wgt p t m) := by
  have w8 := h.w8
  have hle := zwrk_le S p t
  obtain ⟨a1, a2⟩ := zrkn_at (f := fun k => 12 * (S.wp k).toInt + S.wt k) (K := 12 * p.toInt + t) (k := S.wk) h.wso
  have hr : zrkn (fun k => 12 * (S.wp k).toInt + S.wt k) (12 * p.toInt + t) S.wk = S.wrk p t := rfl
  rw [hr] at a1 a2
  have hwq := h.wq
  have hwt := h.wt12
  have hwm := h.wmr
  have hwo := h.wso
  have hst : S.wst p t = true ↔ (S.wrk p t < S.wk ∧ S.wp (S.wrk p t) = p ∧ S.wt (S.wrk p t) = t) := by
    unfold zSt.wst
    rw [decide_eq_true_iff]
  unfold zSt.wgt
  split
  · split
    · next g =>
      obtain ⟨g1, g2, g3⟩ := hst.mp g
      refine ⟨h.n1, h.n8, h.s24, h.t12, h.m99, h.p1, ?_, fun k hk => ?_, fun k hk => ?_, fun k hk => ?_, fun i j hij hj => ?_, h.cho, h.on8⟩
      · show S.wk - 1 ≤ 8
        omega
      · have hk : k < S.wk - 1 := hk
        show -100 ≤ (zdnG S.wp (S.wrk p t) (S.wk - 1) k).toInt ∧ (zdnG S.wp (S.wrk p t) (S.wk - 1) k).toInt ≤ 100
        unfold zdnG
        split
        · exact hwq _ (by omega)
        · exact hwq _ (by omega)
      · have hk : k < S.wk - 1 := hk
        show zdnG S.wt (S.wrk p t) (S.wk - 1) k < 12
        unfold zdnG
        split
        · exact hwt _ (by omega)
        · exact hwt _ (by omega)
      · have hk : k < S.wk - 1 := hk
        show 1 ≤ zdnG S.wm (S.wrk p t) (S.wk - 1) k ∧ zdnG S.wm (S.wrk p t) (S.wk - 1) k < 1000
        unfold zdnG
        split
        · exact hwm _ (by omega)
        · exact hwm _ (by omega)
      · have hj : j < S.wk - 1 := hj
        show 12 * (zdnG S.wp (S.wrk p t) (S.wk - 1) i).toInt + (zdnG S.wt (S.wrk p t) (S.wk - 1) i : Nat) < 12 * (zdnG S.wp (S.wrk p t) (S.wk - 1) j).toInt + (zdnG S.wt (S.wrk p t) (S.wk - 1) j : Nat)
        unfold zdnG
        by_cases q1 : S.wrk p t ≤ i
        · rw [if_pos (by omega), if_pos (by omega), if_pos (by omega), if_pos (by omega)]
          exact hwo _ _ (by omega) (by omega)
        · rw [if_neg (by omega), if_neg (by omega)]
          by_cases q2 : S.wrk p t ≤ j
          · rw [if_pos (by omega), if_pos (by omega)]
            exact hwo _ _ (by omega) (by omega)
          · rw [if_neg (by omega), if_neg (by omega)]
            exact hwo _ _ (by omega) (by omega)
    · exact h
  · next gm =>
    split
    · refine ⟨h.n1, h.n8, h.s24, h.t12, h.m99, h.p1, h.w8, h.wq, h.wt12, fun k hk => ?_, h.wso, h.cho, h.on8⟩
      show 1 ≤ znu S.wm (S.wrk p t) m k ∧ znu S.wm (S.wrk p t) m k < 1000
      unfold znu
      split
      · omega
      · exact h.wmr k hk
    · next g =>
      split
      · exact h
      · next g8 =>
        have hK : S.wrk p t < S.wk → 12 * p.toInt + (t : Int) < 12 * (S.wp (S.wrk p t)).toInt + S.wt (S.wrk p t) := fun q => by
          have b := a2 _ (Nat.le_refl _) q
          have c := hwt _ q
          have d := hwq _ q
          have ne : ¬ 12 * p.toInt + (t : Int) = 12 * (S.wp (S.wrk p t)).toInt + S.wt (S.wrk p t) := fun e => by
            refine g (hst.mpr ⟨q, ?_, ?_⟩)
            · rw [← Int32.toInt_inj]
              omega
            · omega
          omega
        have hup : ∀ k, S.wrk p t ≤ k → k < S.wk → 12 * p.toInt + (t : Int) < 12 * (S.wp k).toInt + S.wt k := fun k k1 k2 => by
          have b := hK (by omega)
          rcases Nat.lt_or_ge (S.wrk p t) k with q | q
          · have := hwo _ _ q k2
            omega
          · rw [show k = S.wrk p t by omega]
            exact b
        refine ⟨h.n1, h.n8, h.s24, h.t12, h.m99, h.p1, ?_, fun k hk => ?_, fun k hk => ?_, fun k hk => ?_, fun i j hij hj => ?_, h.cho, h.on8⟩
        · show S.wk + 1 ≤ 8
          omega
        · have hk : k < S.wk + 1 := hk
          show -100 ≤ (zinG S.wp (S.wrk p t) p S.wk k).toInt ∧ (zinG S.wp (S.wrk p t) p S.wk k).toInt ≤ 100
          unfold zinG
          split
          · exact hp
          · split
            · exact hwq _ (by omega)
            · exact hwq _ (by omega)
        · have hk : k < S.wk + 1 := hk
          show zinG S.wt (S.wrk p t) t S.wk k < 12
          unfold zinG
          split
          · exact ht
          · split
            · exact hwt _ (by omega)
            · exact hwt _ (by omega)
        · have hk : k < S.wk + 1 := hk
          show 1 ≤ zinG S.wm (S.wrk p t) m S.wk k ∧ zinG S.wm (S.wrk p t) m S.wk k < 1000
          unfold zinG
          split
          · omega
          · split
            · exact hwm _ (by omega)
            · exact hwm _ (by omega)
        · have hj : j < S.wk + 1 := hj
          show 12 * (zinG S.wp (S.wrk p t) p S.wk i).toInt + (zinG S.wt (S.wrk p t) t S.wk i : Nat) < 12 * (zinG S.wp (S.wrk p t) p S.wk j).toInt + (zinG S.wt (S.wrk p t) t S.wk j : Nat)
          unfold zinG
          by_cases i1 : i = S.wrk p t
          · have j1 : ¬ j = S.wrk p t := by omega
            rw [if_pos i1, if_pos i1, if_neg j1, if_neg j1, if_pos (by omega), if_pos (by omega)]
            exact hup _ (by omega) (by omega)
          · rw [if_neg i1, if_neg i1]
            by_cases j1 : j = S.wrk p t
            · rw [if_pos j1, if_pos j1, if_neg (by omega), if_neg (by omega)]
              exact a1 i (by omega)
            · rw [if_neg j1, if_neg j1]
              by_cases i2 : S.wrk p t < i
              · rw [if_pos (by omega), if_pos (by omega), if_pos (by omega), if_pos (by omega)]
                exact hwo _ _ (by omega) (by omega)
              · rw [if_neg (by omega), if_neg (by omega)]
                by_cases j2 : S.wrk p t < j
                · rw [if_pos (by omega), if_pos (by omega)]
                  rcases Nat.lt_or_ge i (j - 1) with q | q
                  · exact hwo _ _ q (by omega)
                  · omega
                · rw [if_neg (by omega), if_neg (by omega)]
                  exact hwo _ _ hij (by omega)
theorem zXF_sv0 {X : zX} (h : zXF X) : zXF X.sv0 := ⟨h.S, fun K e => (by cases e; exact h.S), h.k1, h.len, h.tx⟩
theorem zXF_sv1 {X : zX} (h : zXF X) : zXF X.sv1 := ⟨h.S, h.k0, fun K e => (by cases e; exact h.S), h.len, h.tx⟩
theorem zXF_app {X : zX} {a : Nat} (h : zXF X) (hl : X.len < 40) (ha : a < 128) : zXF (X.wT (X.len + 1) (znu X.tx X.len a)) := by
  refine ⟨h.S, h.k0, h.k1, hl, fun j hj => ?_⟩
  have hj : j < X.len + 1 := hj
  show znu X.tx X.len a j < 128
  unfold znu
  split
  · exact ha
  · exact h.tx j (by omega)
/-- the model leaves the class's cells, the class the model's -/
theorem zIC_fr {X : zX} {M M' : zMm} (b : ∀ c, c < 32 → M' c = M c) (h : zIC X M) : zIC X M' := by
  refine ⟨zRC_frame (fun c h1 h2 => b c (by omega)) h.S, zRF_frame (b 9 (by decide)) (b 11 (by decide)) (b 12 (by decide)) h.F, ?_, ?_, fun K hK => ?_, fun K hK => ?_, ?_, fun j hj => ?_⟩
  · rw [b 0 (by decide)]; exact h.f0
  · rw [b 0 (by decide)]; exact h.f1
  · exact zRC_frame (fun c h1 h2 => b c (by omega)) (h.k0 K hK)
  · exact zRC_frame (fun c h1 h2 => b c (by omega)) (h.k1 K hK)
  · rw [b 14 (by decide)]; exact h.len
  · rw [b 15 (by decide)]; exact h.tx j hj