/-! ===== the orders: what the search finds ===== -/
def zCC (n sp : Nat) (t : Nat → Nat) (k us x : Nat) : Prop := ∀ j, k ≤ j → j < n → (1 ≤ zdg n x j ∧ zdg n x j < n ∧ us.testBit (zdg n x j) = false ∧ zlo (t (zdg n x j)) = zdue sp t j ∧ ∀ i, k ≤ i → i < j → zdg n x i ≠ zdg n x j)
theorem zbit_or {us c e : Nat} : (us ||| 2 ^ c).testBit e = false ↔ us.testBit e = false ∧ e ≠ c := by
  rw [Nat.testBit_or, Nat.testBit_two_pow, Bool.or_eq_false_iff, decide_eq_false_iff_not]
  exact ⟨fun h => ⟨h.1, fun q => h.2 q.symm⟩, fun h => ⟨h.1, fun q => h.2 q.symm⟩⟩
theorem zmem_dfs {n sp : Nat} {t : Nat → Nat} (hn : n ≤ 8) : ∀ (r k pre us x : Nat), k + r = n → 1 ≤ k → (x ∈ zdfs n sp t r k pre us ↔ x / 8 ^ r = pre ∧ zCC n sp t k us x)
  | 0, k, pre, us, x, hk, hk1 => by
    rw [zdfs_z, List.mem_singleton, Nat.pow_zero, Nat.div_one]
    exact ⟨fun h => ⟨h, fun j h1 h2 => by omega⟩, fun h => h.1⟩
  | r + 1, k, pre, us, x, hk, hk1 => by
    rw [zdfs_s, zprt, List.mem_flatMap]
    have ek : zdg n x k = x / 8 ^ r % 8 := by
      rw [zdg, show n - 1 - k = r by omega]
    have e8 : x / 8 ^ (r + 1) = x / 8 ^ r / 8 := by
      rw [Nat.pow_succ, Nat.div_div_eq_div_mul]
    refine ⟨fun ⟨c, hc, hx⟩ => ?_, fun ⟨hp, hC⟩ => ?_⟩
    · rw [List.mem_map] at hc
      obtain ⟨c', hc', rfl⟩ := hc
      have hc' := List.mem_range.mp hc'
      by_cases g : us.testBit (c' + 1) = false ∧ zlo (t (c' + 1)) = zdue sp t k
      · rw [if_pos g] at hx
        obtain ⟨h1, h2⟩ := (zmem_dfs hn r (k + 1) _ _ x (by omega) (by omega)).mp hx
        have e1 : zdg n x k = c' + 1 := by omega
        refine ⟨by omega, fun j hj hj2 => ?_⟩
        rcases Nat.lt_or_ge k j with q | q
        · obtain ⟨a1, a2, a3, a4, a5⟩ := h2 j (by omega) hj2
          obtain ⟨b1, b2⟩ := zbit_or.mp a3
          refine ⟨a1, a2, b1, a4, fun i hi hij => ?_⟩
          rcases Nat.lt_or_ge k i with q2 | q2
          · exact a5 i (by omega) hij
          · have ei : i = k := by omega
            rw [ei, e1]
            exact fun w => b2 w.symm
        · have ej : j = k := by omega
          rw [ej, e1]
          exact ⟨by omega, by omega, g.1, g.2, fun i hi hij => by omega⟩
      · rw [if_neg g] at hx
        exact absurd hx (List.not_mem_nil)
    · obtain ⟨a1, a2, a3, a4, a5⟩ := hC k (Nat.le_refl k) (by omega)
      refine ⟨zdg n x k, List.mem_map.mpr ⟨zdg n x k - 1, List.mem_range.mpr (by omega), by omega⟩, ?_⟩
      rw [if_pos ⟨a3, a4⟩]
      refine (zmem_dfs hn r (k + 1) _ _ x (by omega) (by omega)).mpr ⟨by omega, fun j hj hj2 => ?_⟩
      obtain ⟨b1, b2, b3, b4, b5⟩ := hC j (by omega) hj2
      exact ⟨b1, b2, zbit_or.mpr ⟨b3, fun w => b5 k (Nat.le_refl k) (by omega) w.symm⟩, b4, fun i hi hij => b5 i (by omega) hij⟩
theorem zsort_dfs {n sp : Nat} {t : Nat → Nat} (hn : n ≤ 8) : ∀ (r k pre us : Nat), k + r = n → 1 ≤ k → (zdfs n sp t r k pre us).Pairwise (fun a b => a < b)
  | 0, k, pre, us, hk, hk1 => by
    rw [zdfs_z]
    exact List.pairwise_singleton _ _
  | r + 1, k, pre, us, hk, hk1 => by
    rw [zdfs_s, zprt, List.pairwise_flatMap]
    refine ⟨fun c _ => ?_, ?_⟩
    · split
      · exact zsort_dfs hn r (k + 1) _ _ (by omega) (by omega)
      · exact List.Pairwise.nil
    · rw [List.pairwise_map]
      refine List.Pairwise.imp (fun {a b} hab x hx y hy => ?_) List.pairwise_lt_range
      split at hx
      · split at hy
        · have h1 := ((zmem_dfs hn r (k + 1) _ _ x (by omega) (by omega)).mp hx).1
          have h2 := ((zmem_dfs hn r (k + 1) _ _ y (by omega) (by omega)).mp hy).1
          rcases Nat.lt_or_ge x y with q | q
          · exact q
          · have := Nat.div_le_div_right (c := 8 ^ r) q
            omega
        · exact absurd hy List.not_mem_nil
      · exact absurd hx List.not_mem_nil
/-- x is an order: its digits are the cylinders, 0 first, each due -/
abbrev zVO (n sp : Nat) (t : Nat → Nat) (x : Nat) : Prop := (∀ k, k < n → zdg n x k < n) ∧ (∀ i j, i < j → j < n → zdg n x i ≠ zdg n x j) ∧ (zdg n x 0 = 0) ∧ (∀ k, 1 ≤ k → k < n → zlo (t (zdg n x k)) = zdue sp t k) ∧ (x < 8 ^ n)
theorem zVO.lt {n sp : Nat} {t : Nat → Nat} {x : Nat} (h : zVO n sp t x) : ∀ k, k < n → zdg n x k < n := h.1
theorem zVO.inj {n sp : Nat} {t : Nat → Nat} {x : Nat} (h : zVO n sp t x) : ∀ i j, i < j → j < n → zdg n x i ≠ zdg n x j := h.2.1
theorem zVO.d0 {n sp : Nat} {t : Nat → Nat} {x : Nat} (h : zVO n sp t x) : zdg n x 0 = 0 := h.2.2.1
theorem zVO.due {n sp : Nat} {t : Nat → Nat} {x : Nat} (h : zVO n sp t x) : ∀ k, 1 ≤ k → k < n → zlo (t (zdg n x k)) = zdue sp t k := h.2.2.2.1
theorem zVO.big {n sp : Nat} {t : Nat → Nat} {x : Nat} (h : zVO n sp t x) : x < 8 ^ n := h.2.2.2.2
theorem zVO_iff {n sp : Nat} {t : Nat → Nat} {x : Nat} (hn1 : 1 ≤ n) (hn : n ≤ 8) : x ∈ zdfs n sp t (n - 1) 1 0 1 ↔ zVO n sp t x := by
  rw [zmem_dfs hn (n - 1) 1 0 1 x (by omega) (by omega)]
  have e0 : zdg n x 0 = x / 8 ^ (n - 1) % 8 := by rw [zdg, Nat.sub_zero]
  have e8 : 8 ^ n = 8 ^ (n - 1) * 8 := by rw [← Nat.pow_succ]; congr 1; omega
  have hpos : 0 < 8 ^ (n - 1) := Nat.pow_pos (by decide)
  refine ⟨fun ⟨h1, h2⟩ => ?_, fun h => ?_⟩
  · have hd0 : zdg n x 0 = 0 := by rw [e0, h1]
    have hb : x < 8 ^ n := by
      have := (Nat.div_eq_zero_iff).mp h1
      rcases this with q | q
      · omega
      · rw [e8]; omega
    refine ⟨fun k hk => ?_, fun i j hij hj => ?_, hd0, fun k hk1 hk => (h2 k hk1 hk).2.2.2.1, hb⟩
    · rcases Nat.eq_zero_or_pos k with q | q
      · rw [q, hd0]; omega
      · exact (h2 k q hk).2.1
    · rcases Nat.eq_zero_or_pos i with q | q
      · have := (h2 j (by omega) hj).1
        rw [q, hd0]
        omega
      · exact (h2 j (by omega) hj).2.2.2.2 i q hij
  · refine ⟨?_, fun j hj hj2 => ?_⟩
    · have hz := h.d0
      rw [e0] at hz
      have hb := h.big
      rw [e8] at hb
      have h8 : x / 8 ^ (n - 1) < 8 := Nat.div_lt_of_lt_mul hb
      rw [Nat.mod_eq_of_lt h8] at hz
      exact hz
    · have a := h.inj 0 j (by omega) hj2
      rw [h.d0] at a
      refine ⟨by omega, h.lt j hj2, ?_, h.due j hj hj2, fun i hi hij => h.inj i j hij hj2⟩
      rw [show (1 : Nat) = 2 ^ 0 from rfl, Nat.testBit_two_pow, decide_eq_false_iff_not]
      exact a
/-! the slot of a cylinder in an order -/
def zfi (f : Nat → Nat) (c : Nat) : Nat → Nat
  | 0 => 0
  | k + 1 => if f k = c then k else zfi f c k
theorem zfi_at {f : Nat → Nat} {c : Nat} : ∀ {n}, (∃ i, i < n ∧ f i = c) → zfi f c n < n ∧ f (zfi f c n) = c
  | 0, ⟨i, hi, _⟩ => absurd hi (Nat.not_lt_zero i)
  | n + 1, ⟨i, hi, e⟩ => by
    unfold zfi
    by_cases g : f n = c
    · rw [if_pos g]
      exact ⟨by omega, g⟩
    · rw [if_neg g]
      have hi2 : i < n := by
        rcases Nat.lt_or_ge i n with q | q
        · exact q
        · exact absurd (by rw [show n = i by omega]; exact e) g
      obtain ⟨a, b⟩ := zfi_at (n := n) ⟨i, hi2, e⟩
      exact ⟨by omega, b⟩
theorem zVO_idx {n sp : Nat} {t : Nat → Nat} {x c : Nat} (h : zVO n sp t x) (hc : c < n) : zfi (zdg n x) c n < n ∧ zdg n x (zfi (zdg n x) c n) = c := zfi_at (fb_onto h.lt h.inj hc)
/-- the slot of cylinder c in the order x -/
def zsl0 (n cy sp t0 x c : Nat) : Nat := (zlo t0 + zfi (zdg n x) c n * sp) % cy
def zSt.sl (S : zSt) (o c : Nat) : Nat := zsl0 S.n (6 * S.sk) (6 * S.sk / S.n) (S.t 0) (S.od.getD o 0) c
def zSt.sq (S : zSt) (o k : Nat) : Nat := zdg S.n (S.od.getD o 0) k
theorem zod_VO {S : zSt} (hS : zWF S) {o : Nat} (ho : o < S.od.length) : 6 * S.sk % S.n = 0 ∧ zVO S.n (6 * S.sk / S.n) S.t (S.od.getD o 0) := by
  have hm : S.od.getD o 0 ∈ S.od := by
    rw [List.getD_eq_getElem?_getD, List.getElem?_eq_getElem ho]
    exact List.getElem_mem ho
  generalize S.od.getD o 0 = x at hm ⊢
  unfold zSt.od zord at hm
  split at hm
  · next g => exact ⟨g, (zVO_iff hS.n1 hS.n8).mp (List.mem_of_mem_take hm)⟩
  · exact absurd hm List.not_mem_nil
theorem zRF_rows {S : zSt} {M : zMm} (hS : zWF S) (hF : zRF S M) {o : Nat} (ho : o < S.od.length) : (∀ c, c < S.n → M 12 (8 * o + c) = nI (S.sl o c) ∧ S.sl o c < 6 * S.sk) ∧ (∀ k, k < S.n → M 11 (8 * o + k) = nI (S.sq o k) ∧ S.sq o k < 8) := by
  obtain ⟨_, hV⟩ := zod_VO hS ho
  obtain ⟨_, _, hR⟩ := hF.od
  refine ⟨fun c hc => ?_, fun k hk => ⟨(hR o ho k hk).1, zdg_lt _ _ _⟩⟩
  obtain ⟨h1, h2⟩ := zVO_idx hV hc
  have h3 := (hR o ho _ h1).2
  rw [h2] at h3
  have := hS.s24
  exact ⟨h3, Nat.mod_lt _ (by omega)⟩
