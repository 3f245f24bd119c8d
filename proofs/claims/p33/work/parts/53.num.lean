/-! ===== numbers of the law ===== -/
/-- a number from 0 to 2^31 - 1 -/
theorem zand31 (x : Int32) : ∃ Y : Nat, Y < 2 ^ 31 ∧ x &&& 2147483647 = nI Y := pk_andE x 31 rfl
theorem zand_m8 {a : Nat} : ∃ b : Nat, b ≤ a ∧ nI a &&& (-8) = nI b := by
  refine ⟨a &&& 4294967288, Nat.and_le_left, ?_⟩
  rw [show ((-8) : Int32) = nI 4294967288 by decide]
  exact fa_and a 4294967288
theorem zand_7 {a : Nat} (h : a < 2 ^ 31) : nI a &&& 7 = nI (a % 8) := pk_andN (by omega) 3 rfl
theorem zand_1 {a : Nat} (h : a < 2 ^ 31) : nI a &&& 1 = nI (a % 2) := pk_andN (by omega) 1 rfl
theorem zand_2 : ∀ a, a < 16 → (nI a &&& 2 = 2) = (a.testBit 1 = true) := by decide +kernel
theorem zand_3 : ∀ a, a < 16 → (nI a &&& 1 = 1) = (a.testBit 0 = true) := by decide +kernel
theorem zshr_3 {a : Nat} (h : a < 2 ^ 31) : nI a >>> ((3 : Int32) &&& 31) = nI (a / 8) := pk_shrN h _ 3 rfl
theorem zshr_4 {a : Nat} (h : a < 2 ^ 31) : nI a >>> ((4 : Int32) &&& 31) = nI (a / 16) := pk_shrN h _ 4 rfl
theorem zshr_5 {a : Nat} (h : a < 2 ^ 31) : nI a >>> ((5 : Int32) &&& 31) = nI (a / 32) := pk_shrN h _ 5 rfl
theorem zshr_6 {a : Nat} (h : a < 2 ^ 31) : nI a >>> ((6 : Int32) &&& 31) = nI (a / 64) := pk_shrN h _ 6 rfl
theorem zshr_7 {a : Nat} (h : a < 2 ^ 31) : nI a >>> ((7 : Int32) &&& 31) = nI (a / 128) := pk_shrN h _ 7 rfl
theorem zshr_9 {a : Nat} (h : a < 2 ^ 31) : nI a >>> ((9 : Int32) &&& 31) = nI (a / 512) := pk_shrN h _ 9 rfl
theorem zshr_12 {a : Nat} (h : a < 2 ^ 31) : nI a >>> ((12 : Int32) &&& 31) = nI (a / 4096) := pk_shrN h _ 12 rfl
theorem zshr_16 {a : Nat} (h : a < 2 ^ 31) : nI a >>> ((16 : Int32) &&& 31) = nI (a / 65536) := pk_shrN h _ 16 rfl
theorem zsm32 : ∀ k, k < 32 → ((nI k &&& 31).toBitVec.smod 32).toNat = k := by decide +kernel
theorem zshr_k {a k : Nat} (h : a < 2 ^ 31) (hk : k < 32) : nI a >>> (nI k &&& 31) = nI (a / 2 ^ k) := pk_shrN h _ k (zsm32 k hk)
theorem zrm_2 {a : Nat} (h : a < 2 ^ 31) : nI a - nI a / 2 * 2 = nI (a % 2) := pk_rem (d := 2) h (by decide) (by decide)
theorem zrm_3 {a : Nat} (h : a < 2 ^ 31) : nI a - nI a / 3 * 3 = nI (a % 3) := pk_rem (d := 3) h (by decide) (by decide)
theorem zrm_4 {a : Nat} (h : a < 2 ^ 31) : nI a - nI a / 4 * 4 = nI (a % 4) := pk_rem (d := 4) h (by decide) (by decide)
theorem zrm_5 {a : Nat} (h : a < 2 ^ 31) : nI a - nI a / 5 * 5 = nI (a % 5) := pk_rem (d := 5) h (by decide) (by decide)
theorem zrm_6 {a : Nat} (h : a < 2 ^ 31) : nI a - nI a / 6 * 6 = nI (a % 6) := pk_rem (d := 6) h (by decide) (by decide)
theorem zrm_8 {a : Nat} (h : a < 2 ^ 31) : nI a - nI a / 8 * 8 = nI (a % 8) := pk_rem (d := 8) h (by decide) (by decide)
theorem zrm_12 {a : Nat} (h : a < 2 ^ 31) : nI a - nI a / 12 * 12 = nI (a % 12) := pk_rem (d := 12) h (by decide) (by decide)
theorem zrm_100 {a : Nat} (h : a < 2 ^ 31) : nI a - nI a / 100 * 100 = nI (a % 100) := pk_rem (d := 100) h (by decide) (by decide)
theorem zrm_200 {a : Nat} (h : a < 2 ^ 31) : nI a - nI a / 200 * 200 = nI (a % 200) := pk_rem (d := 200) h (by decide) (by decide)
theorem zrm_201 {a : Nat} (h : a < 2 ^ 31) : nI a - nI a / 201 * 201 = nI (a % 201) := pk_rem (d := 201) h (by decide) (by decide)
theorem zrm_1000 {a : Nat} (h : a < 2 ^ 31) : nI a - nI a / 1000 * 1000 = nI (a % 1000) := pk_rem (d := 1000) h (by decide) (by decide)
theorem zdv_1000 {a : Nat} (h : a < 2 ^ 31) : nI a / 1000 = nI (a / 1000) := pk_div (d := 1000) h (by decide) (by decide)
theorem zm100 {a : Nat} (h : a < 201) : -100 ≤ (nI a - 100).toInt ∧ (nI a - 100).toInt ≤ 100 := by
  have := pk_sub_toInt (a := a) (b := 100) (by omega) (by decide)
  have e : (nI a - 100).toInt = (a : Int) - 100 := this
  omega
theorem znI_j {a b : Nat} (ha : a < 2 ^ 31) (hb : b < 2 ^ 31) (h : nI a = nI b) : a = b := (nI_eq ha hb).mp h
/-! an order's number out of its cylinders -/
theorem zcode_s {n x i : Nat} (hi : i < n) : 8 * (x / 8 ^ (n - i)) + zdg n x i = x / 8 ^ (n - (i + 1)) := by
  have e : n - i = (n - 1 - i) + 1 := by omega
  rw [zdg, show n - (i + 1) = n - 1 - i by omega, e, Nat.pow_succ, ← Nat.div_div_eq_div_mul]
  omega
theorem zcode_0 {n x : Nat} (h : x < 8 ^ n) : x / 8 ^ (n - 0) = 0 := by
  rw [Nat.sub_zero]
  exact Nat.div_eq_of_lt h
theorem zcode_n (n x : Nat) : x / 8 ^ (n - n) = x := by rw [Nat.sub_self, Nat.pow_zero, Nat.div_one]
theorem zcode_lt {n x i : Nat} (hn : n ≤ 8) (h : x < 8 ^ n) : x / 8 ^ (n - i) < 2 ^ 24 := by
  have h1 : x / 8 ^ (n - i) ≤ x := Nat.div_le_self _ _
  have h2 : 8 ^ n ≤ 8 ^ 8 := Nat.pow_le_pow_right (by decide) hn
  have h3 : (8 : Nat) ^ 8 = 2 ^ 24 := by decide
  omega
/-- the set of the first k cylinders of an order -/
def zus (f : Nat → Nat) : Nat → Nat
  | 0 => 0
  | k + 1 => zus f k ||| 2 ^ f k
theorem zus_lt {f : Nat → Nat} {n : Nat} (hf : ∀ k, k < n → f k < n) : ∀ k, k ≤ n → zus f k < 2 ^ n
  | 0, _ => Nat.pow_pos (by decide)
  | k + 1, h => Nat.or_lt_two_pow (zus_lt hf k (by omega)) (Nat.pow_lt_pow_right (by decide) (hf k (by omega)))
theorem zus_bit {f : Nat → Nat} {j : Nat} : ∀ {k i}, i < k → f i = j → (zus f k).testBit j = true
  | 0, i, h, _ => absurd h (Nat.not_lt_zero i)
  | k + 1, i, h, e => by
    show (zus f k ||| 2 ^ f k).testBit j = true
    rw [fb_bit_set]
    rcases Nat.lt_or_ge i k with q | q
    · rw [zus_bit q e, Bool.true_or]
    · have ei : i = k := by omega
      subst ei
      rw [e, decide_eq_true rfl, Bool.or_true]
theorem zus_all {f : Nat → Nat} {n : Nat} (hf : ∀ k, k < n → f k < n) (hi : ∀ i j, i < j → j < n → f i ≠ f j) : zus f n = 2 ^ n - 1 := by
  refine Nat.eq_of_testBit_eq (fun j => ?_)
  rw [Nat.testBit_two_pow_sub_one]
  rcases Nat.lt_or_ge j n with q | q
  · obtain ⟨i, h1, h2⟩ := fb_onto hf hi q
    rw [zus_bit h1 h2, decide_eq_true q]
  · rw [decide_eq_false (by omega)]
    exact Nat.testBit_lt_two_pow (Nat.lt_of_lt_of_le (zus_lt hf n (Nat.le_refl n)) (Nat.pow_le_pow_right (by decide) q))
/-! the orders stand by their numbers -/
theorem zod_sort {S : zSt} (hS : zWF S) {i j : Nat} (hij : i < j) (hj : j < S.od.length) : S.od.getD i 0 < S.od.getD j 0 := by
  have hp : S.od.Pairwise (fun a b => a < b) := by
    unfold zSt.od zord
    split
    · exact List.Pairwise.sublist (List.take_sublist _ _) (zsort_dfs hS.n8 (S.n - 1) 1 0 1 (by have := hS.n1; omega) (by decide))
    · exact List.Pairwise.nil
  rw [List.getD_eq_getElem?_getD, List.getD_eq_getElem?_getD, List.getElem?_eq_getElem (show i < S.od.length by omega), List.getElem?_eq_getElem hj]
  exact List.pairwise_iff_getElem.mp hp i j (by omega) hj hij
/-! counters: their numbers -/
theorem zcnf_at (s : Nat → Int32) (p : Int32) : ∀ r i, r + i ≤ 12 → zcnf s p r i = -1000005 ∨ ∃ t m : Nat, t < 12 ∧ 1 ≤ m ∧ m < 1000 ∧ zcnf s p r i = nI (1000 * t + m)
  | 0, i, _ => Or.inl rfl
  | r + 1, i, h => by
    rw [zcnf_s]
    split
    · exact zcnf_at s p r (i + 1) (by omega)
    · next g =>
      refine Or.inr ?_
      have hm : ∃ m : Nat, 1 ≤ m ∧ m < 1000 ∧ zma s i p = nI m := by
        unfold zma at g ⊢
        split
        · next q =>
          generalize zmk s i p = v at q ⊢
          obtain ⟨_, q1, q2⟩ := q
          have q1 : ¬ v.toInt < 1 := fun w => q1 (Int32.lt_iff_toInt_lt.mpr w)
          have q2 : ¬ 999 < v.toInt := fun w => q2 (Int32.lt_iff_toInt_lt.mpr w)
          refine ⟨v.toInt.toNat, by omega, by omega, ?_⟩
          rw [← Int32.toInt_inj, nI_toInt (by omega)]
          omega
        · next q => rw [if_neg q] at g; exact absurd rfl g
      obtain ⟨m, h1, h2, h3⟩ := hm
      refine ⟨i, m, by omega, h1, h2, ?_⟩
      rw [h3, ← nI_add, ← pk_mul]
      rfl
theorem zct_at (s : Nat → Int32) (p : Int32) : (zzs s = true ∧ zct s p = 0) ∨ (zzs s = false ∧ (zct s p = -1000005 ∨ ∃ t m : Nat, t < 12 ∧ 1 ≤ m ∧ m < 1000 ∧ zct s p = nI (1000 * t + m))) := by
  unfold zct zzs
  by_cases g : s 0 = 0 ∧ s 1 = 0 ∧ s 2 = 0 ∧ s 3 = 0
  · rw [if_pos g]
    exact Or.inl ⟨decide_eq_true g, rfl⟩
  · rw [if_neg g]
    exact Or.inr ⟨decide_eq_false g, zcnf_at s p 12 0 (by decide)⟩
theorem zbl_at (S : zSt) : S.bl 4 < 16 ∧ (S.bl 4).testBit 0 = zzs (S.su 0) ∧ (S.bl 4).testBit 1 = zzs (S.su 1) := by
  simp only [zSt.bl]
  cases zzs (S.su 0) <;> cases zzs (S.su 1) <;> cases zzs (S.su 2) <;> cases zzs (S.su 3) <;> decide
/-! masks -/
theorem zpop_clr : ∀ om, om < 256 → ∀ c, c < 8 → om.testBit c = true → zpop (om &&& (255 - 2 ^ c)) + 1 = zpop om ∧ (om &&& (255 - 2 ^ c)) ||| 2 ^ c = om := by decide +kernel
theorem zpop_set : ∀ om, om < 256 → ∀ c, c < 8 → om.testBit c = false → zpop (om ||| 2 ^ c) = zpop om + 1 := by decide +kernel
theorem zpop_free : ∀ n, n < 9 → ∀ us, us < 256 → us < 2 ^ n → zpop us < n → ∃ j, j < n ∧ us.testBit j = false := by decide +kernel
theorem zpop_pos {om n : Nat} (hn : n < 9) (h : om < 2 ^ n) (h1 : 1 ≤ zpop om) : ∃ c, c < n ∧ om.testBit c = true := by
  have h2 : 2 ^ n ≤ 2 ^ 8 := Nat.pow_le_pow_right (by decide) (by omega)
  rw [← zpq_pop n hn om (by omega) h] at h1
  clear h h2
  induction n with
  | zero => exact absurd (show 1 ≤ 0 from h1) (by decide)
  | succ n ih =>
    have h1 : 1 ≤ zpq om n + if om.testBit n then 1 else 0 := h1
    by_cases g : om.testBit n = true
    · exact ⟨n, Nat.lt_succ_self n, g⟩
    · rw [if_neg g] at h1
      obtain ⟨c, h3, h4⟩ := ih (by omega) h1
      exact ⟨c, by omega, h4⟩
theorem zpq_all {om : Nat} : ∀ {n}, (∀ j, j < n → om.testBit j = true) → zpq om n = n
  | 0, _ => rfl
  | n + 1, h => by
    show zpq om n + (if om.testBit n then 1 else 0) = n + 1
    rw [if_pos (h n (Nat.lt_succ_self n)), zpq_all (fun j hj => h j (by omega))]
theorem zpq_full {om : Nat} : ∀ {n}, n ≤ zpq om n → ∀ j, j < n → om.testBit j = true
  | 0, _, j, hj => absurd hj (Nat.not_lt_zero j)
  | n + 1, h, j, hj => by
    have h : n + 1 ≤ zpq om n + (if om.testBit n then 1 else 0) := h
    have := zpq_le om n
    by_cases g : om.testBit n = true
    · rw [if_pos g] at h
      rcases Nat.lt_or_ge j n with q | q
      · exact zpq_full (by omega) j q
      · rw [show j = n by omega]
        exact g
    · rw [if_neg g] at h
      omega
