/-! ===== the orders by masks ===== -/
/-- numbers from digits -/
def zcod (f : Nat → Nat) : Nat → Nat
  | 0 => 0
  | k + 1 => 8 * zcod f k + f k
theorem zdg_s {n x k : Nat} (hk : k < n) : zdg (n + 1) x k = zdg n (x / 8) k := by
  unfold zdg
  rw [Nat.div_div_eq_div_mul, show n + 1 - 1 - k = (n - 1 - k) + 1 by omega, Nat.pow_succ, Nat.mul_comm]
theorem zdg_l {n x : Nat} : zdg (n + 1) x n = x % 8 := by
  unfold zdg
  rw [show n + 1 - 1 - n = 0 by omega, Nat.pow_zero, Nat.div_one]
theorem zdg_eq : ∀ {n x y : Nat}, x < 8 ^ n → y < 8 ^ n → (∀ k, k < n → zdg n x k = zdg n y k) → x = y
  | 0, x, y, hx, hy, _ => by
    rw [Nat.pow_zero] at hx hy
    omega
  | n + 1, x, y, hx, hy, h => by
    rw [Nat.pow_succ] at hx hy
    have e1 := h n (by omega)
    rw [zdg_l, zdg_l] at e1
    have e2 := zdg_eq (n := n) (x := x / 8) (y := y / 8) (by omega) (by omega) (fun k hk => by
      rw [← zdg_s hk, ← zdg_s hk]
      exact h k (by omega))
    omega
theorem zcod_lt {f : Nat → Nat} : ∀ {n}, (∀ k, k < n → f k < 8) → zcod f n < 8 ^ n
  | 0, _ => Nat.one_pos
  | n + 1, h => by
    have h1 := zcod_lt (n := n) (fun k hk => h k (by omega))
    have h2 := h n (by omega)
    rw [Nat.pow_succ]
    show 8 * zcod f n + f n < _
    omega
theorem zcod_dg {f : Nat → Nat} : ∀ {n}, (∀ k, k < n → f k < 8) → ∀ k, k < n → zdg n (zcod f n) k = f k
  | 0, _, k, hk => absurd hk (Nat.not_lt_zero k)
  | n + 1, h, k, hk => by
    have h2 := h n (by omega)
    rcases Nat.lt_or_ge k n with q | q
    · rw [zdg_s q]
      show zdg n ((8 * zcod f n + f n) / 8) k = f k
      rw [show (8 * zcod f n + f n) / 8 = zcod f n by omega]
      exact zcod_dg (fun k hk => h k (by omega)) k q
    · rw [show k = n by omega, zdg_l]
      show (8 * zcod f n + f n) % 8 = f n
      omega
theorem zcod_congr {f g : Nat → Nat} : ∀ {n}, (∀ k, k < n → f k = g k) → zcod f n = zcod g n
  | 0, _ => rfl
  | n + 1, h => by
    show 8 * zcod f n + f n = 8 * zcod g n + g n
    rw [zcod_congr (fun k hk => h k (by omega)), h n (by omega)]
theorem zcod_of {n x : Nat} (hx : x < 8 ^ n) : zcod (zdg n x) n = x :=
  zdg_eq (zcod_lt (fun k _ => zdg_lt _ _ _)) hx (zcod_dg (fun k _ => zdg_lt _ _ _))
/-- the last of the first n with s there v -/
def zfnd (s : Nat → Nat) (v : Nat) : Nat → Option Nat
  | 0 => none
  | c + 1 => if s c = v then some c else zfnd s v c
theorem zfnd_some {s : Nat → Nat} {v o : Nat} : ∀ {n}, zfnd s v n = some o → o < n ∧ s o = v
  | 0, h => by cases h
  | n + 1, h => by
    unfold zfnd at h
    split at h
    · next g => cases h; exact ⟨by omega, g⟩
    · have := zfnd_some h
      exact ⟨by omega, this.2⟩
theorem zfnd_is {s : Nat → Nat} {v o : Nat} : ∀ {n}, o < n → s o = v → (∀ c, c < n → s c = v → c = o) → zfnd s v n = some o
  | 0, h, _, _ => absurd h (Nat.not_lt_zero o)
  | n + 1, h, h1, h2 => by
    unfold zfnd
    by_cases g : s n = v
    · rw [if_pos g, h2 n (by omega) g]
    · rw [if_neg g]
      refine zfnd_is (Nat.lt_of_le_of_ne (by omega) (fun q => g (by rw [← q]; exact h1))) h1 (fun c hc => h2 c (by omega))
/-- the code of the first k places -/
def zoc (n cy sp : Nat) (s : Nat → Nat) : Nat → Option Nat
  | 0 => some 0
  | k + 1 => match zoc n cy sp s k, zfnd s ((s 0 + k * sp) % cy) n with
    | some a, some f => some (8 * a + f)
    | _, _ => none
theorem zoc_some {n cy sp : Nat} {s : Nat → Nat} : ∀ {k x}, zoc n cy sp s k = some x → (∀ j, j < k → ∃ f, zfnd s ((s 0 + j * sp) % cy) n = some f) ∧ x = zcod (fun j => (zfnd s ((s 0 + j * sp) % cy) n).getD 0) k
  | 0, x, h => by cases h; exact ⟨fun j hj => absurd hj (Nat.not_lt_zero j), rfl⟩
  | k + 1, x, h => by
    unfold zoc at h
    split at h
    · next a f ha hf =>
      obtain ⟨h1, h2⟩ := zoc_some ha
      cases h
      refine ⟨fun j hj => ?_, ?_⟩
      · rcases Nat.lt_or_ge j k with q | q
        · exact h1 j q
        · rw [show j = k by omega]
          exact ⟨f, hf⟩
      · show 8 * a + f = 8 * zcod _ k + (zfnd s ((s 0 + k * sp) % cy) n).getD 0
        rw [hf, ← h2]
        rfl
    · cases h
theorem zoc_is {n cy sp : Nat} {s f : Nat → Nat} : ∀ {k}, (∀ j, j < k → zfnd s ((s 0 + j * sp) % cy) n = some (f j)) → zoc n cy sp s k = some (zcod f k)
  | 0, _ => rfl
  | k + 1, h => by
    unfold zoc
    rw [zoc_is (k := k) (fun j hj => h j (by omega)), h k (by omega)]
    rfl
theorem zoc_up {n cy sp : Nat} {s : Nat → Nat} {k : Nat} (h : zoc n cy sp s k = none) : ∀ m, k ≤ m → zoc n cy sp s m = none := by
  intro m hm
  induction m with
  | zero => rw [show k = 0 by omega] at h; exact h
  | succ m ih =>
    rcases Nat.lt_or_ge m k with q | q
    · rw [show m + 1 = k by omega]; exact h
    · unfold zoc
      rw [ih q]
/-- places differ -/
theorem zsp_inj {n cy sp a j k : Nat} (he : n * sp = cy) (hsp : 1 ≤ sp) (hj : j < n) (hk : k < n) (h : (a + j * sp) % cy = (a + k * sp) % cy) : j = k := by
  have hj2 : j * sp < cy := by
    rw [← he]
    exact Nat.mul_lt_mul_of_pos_right hj hsp
  have hk2 : k * sp < cy := by
    rw [← he]
    exact Nat.mul_lt_mul_of_pos_right hk hsp
  have e : j * sp = k * sp := by
    have h1 := Nat.div_add_mod (a + j * sp) cy
    have h2 := Nat.div_add_mod (a + k * sp) cy
    rw [h] at h1
    generalize (a + j * sp) / cy = p at h1
    generalize (a + k * sp) / cy = q at h2
    rcases Nat.lt_trichotomy p q with g | g | g
    · have : cy * (p + 1) ≤ cy * q := Nat.mul_le_mul_left _ g
      rw [Nat.mul_add] at this
      omega
    · rw [g] at h1
      omega
    · have : cy * (q + 1) ≤ cy * p := Nat.mul_le_mul_left _ g
      rw [Nat.mul_add] at this
      omega
  exact Nat.eq_of_mul_eq_mul_right hsp e
/-- the slots of a mask -/
def zmsk (t : Nat → Nat) (w : Nat) (c : Nat) : Nat := zlo (t c) + if w.testBit c then 12 else 0
theorem zlo_lt (t : Nat) : zlo t < 12 := Nat.mod_lt _ (by decide)
theorem zoc_VO {n cy sp w x : Nat} {t : Nat → Nat} (hn1 : 1 ≤ n) (hn : n ≤ 8) (he : n * sp = cy) (hsp : 1 ≤ sp) (h12 : cy % 12 = 0) (hw : w.testBit 0 = false) (hs : ∀ c, c < n → zmsk t w c < cy) (h : zoc n cy sp (zmsk t w) n = some x) : zVO n sp t x ∧ ∀ k, k < n → zmsk t w (zdg n x k) = (zlo (t 0) + k * sp) % cy := by
  have hs0 : zmsk t w 0 = zlo (t 0) := by unfold zmsk; rw [hw]; rfl
  obtain ⟨h1, h2⟩ := zoc_some h
  rw [hs0] at h1 h2
  generalize hf : (fun j => (zfnd (zmsk t w) ((zlo (t 0) + j * sp) % cy) n).getD 0) = f at h2
  have hfa : ∀ j, j < n → f j < n ∧ zmsk t w (f j) = (zlo (t 0) + j * sp) % cy := fun j hj => by
    obtain ⟨o, ho⟩ := h1 j hj
    rw [← hf]
    show (zfnd (zmsk t w) ((zlo (t 0) + j * sp) % cy) n).getD 0 < n ∧ zmsk t w ((zfnd (zmsk t w) ((zlo (t 0) + j * sp) % cy) n).getD 0) = _
    rw [ho]
    exact zfnd_some ho
  have hd : ∀ k, k < n → zdg n x k = f k := fun k hk => by
    rw [h2]
    exact zcod_dg (fun k hk => by have := (hfa k hk).1; omega) k hk
  have hinj : ∀ i j, i < j → j < n → f i ≠ f j := fun i j hij hj q => by
    have a := (hfa i (by omega)).2
    have b := (hfa j hj).2
    rw [q, b] at a
    have := zsp_inj he hsp hj (show i < n by omega) a
    omega
  have hf0 : f 0 = 0 := by
    obtain ⟨j, hj, ej⟩ := fb_onto (n := n) (f := f) (fun i hi => (hfa i hi).1) hinj (show 0 < n by omega)
    have a := (hfa j hj).2
    rw [ej, hs0] at a
    have h0 := hs 0 (by omega)
    rw [hs0] at h0
    have e : (zlo (t 0) + 0 * sp) % cy = (zlo (t 0) + j * sp) % cy := by
      rw [← a, Nat.zero_mul, Nat.add_zero, Nat.mod_eq_of_lt h0]
    have := zsp_inj he hsp (show 0 < n by omega) hj e
    rw [← this] at ej
    exact ej
  refine ⟨⟨fun k hk => ?_, fun i j hij hj => ?_, ?_, fun k hk1 hk => ?_, ?_⟩, fun k hk => ?_⟩
  · rw [hd k hk]; exact (hfa k hk).1
  · rw [hd i (by omega), hd j hj]; exact hinj i j hij hj
  · rw [hd 0 (by omega)]; exact hf0
  · rw [hd k hk]
    have a := (hfa k hk).2
    have l := zlo_lt (t (f k))
    unfold zdue
    have e : zmsk t w (f k) % 12 = zlo (t (f k)) := by
      unfold zmsk
      split <;> omega
    rw [← e, a]
    rw [Nat.mod_mod_of_dvd _ (Nat.dvd_of_mod_eq_zero h12)]
  · rw [h2]; exact zcod_lt (fun k hk => by have := (hfa k hk).1; omega)
  · rw [hd k hk]; exact (hfa k hk).2
theorem zbits : ∀ (n : Nat) (p : Nat → Bool), ∃ w, w < 2 ^ n ∧ ∀ c, c < n → w.testBit c = p c
  | 0, p => ⟨0, Nat.one_pos, fun c hc => absurd hc (Nat.not_lt_zero c)⟩
  | n + 1, p => by
    obtain ⟨w, hw, h⟩ := zbits n p
    by_cases g : p n = true
    · refine ⟨2 ^ n + w, by rw [Nat.pow_succ]; omega, fun c hc => ?_⟩
      rcases Nat.lt_or_ge c n with q | q
      · rw [Nat.testBit_two_pow_add_gt q]
        exact h c q
      · rw [show c = n by omega, Nat.testBit_two_pow_add_eq, Nat.testBit_lt_two_pow hw, g]
        rfl
    · refine ⟨w, by rw [Nat.pow_succ]; omega, fun c hc => ?_⟩
      rcases Nat.lt_or_ge c n with q | q
      · exact h c q
      · rw [show c = n by omega, Nat.testBit_lt_two_pow hw]
        exact (Bool.eq_false_iff.mpr g).symm
theorem zVO_oc {n cy sp x : Nat} {t : Nat → Nat} (hn1 : 1 ≤ n) (hn : n ≤ 8) (he : n * sp = cy) (hsp : 1 ≤ sp) (h12 : cy = 12 ∨ cy = 24) (hV : zVO n sp t x) : ∃ w, w < 2 ^ n ∧ w.testBit 0 = false ∧ (cy = 12 → w = 0) ∧ zoc n cy sp (zmsk t w) n = some x := by
  have hdv : cy % 12 = 0 := by omega
  have sl : ∀ c, c < n → zsl0 n cy sp (t 0) x c < cy ∧ zsl0 n cy sp (t 0) x c % 12 = zlo (t c) := fun c hc => by
    obtain ⟨i1, i2⟩ := zVO_idx hV hc
    unfold zsl0
    refine ⟨Nat.mod_lt _ (by omega), ?_⟩
    rw [Nat.mod_mod_of_dvd _ (Nat.dvd_of_mod_eq_zero hdv)]
    rcases Nat.eq_zero_or_pos (zfi (zdg n x) c n) with q | q
    · rw [q, hV.d0] at i2
      rw [q, Nat.zero_mul, Nat.add_zero, ← i2]
      exact Nat.mod_eq_of_lt (zlo_lt _)
    · have := hV.due _ q i1
      rw [i2] at this
      rw [this]
      rfl
  obtain ⟨w, hw, hb⟩ := zbits n (fun c => decide (12 ≤ zsl0 n cy sp (t 0) x c))
  have hms : ∀ c, c < n → zmsk t w c = zsl0 n cy sp (t 0) x c := fun c hc => by
    obtain ⟨a, b⟩ := sl c hc
    unfold zmsk
    rw [hb c hc]
    by_cases g : 12 ≤ zsl0 n cy sp (t 0) x c
    · rw [if_pos (decide_eq_true g), ← b]
      omega
    · rw [if_neg (fun q => g (of_decide_eq_true q)), ← b]
      omega
  have h0 : zsl0 n cy sp (t 0) x 0 = zlo (t 0) := by
    have i0 : zfi (zdg n x) 0 n = 0 := by
      obtain ⟨i1, i2⟩ := zVO_idx hV (show 0 < n by omega)
      rcases Nat.eq_zero_or_pos (zfi (zdg n x) 0 n) with q | q
      · exact q
      · exact absurd (by rw [i2, hV.d0]) (hV.inj 0 _ q i1)
    unfold zsl0
    rw [i0, Nat.zero_mul, Nat.add_zero]
    exact Nat.mod_eq_of_lt (by have := zlo_lt (t 0); omega)
  have hl0 := zlo_lt (t 0)
  have hw0 : w.testBit 0 = false := by
    rw [hb 0 (by omega)]
    exact decide_eq_false (by omega)
  refine ⟨w, hw, hw0, fun hc => ?_, ?_⟩
  · refine Nat.eq_of_testBit_eq (fun c => ?_)
    rw [Nat.zero_testBit]
    rcases Nat.lt_or_ge c n with q | q
    · rw [hb c q]
      have := (sl c q).1
      exact decide_eq_false (by omega)
    · exact Nat.testBit_lt_two_pow (Nat.lt_of_lt_of_le hw (Nat.pow_le_pow_right (by decide) q))
  · have hs0 : zmsk t w 0 = zlo (t 0) := by rw [hms 0 (by omega), h0]
    have hat : ∀ k, k < n → zmsk t w (zdg n x k) = (zlo (t 0) + k * sp) % cy := fun k hk => by
      rw [hms _ (hV.lt k hk)]
      unfold zsl0
      obtain ⟨i1, i2⟩ := zVO_idx hV (hV.lt k hk)
      have e : zfi (zdg n x) (zdg n x k) n = k := by
        rcases Nat.lt_trichotomy (zfi (zdg n x) (zdg n x k) n) k with q | q | q
        · exact absurd i2 (hV.inj _ _ q hk)
        · exact q
        · exact absurd i2.symm (hV.inj _ _ q i1)
      rw [e]
    have key := zoc_is (n := n) (cy := cy) (sp := sp) (s := zmsk t w) (f := zdg n x) (k := n) (fun k hk => by
      rw [hs0]
      refine zfnd_is (hV.lt k hk) (hat k hk) (fun c hc hc2 => ?_)
      obtain ⟨j, hj, ej⟩ := fb_onto (n := n) (f := zdg n x) hV.lt hV.inj hc
      rw [← ej, hat j hj] at hc2
      rw [← ej, zsp_inj he hsp hj hk hc2])
    rw [key, zcod_of hV.big]
theorem zmsk_inj {n cy sp w w2 x : Nat} {t : Nat → Nat} (hn1 : 1 ≤ n) (hw : w < 2 ^ n) (hw2 : w2 < 2 ^ n) (hV : zVO n sp t x) (h1 : ∀ k, k < n → zmsk t w (zdg n x k) = (zlo (t 0) + k * sp) % cy) (h2 : ∀ k, k < n → zmsk t w2 (zdg n x k) = (zlo (t 0) + k * sp) % cy) : w = w2 := by
  refine Nat.eq_of_testBit_eq (fun c => ?_)
  rcases Nat.lt_or_ge c n with q | q
  · obtain ⟨j, hj, ej⟩ := fb_onto (n := n) (f := zdg n x) hV.lt hV.inj q
    have e : zmsk t w c = zmsk t w2 c := by rw [← ej, h1 j hj, h2 j hj]
    unfold zmsk at e
    cases g1 : w.testBit c <;> cases g2 : w2.testBit c <;> rw [g1, g2] at e <;> first | rfl | (exfalso; simp at e)
  · have p := Nat.pow_le_pow_right (n := 2) (by decide) q
    rw [Nat.testBit_lt_two_pow (by omega), Nat.testBit_lt_two_pow (by omega)]
