/-! ===== gaps: what the law says of them ===== -/
theorem zgb_ge {cy n om c G : Nat} {sl : Nat → Nat} (hG : G ≤ cy) : ∀ {k}, (∀ i, i < k → i ≠ c → om.testBit i = true → G ≤ zfrom cy (sl c) (sl i)) → G ≤ zgb cy n om sl c k
  | 0, _ => hG
  | k + 1, h => by
    rw [zgb_s]
    have ih := zgb_ge (n := n) hG (fun i hi => h i (Nat.lt_succ_of_lt hi))
    split
    · next g => exact Nat.le_min.mpr ⟨ih, h k (Nat.lt_succ_self k) g.1 g.2⟩
    · exact ih
theorem zgb_at {cy n om c : Nat} {sl : Nat → Nat} : ∀ {k i}, i < k → i ≠ c → om.testBit i = true → zgb cy n om sl c k ≤ zfrom cy (sl c) (sl i)
  | 0, i, h, _, _ => absurd h (Nat.not_lt_zero i)
  | k + 1, i, h, hc, ho => by
    rw [zgb_s]
    rcases Nat.lt_or_ge i k with q | q
    · have ih := zgb_at (cy := cy) (n := n) (sl := sl) q hc ho
      split
      · exact Nat.le_trans (Nat.min_le_left _ _) ih
      · exact ih
    · have e : i = k := by omega
      subst e
      rw [if_pos ⟨hc, ho⟩]
      exact Nat.min_le_right _ _
theorem zgp_at {cy n om : Nat} {sl : Nat → Nat} : ∀ {k c}, c < k → om.testBit c = true → zgb cy n om sl c n ≤ zgp cy n om sl k
  | 0, c, h, _ => absurd h (Nat.not_lt_zero c)
  | k + 1, c, h, ho => by
    rw [zgp_s]
    rcases Nat.lt_or_ge c k with q | q
    · have ih := zgp_at (cy := cy) (n := n) (sl := sl) q ho
      split
      · exact Nat.le_trans ih (Nat.le_max_left _ _)
      · exact ih
    · have e : c = k := by omega
      subst e
      rw [if_pos ho]
      exact Nat.le_max_right _ _
theorem zgp_to {cy n om G : Nat} {sl : Nat → Nat} : ∀ {k}, (∀ c, c < k → om.testBit c = true → zgb cy n om sl c n ≤ G) → zgp cy n om sl k ≤ G
  | 0, _ => Nat.zero_le _
  | k + 1, h => by
    rw [zgp_s]
    have ih := zgp_to (fun c hc => h c (Nat.lt_succ_of_lt hc))
    split
    · next g => exact Nat.max_le.mpr ⟨ih, h k (Nat.lt_succ_self k) g⟩
    · exact ih
theorem zfrom_pos {cy a b : Nat} (ha : a < cy) (hb : b < cy) (h : a ≠ b) : 1 ≤ zfrom cy a b := by
  unfold zfrom
  split <;> omega
theorem zfrom_self (cy a : Nat) : zfrom cy a a = 0 := by
  unfold zfrom
  rw [if_pos (Nat.le_refl a), Nat.sub_self]
/-- gaps are above 0 -/
theorem zgp_pos {cy n om c : Nat} {sl : Nat → Nat} (hcy : 1 ≤ cy) (hsl : ∀ c, c < n → sl c < cy) (hinj : ∀ i j, i < n → j < n → i ≠ j → sl i ≠ sl j) (hc : c < n) (ho : om.testBit c = true) : 1 ≤ zgp cy n om sl n := by
  refine Nat.le_trans (zgb_ge (n := n) hcy (fun i hi hic _ => zfrom_pos (hsl c hc) (hsl i hi) (hinj c i hc hi (Ne.symm hic)))) (zgp_at hc ho)
/-- with one cylinder less the gaps are not smaller -/
theorem zgp_less {cy n om om' c0 p0 : Nat} {sl : Nat → Nat} (hsl : ∀ c, c < n → sl c < cy) (hinj : ∀ i j, i < n → j < n → i ≠ j → sl i ≠ sl j) (hc0 : c0 < n) (hp0 : p0 < n) (hb : ∀ j, j < n → om'.testBit j = (om.testBit j && decide (j ≠ c0))) (hp : om'.testBit p0 = true) : zgp cy n om sl n ≤ zgp cy n om' sl n := by
  have hon : ∀ j, j < n → om'.testBit j = true → om.testBit j = true ∧ j ≠ c0 := fun j hj h => by
    rw [hb j hj, Bool.and_eq_true, decide_eq_true_iff] at h
    exact h
  refine zgp_to (fun c hc ho => ?_)
  by_cases hcc : c = c0
  · subst hcc
    obtain ⟨p, hpn, hmin, -⟩ := fb_low (fun i => if om'.testBit i = true then (zfrom cy (sl i) (sl c) : Int) else ((cy + 1000 : Nat) : Int)) (n := n) (by omega)
    have hfr : ∀ i, i < n → zfrom cy (sl i) (sl c) ≤ cy := fun i hi => by
      have := hsl i hi
      have := hsl c hc
      unfold zfrom
      split <;> omega
    have hpo : om'.testBit p = true := by
      have h1 := hmin p0 hp0
      simp only [hp, if_true] at h1
      have h2 := hfr p0 hp0
      cases g : om'.testBit p with
      | true => rfl
      | false =>
        rw [g] at h1
        simp only [Bool.false_eq_true, if_false] at h1
        omega
    obtain ⟨_, hpc⟩ := hon p hpn hpo
    refine Nat.le_trans (zgb_ge (n := n) zgb_le (fun i hi hip ho' => ?_)) (zgp_at hpn hpo)
    obtain ⟨g1, g2⟩ := hon i hi ho'
    refine Nat.le_trans (zgb_at (cy := cy) (n := n) (om := om) (sl := sl) hi g2 g1) ?_
    have h1 := hmin i hi
    simp only [hpo, ho', if_true] at h1
    have a1 := hsl p hpn
    have a2 := hsl c hc
    have a3 := hsl i hi
    have b1 := hinj p c hpn hc hpc
    have b2 := hinj i c hi hc g2
    have b3 := hinj i p hi hpn hip
    generalize sl p = x at h1 a1 b1 b3 ⊢
    generalize sl c = y at h1 a2 b1 b2 ⊢
    generalize sl i = z at h1 a3 b2 b3 ⊢
    unfold zfrom at h1 ⊢
    split at h1 <;> split at h1 <;> split <;> split <;> omega
  · have ho' : om'.testBit c = true := by
      rw [hb c hc, ho, Bool.true_and, decide_eq_true_iff]
      exact hcc
    refine Nat.le_trans (zgb_ge (n := n) zgb_le (fun i hi hic h => ?_)) (zgp_at hc ho')
    exact zgb_at hi hic (hon i hi h).1
/-! the slots of an order -/
theorem zslf {n sp cy lo : Nat} (he : n * sp = cy) (hlo : lo < cy) {k1 k2 : Nat} (h1 : k1 < n) (h2 : k2 < n) : (k1 ≠ k2 → sp ≤ zfrom cy ((lo + k1 * sp) % cy) ((lo + k2 * sp) % cy)) ∧ (k2 = k1 + 1 ∨ (k1 + 1 = n ∧ k2 = 0 ∧ k1 ≠ 0) → zfrom cy ((lo + k1 * sp) % cy) ((lo + k2 * sp) % cy) = sp) := by
  have e1 : (k1 + 1) * sp ≤ n * sp := Nat.mul_le_mul_right sp h1
  have e2 : (k2 + 1) * sp ≤ n * sp := Nat.mul_le_mul_right sp h2
  rw [Nat.add_mul, Nat.one_mul, he] at e1 e2
  have e12 : k1 < k2 → k1 * sp + sp ≤ k2 * sp := fun h => by
    have := Nat.mul_le_mul_right sp (show k1 + 1 ≤ k2 from h)
    rwa [Nat.add_mul, Nat.one_mul] at this
  have e21 : k2 < k1 → k2 * sp + sp ≤ k1 * sp := fun h => by
    have := Nat.mul_le_mul_right sp (show k2 + 1 ≤ k1 from h)
    rwa [Nat.add_mul, Nat.one_mul] at this
  have s1 : k2 = k1 + 1 → k2 * sp = k1 * sp + sp := fun h => by rw [h, Nat.add_mul, Nat.one_mul]
  have s2 : k1 + 1 = n → k1 * sp + sp = cy := fun h => by
    rw [← he, ← h, Nat.add_mul, Nat.one_mul]
  have s3 : k2 = 0 → k2 * sp = 0 := fun h => by rw [h, Nat.zero_mul]
  generalize k1 * sp = a at e1 e12 e21 s1 s2 ⊢
  generalize k2 * sp = b at e2 e12 e21 s1 s3 ⊢
  have md : ∀ x, x < 2 * cy → x % cy = if x < cy then x else x - cy := fun x hx => by
    split
    · next g => exact Nat.mod_eq_of_lt g
    · next g =>
      rw [Nat.mod_eq_sub_mod (by omega)]
      exact Nat.mod_eq_of_lt (by omega)
  rw [md (lo + a) (by omega), md (lo + b) (by omega)]
  refine ⟨fun hne => ?_, fun h => ?_⟩
  · rcases Nat.lt_or_ge k1 k2 with q | q
    · have := e12 q
      unfold zfrom
      repeat' split
      all_goals omega
    · have := e21 (by omega)
      unfold zfrom
      repeat' split
      all_goals omega
  · rcases h with h | ⟨h, h', h''⟩
    · have := s1 h
      unfold zfrom
      repeat' split
      all_goals omega
    · have := s2 h
      have := s3 h'
      have := e21 (by omega)
      unfold zfrom
      repeat' split
      all_goals omega
/-- an order's slots: a state's -/
theorem zod_sp {S : zSt} (hS : zWF S) {o : Nat} (ho : o < S.od.length) : S.n * (6 * S.sk / S.n) = 6 * S.sk ∧ 1 ≤ 6 * S.sk / S.n := by
  obtain ⟨h1, _⟩ := zod_VO hS ho
  have n1 := hS.n1
  have n8 := hS.n8
  have hs := hS.s24
  have e : S.n * (6 * S.sk / S.n) = 6 * S.sk := Nat.mul_div_cancel' (Nat.dvd_of_mod_eq_zero h1)
  refine ⟨e, ?_⟩
  rcases Nat.eq_zero_or_pos (6 * S.sk / S.n) with q | q
  · rw [q, Nat.mul_zero] at e
    omega
  · exact q
theorem zsl_df {S : zSt} (hS : zWF S) {o c c' : Nat} (ho : o < S.od.length) (hc : c < S.n) (hc' : c' < S.n) (hne : c ≠ c') : 6 * S.sk / S.n ≤ zfrom (6 * S.sk) (S.sl o c) (S.sl o c') := by
  obtain ⟨_, hV⟩ := zod_VO hS ho
  obtain ⟨e, p⟩ := zod_sp hS ho
  obtain ⟨i1, i2⟩ := zVO_idx hV hc
  obtain ⟨j1, j2⟩ := zVO_idx hV hc'
  have hs := hS.s24
  have hlo : zlo (S.t 0) < 12 := Nat.mod_lt _ (by decide)
  refine (zslf e (show zlo (S.t 0) < 6 * S.sk by omega) i1 j1).1 (fun q => hne ?_)
  rw [← i2, ← j2, q]
theorem zsl_inj {S : zSt} (hS : zWF S) {o : Nat} (ho : o < S.od.length) : ∀ i j, i < S.n → j < S.n → i ≠ j → S.sl o i ≠ S.sl o j := fun i j hi hj hne e => by
  have h := zsl_df hS ho hi hj hne
  obtain ⟨_, p⟩ := zod_sp hS ho
  rw [e, zfrom_self] at h
  omega
theorem zsl_cy {S : zSt} (hS : zWF S) (o c : Nat) : S.sl o c < 6 * S.sk := Nat.mod_lt _ (by have := hS.s24; omega)
/-- cylinder 0 stands first: it fires in its lower slot -/
theorem zidx0 {n sp : Nat} {t : Nat → Nat} {x : Nat} (hn : 1 ≤ n) (h : zVO n sp t x) : zfi (zdg n x) 0 n = 0 := by
  obtain ⟨h1, h2⟩ := zVO_idx h (show 0 < n by omega)
  rcases Nat.eq_zero_or_pos (zfi (zdg n x) 0 n) with q | q
  · exact q
  · exact absurd (h.d0.trans h2.symm) (h.inj 0 _ q h1)
theorem zsl_0 {S : zSt} (hS : zWF S) {o : Nat} (ho : o < S.od.length) : S.sl o 0 = zlo (S.t 0) := by
  obtain ⟨_, hV⟩ := zod_VO hS ho
  have hs := hS.s24
  have hlo : zlo (S.t 0) < 12 := Nat.mod_lt _ (by decide)
  show (zlo (S.t 0) + zfi (zdg S.n (S.od.getD o 0)) 0 S.n * (6 * S.sk / S.n)) % (6 * S.sk) = _
  rw [zidx0 hS.n1 hV, Nat.zero_mul, Nat.add_zero]
  exact Nat.mod_eq_of_lt (by omega)
/-- with all on the gap is the step -/
theorem zgp_all {S : zSt} (hS : zWF S) {o om : Nat} (ho : o < S.od.length) (hom : ∀ j, j < S.n → om.testBit j = true) : zgp (6 * S.sk) S.n om (S.sl o) S.n = 6 * S.sk / S.n := by
  obtain ⟨_, hV⟩ := zod_VO hS ho
  obtain ⟨e, p⟩ := zod_sp hS ho
  have n1 := hS.n1
  have hs := hS.s24
  have hlo : zlo (S.t 0) < 12 := Nat.mod_lt _ (by decide)
  have hlo : zlo (S.t 0) < 6 * S.sk := by omega
  have hle : 6 * S.sk / S.n ≤ 6 * S.sk := Nat.div_le_self _ _
  refine Nat.le_antisymm (zgp_to (fun c hc _ => ?_)) ?_
  · rcases Nat.lt_or_ge 1 S.n with q | q
    · obtain ⟨i1, i2⟩ := zVO_idx hV hc
      -- the one behind it
      have hk : ∃ k2, k2 < S.n ∧ (k2 = zfi (zdg S.n (S.od.getD o 0)) c S.n + 1 ∨ (zfi (zdg S.n (S.od.getD o 0)) c S.n + 1 = S.n ∧ k2 = 0 ∧ zfi (zdg S.n (S.od.getD o 0)) c S.n ≠ 0)) := by
        rcases Nat.lt_or_ge (zfi (zdg S.n (S.od.getD o 0)) c S.n + 1) S.n with w | w
        · exact ⟨_, w, Or.inl rfl⟩
        · exact ⟨0, by omega, Or.inr ⟨by omega, rfl, by omega⟩⟩
      obtain ⟨k2, hk2, hs2⟩ := hk
      have f := (zslf e hlo i1 hk2).2 hs2
      have hd := hV.lt k2 hk2
      obtain ⟨j1, j2⟩ := zVO_idx hV hd
      have ej : zfi (zdg S.n (S.od.getD o 0)) (zdg S.n (S.od.getD o 0) k2) S.n = k2 := by
        rcases Nat.lt_trichotomy (zfi (zdg S.n (S.od.getD o 0)) (zdg S.n (S.od.getD o 0) k2) S.n) k2 with w | w | w
        · exact absurd j2 (hV.inj _ _ w hk2)
        · exact w
        · exact absurd j2.symm (hV.inj _ _ w j1)
      have hne : zdg S.n (S.od.getD o 0) k2 ≠ c := fun w => by
        rw [w] at ej
        omega
      have g := zgb_at (cy := 6 * S.sk) (n := S.n) (om := om) (sl := S.sl o) (c := c) hd hne (hom _ hd)
      refine Nat.le_trans g (Nat.le_of_eq ?_)
      show zfrom (6 * S.sk) ((zlo (S.t 0) + zfi (zdg S.n (S.od.getD o 0)) c S.n * (6 * S.sk / S.n)) % (6 * S.sk)) ((zlo (S.t 0) + zfi (zdg S.n (S.od.getD o 0)) (zdg S.n (S.od.getD o 0) k2) S.n * (6 * S.sk / S.n)) % (6 * S.sk)) = _
      rw [ej]
      exact f
    · have en : S.n = 1 := by omega
      rw [en, Nat.div_one]
      exact zgb_le
  · refine Nat.le_trans (zgb_ge (n := S.n) hle (fun i hi hic _ => zsl_df hS ho n1 hi (Ne.symm hic))) (zgp_at n1 (hom 0 n1))
