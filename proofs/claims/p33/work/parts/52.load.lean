/-! ===== loads: their sum ===== -/
theorem zsh_24 : ∀ a, a < 24 → fb_sm (fun s => zsh (zfrom 24 a s)) 24 = 15 := by decide +kernel
theorem zsh_12 : ∀ a, a < 12 → fb_sm (fun s => zsh (zfrom 12 a s)) 12 = 15 := by decide +kernel
theorem zsr_sum {cy n om j : Nat} {sl : Nat → Nat} (hcy : cy = 12 ∨ cy = 24) (hsl : ∀ c, c < n → sl c < cy) : fb_sm (zsr cy n om sl j) cy = if j < n ∧ om.testBit j = true then 15 else 0 := by
  split
  · next g =>
    rw [fb_sm_cong (g := fun s => zsh (zfrom cy (sl j) s)) (fun s _ => zsr_on g)]
    have h := hsl j g.1
    rcases hcy with rfl | rfl
    · exact zsh_12 _ h
    · exact zsh_24 _ h
  · next g =>
    rw [fb_sm_cong (g := fun _ => 0) (fun s _ => zsr_off g), fb_sm_const, Nat.mul_zero]
theorem zld_sum {cy n om b : Nat} {sl : Nat → Nat} : fb_sm (zld2 cy n om sl b) cy = (if b = 0 then 0 else fb_sm (zsr cy n om sl (b - 1)) cy) + fb_sm (zsr cy n om sl b) cy := by
  have e : zld2 cy n om sl b = fun s => (if b = 0 then 0 else zsr cy n om sl (b - 1) s) + zsr cy n om sl b s := rfl
  rw [e, fb_sm_add]
  congr 1
  split
  · rw [fb_sm_const, Nat.mul_zero]
  · rfl
theorem zsum_on {cy n om : Nat} {sl : Nat → Nat} (hcy : cy = 12 ∨ cy = 24) (hsl : ∀ c, c < n → sl c < cy) : ∀ k, k ≤ n → fb_sm (fun j => fb_sm (zsr cy n om sl j) cy) k = 15 * zpq om k
  | 0, _ => rfl
  | k + 1, h => by
    rw [fb_sm_succ, zsum_on hcy hsl k (by omega), zsr_sum hcy hsl]
    show _ = 15 * (zpq om k + if om.testBit k then 1 else 0)
    by_cases g : om.testBit k = true
    · rw [if_pos ⟨by omega, g⟩, if_pos g]
      omega
    · rw [if_neg (fun q => g q.2), if_neg g]
      rfl
theorem zall_to {cy n om : Nat} {sl : Nat → Nat} : ∀ k, fb_sm (fun b => fb_sm (zld2 cy n om sl b) cy) (k + 1) = fb_sm (fun j => fb_sm (zsr cy n om sl j) cy) k + fb_sm (fun j => fb_sm (zsr cy n om sl j) cy) (k + 1)
  | 0 => by
    rw [fb_sm_succ, fb_sm_succ, zld_sum, if_pos rfl]
    show 0 + (0 + _) = 0 + (0 + _)
    omega
  | k + 1 => by
    rw [fb_sm_succ, zall_to k, zld_sum, if_neg (by omega), fb_sm_succ _ (k + 1), Nat.add_sub_cancel]
    have := fb_sm_succ (fun j => fb_sm (zsr cy n om sl j) cy) k
    omega
/-- all loads are thirty times the cylinders that are on -/
theorem zall_30 {cy n om : Nat} {sl : Nat → Nat} (hcy : cy = 12 ∨ cy = 24) (hsl : ∀ c, c < n → sl c < cy) : fb_sm (fun b => fb_sm (zld2 cy n om sl b) cy) (n + 1) = 30 * zpq om n := by
  rw [zall_to, fb_sm_succ, zsum_on hcy hsl n (Nat.le_refl n), zsr_sum hcy hsl, if_neg (fun q => absurd q.1 (Nat.lt_irrefl n))]
  omega
/-! the first with the least -/
theorem zmn_at {f : Nat → Nat} {g : Nat → Bool} : ∀ {k}, ((zmn f g k).1 = none ∧ ∀ j, j < k → g j = false) ∨ ∃ o, o < k ∧ (zmn f g k).1 = some o ∧ (zmn f g k).2 = f o ∧ g o = true ∧ ∀ j, j < k → g j = true → f o ≤ f j
  | 0 => Or.inl ⟨rfl, fun j hj => absurd hj (Nat.not_lt_zero j)⟩
  | k + 1 => by
    rw [zmn_s]
    rcases zmn_at (f := f) (g := g) (k := k) with ⟨h1, h2⟩ | ⟨o, h1, h2, h3, h4, h5⟩
    · by_cases gk : g k = true
      · rw [if_pos ⟨gk, Or.inl h1⟩]
        refine Or.inr ⟨k, Nat.lt_succ_self k, rfl, rfl, gk, fun j hj hg => ?_⟩
        rcases Nat.lt_or_ge j k with q | q
        · rw [h2 j q] at hg
          cases hg
        · rw [show j = k by omega]
          exact Nat.le_refl _
      · rw [if_neg (fun q => gk q.1)]
        refine Or.inl ⟨h1, fun j hj => ?_⟩
        rcases Nat.lt_or_ge j k with q | q
        · exact h2 j q
        · rw [show j = k by omega]
          exact Bool.eq_false_iff.mpr gk
    · by_cases gk : g k = true ∧ ((zmn f g k).1 = none ∨ f k < (zmn f g k).2)
      · rw [if_pos gk]
        have lt : f k < f o := by
          rcases gk.2 with q | q
          · rw [h2] at q
            cases q
          · rw [h3] at q
            exact q
        refine Or.inr ⟨k, Nat.lt_succ_self k, rfl, rfl, gk.1, fun j hj hg => ?_⟩
        rcases Nat.lt_or_ge j k with q | q
        · exact Nat.le_trans (Nat.le_of_lt lt) (h5 j q hg)
        · rw [show j = k by omega]
          exact Nat.le_refl _
      · rw [if_neg gk]
        refine Or.inr ⟨o, by omega, h2, h3, h4, fun j hj hg => ?_⟩
        rcases Nat.lt_or_ge j k with q | q
        · exact h5 j q hg
        · have e : j = k := by omega
          subst e
          rw [h3] at gk
          exact Nat.le_of_not_lt (fun w => gk ⟨hg, Or.inr w⟩)
theorem zmn_yes {f : Nat → Nat} {g : Nat → Bool} {k j : Nat} (hj : j < k) (hg : g j = true) : ∃ o, o < k ∧ (zmn f g k).1 = some o ∧ g o = true ∧ ∀ j, j < k → g j = true → f o ≤ f j := by
  rcases zmn_at (f := f) (g := g) (k := k) with ⟨_, h2⟩ | ⟨o, h1, h2, _, h4, h5⟩
  · rw [h2 j hj] at hg
    cases hg
  · exact ⟨o, h1, h2, h4, h5⟩
/-! peaks and penalties of orders -/
theorem zgl_8 {cy n : Nat} {sl : Nat → Nat} (h1 : 1 ≤ n) : 8 ≤ zgl cy n sl (n + 1) := by
  have e : ∀ k, zgl cy n sl (k + 1) = max (zgl cy n sl k) (zpk2 cy n (2 ^ n - 1) sl k) := fun _ => rfl
  have h0 : 8 ≤ zpk2 cy n (2 ^ n - 1) sl 0 := by
    unfold zpk2
    refine Nat.le_trans ?_ (Nat.le_max_right _ _)
    rw [if_pos (show 0 < n by omega)]
    show 8 ≤ (if (0 : Nat) = 0 then 0 else _) + zsr cy n (2 ^ n - 1) sl 0 (sl 0)
    have b : (2 ^ n - 1).testBit 0 = true := by
      rw [Nat.testBit_two_pow_sub_one]
      exact decide_eq_true (by omega)
    rw [if_pos rfl, zsr_on ⟨by omega, b⟩, zfrom_self]
    decide
  have : ∀ k, 8 ≤ zgl cy n sl (k + 1) := fun k => by
    induction k with
    | zero =>
      rw [e]
      exact Nat.le_trans h0 (Nat.le_max_right _ _)
    | succ k ih =>
      rw [e]
      exact Nat.le_trans ih (Nat.le_max_left _ _)
  exact this n
