/-! ===== loads, gaps, masks: pure rows of whole ===== -/
theorem zsh_mono {j k : Nat} (h : j ≤ k) : zsh k ≤ zsh j := by
  unfold zsh
  by_cases hk : k < 4
  · rw [if_pos hk, if_pos (show j < 4 by omega)]
    have d : ∀ k, k < 4 → ∀ j, j < 4 → j ≤ k → 8 / 2 ^ k ≤ 8 / 2 ^ j := by decide
    exact d k hk j (by omega) h
  · rw [if_neg hk]
    exact Nat.zero_le _
theorem zfrom_eq {cy a b : Nat} (ha : a < cy) (hb : b < cy) : (b + cy - a) % cy = zfrom cy a b := by
  unfold zfrom
  by_cases g : a ≤ b
  · rw [if_pos g, show b + cy - a = (b - a) + cy by omega, Nat.add_mod_right]
    exact Nat.mod_eq_of_lt (by omega)
  · rw [if_neg g]
    exact Nat.mod_eq_of_lt (by omega)
theorem zsr_on {cy n om : Nat} {sl : Nat → Nat} {j s : Nat} (h : j < n ∧ om.testBit j = true) : zsr cy n om sl j s = zsh (zfrom cy (sl j) s) := if_pos h
theorem zsr_off {cy n om : Nat} {sl : Nat → Nat} {j s : Nat} (h : ¬ (j < n ∧ om.testBit j = true)) : zsr cy n om sl j s = 0 := if_neg h
/-- in no slot is the load above that of the firings -/
theorem zld2_pk {cy n om : Nat} {sl : Nat → Nat} (hsl : ∀ c, c < n → sl c < cy) {b s : Nat} (hb : b ≤ n) (hs : s < cy) : zld2 cy n om sl b s ≤ zpk2 cy n om sl b := by
  have own : ∀ j s, j < n → zsr cy n om sl j s ≤ zsr cy n om sl j (sl j) := fun j s hj => by
    by_cases g : om.testBit j = true
    · rw [zsr_on ⟨hj, g⟩, zsr_on ⟨hj, g⟩]
      refine zsh_mono ?_
      unfold zfrom
      rw [if_pos (Nat.le_refl _), Nat.sub_self]
      exact Nat.zero_le _
    · rw [zsr_off (fun q => g q.2)]
      exact Nat.zero_le _
  have two : ∀ i j, i < n → j < n → om.testBit i = true → om.testBit j = true → zfrom cy (sl i) s ≤ zfrom cy (sl j) s → zsr cy n om sl j s ≤ zsr cy n om sl j (sl i) := fun i j hi hj gi gj hle => by
    rw [zsr_on ⟨hj, gj⟩, zsr_on ⟨hj, gj⟩]
    refine zsh_mono ?_
    have a := hsl i hi
    have c := hsl j hj
    unfold zfrom at hle ⊢
    repeat' split at hle
    all_goals split <;> omega
  have p1 : 1 ≤ b → zld2 cy n om sl b (sl (b - 1)) ≤ zpk2 cy n om sl b := fun h => by
    unfold zpk2
    rw [if_pos h]
    exact Nat.le_max_left _ _
  have p2 : b < n → zld2 cy n om sl b (sl b) ≤ zpk2 cy n om sl b := fun h => by
    unfold zpk2
    rw [if_pos h]
    exact Nat.le_max_right _ _
  have e : ∀ s, 1 ≤ b → zld2 cy n om sl b s = zsr cy n om sl (b - 1) s + zsr cy n om sl b s := fun s h => by
    unfold zld2
    rw [if_neg (by omega)]
  rcases Nat.eq_zero_or_pos b with q | q
  · subst q
    by_cases hn : 0 < n
    · refine Nat.le_trans ?_ (p2 hn)
      unfold zld2
      rw [if_pos rfl, if_pos rfl]
      have := own 0 s hn
      omega
    · have z : zld2 cy n om sl 0 s = 0 := by
        unfold zld2
        rw [if_pos rfl, zsr_off (fun q => by omega)]
      rw [z]
      exact Nat.zero_le _
  · have o1 := own (b - 1) s (by omega)
    by_cases hbn : b < n
    · have o2 := own b s hbn
      by_cases g1 : om.testBit (b - 1) = true
      · by_cases g2 : om.testBit b = true
        · rcases Nat.le_total (zfrom cy (sl (b - 1)) s) (zfrom cy (sl b) s) with w | w
          · refine Nat.le_trans ?_ (p1 q)
            rw [e _ q, e _ q]
            have := two (b - 1) b (by omega) hbn g1 g2 w
            omega
          · refine Nat.le_trans ?_ (p2 hbn)
            rw [e _ q, e _ q]
            have := two b (b - 1) hbn (by omega) g2 g1 w
            omega
        · refine Nat.le_trans ?_ (p1 q)
          rw [e _ q, e _ q, zsr_off (j := b) (fun w => g2 w.2)]
          omega
      · refine Nat.le_trans ?_ (p2 hbn)
        rw [e _ q, e _ q, zsr_off (j := b - 1) (s := s) (fun w => g1 w.2)]
        omega
    · refine Nat.le_trans ?_ (p1 q)
      rw [e _ q, e _ q, zsr_off (j := b) (fun w => hbn w.1)]
      omega
def zmxs (f : Nat → Nat) : Nat → Nat
  | 0 => 0
  | k + 1 => max (zmxs f k) (f k)
theorem zmxs_le {f : Nat → Nat} {B : Nat} : ∀ {k}, (∀ i, i < k → f i ≤ B) → zmxs f k ≤ B
  | 0, _ => Nat.zero_le _
  | k + 1, h => Nat.max_le.mpr ⟨zmxs_le (fun i hi => h i (by omega)), h k (by omega)⟩
theorem zmxs_ge {f : Nat → Nat} : ∀ {k i}, i < k → f i ≤ zmxs f k
  | 0, i, h => absurd h (Nat.not_lt_zero i)
  | k + 1, i, h => by
    rcases Nat.lt_or_ge i k with q | q
    · exact Nat.le_trans (zmxs_ge q) (Nat.le_max_left _ _)
    · rw [show i = k by omega]
      exact Nat.le_max_right _ _
theorem zmxs_pk {cy n om : Nat} {sl : Nat → Nat} (hsl : ∀ c, c < n → sl c < cy) {b : Nat} (hb : b ≤ n) : zmxs (zld2 cy n om sl b) cy = zpk2 cy n om sl b := by
  refine Nat.le_antisymm (zmxs_le (fun s hs => zld2_pk hsl hb hs)) ?_
  unfold zpk2
  refine Nat.max_le.mpr ⟨?_, ?_⟩
  · split
    · next h => exact zmxs_ge (hsl _ (by omega))
    · exact Nat.zero_le _
  · split
    · next h => exact zmxs_ge (hsl _ h)
    · exact Nat.zero_le _
def zpq (om : Nat) : Nat → Nat
  | 0 => 0
  | k + 1 => zpq om k + if om.testBit k then 1 else 0
theorem zpq_le (om : Nat) : ∀ k, zpq om k ≤ k
  | 0 => Nat.le_refl 0
  | k + 1 => by
    have := zpq_le om k
    show zpq om k + _ ≤ k + 1
    split <;> omega
theorem zpq_pop : ∀ n, n < 9 → ∀ om, om < 256 → om < 2 ^ n → zpq om n = zpop om := by decide +kernel
theorem zclr_bit : ∀ om, om < 256 → ∀ c, c < 8 → ∀ j, j < 8 → (om &&& (255 - 2 ^ c)).testBit j = (om.testBit j && decide (j ≠ c)) := by decide +kernel
theorem zclr_ne : ∀ om, om < 256 → ∀ c, c < 8 → 2 ≤ zpop om → om &&& (255 - 2 ^ c) ≠ 0 := by decide +kernel
theorem zgp_s (cy n om : Nat) (sl : Nat → Nat) (k : Nat) : zgp cy n om sl (k + 1) = if om.testBit k = true then max (zgp cy n om sl k) (zgb cy n om sl k n) else zgp cy n om sl k := rfl
theorem zgb_s (cy n om : Nat) (sl : Nat → Nat) (c k : Nat) : zgb cy n om sl c (k + 1) = if k ≠ c ∧ om.testBit k = true then min (zgb cy n om sl c k) (zfrom cy (sl c) (sl k)) else zgb cy n om sl c k := rfl
theorem zom_lt {S : zSt} {b : Bool} {c om : Nat} (hS : zWF S) (hc : c < S.n) (hom : om = (if b = true then S.om ||| 2 ^ c else S.om &&& (255 - 2 ^ c))) : om < 2 ^ S.n := by
  rw [hom]
  split
  · exact Nat.or_lt_two_pow hS.on8 (Nat.pow_lt_pow_right (by decide) hc)
  · exact Nat.lt_of_le_of_lt Nat.and_le_left hS.on8
theorem zlcmp (x : Int64) : lg_cmp x x = 0 := by
  unfold lg_cmp
  simp
theorem zwrk_le (S : zSt) (p : Int32) (t : Nat) : S.wrk p t ≤ S.wk := zrkn_le _ _ _
