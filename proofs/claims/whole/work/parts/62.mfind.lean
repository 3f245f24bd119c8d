/-! ===== the model: findOrders, its end ===== -/
theorem zbit_2 (i : Nat) : (2 * i).testBit 0 = false := by
  rw [Nat.testBit_zero]
  exact decide_eq_false (by omega)
def zch (S : zSt) : Nat := if S.sk = 4 then 2 ^ S.n else 1
theorem zch_b {S : zSt} (hS : zWF S) : zch S ≤ 256 ∧ 1 ≤ zch S := by
  have h2 : 2 ^ S.n ≤ 2 ^ 8 := Nat.pow_le_pow_right (by decide) hS.n8
  have h3 : 0 < 2 ^ S.n := Nat.pow_pos (by decide)
  unfold zch
  split <;> omega
theorem zmsk_b {S : zSt} (hS : zWF S) {i : Nat} (hi : 2 * i < zch S) (c : Nat) : zmsk S.t (2 * i) c < 6 * S.sk := by
  have l := zlo_lt (S.t c)
  unfold zmsk
  rcases hS.s24 with q | q
  · unfold zch at hi
    rw [if_neg (by omega)] at hi
    rw [show 2 * i = 0 by omega, Nat.zero_testBit, q]
    simp
    omega
  · rw [q]
    split <;> omega
theorem zdvd {S : zSt} (hS : zWF S) (hd : 6 * S.sk % S.n = 0) : S.n * (6 * S.sk / S.n) = 6 * S.sk ∧ 1 ≤ 6 * S.sk / S.n := by
  have n1 := hS.n1
  have n8 := hS.n8
  have s24 := hS.s24
  have e := Nat.div_add_mod (6 * S.sk) S.n
  rw [hd, Nat.add_zero] at e
  refine ⟨e, Nat.div_pos (by omega) (by omega)⟩
theorem zmc_some {S : zSt} (hS : zWF S) {i x : Nat} (hi : 2 * i < zch S) (h : zmc S i = some x) : x ∈ S.od ∧ ∀ k, k < S.n → zmsk S.t (2 * i) (zdg S.n x k) = (zlo (S.t 0) + k * (6 * S.sk / S.n)) % (6 * S.sk) := by
  unfold zmc at h
  by_cases hd : 6 * S.sk % S.n = 0
  · rw [if_pos hd] at h
    obtain ⟨d1, d2⟩ := zdvd hS hd
    obtain ⟨a, b⟩ := zoc_VO hS.n1 hS.n8 d1 d2 (by have := hS.s24; omega) (zbit_2 i) (fun c _ => zmsk_b hS hi c) h
    exact ⟨(zod_mem hS x).mpr ⟨hd, a⟩, b⟩
  · rw [if_neg hd] at h
    cases h
theorem zmc_all {S : zSt} (hS : zWF S) {x : Nat} (h : x ∈ S.od) : ∃ i, 2 * i < zch S ∧ zmc S i = some x := by
  obtain ⟨hd, hV⟩ := (zod_mem hS x).mp h
  obtain ⟨d1, d2⟩ := zdvd hS hd
  obtain ⟨w, w1, w2, w3, w4⟩ := zVO_oc hS.n1 hS.n8 d1 d2 (by have := hS.s24; omega) hV
  have ev : 2 * (w / 2) = w := by
    rw [Nat.testBit_zero] at w2
    have := of_decide_eq_false w2
    omega
  refine ⟨w / 2, ?_, ?_⟩
  · rw [ev]
    unfold zch
    rcases hS.s24 with q | q
    · rw [if_neg (by omega), w3 (by omega)]
      decide
    · rw [if_pos q]
      exact w1
  · unfold zmc
    rw [if_pos hd, ev]
    exact w4
theorem zmc_inj {S : zSt} (hS : zWF S) {i j x : Nat} (hi : 2 * i < zch S) (hj : 2 * j < zch S) (h1 : zmc S i = some x) (h2 : zmc S j = some x) : i = j := by
  obtain ⟨a1, a2⟩ := zmc_some hS hi h1
  obtain ⟨b1, b2⟩ := zmc_some hS hj h2
  obtain ⟨hd, hV⟩ := (zod_mem hS x).mp a1
  have hz : zch S ≤ 2 ^ S.n := by
    unfold zch
    split
    · exact Nat.le_refl _
    · exact Nat.pow_pos (by decide)
  have := zmsk_inj hS.n1 (Nat.lt_of_lt_of_le hi hz) (Nat.lt_of_lt_of_le hj hz) hV a2 b2
  omega
/-- the codes as they stand after i masks -/
abbrev zCS (S : zSt) (i m : Nat) (f : Nat → Nat) : Prop := (∀ a b, a < b → b < m → f a < f b) ∧ (∀ x, (∃ j, j < m ∧ f j = x) ↔ ∃ k, k < i ∧ zmc S k = some x) ∧ (m ≤ i)
theorem zCS.up {S : zSt} {i m : Nat} {f : Nat → Nat} (h : zCS S i m f) : ∀ a b, a < b → b < m → f a < f b := h.1
theorem zCS.mem {S : zSt} {i m : Nat} {f : Nat → Nat} (h : zCS S i m f) : ∀ x, (∃ j, j < m ∧ f j = x) ↔ ∃ k, k < i ∧ zmc S k = some x := h.2.1
theorem zCS.le {S : zSt} {i m : Nat} {f : Nat → Nat} (h : zCS S i m f) : m ≤ i := h.2.2
theorem zCS_none {S : zSt} {i m : Nat} {f : Nat → Nat} (h : zCS S i m f) (hz : zmc S i = none) : zCS S (i + 1) m f := by
  refine ⟨h.up, fun x => ?_, by have := h.le; omega⟩
  rw [h.mem]
  refine ⟨fun ⟨k, hk, e⟩ => ⟨k, by omega, e⟩, fun ⟨k, hk, e⟩ => ⟨k, Nat.lt_of_le_of_ne (by omega) (fun q => ?_), e⟩⟩
  rw [q, hz] at e
  cases e
theorem zCS_some {S : zSt} {i m p x : Nat} {f : Nat → Nat} (h : zCS S i m f) (hz : zmc S i = some x) (hp : p ≤ m) (lo : ∀ j, j < p → f j < x) (hi : ∀ j, p ≤ j → j < m → x < f j) : zCS S (i + 1) (m + 1) (zinG f p x m) := by
  refine ⟨fun a b hab hb => ?_, fun y => ?_, by have := h.le; omega⟩
  · unfold zinG
    by_cases a1 : a = p
    · rw [if_pos a1, if_neg (by omega), if_pos (by omega)]
      exact hi _ (by omega) (by omega)
    · rw [if_neg a1]
      by_cases b1 : b = p
      · rw [if_pos b1, if_neg (by omega)]
        exact lo a (by omega)
      · rw [if_neg b1]
        by_cases a2 : p < a
        · rw [if_pos (by omega), if_pos (by omega)]
          exact h.up _ _ (by omega) (by omega)
        · rw [if_neg (by omega)]
          by_cases b2 : p < b
          · rw [if_pos (by omega)]
            rcases Nat.lt_or_ge a (b - 1) with q | q
            · exact h.up _ _ q (by omega)
            · omega
          · rw [if_neg (by omega)]
            exact h.up _ _ hab (by omega)
  · constructor
    · rintro ⟨j, hj, e⟩
      unfold zinG at e
      split at e
      · exact ⟨i, by omega, by rw [hz, e]⟩
      · split at e
        · obtain ⟨k, hk, e2⟩ := (h.mem y).mp ⟨j - 1, by omega, e⟩
          exact ⟨k, by omega, e2⟩
        · obtain ⟨k, hk, e2⟩ := (h.mem y).mp ⟨j, by omega, e⟩
          exact ⟨k, by omega, e2⟩
    · rintro ⟨k, hk, e⟩
      rcases Nat.lt_or_ge k i with q | q
      · obtain ⟨j, hj, ej⟩ := (h.mem y).mpr ⟨k, q, e⟩
        rcases Nat.lt_or_ge j p with w | w
        · refine ⟨j, by omega, ?_⟩
          unfold zinG
          rw [if_neg (by omega), if_neg (by omega)]
          exact ej
        · refine ⟨j + 1, by omega, ?_⟩
          unfold zinG
          rw [if_neg (by omega), if_pos (by omega), Nat.add_sub_cancel]
          exact ej
      · rw [show k = i by omega, hz] at e
        cases e
        refine ⟨p, by omega, ?_⟩
        unfold zinG
        rw [if_pos rfl]
theorem zCS_end {S : zSt} (hS : zWF S) {i m : Nat} {f : Nat → Nat} (h : zCS S i m f) (hi : zch S ≤ 2 * i) (hi2 : ∀ k, k < i → 2 * k < zch S) : m = S.od.length ∧ ∀ o, o < m → f o = S.od.getD o 0 := by
  have e : (List.range m).map f = S.od := by
    refine zsrt_eq ?_ (zod_sort hS) (fun x => ?_)
    · rw [List.pairwise_map, List.pairwise_iff_getElem]
      intro a b ha hb hab
      rw [List.getElem_range, List.getElem_range]
      rw [List.length_range] at hb
      exact h.up a b hab hb
    · rw [List.mem_map]
      constructor
      · rintro ⟨j, hj, ej⟩
        obtain ⟨k, hk, e2⟩ := (h.mem x).mp ⟨j, List.mem_range.mp hj, ej⟩
        exact (zmc_some hS (hi2 k hk) e2).1
      · intro hx
        obtain ⟨k, hk, e2⟩ := zmc_all hS hx
        obtain ⟨j, hj, ej⟩ := (h.mem x).mpr ⟨k, by omega, e2⟩
        exact ⟨j, List.mem_range.mpr hj, ej⟩
  have hl : m = S.od.length := by rw [← e, List.length_map, List.length_range]
  refine ⟨hl, fun o ho => ?_⟩
  rw [← e, List.getD_eq_getElem?_getD, List.getElem?_eq_getElem (by rw [List.length_map, List.length_range]; exact ho), List.getElem_map, List.getElem_range]
  rfl
