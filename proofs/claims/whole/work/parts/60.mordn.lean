/-! ===== at most eight orders ===== -/
theorem zVO_due {n sp : Nat} {t : Nat → Nat} {x k : Nat} (h : zVO n sp t x) (hk : k < n) : zlo (t (zdg n x k)) = (zlo (t 0) + k * sp) % 12 := by
  rcases Nat.eq_zero_or_pos k with q | q
  · rw [q, h.d0, Nat.zero_mul, Nat.add_zero]
    exact (Nat.mod_eq_of_lt (zlo_lt _)).symm
  · exact h.due k q hk
theorem zVO_tw {n sp h : Nat} {t : Nat → Nat} {x y : Nat} (hn1 : 1 ≤ n) (hx : zVO n sp t x) (hy : zVO n sp t y) (hh : 1 ≤ h) (hp : ∀ j k, j < n → k < n → (zlo (t 0) + j * sp) % 12 = (zlo (t 0) + k * sp) % 12 → j = k ∨ j = k + h ∨ k = j + h) (h2 : n ≤ 2 * h) (hb : ∀ k, 1 ≤ k → k < h → k + h < n → (zdg n x k < zdg n x (k + h) ↔ zdg n y k < zdg n y (k + h))) : x = y := by
  have to : ∀ k, k < n → ∃ j, j < n ∧ zdg n y j = zdg n x k ∧ (j = k ∨ j = k + h ∨ k = j + h) := fun k hk => by
    obtain ⟨j, hj, ej⟩ := fb_onto (n := n) (f := zdg n y) hy.lt hy.inj (hx.lt k hk)
    refine ⟨j, hj, ej, hp j k hj hk ?_⟩
    rw [← zVO_due hy hj, ← zVO_due hx hk, ej]
  have ne : ∀ {z}, zVO n sp t z → ∀ i j, i < n → j < n → i ≠ j → zdg n z i ≠ zdg n z j := fun hz i j hi hj hij => by
    rcases Nat.lt_or_ge i j with q | q
    · exact hz.inj i j q hj
    · exact fun e => hz.inj j i (by omega) hi e.symm
  have low : ∀ k, k < h → k < n → zdg n x k = zdg n y k := fun k hk hkn => by
    rcases Nat.eq_zero_or_pos k with q | q
    · rw [q, hx.d0, hy.d0]
    · obtain ⟨j, hj, ej, c⟩ := to k hkn
      rcases c with c | c | c
      · rw [← ej, c]
      · exfalso
        obtain ⟨j2, hj2, ej2, c2⟩ := to (k + h) (by omega)
        have c2 : j2 = k ∨ j2 = k + h := by omega
        rcases c2 with c2 | c2
        · have b := hb k q hk (by omega)
          rw [c] at ej
          rw [c2] at ej2
          rw [← ej, ← ej2] at b
          have := ne hy k (k + h) hkn (by omega) (by omega)
          omega
        · rw [c] at ej
          rw [c2] at ej2
          exact ne hx k (k + h) hkn (by omega) (by omega) (by rw [← ej, ← ej2])
      · omega
  refine zdg_eq hx.big hy.big (fun k hk => ?_)
  rcases Nat.lt_or_ge k h with q | q
  · exact low k q hk
  · obtain ⟨j, hj, ej, c⟩ := to k hk
    rcases c with c | c | c
    · rw [← ej, c]
    · omega
    · exfalso
      have := low j (by omega) hj
      rw [ej] at this
      exact ne hx j k hj hk (by omega) this
theorem zpair {n sk a j k : Nat} (hn1 : 1 ≤ n) (hn : n ≤ 8) (hs : sk = 2 ∨ sk = 4) (hd : 6 * sk % n = 0) : ∃ h, 1 ≤ h ∧ h ≤ 8 ∧ n ≤ 2 * h ∧ (∀ k, k < h → k + h < n → k < 4) ∧ ∀ a j k, j < n → k < n → (a + j * (6 * sk / n)) % 12 = (a + k * (6 * sk / n)) % 12 → j = k ∨ j = k + h ∨ k = j + h := by
  have hq : n = 1 ∨ n = 2 ∨ n = 3 ∨ n = 4 ∨ n = 5 ∨ n = 6 ∨ n = 7 ∨ n = 8 := by omega
  rcases hs with rfl | rfl
  · refine ⟨n, hn1, hn, by omega, fun k h1 h2 => by omega, fun a j k hj hk he => ?_⟩
    rcases hq with rfl | rfl | rfl | rfl | rfl | rfl | rfl | rfl <;> first | (exfalso; exact absurd hd (by decide)) | (simp only [Nat.reduceMul, Nat.reduceDiv] at he; omega)
  · by_cases ev : n % 2 = 0
    · refine ⟨n / 2, by omega, by omega, by omega, fun k h1 h2 => by omega, fun a j k hj hk he => ?_⟩
      rcases hq with rfl | rfl | rfl | rfl | rfl | rfl | rfl | rfl <;> first | (exfalso; exact absurd hd (by decide)) | (exfalso; exact absurd ev (by decide)) | (simp only [Nat.reduceMul, Nat.reduceDiv] at he ⊢; omega)
    · refine ⟨n, hn1, hn, by omega, fun k h1 h2 => by omega, fun a j k hj hk he => ?_⟩
      rcases hq with rfl | rfl | rfl | rfl | rfl | rfl | rfl | rfl <;> first | (exfalso; exact absurd hd (by decide)) | (exfalso; exact ev (by decide)) | (simp only [Nat.reduceMul, Nat.reduceDiv] at he; omega)
def zthr (p q r : Prop) [Decidable p] [Decidable q] [Decidable r] : Nat := (if p then 1 else 0) + 2 * (if q then 1 else 0) + 4 * (if r then 1 else 0)
theorem zdfs_8 {n sk : Nat} {t : Nat → Nat} (hn1 : 1 ≤ n) (hn : n ≤ 8) (hs : sk = 2 ∨ sk = 4) (hd : 6 * sk % n = 0) : (zdfs n (6 * sk / n) t (n - 1) 1 0 1).length ≤ 8 := by
  obtain ⟨h, hh1, hh8, hh2, hh4, hp⟩ := zpair (a := 0) (j := 0) (k := 0) hn1 hn hs hd
  have hsort := zsort_dfs (n := n) (sp := 6 * sk / n) (t := t) hn (n - 1) 1 0 1 (by omega) (by omega)
  have hmem : ∀ x, x ∈ zdfs n (6 * sk / n) t (n - 1) 1 0 1 ↔ zVO n (6 * sk / n) t x := fun x => zVO_iff hn1 hn
  generalize zdfs n (6 * sk / n) t (n - 1) 1 0 1 = l at hsort hmem
  have g : ∀ x : Nat, ∃ z, z = zthr (zdg n x 1 < zdg n x (1 + h)) (zdg n x 2 < zdg n x (2 + h)) (zdg n x 3 < zdg n x (3 + h)) := fun x => ⟨_, rfl⟩
  refine fb_holes 8 l.length (fun i => zthr (zdg n (l.getD i 0) 1 < zdg n (l.getD i 0) (1 + h)) (zdg n (l.getD i 0) 2 < zdg n (l.getD i 0) (2 + h)) (zdg n (l.getD i 0) 3 < zdg n (l.getD i 0) (3 + h))) (fun i hi => ?_) (fun i j hij hj e => ?_)
  · show zthr _ _ _ < 8
    unfold zthr
    repeat' split
    all_goals omega
  · have mi : zVO n (6 * sk / n) t (l.getD i 0) := (hmem _).mp (by
      rw [List.getD_eq_getElem?_getD, List.getElem?_eq_getElem (show i < l.length by omega)]
      exact List.getElem_mem _)
    have mj : zVO n (6 * sk / n) t (l.getD j 0) := (hmem _).mp (by
      rw [List.getD_eq_getElem?_getD, List.getElem?_eq_getElem hj]
      exact List.getElem_mem _)
    have lt : l.getD i 0 < l.getD j 0 := by
      rw [List.getD_eq_getElem?_getD, List.getElem?_eq_getElem (show i < l.length by omega), List.getD_eq_getElem?_getD, List.getElem?_eq_getElem hj]
      exact List.pairwise_iff_getElem.mp hsort i j (by omega) hj hij
    have eq : l.getD i 0 = l.getD j 0 := by
      refine zVO_tw hn1 mi mj hh1 (fun j k hj hk => hp (zlo (t 0)) j k hj hk) hh2 (fun k hk1 hk hkn => ?_)
      have hk4 := hh4 k hk hkn
      have hq : k = 1 ∨ k = 2 ∨ k = 3 := by omega
      have e : zthr _ _ _ = zthr _ _ _ := e
      unfold zthr at e
      rcases hq with rfl | rfl | rfl
      · repeat' split at e
        all_goals first | omega | (constructor <;> intro <;> first | assumption | omega)
      · repeat' split at e
        all_goals first | omega | (constructor <;> intro <;> first | assumption | omega)
      · repeat' split at e
        all_goals first | omega | (constructor <;> intro <;> first | assumption | omega)
    omega
theorem zsrt_eq : ∀ {l m : List Nat}, l.Pairwise (fun a b => a < b) → m.Pairwise (fun a b => a < b) → (∀ x, x ∈ l ↔ x ∈ m) → l = m
  | [], [], _, _, _ => rfl
  | [], b :: m, _, _, h => absurd ((h b).mpr List.mem_cons_self) List.not_mem_nil
  | a :: l, [], _, _, h => absurd ((h a).mp List.mem_cons_self) List.not_mem_nil
  | a :: l, b :: m, h1, h2, h => by
    obtain ⟨a1, a2⟩ := List.pairwise_cons.mp h1
    obtain ⟨b1, b2⟩ := List.pairwise_cons.mp h2
    have e : a = b := by
      rcases List.mem_cons.mp ((h a).mp List.mem_cons_self) with q | q
      · exact q
      · rcases List.mem_cons.mp ((h b).mpr List.mem_cons_self) with q2 | q2
        · exact q2.symm
        · have := a1 b q2
          have := b1 a q
          omega
    subst e
    refine congrArg (fun z => a :: z) (zsrt_eq a2 b2 (fun x => ⟨fun hx => ?_, fun hx => ?_⟩))
    · rcases List.mem_cons.mp ((h x).mp (List.mem_cons_of_mem _ hx)) with q | q
      · have := a1 x hx
        omega
      · exact q
    · rcases List.mem_cons.mp ((h x).mpr (List.mem_cons_of_mem _ hx)) with q | q
      · have := b1 x hx
        omega
      · exact q
theorem zod_is {S : zSt} (hS : zWF S) (hd : 6 * S.sk % S.n = 0) : S.od = zdfs S.n (6 * S.sk / S.n) S.t (S.n - 1) 1 0 1 := by
  unfold zSt.od zord
  rw [if_pos hd]
  exact List.take_of_length_le (zdfs_8 hS.n1 hS.n8 hS.s24 hd)
theorem zod_mem {S : zSt} (hS : zWF S) (x : Nat) : x ∈ S.od ↔ 6 * S.sk % S.n = 0 ∧ zVO S.n (6 * S.sk / S.n) S.t x := by
  by_cases hd : 6 * S.sk % S.n = 0
  · rw [zod_is hS hd, zVO_iff hS.n1 hS.n8]
    exact ⟨fun h => ⟨hd, h⟩, fun h => h.2⟩
  · unfold zSt.od zord
    rw [if_neg hd]
    exact ⟨fun h => absurd h List.not_mem_nil, fun h => absurd h.1 hd⟩
theorem zod_sort {S : zSt} (hS : zWF S) : S.od.Pairwise (fun a b => a < b) := by
  by_cases hd : 6 * S.sk % S.n = 0
  · rw [zod_is hS hd]
    have := hS.n1
    exact zsort_dfs hS.n8 (S.n - 1) 1 0 1 (by omega) (by omega)
  · unfold zSt.od zord
    rw [if_neg hd]
    exact List.Pairwise.nil
