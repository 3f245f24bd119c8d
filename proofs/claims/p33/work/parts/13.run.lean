/-! ===== running methods by computation ===== -/
/-- what an outcome asks -/
def zxo (fz : zFz) (d o : Nat) (ini : Bool) (cc : ByteArray) (Q : Option Value → zS → Prop) (K : zC → Prop) (st : zS) : zO → Prop
  | .inl (P, c') => P ∧ K c'
  | .inr (.inl (P, b, ct, cf)) => P ∧ (b → K ct) ∧ (¬ b → K cf)
  | .inr (.inr (.inl (P, x, cs, df))) => P ∧ (∀ q ∈ cs, x.toInt = q.1 → K q.2) ∧ ((∀ q ∈ cs, ¬ x.toInt = q.1) → K df)
  | .inr (.inr (.inr (.inl (P, mid, as, pc', lv', rest)))) => P ∧ zcl fz d mid as st (fun ro so => zwp fz d o ini cc (pc', lv', ro.toList ++ rest, so) Q)
  | .inr (.inr (.inr (.inr v))) => Q v st
def zxd (fz : zFz) (d o : Nat) (ini : Bool) (cc : ByteArray) (Q : Option Value → zS → Prop) (K : zC → Prop) (pc : Nat) (lv : zL) (stk : List Value) (st : zS) : Except DecodeError (Instr × Nat) → Prop
  | .ok (i, len) => (zlen i = 0 ∨ zlen i = len) ∧ zxo fz d o ini cc Q K st (zone fz o ini i pc lv stk st)
  | .error _ => False
section
variable {fz : zFz} {d o : Nat} {ini : Bool} {cc : ByteArray} {Q : Option Value → zS → Prop} {stops : List Nat} {n pc : Nat} {lv : zL} {stk : List Value} {st : zS}
theorem zx_step : zx fz d o ini cc Q stops (n + 1) (pc, lv, stk, st) = zxd fz d o ini cc Q (fun c' => if c'.1 ∈ stops then zwp fz d o ini cc c' Q else zx fz d o ini cc Q stops n c') pc lv stk st (decode cc pc) := by
  show (match decode cc pc with
    | .ok (i, len) => _
    | .error _ => False) = _
  cases decode cc pc with
  | error e => rfl
  | ok q =>
    obtain ⟨i, len⟩ := q
    show (_ ∧ _) = (_ ∧ _)
    congr 1
variable {K : zC → Prop}
theorem zxd_ok {i : Instr} {len : Nat} : zxd fz d o ini cc Q K pc lv stk st (.ok (i, len)) = ((zlen i = 0 ∨ zlen i = len) ∧ zxo fz d o ini cc Q K st (zone fz o ini i pc lv stk st)) := rfl
theorem zxo_1 {P : Prop} {c' : zC} : zxo fz d o ini cc Q K st (.inl (P, c')) = (P ∧ K c') := rfl
theorem zxo_2 {P b : Prop} {ct cf : zC} : zxo fz d o ini cc Q K st (.inr (.inl (P, b, ct, cf))) = (P ∧ (b → K ct) ∧ (¬ b → K cf)) := rfl
theorem zxo_3 {P : Prop} {x : Int32} {cs : List (Int × zC)} {df : zC} : zxo fz d o ini cc Q K st (.inr (.inr (.inl (P, x, cs, df)))) = (P ∧ (∀ q ∈ cs, x.toInt = q.1 → K q.2) ∧ ((∀ q ∈ cs, ¬ x.toInt = q.1) → K df)) := rfl
theorem zxo_4 {P : Prop} {mid : Nat} {as : List Value} {pc' : Nat} {lv' : zL} {rest : List Value} : zxo fz d o ini cc Q K st (.inr (.inr (.inr (.inl (P, mid, as, pc', lv', rest))))) = (P ∧ zcl fz d mid as st (fun ro so => zwp fz d o ini cc (pc', lv', ro.toList ++ rest, so) Q)) := rfl
theorem zxo_5 {v : Option Value} : zxo fz d o ini cc Q K st (.inr (.inr (.inr (.inr v)))) = Q v st := rfl
end
theorem zmL_len : zmL.length = 92 := by decide +kernel
theorem zf4_0 : ((0 : Fin 4) : Nat) = 0 := rfl
theorem zf4_1 : ((1 : Fin 4) : Nat) = 1 := rfl
theorem zf4_2 : ((2 : Fin 4) : Nat) = 2 := rfl
theorem zf4_3 : ((3 : Fin 4) : Nat) = 3 := rfl
theorem zrt_i {x : Int32} : zrt (some .int) (some (.int x)) = True := rfl
theorem zrt_l {x : Int64} : zrt (some .long) (some (.long x)) = True := rfl
theorem zrt_v : zrt none none = True := rfl
theorem zrt_b {x : Int32} : zrt (some .boolean) (some (.int x)) = (x = 0 ∨ x = 1) := rfl
theorem zup_at {α : Type} {f : Nat → α} {k j : Nat} {v : α} : va_up f k v j = if j = k then v else f j := by
  by_cases h : j = k <;> simp [va_up, h]
theorem zupd_at {f : Nat → Int32} {k j : Nat} {v : Int32} : upd f k v j = if j = k then v else f j := by
  by_cases h : j = k <;> simp [upd, h]
/-- a loop: the states at its head, by their number -/
theorem zloop {fz : zFz} {d o : Nat} {ini : Bool} {cc : ByteArray} {Q : Option Value → zS → Prop} (n : Nat) (I : Nat → zC) (hend : zwp fz d o ini cc (I n) Q) (hstep : ∀ i, i < n → zwp fz d o ini cc (I (i + 1)) Q → zwp fz d o ini cc (I i) Q) : ∀ i, i ≤ n → zwp fz d o ini cc (I i) Q := by
  have h : ∀ k, k ≤ n → zwp fz d o ini cc (I (n - k)) Q := by
    intro k
    induction k with
    | zero => exact fun _ => hend
    | succ k ih =>
      intro hk
      have e : n - k = n - (k + 1) + 1 := by omega
      have := ih (by omega)
      rw [e] at this
      exact hstep _ (by omega) this
  intro i hi
  have := h (n - i) (by omega)
  rwa [show n - (n - i) = i by omega] at this
/-- a loop by an invariant -/
theorem zloopI {fz : zFz} {d o : Nat} {ini : Bool} {cc : ByteArray} {Q : Option Value → zS → Prop} (n : Nat) (I : Nat → zC → Prop) (hend : ∀ c, I n c → zwp fz d o ini cc c Q) (hstep : ∀ i c, i < n → I i c → (∀ c', I (i + 1) c' → zwp fz d o ini cc c' Q) → zwp fz d o ini cc c Q) : ∀ i c, i ≤ n → I i c → zwp fz d o ini cc c Q := by
  have h : ∀ k, k ≤ n → ∀ c, I (n - k) c → zwp fz d o ini cc c Q := by
    intro k
    induction k with
    | zero => exact fun _ => hend
    | succ k ih =>
      intro hk c hc
      refine hstep _ c (by omega) hc (fun c' hc' => ih (by omega) c' ?_)
      rwa [show n - (k + 1) + 1 = n - k by omega] at hc'
  intro i c hi hc
  exact h (n - i) (by omega) c (by rwa [show n - (n - i) = i by omega])
