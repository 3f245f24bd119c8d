/-! ===== the abstract machine is the machine's: pictures, locals, single steps ===== -/
def zad (base : Nat) (fa : Nat → Nat) (k : Nat) : Nat := if k < 1000 then base + k else fa (k - 1000)
def zV (base : Nat) (fa : Nat → Nat) : Value → Value
  | .ref k => .ref (zad base fa k)
  | v => v
def zFd (base : Nat) (fa : Nat → Nat) (row : Nat → Int32) (k : Nat) : Option Value → Value
  | none => .int (row k)
  | some v => zV base fa v
def zF (base : Nat) (fa : Nat → Nat) (row : Nat → Int32) (fs : List (Option Value)) : List Value := fs.zipIdx.map (fun q => zFd base fa row q.2 q.1)
def zE (base : Nat) (fa : Nat → Nat) (cA : FieldType → ClassId) (row : Nat → Int32) : zSh → va_E
  | .inl (ty, n) => .inl (cA ty, n, .inl row)
  | .inr (ci, fs) => .inr (ci, zF base fa row fs)
def zW (base : Nat) (fa : Nat → Nat) (cA : FieldType → ClassId) (st : zS) : va_W := st.1.zipIdx.map (fun q => (base + q.2, zE base fa cA (st.2 q.2) q.1))
def zsz : zSh → Nat
  | .inl (_, n) => n
  | .inr (_, fs) => fs.length
def zsl (sh : List zSh) : Nat := (sh.map zsz).sum
section ZP
variable {base : Nat} {fa : Nat → Nat} {cA : FieldType → ClassId}
theorem zad_lo {k : Nat} (h : k < 1000) : zad base fa k = base + k := if_pos h
theorem zad_hi {k : Nat} (h : ¬ k < 1000) : zad base fa k = fa (k - 1000) := if_neg h
theorem zV_cat (v : Value) : (zV base fa v).category = v.category := by cases v <;> rfl
theorem zwide_map (l : List Value) : ((l.map (zV base fa)).map fun v => v.category).sum = zwide l := by
  unfold zwide
  rw [List.map_map]
  congr 1
  exact List.map_congr_left (fun v _ => zV_cat v)
theorem zW_get {st : zS} {k : Nat} {x : zSh} (h : st.1[k]? = some x) : (zW base fa cA st)[k]? = some (base + k, zE base fa cA (st.2 k) x) := by
  simp [zW, List.getElem?_zipIdx, h]
theorem zW_len {st : zS} : (zW base fa cA st).length = st.1.length := by simp [zW]
theorem zW_at {st : zS} {k : Nat} {q : Nat × va_E} (h : (zW base fa cA st)[k]? = some q) : ∃ x, st.1[k]? = some x ∧ q = (base + k, zE base fa cA (st.2 k) x) := by
  have hl : k < st.1.length := by
    have := (List.getElem?_eq_some_iff.mp h).1
    rwa [zW_len] at this
  refine ⟨st.1[k], List.getElem?_eq_getElem hl, ?_⟩
  have h2 := zW_get (base := base) (fa := fa) (cA := cA) (List.getElem?_eq_getElem hl)
  rw [h] at h2
  exact Option.some.inj h2
theorem zW_D (st : zS) : va_D (fun q : Nat => base ≤ q) (zW base fa cA st) := by
  refine ⟨fun i j p q hi hj e => ?_, fun k q hk => ?_⟩
  · obtain ⟨x, -, rfl⟩ := zW_at hi
    obtain ⟨y, -, rfl⟩ := zW_at hj
    have e' : base + i = base + j := e
    omega
  · obtain ⟨x, -, rfl⟩ := zW_at hk
    exact Nat.le_add_right _ _
theorem zW_none {st : zS} {k : Nat} (h : st.1[k]? = none) : (zW base fa cA st)[k]? = none := by
  rw [List.getElem?_eq_none_iff] at h ⊢
  rwa [zW_len]
theorem zW_row {st : zS} {k : Nat} {x : zSh} (h : st.1[k]? = some x) (row : Nat → Int32) : (zW base fa cA st).set k (base + k, zE base fa cA row x) = zW base fa cA (st.1, va_up st.2 k row) := by
  apply List.ext_getElem?
  intro j
  by_cases hj : j = k
  · subst hj
    rw [List.getElem?_set_self (by rw [zW_len]; exact (List.getElem?_eq_some_iff.mp h).1), zW_get (st := (st.1, va_up st.2 j row)) h]
    simp [va_up]
  · rw [List.getElem?_set_ne (Ne.symm hj)]
    cases hx : st.1[j]? with
    | none => rw [zW_none hx, zW_none (st := (st.1, va_up st.2 k row)) hx]
    | some y => rw [zW_get hx, zW_get (st := (st.1, va_up st.2 k row)) hx]; simp [va_up, hj]
theorem zW_shape {st : zS} {k : Nat} {x y : zSh} (h : st.1[k]? = some x) : (zW base fa cA st).set k (base + k, zE base fa cA (st.2 k) y) = zW base fa cA (st.1.set k y, st.2) := by
  have hk := (List.getElem?_eq_some_iff.mp h).1
  apply List.ext_getElem?
  intro j
  by_cases hj : j = k
  · subst hj
    rw [List.getElem?_set_self (by rw [zW_len]; exact hk), zW_get (st := (st.1.set j y, st.2)) (List.getElem?_set_self hk)]
  · rw [List.getElem?_set_ne (Ne.symm hj)]
    have e2 : (st.1.set k y)[j]? = st.1[j]? := List.getElem?_set_ne (Ne.symm hj)
    cases hx : st.1[j]? with
    | none => rw [zW_none hx, zW_none (st := (st.1.set k y, st.2)) (e2.trans hx)]
    | some z => rw [zW_get hx, zW_get (st := (st.1.set k y, st.2)) (e2.trans hx)]
theorem zW_push {st : zS} {x : zSh} (row : Nat → Int32) : zW base fa cA (st.1 ++ [x], va_up st.2 st.1.length row) = zW base fa cA st ++ [(base + st.1.length, zE base fa cA row x)] := by
  apply List.ext_getElem?
  intro j
  rcases Nat.lt_trichotomy j st.1.length with hj | hj | hj
  · have h1 : (st.1 ++ [x])[j]? = some st.1[j] := by rw [List.getElem?_append_left hj]; exact List.getElem?_eq_getElem hj
    rw [zW_get (st := (st.1 ++ [x], va_up st.2 st.1.length row)) h1, List.getElem?_append_left (by rw [zW_len]; exact hj), zW_get (List.getElem?_eq_getElem hj)]
    simp [va_up, Nat.ne_of_lt hj]
  · subst hj
    have h1 : (st.1 ++ [x])[st.1.length]? = some x := by simp
    rw [zW_get (st := (st.1 ++ [x], va_up st.2 st.1.length row)) h1, List.getElem?_append_right (by rw [zW_len]; exact Nat.le_refl _), zW_len]
    simp [va_up]
  · rw [zW_none (st := (st.1 ++ [x], va_up st.2 st.1.length row)) (by rw [List.getElem?_eq_none_iff]; simp; omega)]
    rw [eq_comm, List.getElem?_eq_none_iff]
    simp [zW_len]
    omega
theorem zF_len {row : Nat → Int32} {fs : List (Option Value)} : (zF base fa row fs).length = fs.length := by simp [zF]
theorem zF_get {row : Nat → Int32} {fs : List (Option Value)} {k : Nat} {o : Option Value} (h : fs[k]? = some o) : (zF base fa row fs)[k]? = some (zFd base fa row k o) := by
  simp [zF, List.getElem?_zipIdx, h]
theorem zF_none {row : Nat → Int32} {fs : List (Option Value)} {k : Nat} (h : fs[k]? = none) : (zF base fa row fs)[k]? = none := by
  rw [List.getElem?_eq_none_iff] at h ⊢
  rwa [zF_len]
theorem zF_setI {row : Nat → Int32} {fs : List (Option Value)} {k : Nat} {x : Int32} (h : fs[k]? = some none) : (zF base fa row fs).set k (.int x) = zF base fa (upd row k x) fs := by
  have hk := (List.getElem?_eq_some_iff.mp h).1
  apply List.ext_getElem?
  intro j
  by_cases hj : j = k
  · subst hj
    rw [List.getElem?_set_self (by rw [zF_len]; exact hk), zF_get h]
    simp [zFd, upd]
  · rw [List.getElem?_set_ne (Ne.symm hj)]
    cases hx : fs[j]? with
    | none => rw [zF_none hx, zF_none hx]
    | some o => rw [zF_get hx, zF_get hx]; cases o <;> simp [zFd, upd, hj]
theorem zF_setR {row : Nat → Int32} {fs : List (Option Value)} {k : Nat} {v w : Value} (h : fs[k]? = some (some v)) : (zF base fa row fs).set k (zV base fa w) = zF base fa row (fs.set k (some w)) := by
  have hk := (List.getElem?_eq_some_iff.mp h).1
  apply List.ext_getElem?
  intro j
  by_cases hj : j = k
  · subst hj
    rw [List.getElem?_set_self (by rw [zF_len]; exact hk), zF_get (List.getElem?_set_self hk)]
    rfl
  · rw [List.getElem?_set_ne (Ne.symm hj)]
    have e2 : (fs.set k (some w))[j]? = fs[j]? := List.getElem?_set_ne (Ne.symm hj)
    cases hx : fs[j]? with
    | none => rw [zF_none hx, zF_none (e2.trans hx)]
    | some o => rw [zF_get hx, zF_get (e2.trans hx)]
theorem zsl_set {sh : List zSh} {k : Nat} {x y : zSh} (h : sh[k]? = some x) (hs : zsz y = zsz x) : zsl (sh.set k y) = zsl sh := by
  unfold zsl
  congr 1
  apply List.ext_getElem?
  intro j
  have hk := (List.getElem?_eq_some_iff.mp h).1
  by_cases hj : j = k
  · subst hj
    rw [List.getElem?_map, List.getElem?_map, List.getElem?_set_self hk, h]
    simp [hs]
  · rw [List.getElem?_map, List.getElem?_map, List.getElem?_set_ne (Ne.symm hj)]
theorem zsl_push {sh : List zSh} {x : zSh} : zsl (sh ++ [x]) = zsl sh + zsz x := by simp [zsl]
end ZP
/-! locals -/
def zLr (base : Nat) (fa : Nat → Nat) (nL : Nat) (lv : zL) (ls : Array Slot) : Prop := ls.size = nL ∧ lv.length = nL ∧ lv_wf ls ∧ ∀ (j : Nat) (v : Value), lv[j]? = some (some v) → zplain v = true → (v.category = 2 → lv[j + 1]? = some (some .null)) → ls[j]? = some (.val (zV base fa v))
def zAll (ls : Array Slot) : List (Nat × Value) := (List.range ls.size).filterMap (fun (j : Nat) => match ls[j]? with
  | some (Slot.val v) => some (j, v)
  | _ => none)
theorem zAll_mem {ls : Array Slot} {j : Nat} {v : Value} (h : ls[j]? = some (.val v)) : (j, v) ∈ zAll ls := by
  refine List.mem_filterMap.mpr ⟨j, List.mem_range.mpr (Array.getElem?_eq_some_iff.mp h).1, ?_⟩
  rw [h]
theorem zAll_at {ls : Array Slot} {q : Nat × Value} (h : q ∈ zAll ls) : ls[q.1]? = some (.val q.2) := by
  obtain ⟨j, -, hj⟩ := List.mem_filterMap.mp h
  split at hj
  · rename_i v hv
    cases hj
    exact hv
  · cases hj
theorem zAll_has {base : Nat} {fa : Nat → Nat} {nL : Nat} {lv : zL} {ls : Array Slot} (h : zLr base fa nL lv ls) : lv_has ls nL (zAll ls) := ⟨h.1, h.2.2.1, fun _ hq => zAll_at hq⟩
theorem zLr_st1 {base : Nat} {fa : Nat → Nat} {nL : Nat} {lv : zL} {ls ls' : Array Slot} {k : Nat} {v : Value} (h : zLr base fa nL lv ls) (hk : k < lv.length) (hv : zplain v = true) (hc : v.category = 1)
    (h' : lv_has ls' nL ((k, zV base fa v) :: (zAll ls).filter (fun q => !(q.1 == k) && !(q.1 + 1 == k && q.2.category == 2)))) : zLr base fa nL (lv.set k (some v)) ls' := by
  refine ⟨h'.1, by rw [List.length_set]; exact h.2.1, h'.2.1, fun j w hj hp hw => ?_⟩
  by_cases e : j = k
  · subst e
    rw [List.getElem?_set_self hk] at hj
    cases hj
    exact h'.2.2 _ List.mem_cons_self
  · rw [List.getElem?_set_ne (Ne.symm e)] at hj
    have hw1 : w.category = 2 → j + 1 ≠ k := by
      intro h2 e2
      have := hw h2
      rw [← e2, List.getElem?_set_self (by omega)] at this
      cases this
      simp [zplain] at hv
    have hl := h.2.2.2 j w hj hp (fun h2 => by
      have := hw h2
      rwa [List.getElem?_set_ne (Ne.symm (hw1 h2))] at this)
    refine h'.2.2 (j, zV base fa w) (List.mem_cons_of_mem _ (List.mem_filter.mpr ⟨zAll_mem hl, ?_⟩))
    have c2 : (zV base fa w).category = w.category := zV_cat w
    by_cases h2 : w.category = 2
    · have := hw1 h2
      simp [e, this]
    · simp [e, c2, h2]
theorem zLr_st2 {base : Nat} {fa : Nat → Nat} {nL : Nat} {lv : zL} {ls ls' : Array Slot} {k : Nat} {v : Value} (h : zLr base fa nL lv ls) (hk : k + 1 < lv.length) (hv : zplain v = true) (hc : v.category = 2)
    (h' : lv_has ls' nL ((k, zV base fa v) :: (zAll ls).filter (fun q => !(q.1 == k) && (!(q.1 == k + 1) && !(q.1 + 1 == k && q.2.category == 2))))) : zLr base fa nL ((lv.set k (some v)).set (k + 1) (some .null)) ls' := by
  refine ⟨h'.1, by rw [List.length_set, List.length_set]; exact h.2.1, h'.2.1, fun j w hj hp hw => ?_⟩
  by_cases e1 : j = k + 1
  · subst e1
    rw [List.getElem?_set_self (by rw [List.length_set]; exact hk)] at hj
    cases hj
    simp [zplain] at hp
  · rw [List.getElem?_set_ne (Ne.symm e1)] at hj
    by_cases e : j = k
    · subst e
      rw [List.getElem?_set_self (by omega)] at hj
      cases hj
      exact h'.2.2 _ List.mem_cons_self
    · rw [List.getElem?_set_ne (Ne.symm e)] at hj
      have hw1 : w.category = 2 → j + 1 ≠ k := by
        intro h2 e2
        have := hw h2
        rw [List.getElem?_set_ne (by omega), ← e2, List.getElem?_set_self (by omega)] at this
        cases this
        simp [zplain] at hv
      have hl := h.2.2.2 j w hj hp (fun h2 => by
        have := hw h2
        rwa [List.getElem?_set_ne (by omega), List.getElem?_set_ne (Ne.symm (hw1 h2))] at this)
      refine h'.2.2 (j, zV base fa w) (List.mem_cons_of_mem _ (List.mem_filter.mpr ⟨zAll_mem hl, ?_⟩))
      have c2 : (zV base fa w).category = w.category := zV_cat w
      by_cases h2 : w.category = 2
      · have := hw1 h2
        simp [e, e1, this]
      · simp [e, e1, c2, h2]
theorem zLr_get {base : Nat} {fa : Nat → Nat} {nL : Nat} {lv : zL} {ls : Array Slot} {k : Nat} {v : Value} (h : zLr base fa nL lv ls) (hk : lv[k]? = some (some v)) (hp : zplain v = true) (hc : v.category = 1) : ls[k]? = some (.val (zV base fa v)) := h.2.2.2 k v hk hp (fun e => by omega)
