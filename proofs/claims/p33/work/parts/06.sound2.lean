/-! ===== single steps: each row of the abstract machine by the machine's row ===== -/
def zTy (cA : FieldType → ClassId) : List (ClassId × FieldType) := [(cA .int, .int), (cA .byte, .byte)]
/-- what nobody writes: the static fields and the arrays behind references 1000 and on -/
def zFZ (base : Nat) (fa : Nat → Nat) (fz : zFz) (U : State) (H : Heap) : Prop := (∀ (k : Nat) (q : String × String × String), zst[k]? = some q → va_Z q.1 q.2.1 q.2.2 (.ref (fa k)) (fun q : Nat => base ≤ q) U H) ∧ ∀ (k : Nat) (q : Nat × (Nat → Int32)), fz[k]? = some q → va_T .int (fa k) q.1 (fun j => .int (q.2 j)) (fun q : Nat => base ≤ q) U H
def zNst (U : State) : Prop := (∀ q ∈ zfN, va_Nw (zfwN q) U) ∧ (∀ q ∈ zkN, va_Nw (zkwN q) U) ∧ (∀ q ∈ zsN, va_Nw (zswN q) U)
/-- where a walk stands -/
def zHy (p : Program) (R : Room) (s : State) (m : MethodId) (args : Array Value) (meth : Method) (c : Code) (cc : ByteArray) (o : Nat) (ini : Bool) (nL : Nat) (D : va_G) (base : Nat) (fa : Nat → Nat) (cA : FieldType → ClassId) (fz : zFz) : Prop :=
  p.tables.exec = Jvm.exec ∧ c.code = cc ∧ c.maxLocals = nL ∧ s.vm.findClass (zcn o) = some m.cls ∧ (∀ w ∈ zBW, w.before args s = true) ∧ (ini = true → meth.name = "<init>") ∧ va_K D vwCl (zTy cA) s ∧ zFZ base fa fz s s.heap ∧ zNst s ∧ base ≤ s.heap.size ∧ 1 ≤ R.frames ∧ 64 ≤ R.locals
/-- the machine goes on from a state of the abstract machine -/
def zK (p : Program) (l : Launch) (e : Env) (R : Room) (s : State) (m : MethodId) (args : Array Value) (below : List Frame) (meth : Method) (c : Code) (Z : State → Prop) (D : va_G) (base : Nat) (fa : Nat → Nat) (cA : FieldType → ClassId) (nL mc ms : Nat) (st' : zS) (g : zC) : Prop :=
  ∀ (H : Heap) (locs : List Loc) (cells slots : Nat) (ls : Array Slot), zLr base fa nL g.2.1 ls → va_P D vwCl (zW base fa cA g.2.2.2) H → H.size = base + g.2.2.2.1.length → va_S (fun q : Nat => base ≤ q) s.heap H locs → cells + st'.1.length = mc + g.2.2.2.1.length → slots + zsl st'.1 = ms + zsl g.2.2.2.1 → W p l e R s m args below meth c H locs cells slots Z (F0 m g.1 ls (g.2.2.1.map (zV base fa)))
theorem zstuck_no {P : Prop} {c' : zC} (h : zstuck = .inl (P, c')) (hP : P) : False := by
  unfold zstuck at h
  cases h
  exact hP
theorem zin_of {i : Int32} {n : Nat} (h0 : 0 ≤ i.toInt) (h1 : i.toInt < n) : vp_in i n := vp_in_iff.mpr ⟨h0, h1⟩
theorem znn {i : Int32} (h : 0 ≤ i.toInt) : ¬ i < 0 := by
  rw [Int32.lt_iff_toInt_lt, Int32.toInt_zero]
  omega
theorem zcell_st {ty : FieldType} (h : ty = .int ∨ ty = .byte ∨ ty = .boolean) (c0 : ClassId) (n : Nat) (f : Nat → Int32) (i : Nat) (x : Int32) : arrV c0 n (updV (fun j => Value.int (f j)) i (narrow ty (.int x))) = vp_cell c0 (n, .inl (upd f i (vp_nar ty x))) := by
  rw [vp_cell_i]
  congr 1
  funext q
  by_cases hq : q = i
  · subst hq
    rcases h with rfl | rfl | rfl <;> simp [updV, upd, vp_nar, narrow]
  · simp [updV, upd, hq]
section ZST
variable {p : Program} {l : Launch} {e : Env} {R : Room} {s : State} {m : MethodId} {args : Array Value} {below : List Frame} {meth : Method} {c : Code} {Z : State → Prop} {cc : ByteArray} {o nL mc ms : Nat} {ini : Bool} {D : va_G} {base : Nat} {fa : Nat → Nat} {cA : FieldType → ClassId} {fz : zFz} {st' : zS}
variable {len pc : Nat} {lv : zL} {stk : List Value} {st : zS} {P : Prop} {c' : zC}
theorem zs_iload {k d : Nat} (h : zild k d pc lv stk st = .inl (P, c')) (hP : P)
    (row : ∀ {H : Heap} {locs : List Loc} {cells slots : Nat} {ls : Array Slot} {x : Int32}, ls[k]? = some (.val (.int x)) → W p l e R s m args below meth c H locs cells slots Z (F0 m (pc + d) ls (.int x :: stk.map (zV base fa))) → W p l e R s m args below meth c H locs cells slots Z (F0 m pc ls (stk.map (zV base fa))))
    (kk : zK p l e R s m args below meth c Z D base fa cA nL mc ms st' c') : zK p l e R s m args below meth c Z D base fa cA nL mc ms st' (pc, lv, stk, st) := by
  intro H locs cells slots ls hL hW hs hS hc hsl
  unfold zild at h
  split at h
  · rename_i x hx
    cases h
    exact row (zLr_get hL hx rfl rfl) (kk H locs cells slots ls hL hW hs hS hc hsl)
  · exact (zstuck_no h hP).elim
theorem zs_aload {k d : Nat} (h : zald k d pc lv stk st = .inl (P, c')) (hP : P)
    (row : ∀ {H : Heap} {locs : List Loc} {cells slots : Nat} {ls : Array Slot} {x : Nat}, ls[k]? = some (.val (.ref x)) → W p l e R s m args below meth c H locs cells slots Z (F0 m (pc + d) ls (.ref x :: stk.map (zV base fa))) → W p l e R s m args below meth c H locs cells slots Z (F0 m pc ls (stk.map (zV base fa))))
    (kk : zK p l e R s m args below meth c Z D base fa cA nL mc ms st' c') : zK p l e R s m args below meth c Z D base fa cA nL mc ms st' (pc, lv, stk, st) := by
  intro H locs cells slots ls hL hW hs hS hc hsl
  unfold zald at h
  split at h
  · rename_i x hx
    cases h
    exact row (zLr_get hL hx rfl rfl) (kk H locs cells slots ls hL hW hs hS hc hsl)
  · exact (zstuck_no h hP).elim
theorem zs_lload {k d : Nat} (h : zlld k d pc lv stk st = .inl (P, c')) (hP : P)
    (row : ∀ {H : Heap} {locs : List Loc} {cells slots : Nat} {ls : Array Slot} {x : Int64}, ls[k]? = some (.val (.long x)) → W p l e R s m args below meth c H locs cells slots Z (F0 m (pc + d) ls (.long x :: stk.map (zV base fa))) → W p l e R s m args below meth c H locs cells slots Z (F0 m pc ls (stk.map (zV base fa))))
    (kk : zK p l e R s m args below meth c Z D base fa cA nL mc ms st' c') : zK p l e R s m args below meth c Z D base fa cA nL mc ms st' (pc, lv, stk, st) := by
  intro H locs cells slots ls hL hW hs hS hc hsl
  unfold zlld at h
  split at h
  · rename_i x hx hx2
    cases h
    exact row (hL.2.2.2 _ _ hx rfl (fun _ => hx2)) (kk H locs cells slots ls hL hW hs hS hc hsl)
  · exact (zstuck_no h hP).elim
theorem zs_istore {k d : Nat} (h : zist k d pc lv stk st = .inl (P, c')) (hP : P)
    (row : ∀ {H : Heap} {locs : List Loc} {cells slots : Nat} {ls : Array Slot} {x : Int32} {s' : List Value}, lv_has ls nL (zAll ls) → k < nL → (∀ ls' : Array Slot, lv_has ls' nL ((k, Value.int x) :: (zAll ls).filter (fun q => !(q.1 == k) && !(q.1 + 1 == k && q.2.category == 2))) → W p l e R s m args below meth c H locs cells slots Z (F0 m (pc + d) ls' s')) → W p l e R s m args below meth c H locs cells slots Z (F0 m pc ls (.int x :: s')))
    (kk : zK p l e R s m args below meth c Z D base fa cA nL mc ms st' c') : zK p l e R s m args below meth c Z D base fa cA nL mc ms st' (pc, lv, stk, st) := by
  intro H locs cells slots ls hL hW hs hS hc hsl
  unfold zist at h
  split at h
  · rename_i x s'
    cases h
    exact row (zAll_has hL) (hL.2.1 ▸ hP) (fun ls' h' => kk H locs cells slots ls' (zLr_st1 (v := .int x) hL hP rfl rfl h') hW hs hS hc hsl)
  · exact (zstuck_no h hP).elim
theorem zs_astore {k d : Nat} (h : zast k d pc lv stk st = .inl (P, c')) (hP : P)
    (row : ∀ {H : Heap} {locs : List Loc} {cells slots : Nat} {ls : Array Slot} {x : Nat} {s' : List Value}, lv_has ls nL (zAll ls) → k < nL → (∀ ls' : Array Slot, lv_has ls' nL ((k, Value.ref x) :: (zAll ls).filter (fun q => !(q.1 == k) && !(q.1 + 1 == k && q.2.category == 2))) → W p l e R s m args below meth c H locs cells slots Z (F0 m (pc + d) ls' s')) → W p l e R s m args below meth c H locs cells slots Z (F0 m pc ls (.ref x :: s')))
    (kk : zK p l e R s m args below meth c Z D base fa cA nL mc ms st' c') : zK p l e R s m args below meth c Z D base fa cA nL mc ms st' (pc, lv, stk, st) := by
  intro H locs cells slots ls hL hW hs hS hc hsl
  unfold zast at h
  split at h
  · rename_i x s'
    cases h
    exact row (zAll_has hL) (hL.2.1 ▸ hP) (fun ls' h' => kk H locs cells slots ls' (zLr_st1 (v := .ref x) hL hP rfl rfl h') hW hs hS hc hsl)
  · exact (zstuck_no h hP).elim
theorem zs_lstore {k d : Nat} (h : zlst k d pc lv stk st = .inl (P, c')) (hP : P)
    (row : ∀ {H : Heap} {locs : List Loc} {cells slots : Nat} {ls : Array Slot} {x : Int64} {s' : List Value}, lv_has ls nL (zAll ls) → k + 1 < nL → (∀ ls' : Array Slot, lv_has ls' nL ((k, Value.long x) :: (zAll ls).filter (fun q => !(q.1 == k) && (!(q.1 == k + 1) && !(q.1 + 1 == k && q.2.category == 2)))) → W p l e R s m args below meth c H locs cells slots Z (F0 m (pc + d) ls' s')) → W p l e R s m args below meth c H locs cells slots Z (F0 m pc ls (.long x :: s')))
    (kk : zK p l e R s m args below meth c Z D base fa cA nL mc ms st' c') : zK p l e R s m args below meth c Z D base fa cA nL mc ms st' (pc, lv, stk, st) := by
  intro H locs cells slots ls hL hW hs hS hc hsl
  unfold zlst at h
  split at h
  · rename_i x s'
    cases h
    exact row (zAll_has hL) (hL.2.1 ▸ hP) (fun ls' h' => kk H locs cells slots ls' (zLr_st2 (v := .long x) hL hP rfl rfl h') hW hs hS hc hsl)
  · exact (zstuck_no h hP).elim
theorem zs_iinc {k : Nat} {n : Int} (hx : p.tables.exec = Jvm.exec) (hb : c.code = cc) (hd : decode cc pc = .ok (.iinc k n, 3)) (h : ziinc k n pc lv stk st = .inl (P, c')) (hP : P)
    (kk : zK p l e R s m args below meth c Z D base fa cA nL mc ms st' c') : zK p l e R s m args below meth c Z D base fa cA nL mc ms st' (pc, lv, stk, st) := by
  intro H locs cells slots ls hL hW hs hS hc hsl
  unfold ziinc at h
  split at h
  · rename_i x hxx
    cases h
    have hk : k < lv.length := (List.getElem?_eq_some_iff.mp hxx).1
    obtain ⟨j, hj⟩ := List.getElem?_of_mem (zAll_mem (zLr_get hL hxx rfl rfl))
    exact lv_iinc (k := j) hx hb hd (zAll_has hL) hj rfl (hL.2.1 ▸ hk) rfl (fun ls' h' => kk H locs cells slots ls' (zLr_st1 (v := .int (x + Int32.ofInt n)) hL hk rfl rfl h') hW hs hS hc hsl)
  · exact (zstuck_no h hP).elim
theorem zs_bin {f : Int32 → Int32 → Int32} {PP : Int32 → Prop} (h : zbin f PP pc lv stk st = .inl (P, c')) (hP : P)
    (row : ∀ {H : Heap} {locs : List Loc} {cells slots : Nat} {ls : Array Slot} {x y : Int32} {s' : List Value}, PP y → W p l e R s m args below meth c H locs cells slots Z (F0 m (pc + 1) ls (.int (f x y) :: s')) → W p l e R s m args below meth c H locs cells slots Z (F0 m pc ls (.int y :: .int x :: s')))
    (kk : zK p l e R s m args below meth c Z D base fa cA nL mc ms st' c') : zK p l e R s m args below meth c Z D base fa cA nL mc ms st' (pc, lv, stk, st) := by
  intro H locs cells slots ls hL hW hs hS hc hsl
  unfold zbin at h
  split at h
  · cases h
    exact row hP (kk H locs cells slots ls hL hW hs hS hc hsl)
  · exact (zstuck_no h hP).elim
theorem zs_binL {f : Int64 → Int64 → Value} (hf : ∀ x y, zV base fa (f x y) = f x y) (h : zbinL f pc lv stk st = .inl (P, c')) (hP : P)
    (row : ∀ {H : Heap} {locs : List Loc} {cells slots : Nat} {ls : Array Slot} {x y : Int64} {s' : List Value}, W p l e R s m args below meth c H locs cells slots Z (F0 m (pc + 1) ls (f x y :: s')) → W p l e R s m args below meth c H locs cells slots Z (F0 m pc ls (.long y :: .long x :: s')))
    (kk : zK p l e R s m args below meth c Z D base fa cA nL mc ms st' c') : zK p l e R s m args below meth c Z D base fa cA nL mc ms st' (pc, lv, stk, st) := by
  intro H locs cells slots ls hL hW hs hS hc hsl
  unfold zbinL at h
  split at h
  · rename_i y x s'
    cases h
    have := kk H locs cells slots ls hL hW hs hS hc hsl
    simp only [List.map_cons, hf] at this
    exact row this
  · exact (zstuck_no h hP).elim
theorem zs_un {f : Int32 → Value} (hf : ∀ x, zV base fa (f x) = f x) (h : zun f pc lv stk st = .inl (P, c')) (hP : P)
    (row : ∀ {H : Heap} {locs : List Loc} {cells slots : Nat} {ls : Array Slot} {x : Int32} {s' : List Value}, W p l e R s m args below meth c H locs cells slots Z (F0 m (pc + 1) ls (f x :: s')) → W p l e R s m args below meth c H locs cells slots Z (F0 m pc ls (.int x :: s')))
    (kk : zK p l e R s m args below meth c Z D base fa cA nL mc ms st' c') : zK p l e R s m args below meth c Z D base fa cA nL mc ms st' (pc, lv, stk, st) := by
  intro H locs cells slots ls hL hW hs hS hc hsl
  unfold zun at h
  split at h
  · cases h
    have := kk H locs cells slots ls hL hW hs hS hc hsl
    simp only [List.map_cons, hf] at this
    exact row this
  · exact (zstuck_no h hP).elim
/-- an array: the machine's read -/
theorem zs_xald {ok : FieldType → Bool} (hy : zHy p R s m args meth c cc o ini nL D base fa cA fz) (hd : (ok = zokI ∧ decode cc pc = .ok (.iaload, 1)) ∨ (ok = zokB ∧ decode cc pc = .ok (.baload, 1))) (h : zxald ok fz pc lv stk st = .inl (P, c')) (hP : P)
    (kk : zK p l e R s m args below meth c Z D base fa cA nL mc ms st' c') : zK p l e R s m args below meth c Z D base fa cA nL mc ms st' (pc, lv, stk, st) := by
  obtain ⟨hx, hb, hml, hown, hts, hname, hKs, hF, hN, hbs, hfr, hlo⟩ := hy
  intro H locs cells slots ls hL hW hs hS hc hsl
  unfold zxald at h
  split at h
  · rename_i i r s'
    split at h
    · rename_i ty n f ha
      cases h
      obtain ⟨h1, h2, h3⟩ := hP
      have k2 := kk H locs cells slots ls hL hW hs hS hc hsl
      show W p l e R s m args below meth c H locs cells slots Z (F0 m pc ls (.int i :: .ref (zad base fa r) :: s'.map (zV base fa)))
      unfold zarr at ha
      split at ha
      · rename_i hr
        rw [zad_lo hr]
        split at ha
        · rename_i ty' n' hsh
          cases ha
          have hw := zW_get (base := base) (fa := fa) (cA := cA) hsh
          rcases hd with ⟨rfl, hd⟩ | ⟨rfl, hd⟩
          · have e : ty = .int := by cases ty <;> first | rfl | cases h1
            subst e
            exact va_iald (hexec := hx) (hb := hb) hKs hW r 0 hw rfl (zin_of h2 h3) hd k2
          · cases ty <;> first | (cases h1; done) | skip
            · exact va_bald (hexec := hx) (hb := hb) hKs hW r 1 hw rfl (zin_of h2 h3) hd k2
        · cases ha
      · rename_i hr
        rw [zad_hi hr]
        split at ha
        · rename_i n' f' hz
          cases ha
          rcases hd with ⟨rfl, hd⟩ | ⟨rfl, hd⟩
          · obtain ⟨cell, g1, g2, g3, g4, g5, g6, g7⟩ := hF.2 _ _ hz
            have hlt : i.toNatClampNeg < n := by
              show i.toInt.toNat < n
              omega
            exact W.iald (v := .int (f i.toInt.toNat)) hx hb (by rw [hS.2.1 _ (Array.getElem?_eq_some_iff.mp g1).1 g7]; exact g1) g2 g3 (fun q => by
              rcases q with q | q
              · exact znn h2 q
              · omega) (g6 _ hlt) rfl rfl hd k2
          · cases h1
        · cases ha
    · exact (zstuck_no h hP).elim
  · exact (zstuck_no h hP).elim
theorem zs_xlen (hy : zHy p R s m args meth c cc o ini nL D base fa cA fz) (hd : decode cc pc = .ok (.arraylength, 1)) (h : zlenA fz pc lv stk st = .inl (P, c')) (hP : P)
    (kk : zK p l e R s m args below meth c Z D base fa cA nL mc ms st' c') : zK p l e R s m args below meth c Z D base fa cA nL mc ms st' (pc, lv, stk, st) := by
  obtain ⟨hx, hb, hml, hown, hts, hname, hKs, hF, hN, hbs, hfr, hlo⟩ := hy
  intro H locs cells slots ls hL hW hs hS hc hsl
  unfold zlenA at h
  split at h
  · rename_i r s'
    split at h
    · rename_i ty n f ha
      cases h
      have k2 := kk H locs cells slots ls hL hW hs hS hc hsl
      show W p l e R s m args below meth c H locs cells slots Z (F0 m pc ls (.ref (zad base fa r) :: s'.map (zV base fa)))
      unfold zarr at ha
      split at ha
      · rename_i hr
        rw [zad_lo hr]
        split at ha
        · rename_i ty' n' hsh
          cases ha
          have hw := zW_get (base := base) (fa := fa) (cA := cA) hsh
          have ht : ∃ t0 : Nat, (zTy cA)[t0]? = some (cA ty, ty) := by
            cases ty <;> first | exact ⟨0, rfl⟩ | exact ⟨1, rfl⟩ | (rcases hP with q | q <;> cases q)
          obtain ⟨t0, ht⟩ := ht
          exact va_alen (hexec := hx) (hb := hb) hKs hW r t0 hw ht rfl hd k2
        · cases ha
      · rename_i hr
        rw [zad_hi hr]
        split at ha
        · rename_i n' f' hz
          cases ha
          obtain ⟨cell, g1, g2, g3, g4, g5, g6, g7⟩ := hF.2 _ _ hz
          exact W.alen (n := Int32.ofNat n) hx hb (by rw [hS.2.1 _ (Array.getElem?_eq_some_iff.mp g1).1 g7]; exact g1) g2 g5 rfl rfl hd k2
        · cases ha
    · exact (zstuck_no h hP).elim
  · exact (zstuck_no h hP).elim
theorem zs_xast {ok : FieldType → Bool} (hy : zHy p R s m args meth c cc o ini nL D base fa cA fz) (hd : (ok = zokI ∧ decode cc pc = .ok (.iastore, 1)) ∨ (ok = zokB ∧ decode cc pc = .ok (.bastore, 1))) (h : zxast ok pc lv stk st = .inl (P, c')) (hP : P)
    (kk : zK p l e R s m args below meth c Z D base fa cA nL mc ms st' c') : zK p l e R s m args below meth c Z D base fa cA nL mc ms st' (pc, lv, stk, st) := by
  obtain ⟨hx, hb, hml, hown, hts, hname, hKs, hF, hN, hbs, hfr, hlo⟩ := hy
  intro H locs cells slots ls hL hW hs hS hc hsl
  unfold zxast at h
  split at h
  · rename_i x i r s'
    split at h
    · rename_i ty n hsh
      cases h
      obtain ⟨hr, h1, h2, h3⟩ := hP
      show W p l e R s m args below meth c H locs cells slots Z (F0 m pc ls (.int x :: .int i :: .ref (zad base fa r) :: s'.map (zV base fa)))
      rw [zad_lo hr]
      have hw := zW_get (base := base) (fa := fa) (cA := cA) hsh
      have fin : ∀ (H1 : Heap) (locs1 : List Loc), va_P D vwCl ((zW base fa cA st).set r (base + r, .inl (cA ty, n, .inl (upd (st.2 r) i.toNatClampNeg (vp_nar ty x))))) H1 → H1.size = H.size → va_S (fun q : Nat => base ≤ q) s.heap H1 locs1 → W p l e R s m args below meth c H1 locs1 cells slots Z (F0 m (pc + 1) ls (s'.map (zV base fa))) := by
        intro H1 locs1 g1 g2 g3
        have e1 := zW_row (base := base) (fa := fa) (cA := cA) hsh (upd (st.2 r) i.toNatClampNeg (vp_nar ty x))
        exact kk H1 locs1 cells slots ls hL (e1 ▸ g1) (g2.trans hs) g3 hc hsl
      rcases hd with ⟨rfl, hd⟩ | ⟨rfl, hd⟩
      · have e : ty = .int := by cases ty <;> first | rfl | cases h1
        subst e
        refine W.iast hx hb (hW r _ hw) ((hKs.2 0 _ rfl).1 n (fun j => .int (st.2 r j))) (fun q => by cases q) (by show ¬ (i < 0 ∨ (arrV _ _ _).slots.size ≤ _); rw [arrV_size]; exact zin_of h2 h3) rfl rfl hd fun H1 e1 z oq => ?_
        refine fin H1 _ (hW.set (zW_D st) hw ?_ oq) z (hS.put z oq (Nat.le_add_right _ _))
        show H1[base + r]? = some (vp_cell _ _)
        rw [e1]
        rw [vp_cell_i]
        show some ((arrV _ _ _).setSlot _ _) = _
        rw [arrV_store]
        exact congrArg some (zcell_st (ty := .int) (Or.inl rfl) _ _ _ _ _)
      · cases ty <;> first | (cases h1; done) | skip
        · refine W.bast hx hb (hW r _ hw) ((hKs.2 1 _ rfl).1 n (fun j => .int (st.2 r j))) (fun q => by cases q) (by show ¬ (i < 0 ∨ (arrV _ _ _).slots.size ≤ _); rw [arrV_size]; exact zin_of h2 h3) rfl rfl hd fun H1 e1 z oq => ?_
          refine fin H1 _ (hW.set (zW_D st) hw ?_ oq) z (hS.put z oq (Nat.le_add_right _ _))
          show H1[base + r]? = some (vp_cell _ _)
          rw [e1]
          rw [vp_cell_i]
          show some ((arrV _ _ _).setSlot _ _) = _
          rw [arrV_store]
          exact congrArg some (zcell_st (ty := .byte) (Or.inr (Or.inl rfl)) _ _ _ _ _)
    · exact (zstuck_no h hP).elim
  · exact (zstuck_no h hP).elim
end ZST
