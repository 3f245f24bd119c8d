/-! ===== branches, switches, calls; nothing shrinks ===== -/
theorem zpick_tab {x lo : Int} {df : zC} {g : Int → zC} : ∀ (offs : List Int) (j0 : Nat), ((∀ k : Nat, k < offs.length → ¬ x = lo + ((j0 + k : Nat) : Int)) → zpick x ((offs.zipIdx j0).map (fun q => (lo + (q.2 : Int), g q.1))) df = df) ∧ (∀ (k : Nat) (f : Int), offs[k]? = some f → x = lo + ((j0 + k : Nat) : Int) → zpick x ((offs.zipIdx j0).map (fun q => (lo + (q.2 : Int), g q.1))) df = g f)
  | [], j0 => ⟨fun _ => rfl, fun k f h => by simp at h⟩
  | a :: t, j0 => by
    obtain ⟨i1, i2⟩ := zpick_tab (x := x) (lo := lo) (df := df) (g := g) t (j0 + 1)
    simp only [List.zipIdx_cons, List.map_cons]
    refine ⟨fun h => ?_, fun k f hk hx => ?_⟩
    · unfold zpick
      rw [if_neg (show ¬ x = lo + (j0 : Int) by simpa using h 0 (by simp))]
      exact i1 fun k hk => by
        have := h (k + 1) (by simpa using hk)
        rwa [show j0 + 1 + k = j0 + (k + 1) by omega]
    · cases k with
      | zero =>
        simp at hk
        subst hk
        unfold zpick
        rw [if_pos (by simpa using hx)]
      | succ k =>
        unfold zpick
        rw [if_neg (by omega)]
        exact i2 k f (by simpa using hk) (by rw [hx]; congr 1; omega)
theorem zpick_look {x dflt : Int} {g : Int → zC} : ∀ (ps : List (Int × Int)), zpick x (ps.map (fun q => (q.1, g q.2))) (g dflt) = g (Op.lookupswitch.offset ps dflt x)
  | [] => rfl
  | (a, f) :: t => by
    rw [Op.lookupswitch.offset_cons]
    simp only [List.map_cons]
    unfold zpick
    by_cases h : x = a
    · rw [if_pos h, if_pos h.symm]
    · rw [if_neg h, if_neg (fun q => h q.symm)]
      exact zpick_look t
theorem zoff_mem {x dflt : Int} : ∀ (ps : List (Int × Int)), Op.lookupswitch.offset ps dflt x = dflt ∨ ∃ q ∈ ps, Op.lookupswitch.offset ps dflt x = q.2
  | [] => Or.inl rfl
  | (a, f) :: t => by
    rw [Op.lookupswitch.offset_cons]
    by_cases h : a = x
    · rw [if_pos h]
      exact Or.inr ⟨(a, f), List.mem_cons_self, rfl⟩
    · rw [if_neg h]
      rcases zoff_mem t with q | ⟨q, hq, e⟩
      · exact Or.inl q
      · exact Or.inr ⟨q, List.mem_cons_of_mem _ hq, e⟩
def zPc (D : va_G) (base : Nat) (fa : Nat → Nat) (cA : FieldType → ClassId) (fz : zFz) (as : List Value) (st : zS) : Array Value → State → Prop := va_Pc (as.map (zV base fa)) (fun U => U.heap.size = base + st.1.length ∧ va_P D vwCl (zW base fa cA st) U.heap ∧ va_K D vwCl (zTy cA) U ∧ zFZ base fa fz U U.heap ∧ zNst U)
def zQc (D : va_G) (base : Nat) (fa : Nat → Nat) (cA : FieldType → ClassId) (r : Option Value) (st : zS) : Array Value → State → Outcome → State → Prop := fun _ s0 oc t => (oc = .returned r ∧ t.heap.size = base + st.1.length ∧ va_P D vwCl (zW base fa cA st) t.heap) ∧ va_F (fun q : Nat => base ≤ q) s0 t
def zws (mid : Nat) : List Cond := Cond.code (zmg mid).2.1 (zmg mid).2.2.1 (zmg mid).2.2.2.1 (zmg mid).2.2.2.2.1 :: zBW
def zrm (d mc ms : Nat) : Room := { frames := d, cells := mc, slots := ms, locals := 64 * d }
/-- a method's contract, out of its run on the abstract machine -/
def zMet (l : Launch) (fz : zFz) (d mid : Nat) (as : List Value) (st : zS) (r : Option Value) (so : zS) : Prop := ∀ (D : va_G) (base : Nat) (fa : Nat → Nat) (cA : FieldType → ClassId), Met l (zmg mid).2.1 (zws mid) (zrm d (so.1.length - st.1.length) (zsl so.1 - zsl st.1)) (zPc D base fa cA fz as st) (zQc D base fa cA r so) (so.1.length - st.1.length) (zsl so.1 - zsl st.1) (fun q : Nat => base ≤ q)
theorem zm_mem {mid : Nat} (h : mid < zmL.length) : zmg mid ∈ zmL := by
  unfold zmg
  rw [List.getD_eq_getElem?_getD, List.getElem?_eq_getElem h]
  exact List.getElem_mem h
theorem zm_get {mid : Nat} (h1 : mid < zmL.length) (h2 : (zmg mid).1 < 99) : (zmg mid).2.1.cls = zcn (zmg mid).1 ∧ ((zmg mid).2.1.cls ≠ "java/lang/invoke/MethodHandle" ∧ (zmg mid).2.1.cls ≠ "java/lang/invoke/VarHandle" ∧ (parseMethodDescriptor (zmg mid).2.1.desc).map (fun d => d.parameters.length) = some (zmg mid).2.2.2.2.2.1) ∧ (zmg mid).2.2.2.1 ≤ 40 ∧ ((zmg mid).2.2.2.2.2.2 = 2 → (zmg mid).2.1.name = "<init>" ∧ (zmg mid).2.2.2.2.1 = none) ∧ ((zmg mid).2.2.2.2.2.2 = 0 → (zmg mid).1 < vwCl.length) ∧ plainFor (zmg mid).2.1 = true := by
  have ok := List.all_eq_true.mp zm_ok _ (zm_mem h1)
  unfold zmok at ok
  have h3 : decide ((zmg mid).1 = 99) = false := by simp; omega
  rw [h3, Bool.false_or] at ok
  simp only [Bool.and_eq_true, decide_eq_true_eq] at ok
  obtain ⟨⟨⟨⟨⟨⟨⟨a1, a2⟩, a3⟩, a4⟩, a5⟩, a6⟩, a7⟩, a8⟩ := ok
  refine ⟨a1, ⟨a2, a3, a4⟩, a5, fun e => ?_, fun e => ?_, a8⟩
  · rw [e] at a6
    simp only [beq_self_eq_true, cond_true, Bool.and_eq_true, decide_eq_true_eq] at a6
    exact a6
  · rw [e] at a7
    simpa using a7
theorem zm_words {mid : Nat} (h1 : mid < zmL.length) (h2 : (zmg mid).1 < 99) : Cond.code (zmg mid).2.1 (zmg mid).2.2.1 (zmg mid).2.2.2.1 (zmg mid).2.2.2.2.1 ∈ zBW ∧ ((zmg mid).2.2.2.2.2.2 = 1 → Cond.static (zmg mid).2.1 ∈ zBW) ∧ (¬ (zmg mid).2.2.2.2.2.2 = 1 → Cond.instanceMethod (zmg mid).2.1 ∈ zBW) ∧ Cond.initialized (zmg mid).2.1.cls ∈ zBW ∧ ((zmg mid).2.2.2.2.2.2 = 0 → Cond.selects (zmg mid).2.1.cls (zmg mid).2.1 (zmg mid).2.1 ∈ zBW) := by
  have hm := zm_mem h1
  have w1 := zm1_m _ hm
  unfold zmw1 at w1
  refine ⟨zm0_m _ hm, fun e => ?_, fun e => ?_, zm2_m _ (List.mem_filter.mpr ⟨hm, by simpa using h2⟩), fun e => zm3_m _ (List.mem_filter.mpr ⟨hm, by simpa using e⟩)⟩
  · rw [e] at w1
    exact w1
  · have : ((zmg mid).2.2.2.2.2.2 == 1) = false := by simpa using e
    rw [this] at w1
    exact w1
theorem zk_get {o ix mid ne : Nat} (h : zfind zk o ix = some (mid, ne)) : mid < zmL.length ∧ (zmg mid).1 < 99 ∧ ((ne = 0 ∧ Cond.methodLink (zcn o) ix (zmg mid).2.1 ∈ zBW) ∨ (¬ ne = 0 ∧ (zmg mid).2.2.2.2.2.2 = 2 ∧ ∀ U, zNst U → va_Nw (Cond.methodLinkNest (zcn o) ix (zmg mid).2.1 (zcn (ne - 1))) U)) := by
  have hm := zfind_mem h
  have ok := List.all_eq_true.mp zk_ok _ hm
  simp only [Bool.and_eq_true, decide_eq_true_eq, Bool.or_eq_true, beq_iff_eq] at ok
  obtain ⟨⟨h1, h2⟩, h3⟩ := ok
  refine ⟨h1, h2, ?_⟩
  by_cases hne : ne = 0
  · exact Or.inl ⟨hne, zkP_m _ (List.mem_filter.mpr ⟨hm, by simp [hne]⟩)⟩
  · rcases h3 with q | q
    · exact absurd q hne
    · exact Or.inr ⟨hne, q, fun U hU => hU.2.1 _ (List.mem_filter.mpr ⟨hm, by simp [hne]⟩)⟩
theorem zws_in {mid : Nat} (h1 : mid < zmL.length) (h2 : (zmg mid).1 < 99) : ∀ w ∈ zws mid, w ∈ zBW := fun w hw => (List.mem_cons.mp hw).elim (fun e => e ▸ (zm_words h1 h2).1) id
theorem zgood {ws : List Cond} (h : ∀ w ∈ ws, w ∈ zBW) : GoodIn zBW ws := fun w hw => zBW_good w (h w hw)
theorem zFZ.moved {base : Nat} {fa : Nat → Nat} {fz : zFz} {u U : State} {H : Heap} (hvm : u.vm.Alike U.vm) (h : zFZ base fa fz u H) : zFZ base fa fz U H := ⟨fun k q hq => (h.1 k q hq).moved hvm, fun k q hq => (h.2 k q hq).moved hvm⟩
theorem zFZ.kept {base : Nat} {fa : Nat → Nat} {fz : zFz} {U : State} {H H1 : Heap} (h : zFZ base fa fz U H) (hq : ∀ a : Nat, a < H.size → ¬ base ≤ a → H1[a]? = H[a]?) : zFZ base fa fz U H1 := ⟨fun k q hk => (h.1 k q hk).kept hq, fun k q hk => (h.2 k q hk).kept hq⟩
theorem zNst.warm {s U : State} (hW : s.WarmedH U.vm) (h : zNst s) : zNst U := ⟨fun q hq => va_Nw.warmF hW (h.1 q hq), fun q hq => va_Nw.warmM hW (h.2.1 q hq), fun q hq => va_Nw.warmF hW (h.2.2 q hq)⟩
theorem zPc_blind {D : va_G} {base : Nat} {fa : Nat → Nat} {cA : FieldType → ClassId} {fz : zFz} {as : List Value} {st : zS} : FrameBlind (zPc D base fa cA fz as st) := by
  intro a U g mk h
  obtain ⟨h1, h2, h3, h4, h5, h6, h7, h8⟩ := h
  exact ⟨h1, h2, h3, va_K.moved (u := U) (U := U.calling g mk a) (Vm.Alike.refl U.vm) h4, zFZ.moved (u := U) (U := U.calling g mk a) (Vm.Alike.refl U.vm) h5, fun q hq => va_Nw.same rfl (u := U) (U := U.calling g mk a) rfl (h6 q hq), fun q hq => va_Nw.same rfl (u := U) (U := U.calling g mk a) rfl (h7 q hq), fun q hq => va_Nw.same rfl (u := U) (U := U.calling g mk a) rfl (h8 q hq)⟩
theorem zstk_split {f : Value → Value} {stk as' rest : List Value} {v : Value} (h : stk = (v :: as').reverse ++ rest) : stk.map f = (as'.map f).reverse ++ f v :: rest.map f := by
  rw [h]
  simp
theorem zstk_split0 {f : Value → Value} {stk as rest : List Value} (h : stk = as.reverse ++ rest) : stk.map f = (as.map f).reverse ++ rest.map f := by
  rw [h]
  simp
section ZSC
variable {p : Program} {l : Launch} {e : Env} {R : Room} {s : State} {m : MethodId} {args : Array Value} {below : List Frame} {meth : Method} {c : Code} {Z : State → Prop} {cc : ByteArray} {o nL mc ms : Nat} {ini : Bool} {D : va_G} {base : Nat} {fa : Nat → Nat} {cA : FieldType → ClassId} {fz : zFz} {st' : zS}
variable {len pc : Nat} {lv : zL} {stk : List Value} {st : zS} {P : Prop} {c' : zC}
theorem zs_if0 {q : Jvm.ClassFile.Cond} {off : Int} {x : Int32} {s' : List Value} {H : Heap} {locs : List Loc} {cells slots : Nat} {ls : Array Slot} (hx : p.tables.exec = Jvm.exec) (hb : c.code = cc) (hd : decode cc pc = .ok (.ifCond q off, 3)) (h0 : 0 ≤ (pc : Int) + off)
    (ht : zcm q x 0 → W p l e R s m args below meth c H locs cells slots Z (F0 m (ztgt pc off) ls s')) (hf : ¬ zcm q x 0 → W p l e R s m args below meth c H locs cells slots Z (F0 m (pc + 3) ls s')) : W p l e R s m args below meth c H locs cells slots Z (F0 m pc ls (.int x :: s')) := by
  have e : (pc : Int) + off = (ztgt pc off : Int) := by unfold ztgt; omega
  cases q
  · exact lv_if_eq hx hb hd e ht hf
  · exact lv_if_ne hx hb hd e ht (fun q => hf (fun z => z q))
  · exact lv_if_lt hx hb hd e ht hf
  · exact lv_if_ge hx hb hd e ht hf
  · exact lv_if_gt hx hb hd e ht hf
  · exact lv_if_le hx hb hd e ht hf
theorem zs_if2 {q : Jvm.ClassFile.Cond} {off : Int} {x y : Int32} {s' : List Value} {H : Heap} {locs : List Loc} {cells slots : Nat} {ls : Array Slot} (hx : p.tables.exec = Jvm.exec) (hb : c.code = cc) (hd : decode cc pc = .ok (.if_icmp q off, 3)) (h0 : 0 ≤ (pc : Int) + off)
    (ht : zcm q x y → W p l e R s m args below meth c H locs cells slots Z (F0 m (ztgt pc off) ls s')) (hf : ¬ zcm q x y → W p l e R s m args below meth c H locs cells slots Z (F0 m (pc + 3) ls s')) : W p l e R s m args below meth c H locs cells slots Z (F0 m pc ls (.int y :: .int x :: s')) := by
  have e : (pc : Int) + off = (ztgt pc off : Int) := by unfold ztgt; omega
  cases q
  · exact lv_icmp_eq hx hb hd e ht hf
  · exact lv_icmp_ne hx hb hd e ht (fun q => hf (fun z => z q))
  · exact lv_icmp_lt hx hb hd e ht hf
  · exact lv_icmp_ge hx hb hd e ht hf
  · exact lv_icmp_gt hx hb hd e ht hf
  · exact lv_icmp_le hx hb hd e ht hf
theorem zs_branch {i : Instr} {b : Prop} {ct cf : zC} (hx : p.tables.exec = Jvm.exec) (hb : c.code = cc) (hd : decode cc pc = .ok (i, len)) (hl : zlen i = 0 ∨ zlen i = len) (h : zone fz o ini i pc lv stk st = .inr (.inl (P, b, ct, cf))) (hP : P)
    (ht : b → zK p l e R s m args below meth c Z D base fa cA nL mc ms st' ct) (hf : ¬ b → zK p l e R s m args below meth c Z D base fa cA nL mc ms st' cf) : zK p l e R s m args below meth c Z D base fa cA nL mc ms st' (pc, lv, stk, st) := by
  intro H locs cells slots ls hL hW hs hS hc hsl
  cases i
  case ifCond q off =>
    have e1 := zlen_eq hl rfl
    subst e1
    simp only [zone] at h
    unfold zif0 zbr at h
    split at h
    · cases h
      exact zs_if0 hx hb hd hP (fun hc2 => ht hc2 H locs cells slots ls hL hW hs hS hc hsl) (fun hc2 => hf hc2 H locs cells slots ls hL hW hs hS hc hsl)
    · unfold zstuck at h
      cases h
  case if_icmp q off =>
    have e1 := zlen_eq hl rfl
    subst e1
    simp only [zone] at h
    unfold zif2 zbr at h
    split at h
    · cases h
      exact zs_if2 hx hb hd hP (fun hc2 => ht hc2 H locs cells slots ls hL hW hs hS hc hsl) (fun hc2 => hf hc2 H locs cells slots ls hL hW hs hS hc hsl)
    · unfold zstuck at h
      cases h
  all_goals exfalso
  all_goals simp only [zone, zstep, zstuck, zild, zlld, zald, zist, zast, zlst, ziinc, zbin, zun, zbinL, zdup, zdup2, zpop1, ztsw, zlsw, zgetf, zputf, zgets, zxald, zxast, zlenA, znewa, znew, zcallK, zstat, zspec, zcopy, zretI, zretL, zretV] at h
  all_goals (repeat' split at h) <;> cases h
theorem zs_switch {i : Instr} {x : Int32} {cs : List (Int × zC)} {df : zC} (hx : p.tables.exec = Jvm.exec) (hb : c.code = cc) (hd : decode cc pc = .ok (i, len)) (hl : zlen i = 0 ∨ zlen i = len) (h : zone fz o ini i pc lv stk st = .inr (.inr (.inl (P, x, cs, df)))) (hP : P)
    (kk : zK p l e R s m args below meth c Z D base fa cA nL mc ms st' (zpick x.toInt cs df)) : zK p l e R s m args below meth c Z D base fa cA nL mc ms st' (pc, lv, stk, st) := by
  intro H locs cells slots ls hL hW hs hS hc hsl
  cases i
  case tableswitch d lo hi offs =>
    simp only [zone] at h
    unfold ztsw at h
    split at h
    · rename_i y s'
      cases h
      obtain ⟨h1, h2, h3⟩ := hP
      have pk := zpick_tab (x := x.toInt) (lo := lo) (df := (ztgt pc d, lv, s', st)) (g := fun f => (ztgt pc f, lv, s', st)) offs.toList 0
      by_cases ho : x.toInt < lo ∨ hi < x.toInt
      · rw [pk.1 (fun k hk => by omega)] at kk
        exact lv_tableOut hx hb hd ho (by unfold ztgt; omega) (kk H locs cells slots ls hL hW hs hS hc hsl)
      · have hlt : (x.toInt - lo).toNat < offs.toList.length := by omega
        have hof : offs.toList[(x.toInt - lo).toNat]? = some offs.toList[(x.toInt - lo).toNat] := List.getElem?_eq_getElem hlt
        rw [pk.2 _ _ hof (by omega)] at kk
        have hp := h3 _ (List.mem_of_getElem? hof)
        exact lv_tableIn hx hb hd (fun q => ho (Or.inl q)) (fun q => ho (Or.inr q)) (by rw [← Array.getElem?_toList]; exact hof) (by unfold ztgt; omega) (kk H locs cells slots ls hL hW hs hS hc hsl)
    · unfold zstuck at h
      cases h
  case lookupswitch d ps =>
    simp only [zone] at h
    unfold zlsw at h
    split at h
    · rename_i y s'
      cases h
      obtain ⟨h1, h2, h3⟩ := hP
      rw [zpick_look (g := fun f => (ztgt pc f, lv, s', st)) (dflt := d) ps.toList] at kk
      have hp : 0 ≤ (pc : Int) + Op.lookupswitch.offset ps.toList d x.toInt := by
        rcases zoff_mem (x := x.toInt) (dflt := d) ps.toList with q | ⟨q, hq, e⟩
        · rw [q]; exact h2
        · rw [e]; exact h3 q hq
      exact lv_lookup hx hb hd h1 rfl (by unfold ztgt; omega) (kk H locs cells slots ls hL hW hs hS hc hsl)
    · unfold zstuck at h
      cases h
  all_goals exfalso
  all_goals simp only [zone, zstep, zstuck, zild, zlld, zald, zist, zast, zlst, ziinc, zbin, zun, zbinL, zdup, zdup2, zpop1, zif0, zif2, zbr, zgetf, zputf, zgets, zxald, zxast, zlenA, znewa, znew, zcallK, zstat, zspec, zcopy, zretI, zretL, zretV] at h
  all_goals (repeat' split at h) <;> cases h
theorem zs_after {H : Heap} {locs : List Loc} {cells slots nc ns : Nat} {ls : Array Slot} {st0 rest : List Value} {a : Array Value} {ro : Option Value} {so : zS} (hr : va_Run p l e R s m args below meth c H locs cells slots nc ns (F0 m pc ls st0) rest (zQc D base fa cA ro so a) (fun q : Nat => base ≤ q)) (hS : va_S (fun q : Nat => base ≤ q) s.heap H locs)
    (kk : ∀ (H1 : Heap) (locs1 : List Loc), va_P D vwCl (zW base fa cA so) H1 → H1.size = base + so.1.length → va_S (fun q : Nat => base ≤ q) s.heap H1 locs1 → W p l e R s m args below meth c H1 locs1 (cells + nc) (slots + ns) Z (F0 m (pc + 3) ls (ro.toList ++ rest))) : W p l e R s m args below meth c H locs cells slots Z (F0 m pc ls st0) := by
  intro T hT X
  obtain ⟨v, st₀, t, T', L, h0, X', hL, e1, e2, ⟨⟨hv, hz0, hp⟩, hz, hk⟩, st⟩ := hr T hT X
  cases hv
  rw [h0] at hz hk
  obtain ⟨t2, a1, b1⟩ := kk T'.heap (locs ++ L) (by rw [e1]; exact hp) (by rw [e1]; exact hz0) ⟨Nat.le_trans hS.1 (by rw [e1]; exact hz), fun q h1 h2 => by rw [e1, hk q (Nat.lt_of_lt_of_le h1 hS.1) h2]; exact hS.2.1 q h1 h2, fun q hq => by
      rcases List.mem_append.mp hq with h | h
      · exact hS.2.2 q h
      · exact hL q h⟩ T' rfl X'
  exact ⟨t2, st t2 a1, b1⟩
theorem zs_call {d : Nat} {i : Instr} {mid : Nat} {as : List Value} {pc' : Nat} {lv' : zL} {rest : List Value} {ro : Option Value} {so : zS} (hy : zHy p R s m args meth c cc o ini nL D base fa cA fz) (hmc : mc ≤ R.cells) (hms : ms ≤ R.slots) (hRf : d + 1 ≤ R.frames) (hRl : 64 * (d + 1) ≤ R.locals) (hd : decode cc pc = .ok (i, len)) (hl : zlen i = 0 ∨ zlen i = len) (h : zone fz o ini i pc lv stk st = .inr (.inr (.inr (.inl (P, mid, as, pc', lv', rest))))) (hP : P)
    (hM : zMet l fz d mid as st ro so) (g1 : st.1.length ≤ so.1.length) (g2 : zsl st.1 ≤ zsl so.1) (g3 : so.1.length ≤ st'.1.length) (g4 : zsl so.1 ≤ zsl st'.1) (hro : (ro.toList).map (zV base fa) = ro.toList)
    (kk : zK p l e R s m args below meth c Z D base fa cA nL mc ms st' (pc', lv', ro.toList ++ rest, so)) : zK p l e R s m args below meth c Z D base fa cA nL mc ms st' (pc, lv, stk, st) := by
  obtain ⟨hx, hb, hml, hown, hts, hname, hKs, hF, hN, hbs, hfr, hlo⟩ := hy
  intro H locs cells slots ls hL hW hs hS hc hsl
  have hM := hM D base fa cA
  have hc : cells + st'.1.length = mc + st.1.length := hc
  have hsl : slots + zsl st'.1 = ms + zsl st.1 := hsl
  have pre : ∀ U : State, U.heap = H → s.WarmedH U.vm → zPc D base fa cA fz as st (as.map (zV base fa)).toArray U := by
    intro U hU hWm
    refine ⟨rfl, by rw [hU]; exact hs, by rw [hU]; exact hW, va_K.moved hWm.alike hKs, ?_, hN.warm hWm⟩
    rw [hU]
    exact (hF.moved hWm.alike).kept hS.2.1
  have fin : ∀ (a : Array Value) (rest' : List Value), rest' = rest.map (zV base fa) → ∀ st0, va_Run p l e R s m args below meth c H locs cells slots (so.1.length - st.1.length) (zsl so.1 - zsl st.1) (F0 m pc ls st0) rest' (zQc D base fa cA ro so a) (fun q : Nat => base ≤ q) → pc' = pc + 3 → lv' = lv → W p l e R s m args below meth c H locs cells slots Z (F0 m pc ls st0) := by
    intro a rest' er st0 hr e1 e2
    subst e1; subst e2; subst er
    refine zs_after hr hS fun H1 locs1 k1 k2 k3 => ?_
    have k4 := kk H1 locs1 (cells + (so.1.length - st.1.length)) (slots + (zsl so.1 - zsl st.1)) ls hL k1 k2 k3 (by show _ = mc + so.1.length; omega) (by show _ = ms + zsl so.1; omega)
    simp only [List.map_append, hro] at k4
    exact k4
  have hfit : cells + (so.1.length - st.1.length) ≤ R.cells ∧ slots + (zsl so.1 - zsl st.1) ≤ R.slots := ⟨by omega, by omega⟩
  cases i
  case invokevirtual ix =>
    have e1 := zlen_eq hl rfl
    subst e1
    simp only [zone] at h
    unfold zcallK at h
    split at h
    · rename_i mid' ne hz
      cases h
      obtain ⟨h1, h2, h3, h4⟩ := hP
      obtain ⟨k1, k2, hlk⟩ := zk_get hz
      obtain ⟨f1, f2, f3, f4, f5, f6⟩ := zm_get k1 k2
      obtain ⟨w1, w2, w3, w4, w5⟩ := zm_words k1 k2
      have hr0 := h4 (by omega)
      have hlen : (stk.take ((zmg mid).2.2.2.2.2.1 + 1)).reverse.length = (zmg mid).2.2.2.2.2.1 + 1 := by simp; omega
      have hstk : stk = (stk.take ((zmg mid).2.2.2.2.2.1 + 1)).reverse.reverse ++ stk.drop ((zmg mid).2.2.2.2.2.1 + 1) := by rw [List.reverse_reverse, List.take_append_drop]
      generalize hasv : (stk.take ((zmg mid).2.2.2.2.2.1 + 1)).reverse = as at *
      match as, hr0, hlen with
      | .ref r0 :: as', hr0, hlen =>
        obtain ⟨hr1, hr2⟩ := hr0
        rcases hlk with ⟨-, hlk⟩ | ⟨-, hk2, -⟩
        · split at hr2
          · rename_i cx fsx hshx
            have hci := f5 h1
            have hwx := zW_get (base := base) (fa := fa) (cA := cA) hshx
            subst hr2
            have ea : zV base fa (.ref r0) = .ref (base + r0) := congrArg Value.ref (zad_lo hr1)
            have e9 : ((Value.ref r0 :: as').map (zV base fa)) = .ref (base + r0) :: as'.map (zV base fa) := by rw [List.map_cons, ea]
            have hrun := va_runV (p := p) (e := e) (below := below) (meth := meth) (g := F0 m pc ls (stk.map (zV base fa))) (locs := locs) (cells := cells) (slots := slots) (As := as'.map (zV base fa)) (b := base + r0) (rest := (stk.drop ((zmg mid).2.2.2.2.2.1 + 1)).map (zV base fa)) ⟨hx, hb, hml, hown, hts⟩ hM
              (cwV (C := (zmg mid).2.1.cls) ((zmg mid).2.2.2.2.2.1) hts (zgood (fun w hw => by
                rcases List.mem_append.mp hw with q | q
                · rcases List.mem_cons.mp q with rfl | q
                  · exact hlk
                  rcases List.mem_cons.mp q with rfl | q
                  · exact w3 (by omega)
                  rcases List.mem_cons.mp q with rfl | q
                  · exact w5 h1
                  rcases List.mem_cons.mp q with rfl | q
                  · exact w4
                  · cases q
                · exact zws_in k1 k2 w q)) rfl rfl rfl ⟨rfl, f2⟩ ⟨hRf, by show 8 + ((zmg mid).2.2.2.1 + 11) + 64 * d ≤ R.locals; omega⟩)
              ⟨zPc_blind, by
                have := va_recv hKs hW (zcl_at hci) hwx
                rw [f1, ← zcn_cl _ hci]
                exact this, fun U hU hWm => by rw [← e9]; exact pre U hU hWm⟩ rfl (by rw [List.length_map]; simpa using hlen) hL.1 (by
                have e7 := zstk_split (f := zV base fa) hstk
                rw [ea] at e7
                exact e7) (by rw [zwide_map]; show 2 * 0 + zwide _ ≤ 8; omega) hd hfit
            exact fin _ _ rfl _ hrun rfl rfl
          · exact hr2.elim
        · omega
    · unfold zstuck at h
      cases h
  case invokestatic ix =>
    have e1 := zlen_eq hl rfl
    subst e1
    simp only [zone] at h
    unfold zstat at h
    split at h
    · exfalso
      unfold zcopy zstep zstuck at h
      (repeat' split at h) <;> cases h
    · unfold zcallK at h
      split at h
      · rename_i mid' ne hz
        cases h
        obtain ⟨h1, h2, h3, h4⟩ := hP
        obtain ⟨k1, k2, hlk⟩ := zk_get hz
        obtain ⟨f1, f2, f3, f4, f5, f6⟩ := zm_get k1 k2
        obtain ⟨w1, w2, w3, w4, w5⟩ := zm_words k1 k2
        have hlen : (stk.take ((zmg mid).2.2.2.2.2.1 + 0)).reverse.length = (zmg mid).2.2.2.2.2.1 + 0 := by simp; omega
        have hstk : stk = (stk.take ((zmg mid).2.2.2.2.2.1 + 0)).reverse.reverse ++ stk.drop ((zmg mid).2.2.2.2.2.1 + 0) := by rw [List.reverse_reverse, List.take_append_drop]
        generalize hasv : (stk.take ((zmg mid).2.2.2.2.2.1 + 0)).reverse = as at *
        rcases hlk with ⟨-, hlk⟩ | ⟨-, hk2, -⟩
        · have hrun := va_runS (p := p) (e := e) (below := below) (meth := meth) (g := F0 m pc ls (stk.map (zV base fa))) (locs := locs) (cells := cells) (slots := slots) (As := as.map (zV base fa)) (rest := (stk.drop ((zmg mid).2.2.2.2.2.1 + 0)).map (zV base fa)) ⟨hx, hb, hml, hown, hts⟩ hM
            (va_cwS ((zmg mid).2.2.2.2.2.1) hts (zgood (fun w hw => by
              rcases List.mem_append.mp hw with q | q
              · rcases List.mem_cons.mp q with rfl | q
                · exact hlk
                rcases List.mem_cons.mp q with rfl | q
                · exact w2 h1
                rcases List.mem_cons.mp q with rfl | q
                · exact w4
                · cases q
              · exact zws_in k1 k2 w q)) rfl rfl rfl f2 ⟨hRf, by show 8 + ((zmg mid).2.2.2.1 + 11) + 64 * d ≤ R.locals; omega⟩)
            ⟨zPc_blind, pre⟩ rfl (by rw [List.length_map]; simpa using hlen) hL.1 (zstk_split0 (f := zV base fa) hstk) (by rw [zwide_map]; show 2 * 0 + zwide _ ≤ 8; omega) hd hfit
          exact fin _ _ rfl _ hrun rfl rfl
        · omega
      · unfold zstuck at h
        cases h
  case invokespecial ix =>
    have e1 := zlen_eq hl rfl
    subst e1
    simp only [zone] at h
    unfold zspec at h
    split at h
    · exfalso
      unfold zstep zstuck at h
      (repeat' split at h) <;> cases h
    · unfold zcallK at h
      split at h
      · rename_i mid' ne hz
        cases h
        obtain ⟨h1, h2, h3, h4⟩ := hP
        obtain ⟨k1, k2, hlk⟩ := zk_get hz
        obtain ⟨f1, f2, f3, f4, f5, f6⟩ := zm_get k1 k2
        obtain ⟨w1, w2, w3, w4, w5⟩ := zm_words k1 k2
        obtain ⟨f7, f8⟩ := f4 h1
        have hlen : (stk.take ((zmg mid).2.2.2.2.2.1 + 1)).reverse.length = (zmg mid).2.2.2.2.2.1 + 1 := by simp; omega
        have hstk : stk = (stk.take ((zmg mid).2.2.2.2.2.1 + 1)).reverse.reverse ++ stk.drop ((zmg mid).2.2.2.2.2.1 + 1) := by rw [List.reverse_reverse, List.take_append_drop]
        generalize hasv : (stk.take ((zmg mid).2.2.2.2.2.1 + 1)).reverse = as at *
        have hrec : ∃ (r0 : Nat) (as' : List Value), as = .ref r0 :: as' ∧ r0 < 1000 := by
          have h5 := h4 (by omega)
          match as, h5 with
          | .ref r0 :: as', h5 => exact ⟨r0, as', rfl, h5.1⟩
        obtain ⟨r0, as', rfl, hr1⟩ := hrec
        have ea : zV base fa (.ref r0) = .ref (base + r0) := congrArg Value.ref (zad_lo hr1)
        have e9 : ((Value.ref r0 :: as').map (zV base fa)) = .ref (base + r0) :: as'.map (zV base fa) := by rw [List.map_cons, ea]
        have hpre : PreS s H (zPc D base fa cA fz (.ref r0 :: as') st) (.ref (base + r0) :: as'.map (zV base fa)) := ⟨zPc_blind, fun U hU hWm => by rw [← e9]; exact pre U hU hWm⟩
        have hst := zstk_split (f := zV base fa) hstk
        rw [ea] at hst
        have hws : zws mid = Cond.code (zmg mid).2.1 (zmg mid).2.2.1 (zmg mid).2.2.2.1 none :: zBW := by unfold zws; rw [f8]
        have hwd : 2 * (F0 m pc ls (stk.map (zV base fa))).monitorRoom + (((stk.drop ((zmg mid).2.2.2.2.2.1 + 1)).map (zV base fa)).map fun v => v.category).sum ≤ 8 := by
          rw [zwide_map]
          show 2 * 0 + zwide _ ≤ 8
          omega
        rcases hlk with ⟨-, hlk⟩ | ⟨-, -, hlk⟩
        · have hrun := va_runI (p := p) (e := e) (below := below) (meth := meth) (g := F0 m pc ls (stk.map (zV base fa))) (locs := locs) (cells := cells) (slots := slots) (As := as'.map (zV base fa)) (b := base + r0) (rest := (stk.drop ((zmg mid).2.2.2.2.2.1 + 1)).map (zV base fa)) ⟨hx, hb, hml, hown, hts⟩ hM
            (cwI ((zmg mid).2.2.2.2.2.1) hts (zgood (zws_in k1 k2)) hws rfl rfl (hts _ w4) (hts _ hlk) (hts _ (w3 (by omega))) f7 f2 ⟨hRf, by show 8 + ((zmg mid).2.2.2.1 + 11) + 64 * d ≤ R.locals; omega⟩)
            hpre rfl (by rw [List.length_map]; simpa using hlen) hL.1 hst hwd hd hfit
          exact fin _ _ rfl _ hrun rfl rfl
        · have hrun := va_runIN (p := p) (e := e) (below := below) (meth := meth) (g := F0 m pc ls (stk.map (zV base fa))) (locs := locs) (cells := cells) (slots := slots) (As := as'.map (zV base fa)) (b := base + r0) (rest := (stk.drop ((zmg mid).2.2.2.2.2.1 + 1)).map (zV base fa)) ⟨hx, hb, hml, hown, hts⟩ hM
            ⟨va_cnB ((zmg mid).2.2.2.2.2.1) hts (zgood (zws_in k1 k2)) hws rfl rfl (hlk s hN) (hts _ w4) f2 ⟨hRf, by show 8 + ((zmg mid).2.2.2.1 + 11) + 64 * d ≤ R.locals; omega⟩, f7, hts _ (w3 (by omega))⟩
            hpre rfl (by rw [List.length_map]; simpa using hlen) hL.1 hst hwd hd hfit
          exact fin _ _ rfl _ hrun rfl rfl
      · unfold zstuck at h
        cases h
  all_goals exfalso
  all_goals simp only [zone, zstep, zstuck, zild, zlld, zald, zist, zast, zlst, ziinc, zbin, zun, zbinL, zdup, zdup2, zpop1, zif0, zif2, zbr, ztsw, zlsw, zgetf, zputf, zgets, zxald, zxast, zlenA, znewa, znew, zretI, zretL, zretV] at h
  all_goals (repeat' split at h) <;> cases h
end ZSC
