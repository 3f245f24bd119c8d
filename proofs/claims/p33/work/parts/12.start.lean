/-! ===== the law: from its run on the abstract machine to its walk ===== -/
/-! THE CLAIM OUT OF ONE WALK OF THE LAW'S BODY. Your part is whole_start (and what it stands on); all else here is the same for every law, but numbers. -/
def R_law : String := "CrankLayoutLaw"
def lw_P (b : Addr) (xs : List Int32) (args : Array Value) (s : State) : Prop := args = #[.ref b] ∧ s.IntsAt b xs ∧ xs.length ≤ 260 ∧ (Jvm.Cond.and given_1 narrow_1).before args s = true
def lw_Q (_ : Array Value) (s : State) (o : Outcome) (t : State) : Prop := o = .returned (some (.int 1)) ∧ Framed s o t [] 600000 7302250
def lw_Z (below : List Frame) (a : Array Value) (s : State) : State → Prop := fun t => ∃ o, t.status = .running ∧ Ended t below o ∧ lw_Q a s o t
/-- the law's own end, with 1 on the stack, nothing written that was there before, its room as the claim has it -/
theorem lw_ret {p : Program} {l : Launch} {e : Env} {s : State} {m : MethodId} {below : List Frame} {meth : Method} {c : Code} {b : Nat} (hx : p.tables.exec = Jvm.exec) (hb : c.code = code) (hr : meth.sig.returnType = ret) (hlocks : meth.locks = false) {pc : Nat} {H : Heap} {ls : Array Slot} (hdg : decode code pc = .ok (.ireturn, 1)) : W p l e room_1 s m #[Value.ref b] below meth c H [] 600000 7302250 (lw_Z below #[Value.ref b] s) (F0 m pc ls [.int 1]) := by
  intro T hT X
  obtain ⟨fs, hret, hrun, hended, hW, hframe⟩ := X.leave (v := some (.int 1)) (hlocks := hlocks) (fun h => by rw [hr] at h; cases h)
  have hmeth' : T.vm.method? m = some meth := X.method'
  refine ⟨T.setFrames fs, ?_, .returned (some (.int 1)), hrun, hended, rfl, ⟨_, rfl⟩, hW, hframe⟩
  jvm_step X.here [X.here.top, hx, hb, hdg, hmeth', hr, ret, narrow_b1]
  (try refine ⟨rfl, ?_⟩); (try refine ⟨rfl, ?_⟩)
  first | (intro acts; rw [hret _ acts rfl rfl rfl]) | rw [hret _ _ rfl rfl rfl]
  exact Steps.refl _
/-- what holds at the law's entry: the machine, the code, the tables' words (any of lw_tbl by 'hts w (by decide +kernel)'), the script of L ints xs at the cell b, what the Statement gives of the start (any of its parts by flat_of_before) -/
def lw_At (p : Program) (s : State) (m : MethodId) (meth : Method) (c : Code) (b L : Nat) (xs : Nat → Int32) : Prop :=
  p.tables.exec = Jvm.exec ∧ c.code = code ∧ meth.sig.returnType = ret ∧ c.maxLocals = 9 ∧ s.vm.findClass R_law = some m.cls ∧ (∀ w ∈ lw_tbl, w.before #[Value.ref b] s = true) ∧ va_X b L xs s s.heap ∧ b < s.heap.size ∧ meth.locks = false ∧ (Jvm.Cond.and given_1 narrow_1).before #[Value.ref b] s = true
def zsv_0 : List Int32 := [(2), (0), (1), (0), (-1), (0), (-2), (0), (-1), (0), (1), (0)]
def zsv_1 : List Int32 := [(0), (1), (0), (0), (0), (-1), (0), (-1), (0), (0), (0), (1)]
/-- what nobody writes: the static arrays, and the script behind reference 1002 -/
def zfz (L : Nat) (xs : Nat → Int32) : zFz := [(12, fun j => zsv_0.getD j 0), (12, fun j => zsv_1.getD j 0), (L, xs)]
theorem zd_of {s : State} (h : ∀ (ci : Nat) (q : vw_C), vwCl[ci]? = some q → ∃ (cC : ClassId) (iS : Nat → Nat), u_Kn s q.1 q.2.1 q.2.2 cC iS) : ∃ D : va_G, ∀ (ci : Nat) (q : vw_C), vwCl[ci]? = some q → u_Kn s q.1 q.2.1 q.2.2 (D.1 ci) (D.2 ci) := by
  have h2 : ∀ ci : Nat, ∃ x : ClassId × (Nat → Nat), ∀ q : vw_C, vwCl[ci]? = some q → u_Kn s q.1 q.2.1 q.2.2 x.1 x.2 := by
    intro ci
    cases hq : vwCl[ci]? with
    | none => exact ⟨(0, fun _ => 0), fun q h => by cases h⟩
    | some q =>
      obtain ⟨cC, iS, hk⟩ := h ci q hq
      exact ⟨(cC, iS), fun q' h' => by cases h'; exact hk⟩
  exact ⟨(fun ci => (Classical.choose (h2 ci)).1, fun ci => (Classical.choose (h2 ci)).2), fun ci q hq => Classical.choose_spec (h2 ci) q hq⟩
theorem zarr_of {args : Array Value} {s : State} {ty : FieldType} (hp : ty = .int ∨ ty = .byte ∨ ty = .boolean) (h : (Cond.arrayClass ty).before args s = true) : ArrOfT s ((s.vm.findClass ("[" ++ ty.toString)).getD 0) ty ∧ va_RA s ((s.vm.findClass ("[" ++ ty.toString)).getD 0) ty := by
  obtain ⟨cA, kA, comp, h1, h2, h3⟩ := Cond.arrayClass_spec h
  rw [h1]
  refine ⟨fun n z => ⟨fun k h => (by cases h), kA, h2, comp, h3⟩, ?_⟩
  rcases hp with rfl | rfl | rfl <;> exact h1
theorem zX_T {b L base : Nat} {xs : Nat → Int32} {s : State} (hX : va_X b L xs s s.heap) (hb : b < base) : va_T .int b L (fun j => .int (xs j)) (fun q : Nat => base ≤ q) s s.heap := by
  obtain ⟨scr, h1, h2, h3, h4, h5⟩ := hX
  exact ⟨scr, h1, h2, h3, by omega, (by rw [h4]), h5, by omega⟩
set_option maxRecDepth 100000 in
theorem zst_0 {args : Array Value} {s : State} (hgv : (Jvm.Cond.and given_1 narrow_1).before args s = true) (hts : ∀ w ∈ lw_tbl, w.before args s = true) : ∃ t : Nat, va_Z "CrankLayout" "COS_A" "[I" (.ref t) (fun q : Nat => s.heap.size ≤ q) s s.heap ∧ va_T .int t 12 (fun j => .int (zsv_0.getD j 0)) (fun q : Nat => s.heap.size ≤ q) s s.heap := by
  have hs := flat_of_before _ hgv
  have hA : ∀ a : Nat, a < s.heap.size → ¬ s.heap.size ≤ a := fun a h => by omega
  have key : ∀ j : Nat, j < 12 → (Cond.eq (.elem (.static "CrankLayout" "COS_A" "[I") (.int (Int32.ofNat j))) (.int (zsv_0.getD j 0))) ∈ flatC (Jvm.Cond.and given_1 narrow_1) := by decide +kernel
  obtain ⟨t, h1, h2⟩ := va_Tof (tm := .static "CrankLayout" "COS_A" "[I") (ty := .int) (N := 12) (f := fun j => .int (zsv_0.getD j 0)) (A := fun q : Nat => s.heap.size ≤ q) (by decide) (hs (.arrayOf (.static "CrankLayout" "COS_A" "[I") .int) (by decide +kernel)) (va_eqt (hs (.eq (.length (.static "CrankLayout" "COS_A" "[I")) (.int (Int32.ofNat 12))) (by decide +kernel))) (fun j hj => va_eqt (hs _ (key j hj))) hA
  have m1 : Cond.laysStatic "CrankLayout" "COS_A" "[I" ∈ lw_tbl := List.mem_of_getElem? (i := 376) (by decide +kernel)
  have m2 : Cond.initialized "CrankLayout" ∈ lw_tbl := List.mem_of_getElem? (i := 17) (by decide +kernel)
  exact ⟨t, va_Zref (hts _ m1) (hts _ m2) h1 hA, h2⟩
set_option maxRecDepth 100000 in
theorem zst_1 {args : Array Value} {s : State} (hgv : (Jvm.Cond.and given_1 narrow_1).before args s = true) (hts : ∀ w ∈ lw_tbl, w.before args s = true) : ∃ t : Nat, va_Z "CrankLayout" "COS_B" "[I" (.ref t) (fun q : Nat => s.heap.size ≤ q) s s.heap ∧ va_T .int t 12 (fun j => .int (zsv_1.getD j 0)) (fun q : Nat => s.heap.size ≤ q) s s.heap := by
  have hs := flat_of_before _ hgv
  have hA : ∀ a : Nat, a < s.heap.size → ¬ s.heap.size ≤ a := fun a h => by omega
  have key : ∀ j : Nat, j < 12 → (Cond.eq (.elem (.static "CrankLayout" "COS_B" "[I") (.int (Int32.ofNat j))) (.int (zsv_1.getD j 0))) ∈ flatC (Jvm.Cond.and given_1 narrow_1) := by decide +kernel
  obtain ⟨t, h1, h2⟩ := va_Tof (tm := .static "CrankLayout" "COS_B" "[I") (ty := .int) (N := 12) (f := fun j => .int (zsv_1.getD j 0)) (A := fun q : Nat => s.heap.size ≤ q) (by decide) (hs (.arrayOf (.static "CrankLayout" "COS_B" "[I") .int) (by decide +kernel)) (va_eqt (hs (.eq (.length (.static "CrankLayout" "COS_B" "[I")) (.int (Int32.ofNat 12))) (by decide +kernel))) (fun j hj => va_eqt (hs _ (key j hj))) hA
  have m1 : Cond.laysStatic "CrankLayout" "COS_B" "[I" ∈ lw_tbl := List.mem_of_getElem? (i := 378) (by decide +kernel)
  have m2 : Cond.initialized "CrankLayout" ∈ lw_tbl := List.mem_of_getElem? (i := 17) (by decide +kernel)
  exact ⟨t, va_Zref (hts _ m1) (hts _ m2) h1 hA, h2⟩
set_option maxHeartbeats 4000000 in
theorem z_start {p : Program} {e : Env} {s : State} {m : MethodId} {below : List Frame} {meth : Method} {c : Code} (l : Launch) {b L : Nat} {xs : Nat → Int32} (C0 : lw_At p s m meth c b L xs) {d n : Nat} {st' : zS} (hd1 : d < 1000) (hc : st'.1.length ≤ 600000) (hsl : zsl st'.1 ≤ 7302250) (hrun : zR (zfz L xs) (zEv (zfz L xs) d) 10 false code (some (.int 1)) st' n (0, zinit [.ref 1002] 9, [], ([], fun _ _ => 0))) : W p l e room_1 s m #[Value.ref b] below meth c s.heap [] 0 0 (lw_Z below #[Value.ref b] s) (entryFrame m ([Value.ref b] : List Value).toArray 9) := by
  obtain ⟨hx, hb, hr, hml, hown, hts, hX, hbl, hlocks, hgv⟩ := C0
  obtain ⟨t0, hZ0, hT0⟩ := zst_0 hgv hts
  obtain ⟨t1, hZ1, hT1⟩ := zst_1 hgv hts
  have hts' : ∀ w ∈ zBW, w.before #[Value.ref b] s = true := fun w hw => hts w (zBW_in w hw)
  obtain ⟨D, hD⟩ := zd_of (s := s) (fun ci q hq => u_known hts' (zclass ci q hq).2.2 (hts' (Cond.instantiable q.1 q.2.2) (zinst ci q hq)))
  let fa : Nat → Nat := fun k => [t0, t1, b].getD k 0
  let cA : FieldType → ClassId := fun ty => (s.vm.findClass ("[" ++ ty.toString)).getD 0
  have hK : va_K D vwCl (zTy cA) s := by
    refine ⟨hD, fun k q hq => ?_⟩
    match k, hq with
    | 0, hq => cases hq; exact zarr_of (Or.inl rfl) (hts' _ (za_m .int (by simp)))
    | 1, hq => cases hq; exact zarr_of (Or.inr (Or.inl rfl)) (hts' _ (za_m .byte (by simp)))
    | k + 2, hq => simp [zTy] at hq
  have hF : zFZ s.heap.size fa (zfz L xs) s s.heap := by
    refine ⟨fun k q hq => ?_, fun k q hq => ?_⟩
    · match k, hq with
      | 0, hq => cases hq; exact hZ0
      | 1, hq => cases hq; exact hZ1
      | k + 2, hq => simp [zst] at hq
    · match k, hq with
      | 0, hq => cases hq; exact hT0
      | 1, hq => cases hq; exact hT1
      | 2, hq => cases hq; exact zX_T hX hbl
      | k + 3, hq => simp [zfz] at hq
  have hN : zNst s := ⟨fun q hq => va_Nw.of rfl (hts _ (zfN_m q hq)), fun q hq => va_Nw.of rfl (hts _ (zkN_m q hq)), fun q hq => va_Nw.of rfl (hts _ (zsN_m q hq))⟩
  have hy : zHy p room_1 s m #[Value.ref b] meth c code 10 false 9 D s.heap.size fa cA (zfz L xs) := ⟨hx, hb, hml, hown, hts', (fun h => by cases h), hK, hF, hN, Nat.le_refl _, by decide, by decide⟩
  have hl := lv_entry ([.ref b]) (n := 9) (Nat.le_of_ble_eq_true rfl)
  rw [lg_entry_eq]
  generalize (lg_sl ([.ref b]) ++ List.replicate (9 - (lg_sl ([.ref b])).length) Slot.unset).toArray = ls at hl ⊢
  have e0 : ([Value.ref 1002] : List Value).map (zV s.heap.size fa) = [.ref b] := rfl
  have hP : va_P D vwCl (zW s.heap.size fa cA ([], fun _ _ => 0)) s.heap := fun k q h => by simp [zW] at h
  refine z_sim (d := d) (r := some (.int 1)) (st' := st') (Z := lw_Z below #[Value.ref b] s) hy (mc := st'.1.length) (ms := zsl st'.1) hc hsl (by show d + 1 ≤ 2048; omega) (by show 64 * (d + 1) ≤ 84000; omega) (zEv_met d) ?_ n _ hrun s.heap [] 0 0 ls (zinit_ok (as := [.ref 1002]) rfl (by show (1 : Nat) ≤ 9; omega) (by rw [e0]; exact hl)) hP rfl va_S.rf (by show 0 + st'.1.length = st'.1.length + 0; omega) (by show 0 + zsl st'.1 = zsl st'.1 + 0; omega)
  intro H locs pc ls' hW' hs' hS'
  refine ⟨(fun h => by cases h), fun x e1 hd => ?_, (fun x h => by cases h)⟩
  cases e1
  refine va_forget (fun q hq => hS'.2.2 q hq) ?_
  refine W.widen (k := 600000) (n := 7302250) hc hsl ?_
  exact lw_ret hx hb hr hlocks hd
