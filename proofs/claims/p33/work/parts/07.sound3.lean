/-! ===== single steps: fields, statics, new cells, copies ===== -/
theorem zcl_at {ci : Nat} (h : ci < vwCl.length) : vwCl[ci]? = some (vwCl.getD ci (RX0, TX0, 0)) := by
  rw [List.getD_eq_getElem?_getD, List.getElem?_eq_getElem h]
  rfl
theorem zf_get {o ix ci k t ne : Nat} {fin : Bool} (h : zfind zf o ix = some (ci, k, fin, t, ne)) : ∃ q : vw_C, vwCl[ci]? = some q ∧ k < q.2.2 ∧ (q.2.1 k).2.2.2 = fin ∧ zft t (zty ci k) = true ∧ (q.2.1 k).1 = zcn ci ∧ (ne = 0 ∨ o ≠ ci) ∧
    ((ne = 0 ∧ Cond.fieldLink (zcn o) ix (q.2.1 k).1 (q.2.1 k).2.1 (q.2.1 k).2.2.1 ∈ zBW) ∨ (¬ ne = 0 ∧ ∀ U, zNst U → va_Nw (Cond.fieldLinkNest (zcn o) ix (q.2.1 k).1 (q.2.1 k).2.1 (q.2.1 k).2.2.1 (zcn (ne - 1))) U)) := by
  have hm := zfind_mem h
  have ok := List.all_eq_true.mp zf_ok _ hm
  simp only [Bool.and_eq_true, decide_eq_true_eq, beq_iff_eq, Bool.or_eq_true] at ok
  obtain ⟨⟨⟨⟨⟨h1, h2⟩, h3⟩, h4⟩, h5⟩, h6⟩ := ok
  refine ⟨_, zcl_at h1, h2, h3.symm, h4, h5, h6, ?_⟩
  by_cases hne : ne = 0
  · exact Or.inl ⟨hne, zfP_m _ (List.mem_filter.mpr ⟨hm, by simp [hne]⟩)⟩
  · exact Or.inr ⟨hne, fun U hU => hU.1 _ (List.mem_filter.mpr ⟨hm, by simp [hne]⟩)⟩
theorem zs_get {o ix k ne : Nat} (h : zfind zs o ix = some (k, ne)) : ∃ q : String × String × String, zst[k]? = some q ∧ ((ne = 0 ∧ Cond.fieldLink (zcn o) ix q.1 q.2.1 q.2.2 ∈ zBW) ∨ (¬ ne = 0 ∧ ∀ U, zNst U → va_Nw (Cond.fieldLinkNest (zcn o) ix q.1 q.2.1 q.2.2 (zcn (ne - 1))) U)) := by
  have hm := zfind_mem h
  have ok := List.all_eq_true.mp zs_ok _ hm
  simp only [decide_eq_true_eq] at ok
  refine ⟨zst.getD k ("", "", ""), ?_, ?_⟩
  · rw [List.getD_eq_getElem?_getD, List.getElem?_eq_getElem ok]
    rfl
  by_cases hne : ne = 0
  · exact Or.inl ⟨hne, zsP_m _ (List.mem_filter.mpr ⟨hm, by simp [hne]⟩)⟩
  · exact Or.inr ⟨hne, fun U hU => hU.2.2 _ (List.mem_filter.mpr ⟨hm, by simp [hne]⟩)⟩
theorem zn_get {o ix ci : Nat} (h : zfind zn o ix = some ci) : ∃ q : vw_C, vwCl[ci]? = some q ∧ Cond.classLink (zcn o) ix q.1 ∈ zBW ∧ Cond.instantiable q.1 q.2.2 ∈ zBW ∧ Cond.initialized q.1 ∈ zBW ∧ (zdf ci).length = q.2.2 ∧ ∀ k, k < q.2.2 → (zft 0 (zty ci k) = true ∨ zft 1 (zty ci k) = true ∨ zft 2 (zty ci k) = true) ∧ (zdf ci)[k]? = some (match zty ci k with
    | .object _ => some .null
    | .array _ => some .null
    | _ => none) := by
  have hm := zfind_mem h
  have hci := List.all_eq_true.mp zn_ok _ hm
  simp only [decide_eq_true_eq] at hci
  refine ⟨_, zcl_at hci, zn_m _ hm, zn2_m _ hm, zn3_m _ hm, by simp [zdf], fun k hk => ⟨ztyk ci k hci hk, ?_⟩⟩
  unfold zdf
  rw [List.getElem?_map, List.getElem?_range hk]
  rfl
section ZSF
variable {p : Program} {l : Launch} {e : Env} {R : Room} {s : State} {m : MethodId} {args : Array Value} {below : List Frame} {meth : Method} {c : Code} {Z : State → Prop} {cc : ByteArray} {o nL mc ms : Nat} {ini : Bool} {D : va_G} {base : Nat} {fa : Nat → Nat} {cA : FieldType → ClassId} {fz : zFz} {st' : zS}
variable {len pc : Nat} {lv : zL} {stk : List Value} {st : zS} {P : Prop} {c' : zC}
theorem zs_getf {ix : Nat} (hy : zHy p R s m args meth c cc o ini nL D base fa cA fz) (hd : decode cc pc = .ok (.getfield ix, 3)) (h : zgetf o ix pc lv stk st = .inl (P, c')) (hP : P)
    (kk : zK p l e R s m args below meth c Z D base fa cA nL mc ms st' c') : zK p l e R s m args below meth c Z D base fa cA nL mc ms st' (pc, lv, stk, st) := by
  obtain ⟨hx, hb, hml, hown, hts, hname, hKs, hF, hN, hbs, hfr, hlo⟩ := hy
  intro H locs cells slots ls hL hW hs hS hc hsl
  have main : ∀ {ci k t ne r : Nat} {fin : Bool} {s' : List Value} {fs : List (Option Value)} {ov : Option Value}, zfind zf o ix = some (ci, k, fin, t, ne) → st.1[r]? = some (.inr (ci, fs)) → r < 1000 → fs[k]? = some ov → W p l e R s m args below meth c H locs cells slots Z (F0 m (pc + 3) ls (zFd base fa (st.2 r) k ov :: s'.map (zV base fa))) → W p l e R s m args below meth c H locs cells slots Z (F0 m pc ls (.ref (zad base fa r) :: s'.map (zV base fa))) := by
    intro ci k t ne r fin s' fs ov hz hsh hr hf k2
    rw [zad_lo hr]
    obtain ⟨q, hq, hk, -, -, -, -, hlk⟩ := zf_get hz
    obtain ⟨hty, hnm, hin⟩ := zclass ci q hq
    have hw := zW_get (base := base) (fa := fa) (cA := cA) hsh
    rcases hlk with ⟨-, hl⟩ | ⟨-, hl⟩
    · exact va_get (hexec := hx) (hb := hb) hts hin hown hKs hW r hw hq k hk (hts _ hl) (fun _ h9 => h9) (zF_get hf) hd k2
    · exact va_getN (hexec := hx) (hb := hb) hts hin hown hKs hW r hw hq k hk (va_Nw.use rfl (hl s hN)) (fun _ h9 => h9) (zF_get hf) hd k2
  unfold zgetf at h
  split at h
  · rename_i ci k fin t ne r s' hz
    split at h
    · rename_i c0 fs hsh
      split at h
      · rename_i hf
        cases h
        obtain ⟨hr, rfl⟩ := hP
        exact main hz hsh hr hf (kk H locs cells slots ls hL hW hs hS hc hsl)
      · rename_i v hf
        cases h
        obtain ⟨hr, rfl⟩ := hP
        exact main hz hsh hr hf (kk H locs cells slots ls hL hW hs hS hc hsl)
      · exact (zstuck_no h hP).elim
    · exact (zstuck_no h hP).elim
  · exact (zstuck_no h hP).elim
theorem zw_put {ix ci k t ne r : Nat} {fin : Bool} {fs : List Value} {v : Value} {H : Heap} {locs : List Loc} {cells slots : Nat} {ls : Array Slot} {rest : List Value} (hy : zHy p R s m args meth c cc o ini nL D base fa cA fz) (hd : decode cc pc = .ok (.putfield ix, 3)) (hz : zfind zf o ix = some (ci, k, fin, t, ne)) (hW : va_P D vwCl (zW base fa cA st) H) (hS : va_S (fun q : Nat => base ≤ q) s.heap H locs) (hw : (zW base fa cA st)[r]? = some (base + r, .inr (ci, fs))) (hfin : fin = false ∨ (ini = true ∧ o = ci)) (hn : narrow (zty ci k) v = v) (hfit : fits (zty ci k) v = true) (hl : k < fs.length)
    (kk : ∀ (H1 : Heap) (locs1 : List Loc), va_P D vwCl ((zW base fa cA st).set r (base + r, .inr (ci, fs.set k v))) H1 → H1.size = H.size → va_S (fun q : Nat => base ≤ q) s.heap H1 locs1 → W p l e R s m args below meth c H1 locs1 cells slots Z (F0 m (pc + 3) ls rest)) : W p l e R s m args below meth c H locs cells slots Z (F0 m pc ls (v :: .ref (base + r) :: rest)) := by
  obtain ⟨hx, hb, hml, hown, hts, hname, hKs, hF, hN, hbs, hfr, hlo⟩ := hy
  obtain ⟨q, hq, hk, hfq, -, hdq, hnq, hlk⟩ := zf_get hz
  obtain ⟨hty, hnm, hin⟩ := zclass ci q hq
  have hap := va_apart (own := zcn o) hts hin (zty ci) hty hnm hKs hq
  obtain ⟨q', h1, cell, q1, q2, q3, q4⟩ := hW r _ hw
  have e1 : q' = q := Option.some.inj (h1.symm.trans hq)
  subst e1
  obtain ⟨hSl, hfc, kC, hkC, hkind⟩ := hKs.1 ci _ hq
  obtain ⟨cf, kf, fi, f, hi, hsl⟩ := hSl k hk
  have hlay := hts _ (hin _ (u_in_lay hk))
  have hst := (u_facts hfc hkC (u_lays hts hin hk) hi).1
  have fin2 : ∀ (H' : Heap), H'[base + r]? = some (cell.setSlot f.slot v) → H'.size = H.size → (∀ z : Nat, z ≠ base + r → H'[z]? = H[z]?) → W p l e R s m args below meth c H' (locs ++ [⟨base + r, f.slot⟩]) cells slots Z (F0 m (pc + 3) ls rest) := by
    intro H' g1 g2 g3
    rw [hsl] at g1 ⊢
    exact kk H' _ (hW.set (zW_D st) hw ⟨_, hq, t_OB.to (V := updV (vp_V fs) k v) ⟨_, g1, q2, q3, t_set q4 hap hk v⟩ (fun j _ => vp_updV_set hl v j)⟩ g3) g2 (hS.put g2 g3 (Nat.le_add_right _ _))
  have hlt : f.slot < cell.slots.size := by rw [hsl]; exact k2_hasslot (q4 k hk)
  unfold u_lay at hlay
  by_cases hfe : fin = true
  · rw [if_pos (hfq.trans hfe)] at hlay
    have h6 := u_fits hfc hkC hkind (Or.inr hlay) hi (hty k hk) hn hfit
    rcases hfin with h7 | ⟨h7, h8⟩
    · rw [h7] at hfe
      cases hfe
    · subst h8
      rcases hlk with ⟨-, hl2⟩ | ⟨hne, -⟩
      · have hcf : m.cls = cf := by
          obtain ⟨_, _, c2, _, _, _, -, -, hf2, -, -, -, hown2, -⟩ := Cond.laysFinal_spec hlay
          have e1 : c2 = cf := by have := hi.symm.trans hf2; simp at this; exact this.1.symm
          rw [hdq] at hown2
          rw [← e1]
          exact Option.some.inj (hown.symm.trans hown2)
        exact W.putFinK hx hb hown (hts _ hl2) hi hst hcf (hname h7) (by rw [q2]; exact h6) q1 q3 hlt rfl rfl hd fin2
      · rcases hnq with g | g
        · exact absurd g hne
        · exact absurd rfl g
  · rw [if_neg (fun z => hfe (hfq.symm.trans z))] at hlay
    have h6 := u_store hfc hkC hkind hlay hi (hty k hk) hn hfit
    rcases hlk with ⟨-, hl2⟩ | ⟨-, hl2⟩
    · exact W.putK hx hb (f := f) ⟨hown, hts _ hl2, ⟨_, _, _, hi⟩, hst⟩ (by rw [q2]; exact h6) q1 q3 hlt rfl rfl hd fin2
    · exact va_WputK hx hb hown (va_Nw.use rfl (hl2 s hN)) hi hst (by rw [q2]; exact h6) q1 q3 hlt rfl rfl hd fin2
theorem zs_putf {ix : Nat} (hy : zHy p R s m args meth c cc o ini nL D base fa cA fz) (hd : decode cc pc = .ok (.putfield ix, 3)) (h : zputf o ini ix pc lv stk st = .inl (P, c')) (hP : P)
    (kk : zK p l e R s m args below meth c Z D base fa cA nL mc ms st' c') : zK p l e R s m args below meth c Z D base fa cA nL mc ms st' (pc, lv, stk, st) := by
  intro H locs cells slots ls hL hW hs hS hc hsl
  unfold zputf at h
  split at h
  · rename_i ci k fin t ne x r s' hz
    split at h
    · rename_i c0 fs hsh
      split at h
      · rename_i hf
        cases h
        obtain ⟨hr, rfl, ht, hfin⟩ := hP
        have hw := zW_get (base := base) (fa := fa) (cA := cA) hsh
        show W p l e R s m args below meth c H locs cells slots Z (F0 m pc ls (.int x :: .ref (zad base fa r) :: s'.map (zV base fa)))
        rw [zad_lo hr]
        obtain ⟨q, hq, hk, -, htt, -⟩ := zf_get hz
        have hnf : narrow (zty c0 k) (.int x) = .int x ∧ fits (zty c0 k) (.int x) = true := by
          rcases ht with rfl | ⟨rfl, hx01⟩
          · generalize zty c0 k = ty at htt
            cases ty <;> first | (cases htt; done) | exact ⟨rfl, rfl⟩
          · generalize zty c0 k = ty at htt
            cases ty <;> first | (cases htt; done) | skip
            rcases hx01 with rfl | rfl <;> exact ⟨rfl, rfl⟩
        refine zw_put hy hd hz hW hS hw hfin hnf.1 hnf.2 (by rw [zF_len]; exact (List.getElem?_eq_some_iff.mp hf).1) (fun H1 locs1 g1 g2 g3 => ?_)
        rw [zF_setI hf] at g1
        have e1 := zW_row (base := base) (fa := fa) (cA := cA) hsh (upd (st.2 r) k x)
        exact kk H1 locs1 cells slots ls hL (e1 ▸ g1) (g2.trans hs) g3 hc hsl
      · exact (zstuck_no h hP).elim
    · exact (zstuck_no h hP).elim
  · rename_i ci k fin t ne y r s' hz
    split at h
    · rename_i c0 fs hsh
      split at h
      · rename_i v0 hf
        cases h
        obtain ⟨hr, rfl, rfl, hfin⟩ := hP
        have hw := zW_get (base := base) (fa := fa) (cA := cA) hsh
        show W p l e R s m args below meth c H locs cells slots Z (F0 m pc ls (.ref (zad base fa y) :: .ref (zad base fa r) :: s'.map (zV base fa)))
        rw [zad_lo (k := r) hr]
        obtain ⟨q, hq, hk, -, htt, -⟩ := zf_get hz
        have hnf : narrow (zty c0 k) (.ref (zad base fa y)) = .ref (zad base fa y) ∧ fits (zty c0 k) (.ref (zad base fa y)) = true := by
          generalize zty c0 k = ty at htt
          cases ty <;> first | (cases htt; done) | exact ⟨rfl, rfl⟩
        refine zw_put hy hd hz hW hS hw hfin hnf.1 hnf.2 (by rw [zF_len]; exact (List.getElem?_eq_some_iff.mp hf).1) (fun H1 locs1 g1 g2 g3 => ?_)
        have e0 : (zF base fa (st.2 r) fs).set k (.ref (zad base fa y)) = zF base fa (st.2 r) (fs.set k (some (.ref y))) := zF_setR (w := .ref y) hf
        rw [e0] at g1
        have e1 := zW_shape (base := base) (fa := fa) (cA := cA) (y := .inr (c0, fs.set k (some (.ref y)))) hsh
        refine kk H1 locs1 cells slots ls hL (e1 ▸ g1) ?_ g3 ?_ ?_
        · show H1.size = base + (st.1.set r _).length
          rw [List.length_set]
          exact g2.trans hs
        · show cells + _ = mc + (st.1.set r _).length
          rw [List.length_set]
          exact hc
        · show slots + _ = ms + zsl (st.1.set r _)
          rw [zsl_set hsh (by show (fs.set k _).length = fs.length; rw [List.length_set])]
          exact hsl
      · exact (zstuck_no h hP).elim
    · exact (zstuck_no h hP).elim
  · exact (zstuck_no h hP).elim
theorem zs_gets {ix : Nat} (hy : zHy p R s m args meth c cc o ini nL D base fa cA fz) (hd : decode cc pc = .ok (.getstatic ix, 3)) (h : zgets o ix pc lv stk st = .inl (P, c')) (hP : P)
    (kk : zK p l e R s m args below meth c Z D base fa cA nL mc ms st' c') : zK p l e R s m args below meth c Z D base fa cA nL mc ms st' (pc, lv, stk, st) := by
  obtain ⟨hx, hb, hml, hown, hts, hname, hKs, hF, hN, hbs, hfr, hlo⟩ := hy
  intro H locs cells slots ls hL hW hs hS hc hsl
  unfold zgets at h
  split at h
  · rename_i k ne hz
    cases h
    obtain ⟨q, hq, hlk⟩ := zs_get hz
    have hZ := hF.1 k q hq
    have k2 : W p l e R s m args below meth c H locs cells slots Z (F0 m (pc + 3) ls (.ref (zad base fa (1000 + k)) :: stk.map (zV base fa))) := kk H locs cells slots ls hL hW hs hS hc hsl
    rw [zad_hi (by omega), Nat.add_sub_cancel_left] at k2
    rcases hlk with ⟨-, hl⟩ | ⟨-, hl⟩
    · exact va_gets (hexec := hx) (hb := hb) hZ hS hown (hts _ hl) (fun _ h9 => h9) hd k2
    · exact va_getsN (hexec := hx) (hb := hb) hZ hS hown (va_Nw.use rfl (hl s hN)) (fun _ h9 => h9) hd k2
  · exact (zstuck_no h hP).elim
theorem zw_push {x : zSh} {H H1 : Heap} (hW : va_P D vwCl (zW base fa cA st) H) (hs : H.size = base + st.1.length) (o1 : ∀ q, q < base + st.1.length → H1[q]? = H[q]?) (hx : va_at D vwCl (base + st.1.length, zE base fa cA (fun _ => 0) x) H1) : va_P D vwCl (zW base fa cA (st.1 ++ [x], va_up st.2 st.1.length (fun _ => 0))) H1 := by
  rw [zW_push (base := base) (fa := fa) (cA := cA) (st := st) (x := x) (fun _ => 0)]
  refine va_P.app (hW.kept fun k q hk => o1 q.1 (hs ▸ (hW k q hk).lt)) (fun k q hk => ?_)
  have hz : k < 1 := (List.getElem?_eq_some_iff.mp hk).1
  rw [show k = 0 by omega] at hk
  cases hk
  exact hx
theorem zs_newa {t : ArrayType} (hy : zHy p R s m args meth c cc o ini nL D base fa cA fz) (hmc : mc ≤ R.cells) (hms : ms ≤ R.slots) (hd : decode cc pc = .ok (.newarray t, 2)) (h : znewa t pc lv stk st = .inl (P, c')) (hP : P) (hm1 : c'.2.2.2.1.length ≤ st'.1.length) (hm2 : zsl c'.2.2.2.1 ≤ zsl st'.1)
    (kk : zK p l e R s m args below meth c Z D base fa cA nL mc ms st' c') : zK p l e R s m args below meth c Z D base fa cA nL mc ms st' (pc, lv, stk, st) := by
  obtain ⟨hx, hb, hml, hown, hts, hname, hKs, hF, hN, hbs, hfr, hlo⟩ := hy
  intro H locs cells slots ls hL hW hs hS hc hsl
  unfold znewa at h
  split at h
  · rename_i n s' ty hty
    cases h
    obtain ⟨hr, h0, h1⟩ := hP
    have el : (st.1 ++ [Sum.inl (ty, n.toInt.toNat)]).length = st.1.length + 1 := by simp
    have es : zsl (st.1 ++ [Sum.inl (ty, n.toInt.toNat)]) = zsl st.1 + n.toInt.toNat := zsl_push
    have hm1 : (st.1 ++ [Sum.inl (ty, n.toInt.toNat)]).length ≤ st'.1.length := hm1
    have hm2 : zsl (st.1 ++ [Sum.inl (ty, n.toInt.toNat)]) ≤ zsl st'.1 := hm2
    rw [el] at hm1
    rw [es] at hm2
    have hc : cells + st'.1.length = mc + st.1.length := hc
    have hsl : slots + zsl st'.1 = ms + zsl st.1 := hsl
    have hs : H.size = base + st.1.length := hs
    have htt : newarray.typeOf t = ty ∧ Cond.arrayClass ty ∈ zBW ∧ defaultValue ty = .int 0 ∧ (∀ cA', s.vm.findClass ("[" ++ ty.toString) = some cA' → cA' = cA ty) ∧ componentBytes ty ≤ 4 := by
      cases t <;> first | (cases hty; done) | skip
      all_goals cases hty
      · exact ⟨rfl, za_m .byte (by simp), rfl, fun cA' h => Option.some.inj (h.symm.trans (hKs.2 1 _ rfl).2), by decide⟩
      · exact ⟨rfl, za_m .int (by simp), rfl, fun cA' h => Option.some.inj (h.symm.trans (hKs.2 0 _ rfl).2), by decide⟩
    obtain ⟨ht1, ht2, ht3, ht4, ht5⟩ := htt
    have hnn : n.toNatClampNeg = n.toInt.toNat := rfl
    refine va_newaK hx hb (by rw [ht1]; exact hts _ ht2) rfl hd rfl (znn h0) hnn (by
      rw [ht1]
      have : n.toInt.toNat * componentBytes ty ≤ 100000 * 4 := Nat.mul_le_mul (by omega) ht5
      omega) (by omega) (by omega) hs fun H1 cA' e1 z1 o1 hAr hNm => ?_
    rw [ht1] at e1 hAr hNm
    have ec : cA' = cA ty := ht4 cA' hNm
    subst ec
    have k2 := kk H1 locs (cells + 1) (slots + n.toInt.toNat) ls hL (zw_push (st := st) hW hs o1 (by
      show H1[base + st.1.length]? = some (vp_cell (cA ty) (n.toInt.toNat, .inl (fun _ => 0)))
      rw [vp_cell_i, e1, ht3])) (by rw [z1, el]; omega) ⟨by rw [z1]; have := hS.1; omega, fun q g1 g2 => (o1 q (by have := hS.1; omega)).trans (hS.2.1 q g1 g2), hS.2.2⟩ (by show _ + _ = _ + (st.1 ++ [_]).length; rw [el]; omega) (by show _ + _ = _ + zsl (st.1 ++ [_]); rw [es]; omega)
    have e9 : zV base fa (.ref st.1.length) = .ref (base + st.1.length) := congrArg Value.ref (zad_lo hr)
    simp only [List.map_cons, e9] at k2
    exact k2
  · exact (zstuck_no h hP).elim
theorem zs_new {ix : Nat} (hy : zHy p R s m args meth c cc o ini nL D base fa cA fz) (hmc : mc ≤ R.cells) (hms : ms ≤ R.slots) (hd : decode cc pc = .ok (.new ix, 3)) (h : znew o ix pc lv stk st = .inl (P, c')) (hP : P) (hm1 : c'.2.2.2.1.length ≤ st'.1.length) (hm2 : zsl c'.2.2.2.1 ≤ zsl st'.1)
    (kk : zK p l e R s m args below meth c Z D base fa cA nL mc ms st' c') : zK p l e R s m args below meth c Z D base fa cA nL mc ms st' (pc, lv, stk, st) := by
  obtain ⟨hx, hb, hml, hown, hts, hname, hKs, hF, hN, hbs, hfr, hlo⟩ := hy
  intro H locs cells slots ls hL hW hs hS hc hsl
  unfold znew at h
  split at h
  · rename_i ci hz
    cases h
    have hr := hP
    obtain ⟨q, hq, w1, w2, w3, hdl, hdk⟩ := zn_get hz
    obtain ⟨hty, hnm, hin⟩ := zclass ci q hq
    have hKn := hKs.1 ci _ hq
    have el : (st.1 ++ [Sum.inr (ci, zdf ci)]).length = st.1.length + 1 := by simp
    have es : zsl (st.1 ++ [Sum.inr (ci, zdf ci)]) = zsl st.1 + q.2.2 := by rw [← hdl]; exact zsl_push
    have hm1 : (st.1 ++ [Sum.inr (ci, zdf ci)]).length ≤ st'.1.length := hm1
    have hm2 : zsl (st.1 ++ [Sum.inr (ci, zdf ci)]) ≤ zsl st'.1 := hm2
    rw [el] at hm1
    rw [es] at hm2
    have hc : cells + st'.1.length = mc + st.1.length := hc
    have hsl : slots + zsl st'.1 = ms + zsl st.1 := hsl
    have hs : H.size = base + st.1.length := hs
    refine W.newcK hx hb hown (hts _ w1) (hts _ w2) (hts _ w3) rfl hd (by omega) (by omega) hKn.2.1 hs fun H1 kC hkC e1 z1 o1 => ?_
    have hborn := u_born (zty ci) hts hin hKn hkC e1 hty
    have k2 := kk H1 locs (cells + 1) (slots + q.2.2) ls hL (zw_push (st := st) hW hs o1 ⟨_, hq, hborn.to fun k hk => by
        show defaultValue (zty ci k) = vp_V (zF base fa (fun _ => 0) (zdf ci)) k
        obtain ⟨ht, e5⟩ := hdk k hk
        have e6 := zF_get (base := base) (fa := fa) (row := fun _ => (0 : Int32)) e5
        rw [vp_V, List.getD_eq_getElem?_getD, e6]
        generalize zty ci k = ty at ht ⊢
        cases ty <;> first | rfl | (rcases ht with q | q | q <;> cases q)⟩) (by rw [z1, el]; omega) ⟨by rw [z1]; have := hS.1; omega, fun q g1 g2 => (o1 q (by have := hS.1; omega)).trans (hS.2.1 q g1 g2), hS.2.2⟩ (by show _ + _ = _ + (st.1 ++ [_]).length; rw [el]; omega) (by show _ + _ = _ + zsl (st.1 ++ [_]); rw [es]; omega)
    have e9 : zV base fa (.ref st.1.length) = .ref (base + st.1.length) := congrArg Value.ref (zad_lo hr)
    simp only [List.map_cons, e9] at k2
    exact k2
  · exact (zstuck_no h hP).elim
end ZSF
