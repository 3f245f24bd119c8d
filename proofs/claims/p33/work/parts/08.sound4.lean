/-! ===== single steps put together; branches, switches, calls, ends; the whole run ===== -/
section ZSG
variable {p : Program} {l : Launch} {e : Env} {R : Room} {s : State} {m : MethodId} {args : Array Value} {below : List Frame} {meth : Method} {c : Code} {Z : State → Prop} {cc : ByteArray} {o nL mc ms : Nat} {ini : Bool} {D : va_G} {base : Nat} {fa : Nat → Nat} {cA : FieldType → ClassId} {fz : zFz} {st' : zS}
variable {len pc : Nat} {lv : zL} {stk : List Value} {st : zS} {P : Prop} {c' : zC}
theorem zs_copy {ix : Nat} (hy : zHy p R s m args meth c cc o ini nL D base fa cA fz) (hd : decode cc pc = .ok (.invokestatic ix, 3)) (hz : zfind zy o ix = some ()) (h : zcopy pc lv stk st = .inl (P, c')) (hP : P)
    (kk : zK p l e R s m args below meth c Z D base fa cA nL mc ms st' c') : zK p l e R s m args below meth c Z D base fa cA nL mc ms st' (pc, lv, stk, st) := by
  obtain ⟨hx, hb, hml, hown, hts, hname, hKs, hF, hN, hbs, hfr, hlo⟩ := hy
  intro H locs cells slots ls hL hW hs hS hc hsl
  unfold zcopy at h
  split at h
  · rename_i n dp dr sp qr s'
    split at h
    · rename_i n0 n1 hq hdd
      cases h
      obtain ⟨g1, g2, g3, g4, g5, g6, g7, g8⟩ := hP
      have hwq := zW_get (base := base) (fa := fa) (cA := cA) hq
      have hwd := zW_get (base := base) (fa := fa) (cA := cA) hdd
      show W p l e R s m args below meth c H locs cells slots Z (F0 m pc ls (.int n :: .int dp :: .ref (zad base fa dr) :: .int sp :: .ref (zad base fa qr) :: s'.map (zV base fa)))
      rw [zad_lo g1, zad_lo g2]
      have w1 := zy2_m 0 (by simp)
      have w2 := zy2_m 1 (by simp)
      have w3 := zy2_m 2 (by simp)
      obtain ⟨-, k0, hk0, cm0, hkk0⟩ := (hKs.2 0 _ rfl).1 n0 (fun j => .int (st.2 qr j))
      have hc0 : H[base + qr]? = some (vp_cell (cA .int) (n0, .inl (st.2 qr))) := hW qr _ hwq
      have hc1 : H[base + dr]? = some (vp_cell (cA .int) (n1, .inl (st.2 dr))) := hW dr _ hwd
      have tn : ∀ z : Int32, 0 ≤ z.toInt → z.toInt = (z.toNatClampNeg : Int) := fun z hz => by show z.toInt = ((z.toInt.toNat : Nat) : Int); omega
      intro T hT X
      obtain ⟨vm', X', step⟩ := X.arraycopy hx hown (hts _ (zy_m _ (zfind_mem hz))) (hts _ w1) (hts _ w2) (hts _ w3) (src := base + qr) (dst := base + dr) (cs := vp_cell (cA .int) (n0, .inl (st.2 qr))) (cd := vp_cell (cA .int) (n1, .inl (st.2 dr))) (srcPos := sp) (destPos := dp) (n := n) (by rw [hT]; exact hc0) (by rw [hT]; exact hc1)
        (fun _ h => by cases h) (fun _ h => by cases h) (fun h => by cases h) (fun h => by cases h) hk0 hk0 hkk0 hkk0 (by simp [refKind]) (znn g4) (znn g5) (znn g6)
        (by show ¬ _ > ((arrV (cA .int) n0 (fun j => .int (st.2 qr j))).slots.size : Int); rw [arrV_size]; omega)
        (by show ¬ _ > ((arrV (cA .int) n1 (fun j => .int (st.2 dr j))).slots.size : Int); rw [arrV_size]; omega)
        (fun vm₁ _ i hi => by
          have t1 := tn sp g4
          have t3 := tn n g6
          have e : (vp_cell (cA .int) (n0, .inl (st.2 qr))).slots.getD (sp.toNatClampNeg + i) .null = .int (st.2 qr (sp.toNatClampNeg + i)) := by
            show (arrV (cA .int) n0 (fun j => .int (st.2 qr j))).slots.getD _ _ = _
            rw [Array.getD_eq_getD_getElem?, arrV_read _ _ (by omega)]
            rfl
          refine ⟨?_, ?_⟩
          · rw [e]; rfl
          · rw [e]; exact trivial)
        (g := F0 m pc ls (.int n :: .int dp :: .ref (base + dr) :: .int sp :: .ref (base + qr) :: s'.map (zV base fa))) rfl (by rw [hml]; exact hL.1) (rest := s'.map (zV base fa)) rfl (by rw [hb]; exact hd) hfr (by
          rw [zwide_map]
          show 2 * 0 + zwide s' + (nativeFrameWords "java/lang/System" "arraycopy" 5 + 11) ≤ R.locals
          have : nativeFrameWords "java/lang/System" "arraycopy" 5 = 7 := by decide +kernel
          omega)
      have t1 := tn sp g4
      have t3 := tn n g6
      have e1 : copied (vp_cell (cA .int) (n0, .inl (st.2 qr))) (vp_cell (cA .int) (n1, .inl (st.2 dr))) sp dp n = vp_cell (cA .int) (n1, .inl (va_cpy (st.2 qr) (st.2 dr) sp.toNatClampNeg dp.toNatClampNeg n.toNatClampNeg)) := va_copied (fun z => .int z) (cA .int) (cA .int) (st.2 qr) (st.2 dr) (by omega)
      rw [e1] at X' step
      have hl : base + dr < H.size := (Array.getElem?_eq_some_iff.mp hc1).1
      generalize hcell : vp_cell (cA .int) (n1, .inl (va_cpy (st.2 qr) (st.2 dr) sp.toNatClampNeg dp.toNatClampNeg n.toNatClampNeg)) = cell at X' step
      have hheap : ((T.setVm vm').setCell (base + dr) cell).heap = H.setIfInBounds (base + dr) cell := by rw [← hT]; rfl
      have oq : ∀ q : Nat, q ≠ base + dr → (H.setIfInBounds (base + dr) cell)[q]? = H[q]? := fun q hq => by simp [Array.getElem?_setIfInBounds, Ne.symm hq]
      have hW' : va_P D vwCl (zW base fa cA (st.1, va_up st.2 dr (va_cpy (st.2 qr) (st.2 dr) sp.toInt.toNat dp.toInt.toNat n.toInt.toNat))) (H.setIfInBounds (base + dr) cell) := by
        rw [← zW_row (base := base) (fa := fa) (cA := cA) hdd]
        refine hW.set (zW_D st) hwd ?_ oq
        show (H.setIfInBounds (base + dr) cell)[base + dr]? = some (vp_cell _ _)
        rw [← hcell]
        simp [Array.getElem?_setIfInBounds, hl]
      obtain ⟨t, a1, b1⟩ := kk _ _ _ _ _ hL hW' (by rw [← hs]; simp) (⟨by simp; exact hS.1, fun q y1 y2 => by
          rw [oq q (fun e => y2 (by show base ≤ q; omega))]
          exact hS.2.1 q y1 y2, fun q hq => by
          rcases List.mem_append.mp hq with h | h
          · exact hS.2.2 q h
          · obtain ⟨z, -, hz⟩ := List.mem_map.mp h
            rw [← hz]
            exact Nat.le_add_right _ _⟩) hc hsl _ hheap X'
      exact ⟨t, step t a1, b1⟩
    · exact (zstuck_no h hP).elim
  · exact (zstuck_no h hP).elim
end ZSG
