section ZSX
variable {p : Program} {l : Launch} {e : Env} {R : Room} {s : State} {m : MethodId} {args : Array Value} {below : List Frame} {meth : Method} {c : Code} {Z : State → Prop} {cc : ByteArray} {o nL mc ms : Nat} {ini : Bool} {D : va_G} {base : Nat} {fa : Nat → Nat} {cA : FieldType → ClassId} {fz : zFz} {st' : zS}
variable {len pc : Nat} {lv : zL} {stk : List Value} {st : zS} {P : Prop} {c' : zC}
theorem zc_get {o ix : Nat} {v : Int32} (h : zfind zc o ix = some v) : Cond.constant (zcn o) ix v ∈ zBW := zc_m _ (zfind_mem h)
theorem zj_get {o ix : Nat} {v : Int64} (h : zfind zj o ix = some v) : Cond.constantLong (zcn o) ix v ∈ zBW := zj_m _ (zfind_mem h)
theorem zlen_eq {i : Instr} {len n : Nat} (hl : zlen i = 0 ∨ zlen i = len) (h : zlen i = n + 1) : len = n + 1 := by
  rcases hl with q | q <;> omega
set_option maxHeartbeats 4000000 in
/-- an instruction that is a step -/
theorem zs_simple (hy : zHy p R s m args meth c cc o ini nL D base fa cA fz) (hmc : mc ≤ R.cells) (hms : ms ≤ R.slots) {i : Instr} (hd : decode cc pc = .ok (i, len)) (hl : zlen i = 0 ∨ zlen i = len) (h : zone fz o ini i pc lv stk st = .inl (P, c')) (hP : P) (hm1 : c'.2.2.2.1.length ≤ st'.1.length) (hm2 : zsl c'.2.2.2.1 ≤ zsl st'.1)
    (kk : zK p l e R s m args below meth c Z D base fa cA nL mc ms st' c') : zK p l e R s m args below meth c Z D base fa cA nL mc ms st' (pc, lv, stk, st) := by
  have hx := hy.1
  have hb := hy.2.1
  have hml := hy.2.2.1
  have hown := hy.2.2.2.1
  have hts := hy.2.2.2.2.1
  have hKs := hy.2.2.2.2.2.2.1
  have hfr : 1 ≤ R.frames := hy.2.2.2.2.2.2.2.2.2.2.1
  have hlo : 64 ≤ R.locals := hy.2.2.2.2.2.2.2.2.2.2.2
  cases i
  case iconst n =>
    have e1 := zlen_eq hl rfl
    subst e1
    unfold zone zstep at h
    cases h
    exact fun H locs cells slots ls hL hW hs hS hc hsl => lv_iconst hx hb hd rfl (kk H locs cells slots ls hL hW hs hS hc hsl)
  case lconst n =>
    have e1 := zlen_eq hl rfl
    subst e1
    unfold zone zstep at h
    cases h
    exact fun H locs cells slots ls hL hW hs hS hc hsl => lv_lconst hx hb hd rfl (kk H locs cells slots ls hL hW hs hS hc hsl)
  case bipush n =>
    have e1 := zlen_eq hl rfl
    subst e1
    unfold zone zstep at h
    cases h
    exact fun H locs cells slots ls hL hW hs hS hc hsl => lv_bipush hx hb hd rfl (kk H locs cells slots ls hL hW hs hS hc hsl)
  case sipush n =>
    have e1 := zlen_eq hl rfl
    subst e1
    unfold zone zstep at h
    cases h
    exact fun H locs cells slots ls hL hW hs hS hc hsl => lv_sipush hx hb hd rfl (kk H locs cells slots ls hL hW hs hS hc hsl)
  case ldc ix =>
    have e1 := zlen_eq hl rfl
    subst e1
    simp only [zone] at h
    split at h
    · rename_i v hv
      unfold zstep at h
      cases h
      exact fun H locs cells slots ls hL hW hs hS hc hsl => lv_ldc hx hb hown (hts _ (zc_get hv)) hd (kk H locs cells slots ls hL hW hs hS hc hsl)
    · exact (zstuck_no h hP).elim
  case ldc_w ix =>
    have e1 := zlen_eq hl rfl
    subst e1
    simp only [zone] at h
    split at h
    · rename_i v hv
      unfold zstep at h
      cases h
      exact fun H locs cells slots ls hL hW hs hS hc hsl => lv_ldcw hx hb hown (hts _ (zc_get hv)) hd (kk H locs cells slots ls hL hW hs hS hc hsl)
    · exact (zstuck_no h hP).elim
  case ldc2_w ix =>
    have e1 := zlen_eq hl rfl
    subst e1
    simp only [zone] at h
    split at h
    · rename_i v hv
      unfold zstep at h
      cases h
      exact fun H locs cells slots ls hL hW hs hS hc hsl => lv_ldc2 hx hb hown (hts _ (zj_get hv)) hd (kk H locs cells slots ls hL hW hs hS hc hsl)
    · exact (zstuck_no h hP).elim
  case iload_n k =>
    have e1 := zlen_eq hl rfl
    subst e1
    exact zs_iload h hP (fun hx2 k2 => lv_iload_n hx hb hd rfl hx2 k2) kk
  case iload k =>
    have e1 := zlen_eq hl rfl
    subst e1
    exact zs_iload h hP (fun hx2 k2 => lv_iload hx hb hd hx2 k2) kk
  case aload_n k =>
    have e1 := zlen_eq hl rfl
    subst e1
    exact zs_aload h hP (fun hx2 k2 => lv_aload_n hx hb hd rfl hx2 k2) kk
  case aload k =>
    have e1 := zlen_eq hl rfl
    subst e1
    exact zs_aload h hP (fun hx2 k2 => lv_aload hx hb hd hx2 k2) kk
  case lload_n k =>
    have e1 := zlen_eq hl rfl
    subst e1
    exact zs_lload h hP (fun hx2 k2 => lv_lload_n hx hb hd rfl hx2 k2) kk
  case lload k =>
    have e1 := zlen_eq hl rfl
    subst e1
    exact zs_lload h hP (fun hx2 k2 => lv_lload hx hb hd hx2 k2) kk
  case istore_n k =>
    have e1 := zlen_eq hl rfl
    subst e1
    exact zs_istore h hP (fun h1 h2 h3 => lv_istore_n hx hb hd rfl h1 h2 rfl h3) kk
  case istore k =>
    have e1 := zlen_eq hl rfl
    subst e1
    exact zs_istore h hP (fun h1 h2 h3 => lv_istore hx hb hd h1 h2 rfl h3) kk
  case astore_n k =>
    have e1 := zlen_eq hl rfl
    subst e1
    exact zs_astore h hP (fun h1 h2 h3 => lv_astore_n hx hb hd rfl h1 h2 rfl h3) kk
  case astore k =>
    have e1 := zlen_eq hl rfl
    subst e1
    exact zs_astore h hP (fun h1 h2 h3 => lv_astore hx hb hd h1 h2 rfl h3) kk
  case lstore_n k =>
    have e1 := zlen_eq hl rfl
    subst e1
    exact zs_lstore h hP (fun h1 h2 h3 => lv_lstore_n hx hb hd rfl h1 h2 rfl h3) kk
  case lstore k =>
    have e1 := zlen_eq hl rfl
    subst e1
    exact zs_lstore h hP (fun h1 h2 h3 => lv_lstore hx hb hd h1 h2 rfl h3) kk
  case iinc k n =>
    have e1 := zlen_eq hl rfl
    subst e1
    exact zs_iinc hx hb hd h hP kk
  case iadd => have e1 := zlen_eq hl rfl; subst e1; exact zs_bin h hP (fun _ k2 => lv_iadd hx hb hd k2) kk
  case isub => have e1 := zlen_eq hl rfl; subst e1; exact zs_bin h hP (fun _ k2 => lv_isub hx hb hd k2) kk
  case imul => have e1 := zlen_eq hl rfl; subst e1; exact zs_bin h hP (fun _ k2 => lv_imul hx hb hd k2) kk
  case idiv => have e1 := zlen_eq hl rfl; subst e1; exact zs_bin h hP (fun hne k2 => lv_idiv hx hb hd hne k2) kk
  case irem => have e1 := zlen_eq hl rfl; subst e1; exact zs_bin h hP (fun hne k2 => lv_irem hx hb hd hne k2) kk
  case iand => have e1 := zlen_eq hl rfl; subst e1; exact zs_bin h hP (fun _ k2 => lv_iand hx hb hd k2) kk
  case ior => have e1 := zlen_eq hl rfl; subst e1; exact zs_bin h hP (fun _ k2 => lv_ior hx hb hd k2) kk
  case ixor => have e1 := zlen_eq hl rfl; subst e1; exact zs_bin h hP (fun _ k2 => lv_ixor hx hb hd k2) kk
  case ishl => have e1 := zlen_eq hl rfl; subst e1; exact zs_bin h hP (fun _ k2 => lv_ishl hx hb hd k2) kk
  case ishr => have e1 := zlen_eq hl rfl; subst e1; exact zs_bin h hP (fun _ k2 => lv_ishr hx hb hd k2) kk
  case iushr => have e1 := zlen_eq hl rfl; subst e1; exact zs_bin h hP (fun _ k2 => lv_iushr hx hb hd rfl k2) kk
  case ineg => have e1 := zlen_eq hl rfl; subst e1; exact zs_un (fun _ => rfl) h hP (fun k2 => lv_ineg hx hb hd k2) kk
  case i2l => have e1 := zlen_eq hl rfl; subst e1; exact zs_un (fun _ => rfl) h hP (fun k2 => lv_i2l hx hb hd rfl k2) kk
  case i2b => have e1 := zlen_eq hl rfl; subst e1; exact zs_un (fun _ => rfl) h hP (fun k2 => lv_i2b hx hb hd rfl k2) kk
  case ladd => have e1 := zlen_eq hl rfl; subst e1; exact zs_binL (fun _ _ => rfl) h hP (fun k2 => lv_ladd hx hb hd k2) kk
  case lmul => have e1 := zlen_eq hl rfl; subst e1; exact zs_binL (fun _ _ => rfl) h hP (fun k2 => lv_lmul hx hb hd k2) kk
  case lcmp => have e1 := zlen_eq hl rfl; subst e1; exact zs_binL (fun _ _ => rfl) h hP (fun k2 => W.lcmp hx hb hd k2) kk
  case dup =>
    have e1 := zlen_eq hl rfl
    subst e1
    simp only [zone] at h
    unfold zdup at h
    split at h
    · unfold zstep at h
      cases h
      exact fun H locs cells slots ls hL hW hs hS hc hsl => lv_dup hx hb hd (by rw [zV_cat]; exact hP) (kk H locs cells slots ls hL hW hs hS hc hsl)
    · exact (zstuck_no h hP).elim
  case dup2 =>
    have e1 := zlen_eq hl rfl
    subst e1
    simp only [zone] at h
    unfold zdup2 at h
    split at h
    · unfold zstep at h
      cases h
      exact fun H locs cells slots ls hL hW hs hS hc hsl => lv_dup2_11 hx hb hd (by rw [zV_cat]; exact hP.1) (by rw [zV_cat]; exact hP.2) (kk H locs cells slots ls hL hW hs hS hc hsl)
    · exact (zstuck_no h hP).elim
  case pop =>
    have e1 := zlen_eq hl rfl
    subst e1
    simp only [zone] at h
    unfold zpop1 at h
    split at h
    · unfold zstep at h
      cases h
      exact fun H locs cells slots ls hL hW hs hS hc hsl => lv_pop hx hb hd (by rw [zV_cat]; exact hP) (kk H locs cells slots ls hL hW hs hS hc hsl)
    · exact (zstuck_no h hP).elim
  case goto off =>
    have e1 := zlen_eq hl rfl
    subst e1
    unfold zone zstep at h
    cases h
    exact fun H locs cells slots ls hL hW hs hS hc hsl => lv_goto hx hb hd (by unfold ztgt; omega) (kk H locs cells slots ls hL hW hs hS hc hsl)
  case getfield ix => have e1 := zlen_eq hl rfl; subst e1; exact zs_getf hy hd h hP kk
  case putfield ix => have e1 := zlen_eq hl rfl; subst e1; exact zs_putf hy hd h hP kk
  case getstatic ix => have e1 := zlen_eq hl rfl; subst e1; exact zs_gets hy hd h hP kk
  case iaload => have e1 := zlen_eq hl rfl; subst e1; exact zs_xald hy (Or.inl ⟨rfl, hd⟩) h hP kk
  case baload => have e1 := zlen_eq hl rfl; subst e1; exact zs_xald hy (Or.inr ⟨rfl, hd⟩) h hP kk
  case iastore => have e1 := zlen_eq hl rfl; subst e1; exact zs_xast hy (Or.inl ⟨rfl, hd⟩) h hP kk
  case bastore => have e1 := zlen_eq hl rfl; subst e1; exact zs_xast hy (Or.inr ⟨rfl, hd⟩) h hP kk
  case arraylength => have e1 := zlen_eq hl rfl; subst e1; exact zs_xlen hy hd h hP kk
  case newarray t => have e1 := zlen_eq hl rfl; subst e1; exact zs_newa hy hmc hms hd h hP hm1 hm2 kk
  case new ix => have e1 := zlen_eq hl rfl; subst e1; exact zs_new hy hmc hms hd h hP hm1 hm2 kk
  case invokestatic ix =>
    have e1 := zlen_eq hl rfl
    subst e1
    simp only [zone] at h
    unfold zstat at h
    split at h
    · rename_i u hz
      exact zs_copy hy hd hz h hP kk
    · unfold zcallK at h
      split at h
      · cases h
      · exact (zstuck_no h hP).elim
  case invokevirtual ix =>
    simp only [zone] at h
    unfold zcallK at h
    split at h
    · cases h
    · exact (zstuck_no h hP).elim
  case invokespecial ix =>
    have e1 := zlen_eq hl rfl
    subst e1
    simp only [zone] at h
    unfold zspec at h
    split at h
    · rename_i u hz
      split at h
      · rename_i a s'
        unfold zstep at h
        cases h
        have w1 := zo2_m 0 (by simp)
        have w2 := zo2_m 1 (by simp)
        exact fun H locs cells slots ls hL hW hs hS hc hsl => W.objInit hx hb hown (hts _ (zo_m _ (zfind_mem hz))) (hts _ w1) (hts _ w2) rfl (by rw [hml]; exact hL.1) rfl hd hfr (by
          rw [zwide_map]
          show 2 * 0 + zwide s' + 12 ≤ R.locals
          omega) (kk H locs cells slots ls hL hW hs hS hc hsl)
      · exact (zstuck_no h hP).elim
    · unfold zcallK at h
      split at h
      · cases h
      · exact (zstuck_no h hP).elim
  case ifCond q off =>
    simp only [zone] at h
    unfold zif0 zbr at h
    split at h
    · cases h
    · exact (zstuck_no h hP).elim
  case if_icmp q off =>
    simp only [zone] at h
    unfold zif2 zbr at h
    split at h
    · cases h
    · exact (zstuck_no h hP).elim
  case tableswitch d lo hi offs =>
    simp only [zone] at h
    unfold ztsw at h
    split at h
    · cases h
    · exact (zstuck_no h hP).elim
  case lookupswitch d ps =>
    simp only [zone] at h
    unfold zlsw at h
    split at h
    · cases h
    · exact (zstuck_no h hP).elim
  case ireturn =>
    simp only [zone] at h
    unfold zretI at h
    split at h
    · cases h
    · exact (zstuck_no h hP).elim
  case lreturn =>
    simp only [zone] at h
    unfold zretL at h
    split at h
    · cases h
    · exact (zstuck_no h hP).elim
  case return_ =>
    simp only [zone] at h
    unfold zretV at h
    split at h
    · cases h
    · exact (zstuck_no h hP).elim
  all_goals (unfold zone at h; exact (zstuck_no h hP).elim)
end ZSX
