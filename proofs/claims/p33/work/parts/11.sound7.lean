/-! ===== nothing shrinks; the whole run; a method's contract out of its run ===== -/
section ZMN
variable {fz : zFz} {o : Nat} {ini : Bool} {cc : ByteArray} {pc : Nat} {lv : zL} {stk : List Value} {st : zS} {P : Prop} {c' : zC} {i : Instr}
set_option maxHeartbeats 4000000 in
theorem zm_step (h : zone fz o ini i pc lv stk st = .inl (P, c')) (hP : P) : st.1.length ≤ c'.2.2.2.1.length ∧ zsl st.1 ≤ zsl c'.2.2.2.1 := by
  cases i
  case new ix =>
    simp only [zone] at h
    unfold znew zstep zstuck at h
    split at h <;> cases h
    · exact ⟨by simp, by rw [zsl_push]; omega⟩
    · exact False.elim hP
  case newarray t =>
    simp only [zone] at h
    unfold znewa zstep zstuck at h
    split at h <;> cases h
    · exact ⟨by simp, by rw [zsl_push]; omega⟩
    · exact False.elim hP
  case putfield ix =>
    simp only [zone] at h
    unfold zputf zstep zstuck at h
    (repeat' split at h) <;> cases h
    all_goals first | exact False.elim hP | exact ⟨Nat.le_refl _, Nat.le_refl _⟩ | skip
    rename_i hsh _ _ _
    exact ⟨by simp, by rw [zsl_set hsh (by simp [zsz])]; exact Nat.le_refl _⟩
  all_goals simp only [zone, zstep, zstuck, zild, zlld, zald, zist, zast, zlst, ziinc, zbin, zun, zbinL, zdup, zdup2, zpop1, zif0, zif2, zbr, ztsw, zlsw, zgetf, zgets, zxald, zxast, zlenA, zcallK, zstat, zspec, zcopy, zretI, zretL, zretV] at h
  all_goals (repeat' split at h) <;> cases h
  all_goals first | exact False.elim hP | exact ⟨Nat.le_refl _, Nat.le_refl _⟩
set_option maxHeartbeats 4000000 in
theorem zm_branch {b : Prop} {ct cf : zC} (h : zone fz o ini i pc lv stk st = .inr (.inl (P, b, ct, cf))) : ct.2.2.2 = st ∧ cf.2.2.2 = st := by
  cases i
  all_goals simp only [zone, zstep, zstuck, zild, zlld, zald, zist, zast, zlst, ziinc, zbin, zun, zbinL, zdup, zdup2, zpop1, zif0, zif2, zbr, ztsw, zlsw, zgetf, zputf, zgets, zxald, zxast, zlenA, znewa, znew, zcallK, zstat, zspec, zcopy, zretI, zretL, zretV] at h
  all_goals (repeat' split at h) <;> cases h
  all_goals exact ⟨rfl, rfl⟩
set_option maxHeartbeats 4000000 in
theorem zm_switch {x : Int32} {cs : List (Int × zC)} {df : zC} (h : zone fz o ini i pc lv stk st = .inr (.inr (.inl (P, x, cs, df)))) : (∀ q ∈ cs, q.2.2.2.2 = st) ∧ df.2.2.2 = st := by
  cases i
  all_goals simp only [zone, zstep, zstuck, zild, zlld, zald, zist, zast, zlst, ziinc, zbin, zun, zbinL, zdup, zdup2, zpop1, zif0, zif2, zbr, ztsw, zlsw, zgetf, zputf, zgets, zxald, zxast, zlenA, znewa, znew, zcallK, zstat, zspec, zcopy, zretI, zretL, zretV] at h
  all_goals (repeat' split at h) <;> cases h
  all_goals (refine ⟨fun q hq => ?_, rfl⟩; obtain ⟨a, -, rfl⟩ := List.mem_map.mp hq; rfl)
theorem zR_mono {call : zCall} {r : Option Value} {st' : zS} (hcall : ∀ mid as s0 ro so, call mid as s0 ro so → s0.1.length ≤ so.1.length ∧ zsl s0.1 ≤ zsl so.1) : ∀ (n : Nat) (c : zC), zR fz call o ini cc r st' n c → c.2.2.2.1.length ≤ st'.1.length ∧ zsl c.2.2.2.1 ≤ zsl st'.1
  | 0, c, h => h.elim
  | n + 1, c, h => by
    obtain ⟨i, len, hd, hl, h⟩ := h
    have ih := zR_mono (r := r) (st' := st') hcall n
    split at h
    · rename_i P c' he
      obtain ⟨hP, h⟩ := h
      have h1 := zm_step he hP
      have h2 := ih c' h
      omega
    · rename_i P b ct cf he
      obtain ⟨hP, h⟩ := h
      have h1 := zm_branch he
      rcases h with ⟨-, h⟩ | ⟨-, h⟩
      · have h2 := ih ct h
        rwa [h1.1] at h2
      · have h2 := ih cf h
        rwa [h1.2] at h2
    · rename_i P x cs df he
      obtain ⟨hP, h⟩ := h
      have h1 := zm_switch he
      have h2 := ih _ h
      have h3 : (zpick x.toInt cs df).2.2.2 = c.2.2.2 := zpick_spec (K := fun c' => c'.2.2.2 = c.2.2.2) (fun q hq _ => h1.1 q hq) (fun _ => h1.2)
      rwa [h3] at h2
    · rename_i P mid as pc' lv' rest he
      obtain ⟨hP, ro, so, h1, h⟩ := h
      have h2 := ih _ h
      have h3 := hcall _ _ _ _ _ h1
      have h2 : so.1.length ≤ st'.1.length ∧ zsl so.1 ≤ zsl st'.1 := h2
      omega
    · obtain ⟨-, h⟩ := h
      rw [h]
      exact ⟨Nat.le_refl _, Nat.le_refl _⟩
end ZMN
theorem zEv_mono {fz : zFz} : ∀ (d mid : Nat) (as : List Value) (st : zS) (r : Option Value) (so : zS), zEv fz d mid as st r so → st.1.length ≤ so.1.length ∧ zsl st.1 ≤ zsl so.1
  | 0, _, _, _, _, _, h => h.elim
  | d + 1, mid, as, st, r, so, h => by
    obtain ⟨-, -, -, -, -, n, h⟩ := h
    exact zR_mono (zEv_mono d) n _ h
theorem zrt_plain {base : Nat} {fa : Nat → Nat} {ret : Option FieldType} {r : Option Value} (h : zrt ret r) : (r.toList).map (zV base fa) = r.toList := by
  match r with
  | none => rfl
  | some (.int _) => rfl
  | some (.long _) => rfl
  | some (.float _) => rcases ret with _ | ty <;> first | exact h.elim | (cases ty <;> exact h.elim)
  | some (.double _) => rcases ret with _ | ty <;> first | exact h.elim | (cases ty <;> exact h.elim)
  | some .null => rcases ret with _ | ty <;> first | exact h.elim | (cases ty <;> exact h.elim)
  | some (.ref _) => rcases ret with _ | ty <;> first | exact h.elim | (cases ty <;> exact h.elim)
  | some (.retAddr _) => rcases ret with _ | ty <;> first | exact h.elim | (cases ty <;> exact h.elim)
theorem zEv_ret {fz : zFz} {base : Nat} {fa : Nat → Nat} : ∀ {d mid : Nat} {as : List Value} {st : zS} {r : Option Value} {so : zS}, zEv fz d mid as st r so → (r.toList).map (zV base fa) = r.toList
  | 0, _, _, _, _, _, h => h.elim
  | d + 1, mid, as, st, r, so, h => zrt_plain h.2.2.2.2.1
section ZSM
variable {p : Program} {l : Launch} {e : Env} {R : Room} {s : State} {m : MethodId} {args : Array Value} {below : List Frame} {meth : Method} {c : Code} {Z : State → Prop} {cc : ByteArray} {o nL mc ms : Nat} {ini : Bool} {D : va_G} {base : Nat} {fa : Nat → Nat} {cA : FieldType → ClassId} {fz : zFz} {st' : zS}
/-- the run, on the machine: what is wanting is what the ends come to -/
theorem z_sim {d : Nat} {r : Option Value} (hy : zHy p R s m args meth c cc o ini nL D base fa cA fz) (hmc : mc ≤ R.cells) (hms : ms ≤ R.slots) (hRf : d + 1 ≤ R.frames) (hRl : 64 * (d + 1) ≤ R.locals) (hcall : ∀ mid as s0 ro so, zEv fz d mid as s0 ro so → zMet l fz d mid as s0 ro so)
    (hret : ∀ (H : Heap) (locs : List Loc) (pc : Nat) (ls : Array Slot), va_P D vwCl (zW base fa cA st') H → H.size = base + st'.1.length → va_S (fun q : Nat => base ≤ q) s.heap H locs → (r = none → decode cc pc = .ok (.return_, 1) → W p l e R s m args below meth c H locs mc ms Z (F0 m pc ls [])) ∧ (∀ x, r = some (.int x) → decode cc pc = .ok (.ireturn, 1) → W p l e R s m args below meth c H locs mc ms Z (F0 m pc ls [.int x])) ∧ (∀ x, r = some (.long x) → decode cc pc = .ok (.lreturn, 1) → W p l e R s m args below meth c H locs mc ms Z (F0 m pc ls [.long x]))) :
    ∀ (n : Nat) (g : zC), zR fz (zEv fz d) o ini cc r st' n g → zK p l e R s m args below meth c Z D base fa cA nL mc ms st' g
  | 0, g, h => h.elim
  | n + 1, (pc, lv, stk, st), h => by
    obtain ⟨i, len, hd, hl, h⟩ := h
    have ih := z_sim hy hmc hms hRf hRl hcall hret n
    have mono := fun g h => zR_mono (o := o) (ini := ini) (cc := cc) (fz := fz) (r := r) (st' := st') (zEv_mono (fz := fz) d) n g h
    split at h
    · rename_i P c' he
      obtain ⟨hP, h⟩ := h
      have h2 := mono c' h
      exact zs_simple hy hmc hms hd hl he hP h2.1 h2.2 (ih c' h)
    · rename_i P b ct cf he
      obtain ⟨hP, h⟩ := h
      refine zs_branch hy.1 hy.2.1 hd hl he hP (fun hb => ?_) (fun hb => ?_)
      · rcases h with ⟨-, h⟩ | ⟨h0, -⟩
        · exact ih ct h
        · exact absurd hb h0
      · rcases h with ⟨h0, -⟩ | ⟨-, h⟩
        · exact absurd h0 hb
        · exact ih cf h
    · rename_i P x cs df he
      obtain ⟨hP, h⟩ := h
      exact zs_switch hy.1 hy.2.1 hd hl he hP (ih _ h)
    · rename_i P mid as pc' lv' rest he
      obtain ⟨hP, ro, so, h1, h⟩ := h
      have h2 := mono _ h
      have h3 := zEv_mono d _ _ _ _ _ h1
      exact zs_call hy hmc hms hRf hRl hd hl he hP (hcall _ _ _ _ _ h1) h3.1 h3.2 h2.1 h2.2 (zEv_ret h1) (ih _ h)
    · rename_i v he
      obtain ⟨rfl, hst⟩ := h
      have hst : st = st' := hst
      subst hst
      intro H locs cells slots ls hL hW hs hS hc hsl
      have hc : cells + st.1.length = mc + st.1.length := hc
      have hsl : slots + zsl st.1 = ms + zsl st.1 := hsl
      have e1 : cells = mc := by omega
      have e2 : slots = ms := by omega
      subst e1
      subst e2
      have hr := hret H locs pc ls hW hs hS
      have he : zone fz o ini i pc lv stk st = .inr (.inr (.inr (.inr v))) := he
      cases i
      case ireturn =>
        have e1 := zlen_eq hl rfl
        subst e1
        simp only [zone] at he
        unfold zretI at he
        split at he
        · cases he
          exact hr.2.1 _ rfl hd
        · unfold zstuck at he
          cases he
      case lreturn =>
        have e1 := zlen_eq hl rfl
        subst e1
        simp only [zone] at he
        unfold zretL at he
        split at he
        · cases he
          exact hr.2.2 _ rfl hd
        · unfold zstuck at he
          cases he
      case return_ =>
        have e1 := zlen_eq hl rfl
        subst e1
        simp only [zone] at he
        unfold zretV at he
        split at he
        · cases he
          exact hr.1 rfl hd
        · unfold zstuck at he
          cases he
      all_goals exfalso
      all_goals simp only [zone, zstep, zstuck, zild, zlld, zald, zist, zast, zlst, ziinc, zbin, zun, zbinL, zdup, zdup2, zpop1, zif0, zif2, zbr, ztsw, zlsw, zgetf, zputf, zgets, zxald, zxast, zlenA, znewa, znew, zcallK, zstat, zspec, zcopy] at he
      all_goals (repeat' split at he) <;> cases he
end ZSM
/-- as the kit's rule for a body, by the method's name -/
theorem zMet_ofW {l : Launch} {y : MethodName} {ws ws' : List Cond} {rm : Room} {Pc : Array Value → State → Prop} {Qc : Array Value → State → Outcome → State → Prop} {mc ms : Nat} {free : Addr → Prop} {cc : ByteArray} {maxL : Nat} {ret : Option FieldType}
    (hy : plainFor y = true) (hw : ws = Cond.code y cc maxL ret :: ws')
    (body : ∀ p e s m args below meth c s₁, BodyLoose p l y (headSpec ws rm) cc maxL ret e s m args below meth c s₁ → c.maxLocals = maxL → Pc args s →
      W p l e (headSpec ws rm).room s m args below meth c s.heap [] 0 0 (MQ below Qc args s mc ms free) (entryFrame m args maxL)) : Met l y ws rm Pc Qc mc ms free := by
  refine MetFree.of_bodySF (code := cc) (maxLocals := maxL) (ret := ret) hy ?_ ?_
  · intro args s m h hn
    obtain ⟨meth, c, h1, h2, h3, h4, h5, h6, -, -⟩ := Cond.code_spec hn (atoms_spec (ws := ws) h _ (by rw [hw]; exact List.mem_cons_self))
    exact ⟨meth, c, h1, h2, h3, h4, h5, h6⟩
  · intro p e s m args below meth c s₁ B hml hP _
    have hh0 : s₁.heap = s.heap := by rw [B.state]; rfl
    obtain ⟨t, a1, o, b1, b2, b3⟩ := body p e s m args below meth c s₁ B hml hP s₁ hh0 (Stand.of_body B)
    exact ⟨t, o, a1, b1, b2, ⟨b3.1, b3.2⟩⟩
theorem zent_args {base : Nat} {fa : Nat → Nat} : ∀ (as : List Value) (i : Nat), as.all zplain = true → (lg_sl (as.map (zV base fa))).length = (zent as).length ∧ ∀ (j : Nat) (v : Value), (zent as)[j]? = some (some v) → zplain v = true → (i + j, zV base fa v) ∈ lv_args i (as.map (zV base fa))
  | [], i, _ => ⟨rfl, fun j v h => by simp [zent] at h⟩
  | a :: t, i, hp => by
    simp only [List.all_cons, Bool.and_eq_true] at hp
    have main : ∀ a, zplain a = true → a.category = 1 → zent (a :: t) = some a :: zent t → (lg_sl ((a :: t).map (zV base fa))).length = (zent (a :: t)).length ∧ ∀ (j : Nat) (v : Value), (zent (a :: t))[j]? = some (some v) → zplain v = true → (i + j, zV base fa v) ∈ lv_args i ((a :: t).map (zV base fa)) := by
      intro a _ hc he
      obtain ⟨i1, i2⟩ := zent_args (base := base) (fa := fa) t (i + 1) hp.2
      rw [he]
      have hc' : (zV base fa a).category = 1 := (zV_cat a).trans hc
      refine ⟨?_, fun j v hj hv => ?_⟩
      · simp only [List.map_cons, List.length_cons]
        rw [← i1]
        simp [lg_sl, hc']
        all_goals omega
      · simp only [List.map_cons, lv_args, hc']
        cases j with
        | zero =>
          simp at hj
          subst hj
          exact List.mem_cons_self
        | succ j =>
          refine List.mem_cons_of_mem _ ?_
          have := i2 j v (by simpa using hj) hv
          simpa [Nat.add_assoc, Nat.add_comm 1 j] using this
    cases a with
    | int x => exact main _ rfl rfl rfl
    | ref x => exact main _ rfl rfl rfl
    | long x =>
      obtain ⟨i1, i2⟩ := zent_args (base := base) (fa := fa) t (i + 2) hp.2
      have e : zV base fa (.long x) = .long x := rfl
      refine ⟨?_, fun j v hj hv => ?_⟩
      · simp only [List.map_cons, zent, List.length_cons]
        rw [← i1]
        simp [lg_sl, e, Value.category]
        all_goals omega
      · simp only [List.map_cons, lv_args, e, Value.category]
        match j with
        | 0 =>
          simp [zent] at hj
          subst hj
          exact List.mem_cons_self
        | 1 =>
          simp [zent] at hj
          subst hj
          cases hv
        | j + 2 =>
          refine List.mem_cons_of_mem _ ?_
          have := i2 j v (by simpa [zent] using hj) hv
          have e3 : i + (j + 2) = i + 2 + j := by omega
          rw [e3]
          simpa using this
    | float x => cases hp.1
    | double x => cases hp.1
    | null => cases hp.1
    | retAddr x => cases hp.1
theorem zinit_ok {base : Nat} {fa : Nat → Nat} {as : List Value} {n : Nat} {ls : Array Slot} (hp : as.all zplain = true) (hn : (zent as).length ≤ n) (h : lv_has ls n (lv_args 0 (as.map (zV base fa)))) : zLr base fa n (zinit as n) ls := by
  obtain ⟨-, h2⟩ := zent_args (base := base) (fa := fa) as 0 hp
  refine ⟨h.1, by unfold zinit; simp; omega, h.2.1, fun j v hj hv _ => ?_⟩
  unfold zinit at hj
  by_cases hl : j < (zent as).length
  · rw [List.getElem?_append_left hl] at hj
    have := h.2.2 _ (h2 j v hj hv)
    simpa using this
  · rw [List.getElem?_append_right (by omega)] at hj
    have := List.mem_of_getElem? hj
    simp at this
theorem zEv_met {l : Launch} {fz : zFz} : ∀ (d mid : Nat) (as : List Value) (st : zS) (r : Option Value) (so : zS), zEv fz d mid as st r so → zMet l fz d mid as st r so
  | 0, _, _, _, _, _, h => h.elim
  | d + 1, mid, as, st, r, so, h => by
    obtain ⟨k1, k2, hp, hlen, hrt, n, h⟩ := h
    obtain ⟨f1, f2, f3, f4, f5, f6⟩ := zm_get k1 k2
    intro D base fa cA
    refine zMet_ofW f6 rfl ?_
    intro p e s m args below meth c s₁ B hml hv
    obtain ⟨rfl, hs, hW, hK, hF, hN⟩ := hv
    have hts0 := atoms_spec (ws := zws mid) B.pre
    have hts : ∀ w ∈ zBW, w.before (as.map (zV base fa)).toArray s = true := fun w hw => hts0 w (List.mem_cons_of_mem _ hw)
    have hown : s.vm.findClass (zcn (zmg mid).1) = some m.cls := by rw [← f1]; exact findClass_of_methodNamed B.named
    have hlocks := B.notSynchronized
    have hr := B.returns
    have hx := B.exec
    have hb := B.bytes
    have hy : zHy p (zrm (d + 1) (so.1.length - st.1.length) (zsl so.1 - zsl st.1)) s m (as.map (zV base fa)).toArray meth c (zmg mid).2.2.1 (zmg mid).1 ((zmg mid).2.2.2.2.2.2 == 2) (zmg mid).2.2.2.1 D base fa cA fz := by
      refine ⟨hx, hb, hml, hown, hts, fun e => ?_, hK, hF, hN, by rw [hs]; omega, by show 1 ≤ d + 1; omega, by show 64 ≤ 64 * (d + 1); omega⟩
      rw [(name_of_methodNamed B.named B.method).1]
      exact (f4 (by simpa using e)).1
    have hm := zR_mono (zEv_mono (fz := fz) d) n _ h
    have hm : st.1.length ≤ so.1.length ∧ zsl st.1 ≤ zsl so.1 := hm
    have hl := lv_entry (as.map (zV base fa)) (n := (zmg mid).2.2.2.1) (by rw [(zent_args as 0 hp).1]; exact hlen)
    rw [lg_entry_eq]
    generalize (lg_sl (as.map (zV base fa)) ++ List.replicate ((zmg mid).2.2.2.1 - (lg_sl (as.map (zV base fa))).length) Slot.unset).toArray = ls at hl ⊢
    refine z_sim (d := d) (r := r) (st' := so) (Z := MQ below (zQc D base fa cA r so) (as.map (zV base fa)).toArray s (so.1.length - st.1.length) (zsl so.1 - zsl st.1) (fun q : Nat => base ≤ q)) hy (Nat.le_refl _) (Nat.le_refl _) (Nat.le_refl _) (Nat.le_refl _) (zEv_met d) ?_ n _ h s.heap [] 0 0 ls (zinit_ok hp hlen hl) hW hs va_S.rf (by show 0 + so.1.length = (so.1.length - st.1.length) + st.1.length; omega) (by show 0 + zsl so.1 = (zsl so.1 - zsl st.1) + zsl st.1; omega)
    intro H locs pc ls hW' hs' hS'
    have q : ∀ (t : State), t.heap = H → zQc D base fa cA r so (as.map (zV base fa)).toArray s (.returned r) t := fun t ht => ⟨⟨rfl, by rw [ht]; exact hs', by rw [ht]; exact hW'⟩, hS'.F ht⟩
    refine ⟨fun e1 hd => ?_, fun x e1 hd => ?_, fun x e1 hd => ?_⟩
    · subst e1
      have hr2 : meth.sig.returnType = none := by
        rw [hr]
        revert hrt
        generalize (zmg mid).2.2.2.2.1 = ret
        intro hrt
        rcases ret with _ | ty
        · rfl
        · cases ty <;> exact hrt.elim
      exact W.vret hx hb hr2 (fun t ht _ => q t ht) hS'.2.2 hd
    · subst e1
      revert hrt hr
      generalize (zmg mid).2.2.2.2.1 = ret
      intro hr hrt
      rcases ret with _ | ty
      · exact hrt.elim
      cases ty <;> first | exact hrt.elim | skip
      · exact W.iret hx hb hr (fun t ht _ => q t ht) hS'.2.2 hd
      · refine W.zret hx hb hr ?_ (fun t ht _ => q t ht) hS'.2.2 hd
        rcases hrt with rfl | rfl <;> rfl
    · subst e1
      revert hrt hr
      generalize (zmg mid).2.2.2.2.1 = ret
      intro hr hrt
      rcases ret with _ | ty
      · exact hrt.elim
      cases ty <;> first | exact hrt.elim | skip
      exact W.lret hx hb hr (fun t ht _ => q t ht) hS'.2.2 hd
