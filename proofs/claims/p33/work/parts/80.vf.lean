/-! ===== the class's calls, at known arguments ===== -/
theorem zneg {x : Int32} (h : x.toInt < 0) {n : Nat} (hn : n ≤ 2 ^ 31) : ∀ c, c < n → x ≠ nI c := fun c hc e => by
  rw [e, nI_toInt (by omega)] at h
  omega
theorem zbig {x : Int32} {m n : Nat} (hx : x = nI m) (hm : n ≤ m) (hm2 : m < 2 ^ 31) : ∀ c, c < n → x ≠ nI c := fun c hc e => by
  rw [hx] at e
  have := znI_j hm2 (by omega) e
  omega
theorem zm1 : Int32.toInt (-1) < 0 := by decide
section
variable {fz : zFz} {L : Nat} {xs : Nat → Int32} {d : Nat} {se : List zSh} {M : zMm} {st : zS} {Q : Option Value → zS → Prop} {X : zX}
theorem v_setThrow {x y : Int32} {c t : Nat} (hX : zXF X) (hI : zIC X M) (hc : c < X.S.n) (ht : t < 12) (hx : x = nI c) (hy : y = nI t) (h : ∀ M', (∀ c, 32 ≤ c → M' c = M c) → zIC (X.wS (X.S.thr c t)) M' → Q (some (.int (nI (X.S.t c)))) (SG se, M')) : zcl fz (d + 14) 34 [.ref 0, .int x, .int y] (SG se, M) Q := by
  have n8 := hX.S.n8
  refine s_X5_setThrow hX hI (fun c' t' hc' ht' hx' hy' M' b hC => ?_) (fun g => absurd hx (g c hc)) (fun c' _ _ g => absurd hy (g t ht))
  have e1 : c = c' := znI_j (by omega) (by omega) (hx.symm.trans hx')
  have e2 : t = t' := znI_j (by omega) (by omega) (hy.symm.trans hy')
  subst e1 e2
  exact h M' b hC
theorem v_setThrow1 {x y : Int32} (hX : zXF X) (hI : zIC X M) (hx : ∀ c, c < X.S.n → x ≠ nI c) (h : Q (some (.int (-1000001))) (SG se, M)) : zcl fz (d + 14) 34 [.ref 0, .int x, .int y] (SG se, M) Q := s_X5_setThrow hX hI (fun c _ hc _ e => absurd e (hx c hc)) (fun _ => h) (fun c hc e => absurd e (hx c hc))
theorem v_setThrow2 {x y : Int32} {c : Nat} (hX : zXF X) (hI : zIC X M) (hc : c < X.S.n) (hx : x = nI c) (hy : ∀ t, t < 12 → y ≠ nI t) (h : Q (some (.int (-1000002))) (SG se, M)) : zcl fz (d + 14) 34 [.ref 0, .int x, .int y] (SG se, M) Q := s_X5_setThrow hX hI (fun _ t _ ht _ e => absurd e (hy t ht)) (fun g => absurd hx (g c hc)) (fun _ _ _ _ => h)
theorem v_setMass {x y : Int32} {c t : Nat} (hX : zXF X) (hI : zIC X M) (hc : c < X.S.n) (ht : t < 100) (hx : x = nI c) (hy : y = nI t) (h : ∀ M', (∀ c, 32 ≤ c → M' c = M c) → zIC (X.wS (X.S.mas c t)) M' → Q (some (.int (nI (X.S.ms c)))) (SG se, M')) : zcl fz (d + 14) 37 [.ref 0, .int x, .int y] (SG se, M) Q := by
  have n8 := hX.S.n8
  refine s_X5_setMass hX hI (fun c' t' hc' ht' hx' hy' M' b hC => ?_) (fun g => absurd hx (g c hc)) (fun c' _ _ g => absurd hy (g t ht))
  have e1 : c = c' := znI_j (by omega) (by omega) (hx.symm.trans hx')
  have e2 : t = t' := znI_j (by omega) (by omega) (hy.symm.trans hy')
  subst e1 e2
  exact h M' b hC
theorem v_setMass1 {x y : Int32} (hX : zXF X) (hI : zIC X M) (hx : ∀ c, c < X.S.n → x ≠ nI c) (h : Q (some (.int (-1000001))) (SG se, M)) : zcl fz (d + 14) 37 [.ref 0, .int x, .int y] (SG se, M) Q := s_X5_setMass hX hI (fun c _ hc _ e => absurd e (hx c hc)) (fun _ => h) (fun c hc e => absurd e (hx c hc))
theorem v_setMass2 {x y : Int32} {c : Nat} (hX : zXF X) (hI : zIC X M) (hc : c < X.S.n) (hx : x = nI c) (hy : ∀ t, t < 100 → y ≠ nI t) (h : Q (some (.int (-1000002))) (SG se, M)) : zcl fz (d + 14) 37 [.ref 0, .int x, .int y] (SG se, M) Q := s_X5_setMass hX hI (fun _ t _ ht _ e => absurd e (hy t ht)) (fun g => absurd hx (g c hc)) (fun _ _ _ _ => h)
theorem v_setPlace {x y : Int32} {c : Nat} (hX : zXF X) (hI : zIC X M) (hc : c < X.S.n) (ht : -100 ≤ y.toInt ∧ y.toInt ≤ 100) (hx : x = nI c) (h : ∀ M', (∀ c, 32 ≤ c → M' c = M c) → zIC (X.wS (X.S.pla c y)) M' → Q (some (.int (X.S.pl c))) (SG se, M')) : zcl fz (d + 14) 38 [.ref 0, .int x, .int y] (SG se, M) Q := by
  have n8 := hX.S.n8
  refine s_X5_setPlace hX hI (fun c' hc' hx' _ M' b hC => ?_) (fun g => absurd hx (g c hc)) (fun c' _ _ g => absurd ht g)
  have e1 : c = c' := znI_j (by omega) (by omega) (hx.symm.trans hx')
  subst e1
  exact h M' b hC
theorem v_setPlace1 {x y : Int32} (hX : zXF X) (hI : zIC X M) (hx : ∀ c, c < X.S.n → x ≠ nI c) (h : Q (some (.int (-1000001))) (SG se, M)) : zcl fz (d + 14) 38 [.ref 0, .int x, .int y] (SG se, M) Q := s_X5_setPlace hX hI (fun c hc e => absurd e (hx c hc)) (fun _ => h) (fun c hc e => absurd e (hx c hc))
theorem v_setPlace2 {x y : Int32} {c : Nat} (hX : zXF X) (hI : zIC X M) (hc : c < X.S.n) (hx : x = nI c) (hy : ¬ (-100 ≤ y.toInt ∧ y.toInt ≤ 100)) (h : Q (some (.int (-1000002))) (SG se, M)) : zcl fz (d + 14) 38 [.ref 0, .int x, .int y] (SG se, M) Q := s_X5_setPlace hX hI (fun _ _ _ e => absurd e hy) (fun g => absurd hx (g c hc)) (fun _ _ _ _ => h)
theorem v_setStrokes {x : Int32} {k : Nat} (hX : zXF X) (hI : zIC X M) (hk : k = 2 ∨ k = 4) (hx : x = nI k) (h : ∀ M', (∀ c, 32 ≤ c → M' c = M c) → zIC (X.wS (X.S.str k)) M' → Q (some (.int (nI X.S.sk))) (SG se, M')) : zcl fz (d + 14) 40 [.ref 0, .int x] (SG se, M) Q := by
  refine s_X5_setStrokes hX hI (fun k' hk' hx' M' b hC => ?_) (fun g2 g4 => ?_)
  · have e1 : k = k' := znI_j (by omega) (by omega) (hx.symm.trans hx')
    subst e1
    exact h M' b hC
  · rcases hk with rfl | rfl
    · exact absurd hx g2
    · exact absurd hx g4
theorem v_setStrokes2 {x : Int32} (hX : zXF X) (hI : zIC X M) (h2 : x ≠ nI 2) (h4 : x ≠ nI 4) (h : Q (some (.int (-1000002))) (SG se, M)) : zcl fz (d + 14) 40 [.ref 0, .int x] (SG se, M) Q := s_X5_setStrokes hX hI (fun k hk e => by
  rcases hk with rfl | rfl
  · exact absurd e h2
  · exact absurd e h4) (fun _ _ => h)
theorem v_setCylinders {x : Int32} {n : Nat} (hX : zXF X) (hI : zIC X M) (h1 : 1 ≤ n) (h8 : n ≤ 8) (hx : x = nI n) (h : ∀ M', (∀ c, 32 ≤ c → M' c = M c) → zIC (X.wS (X.S.cyl n)) M' → Q (some (.int (nI X.S.n))) (SG se, M')) : zcl fz (d + 14) 31 [.ref 0, .int x] (SG se, M) Q := by
  refine s_X5_setCylinders hX hI (fun c hc hx' M' b hC => ?_) (fun g => absurd (by rw [hx]; congr 1; omega) (g (n - 1) (by omega)))
  have e1 : n = c + 1 := znI_j (by omega) (by omega) (hx.symm.trans hx')
  subst e1
  exact h M' b hC
theorem v_order {x y : Int32} {o k : Nat} (hX : zXF X) (hI : zIC X M) (ho : o < X.S.od.length) (hk : k < X.S.n) (hx : x = nI o) (hy : y = nI k) (h : Q (some (.int (nI (X.S.sq o k)))) (SG se, M)) : zcl fz (d + 14) 57 [.ref 0, .int x, .int y] (SG se, M) Q := by
  have n8 := hX.S.n8
  have o8 := zod_8 X.S
  refine s_X5_order hX hI (fun o' k' ho' hk' hx' hy' => ?_) (fun g => ?_)
  · have e1 : o = o' := znI_j (by omega) (by omega) (hx.symm.trans hx')
    have e2 : k = k' := znI_j (by omega) (by omega) (hy.symm.trans hy')
    subst e1 e2
    exact h
  · rcases g with g | g
    · exact absurd hx (g o ho)
    · exact absurd hy (g k hk)
theorem v_order1 {x y : Int32} (hX : zXF X) (hI : zIC X M) (hx : ∀ c, c < X.S.od.length → x ≠ nI c) (h : Q (some (.int (-1000001))) (SG se, M)) : zcl fz (d + 14) 57 [.ref 0, .int x, .int y] (SG se, M) Q := s_X5_order hX hI (fun c _ hc _ e => absurd e (hx c hc)) (fun _ => h)
theorem v_cost0 {x y : Int32} {o : Nat} (hX : zXF X) (hI : zIC X M) (ho : o < X.S.od.length) (hx : x = nI o) (hy : y = 0) (h : Q (some (.int (nI (zpen X.S.n (X.S.sq o) X.S.n)))) (SG se, M)) : zcl fz (d + 14) 59 [.ref 0, .int x, .int y] (SG se, M) Q := by
  have o8 := zod_8 X.S
  refine s_X5_orderCost hX hI (fun o' ho' hx' _ => ?_) (fun _ _ _ e => absurd (hy.symm.trans e) (by decide)) (fun g => absurd hx (g o ho)) (fun _ _ _ g => absurd hy g)
  have e1 : o = o' := znI_j (by omega) (by omega) (hx.symm.trans hx')
  subst e1
  exact h
theorem v_cost1 {x y : Int32} {o : Nat} (hX : zXF X) (hI : zIC X M) (ho : o < X.S.od.length) (hx : x = nI o) (hy : y = 1) (h : Q (some (.int (nI (zgl (6 * X.S.sk) X.S.n (X.S.sl o) (X.S.n + 1))))) (SG se, M)) : zcl fz (d + 14) 59 [.ref 0, .int x, .int y] (SG se, M) Q := by
  have o8 := zod_8 X.S
  refine s_X5_orderCost hX hI (fun _ _ _ e => absurd (hy.symm.trans e) (by decide)) (fun o' ho' hx' _ => ?_) (fun g => absurd hx (g o ho)) (fun _ _ _ _ g => absurd hy g)
  have e1 : o = o' := znI_j (by omega) (by omega) (hx.symm.trans hx')
  subst e1
  exact h
theorem v_cost2 {x y : Int32} (hX : zXF X) (hI : zIC X M) (hx : ∀ c, c < X.S.od.length → x ≠ nI c) (h : Q (some (.int (-1000001))) (SG se, M)) : zcl fz (d + 14) 59 [.ref 0, .int x, .int y] (SG se, M) Q := s_X5_orderCost hX hI (fun c hc e => absurd e (hx c hc)) (fun c hc e => absurd e (hx c hc)) (fun _ => h) (fun c hc e => absurd e (hx c hc))
theorem v_choose {x : Int32} {o : Nat} (hX : zXF X) (hI : zIC X M) (ho : o < X.S.od.length) (hx : x = nI o) (h : ∀ M', (∀ c, 32 ≤ c → M' c = M c) → zIC (X.wS (X.S.cho1 o)) M' → Q (some (.int (nI (X.S.sl o 0)))) (SG se, M')) : zcl fz (d + 14) 86 [.ref 0, .int x] (SG se, M) Q := by
  have o8 := zod_8 X.S
  refine s_X5_choose hX hI (fun o' ho' hx' M' b hC => ?_) (fun g => absurd hx (g o ho))
  have e1 : o = o' := znI_j (by omega) (by omega) (hx.symm.trans hx')
  subst e1
  exact h M' b hC
theorem v_choose1 {x : Int32} (hX : zXF X) (hI : zIC X M) (hx : ∀ c, c < X.S.od.length → x ≠ nI c) (h : Q (some (.int (-1000001))) (SG se, M)) : zcl fz (d + 14) 86 [.ref 0, .int x] (SG se, M) Q := s_X5_choose hX hI (fun c hc e => absurd e (hx c hc)) (fun _ => h)
theorem v_gap {o : Nat} (hX : zXF X) (hI : zIC X M) (ho : X.S.ch = some o) (hm : X.S.om ≠ 0) (h : Q (some (.int (nI (zgp (6 * X.S.sk) X.S.n X.S.om (X.S.sl o) X.S.n)))) (SG se, M)) : zcl fz (d + 14) 22 [.ref 0] (SG se, M) Q := by
  refine s_X5_longestGap hX hI (fun o' ho' _ => ?_) (fun _ _ g => absurd g hm) (fun g => by rw [ho] at g; cases g)
  have e1 : o = o' := Option.some.inj (ho.symm.trans ho')
  subst e1
  exact h
theorem v_gap0 {o : Nat} (hX : zXF X) (hI : zIC X M) (ho : X.S.ch = some o) (hm : X.S.om = 0) (h : Q (some (.int (-1000005))) (SG se, M)) : zcl fz (d + 14) 22 [.ref 0] (SG se, M) Q := s_X5_longestGap hX hI (fun _ _ g => absurd hm g) (fun _ _ _ => h) (fun g => by rw [ho] at g; cases g)
theorem v_gapN (hX : zXF X) (hI : zIC X M) (ho : X.S.ch = none) (h : Q (some (.int (-1000003))) (SG se, M)) : zcl fz (d + 14) 22 [.ref 0] (SG se, M) Q := s_X5_longestGap hX hI (fun _ g => by rw [ho] at g; cases g) (fun _ g => by rw [ho] at g; cases g) (fun _ => h)
theorem v_peak {x : Int32} {o b : Nat} (hX : zXF X) (hI : zIC X M) (ho : X.S.ch = some o) (hb : b < X.S.n + 1) (hx : x = nI b) (h : Q (some (.int (nI (zpk2 (6 * X.S.sk) X.S.n X.S.om (X.S.sl o) b)))) (SG se, M)) : zcl fz (d + 14) 80 [.ref 0, .int x] (SG se, M) Q := by
  have n8 := hX.S.n8
  refine s_X5_peak hX hI (fun o' b' ho' hb' hx' => ?_) (fun g => absurd hx (g b hb)) (fun _ _ _ g => by rw [ho] at g; cases g)
  have e1 : o = o' := Option.some.inj (ho.symm.trans ho')
  have e2 : b = b' := znI_j (by omega) (by omega) (hx.symm.trans hx')
  subst e1 e2
  exact h
theorem v_peak1 {x : Int32} (hX : zXF X) (hI : zIC X M) (hx : ∀ c, c < X.S.n + 1 → x ≠ nI c) (h : Q (some (.int (-1000001))) (SG se, M)) : zcl fz (d + 14) 80 [.ref 0, .int x] (SG se, M) Q := s_X5_peak hX hI (fun _ c _ hc e => absurd e (hx c hc)) (fun _ => h) (fun c hc e => absurd e (hx c hc))
theorem v_load {x y : Int32} {o b s : Nat} (hX : zXF X) (hI : zIC X M) (ho : X.S.ch = some o) (hb : b < X.S.n + 1) (hs : s < 6 * X.S.sk) (hx : x = nI b) (hy : y = nI s) (h : Q (some (.int (nI (zld2 (6 * X.S.sk) X.S.n X.S.om (X.S.sl o) b s)))) (SG se, M)) : zcl fz (d + 14) 90 [.ref 0, .int x, .int y] (SG se, M) Q := by
  have n8 := hX.S.n8
  have s24 := hX.S.s24
  refine s_X5_load hX hI (fun o' b' s' ho' hb' hs' hx' hy' => ?_) (fun g => ?_) (fun _ _ _ _ _ _ g => by rw [ho] at g; cases g)
  · have e1 : o = o' := Option.some.inj (ho.symm.trans ho')
    have e2 : b = b' := znI_j (by omega) (by omega) (hx.symm.trans hx')
    have e3 : s = s' := znI_j (by omega) (by omega) (hy.symm.trans hy')
    subst e1 e2 e3
    exact h
  · rcases g with g | g
    · exact absurd hx (g b hb)
    · exact absurd hy (g s hs)
theorem v_load1 {x y : Int32} (hX : zXF X) (hI : zIC X M) (hx : ∀ c, c < X.S.n + 1 → x ≠ nI c) (h : Q (some (.int (-1000001))) (SG se, M)) : zcl fz (d + 14) 90 [.ref 0, .int x, .int y] (SG se, M) Q := s_X5_load hX hI (fun _ c _ _ hc _ e => absurd e (hx c hc)) (fun _ => h) (fun c _ hc _ e => absurd e (hx c hc))
theorem v_on {x y : Int32} {c : Nat} (hX : zXF X) (hI : zIC X M) (hc : c < X.S.n) (hx : x = nI c) (hy : y = 3) (h : Q (some (.int (if X.S.om.testBit c then 1 else 0))) (SG se, M)) : zcl fz (d + 14) 63 [.ref 0, .int x, .int y] (SG se, M) Q := by
  have n8 := hX.S.n8
  refine s_X5_cylinder hX hI (fun _ _ _ e => absurd (hy.symm.trans e) (by decide)) (fun _ _ _ e => absurd (hy.symm.trans e) (by decide)) (fun _ _ _ e => absurd (hy.symm.trans e) (by decide)) (fun c' hc' hx' _ => ?_) (fun _ _ _ _ e => absurd (hy.symm.trans e) (by decide)) (fun _ _ _ e => absurd (hy.symm.trans e) (by decide)) (fun g => absurd hx (g c hc)) (fun _ _ _ _ _ _ g => absurd hy g)
  have e1 : c = c' := znI_j (by omega) (by omega) (hx.symm.trans hx')
  subst e1
  exact h
theorem v_slot {x y : Int32} {c o : Nat} (hX : zXF X) (hI : zIC X M) (hc : c < X.S.n) (hx : x = nI c) (hy : y = 4) (ho : X.S.ch = some o) (h : Q (some (.int (nI (X.S.sl o c)))) (SG se, M)) : zcl fz (d + 14) 63 [.ref 0, .int x, .int y] (SG se, M) Q := by
  have n8 := hX.S.n8
  refine s_X5_cylinder hX hI (fun _ _ _ e => absurd (hy.symm.trans e) (by decide)) (fun _ _ _ e => absurd (hy.symm.trans e) (by decide)) (fun _ _ _ e => absurd (hy.symm.trans e) (by decide)) (fun _ _ _ e => absurd (hy.symm.trans e) (by decide)) (fun c' o' hc' hx' _ ho' => ?_) (fun _ _ _ _ g => by rw [ho] at g; cases g) (fun g => absurd hx (g c hc)) (fun _ _ _ _ _ _ _ g => absurd hy g)
  have e1 : c = c' := znI_j (by omega) (by omega) (hx.symm.trans hx')
  have e2 : o = o' := Option.some.inj (ho.symm.trans ho')
  subst e1 e2
  exact h
theorem v_cyl1 {x y : Int32} (hX : zXF X) (hI : zIC X M) (hx : ∀ c, c < X.S.n → x ≠ nI c) (h : Q (some (.int (-1000001))) (SG se, M)) : zcl fz (d + 14) 63 [.ref 0, .int x, .int y] (SG se, M) Q := s_X5_cylinder hX hI (fun c hc e => absurd e (hx c hc)) (fun c hc e => absurd e (hx c hc)) (fun c hc e => absurd e (hx c hc)) (fun c hc e => absurd e (hx c hc)) (fun c _ hc e => absurd e (hx c hc)) (fun c hc e => absurd e (hx c hc)) (fun _ => h) (fun c hc e => absurd e (hx c hc))
theorem v_wgt1 {x y : Int32} (hX : zXF X) (hI : zIC X M) (hx : ∀ c, c < X.S.wk → x ≠ nI c) (h : Q (some (.int (-1000001))) (SG se, M)) : zcl fz (d + 14) 64 [.ref 0, .int x, .int y] (SG se, M) Q := s_X5_weight hX hI (fun c hc e => absurd e (hx c hc)) (fun c hc e => absurd e (hx c hc)) (fun c hc e => absurd e (hx c hc)) (fun _ => h) (fun c hc e => absurd e (hx c hc))
theorem v_off {x y : Int32} {c o : Nat} (hX : zXF X) (hI : zIC X M) (hc : c < X.S.n) (hx : x = nI c) (hy : y = 0) (ho : X.S.ch = some o) (h : ∀ M', (∀ c, 32 ≤ c → M' c = M c) → zIC (X.wS (X.S.on1 (X.S.om &&& (255 - 2 ^ c)))) M' → Q (some (.int (nI (zpop (X.S.om &&& (255 - 2 ^ c)))))) (SG se, M')) : zcl fz (d + 14) 89 [.ref 0, .int x, .int y] (SG se, M) Q := by
  have n8 := hX.S.n8
  subst hy
  refine s_X5_turn (b := false) hX hI (fun c' om _ hc' hx' hom M' b hC => ?_) (fun g => absurd hx (g c hc)) (fun _ _ _ g => by rw [ho] at g; cases g)
  have e1 : c = c' := znI_j (by omega) (by omega) (hx.symm.trans hx')
  subst e1
  have hom : om = X.S.om &&& (255 - 2 ^ c) := hom
  subst hom
  exact h M' b hC
theorem v_onn {x y : Int32} {c o : Nat} (hX : zXF X) (hI : zIC X M) (hc : c < X.S.n) (hx : x = nI c) (hy : y = 1) (ho : X.S.ch = some o) (h : ∀ M', (∀ c, 32 ≤ c → M' c = M c) → zIC (X.wS (X.S.on1 (X.S.om ||| 2 ^ c))) M' → Q (some (.int (nI (zpop (X.S.om ||| 2 ^ c))))) (SG se, M')) : zcl fz (d + 14) 89 [.ref 0, .int x, .int y] (SG se, M) Q := by
  have n8 := hX.S.n8
  subst hy
  refine s_X5_turn (b := true) hX hI (fun c' om _ hc' hx' hom M' b hC => ?_) (fun g => absurd hx (g c hc)) (fun _ _ _ g => by rw [ho] at g; cases g)
  have e1 : c = c' := znI_j (by omega) (by omega) (hx.symm.trans hx')
  subst e1
  have hom : om = X.S.om ||| 2 ^ c := hom
  subst hom
  exact h M' b hC
theorem v_turn1 {x y : Int32} (hX : zXF X) (hI : zIC X M) (hy : y = 1) (hx : ∀ c, c < X.S.n → x ≠ nI c) (h : Q (some (.int (-1000001))) (SG se, M)) : zcl fz (d + 14) 89 [.ref 0, .int x, .int y] (SG se, M) Q := by
  subst hy
  exact s_X5_turn (b := true) hX hI (fun c _ _ hc e => absurd e (hx c hc)) (fun _ => h) (fun c hc e => absurd e (hx c hc))
end
