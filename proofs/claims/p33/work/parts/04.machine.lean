/-! ===== the abstract machine: cells by number, int fields and elements in one memory, references fixed ===== -/
/-- a cell's shape: an array of so many elements of a type; an object of a class, its fields (none: an int that the memory keeps; some: a reference or null) -/
abbrev zSh : Type := (FieldType × Nat) ⊕ (Nat × List (Option Value))
abbrev zMm : Type := Nat → Nat → Int32
abbrev zS : Type := List zSh × zMm
abbrev zL : Type := List (Option Value)
abbrev zC : Type := Nat × zL × List Value × zS
/-- arrays that nobody writes: references 1000 and on -/
abbrev zFz : Type := List (Nat × (Nat → Int32))
/-- what an instruction comes to: a step under a condition; a branch; a switch; a call; the end -/
abbrev zO : Type := (Prop × zC) ⊕ (Prop × Prop × zC × zC) ⊕ (Prop × Int32 × List (Int × zC) × zC) ⊕ (Prop × Nat × List Value × Nat × zL × List Value) ⊕ Option Value
def zstep (P : Prop) (pc : Nat) (lv : zL) (stk : List Value) (st : zS) : zO := .inl (P, pc, lv, stk, st)
def zstuck : zO := .inl (False, 0, [], [], [], fun _ _ => 0)
def zild (k d pc : Nat) (lv : zL) (stk : List Value) (st : zS) : zO := match lv[k]? with
  | some (some (.int x)) => zstep True (pc + d) lv (.int x :: stk) st
  | _ => zstuck
def zlld (k d pc : Nat) (lv : zL) (stk : List Value) (st : zS) : zO := match lv[k]?, lv[k + 1]? with
  | some (some (.long x)), some (some .null) => zstep True (pc + d) lv (.long x :: stk) st
  | _, _ => zstuck
def zald (k d pc : Nat) (lv : zL) (stk : List Value) (st : zS) : zO := match lv[k]? with
  | some (some (.ref x)) => zstep True (pc + d) lv (.ref x :: stk) st
  | _ => zstuck
def zist (k d pc : Nat) (lv : zL) (stk : List Value) (st : zS) : zO := match stk with
  | .int x :: s => zstep (k < lv.length) (pc + d) (lv.set k (some (.int x))) s st
  | _ => zstuck
def zast (k d pc : Nat) (lv : zL) (stk : List Value) (st : zS) : zO := match stk with
  | .ref x :: s => zstep (k < lv.length) (pc + d) (lv.set k (some (.ref x))) s st
  | _ => zstuck
def zlst (k d pc : Nat) (lv : zL) (stk : List Value) (st : zS) : zO := match stk with
  | .long x :: s => zstep (k + 1 < lv.length) (pc + d) ((lv.set k (some (.long x))).set (k + 1) (some .null)) s st
  | _ => zstuck
def ziinc (k : Nat) (n : Int) (pc : Nat) (lv : zL) (stk : List Value) (st : zS) : zO := match lv[k]? with
  | some (some (.int x)) => zstep True (pc + 3) (lv.set k (some (.int (x + Int32.ofInt n)))) stk st
  | _ => zstuck
def zbin (f : Int32 → Int32 → Int32) (P : Int32 → Prop) (pc : Nat) (lv : zL) (stk : List Value) (st : zS) : zO := match stk with
  | .int y :: .int x :: s => zstep (P y) (pc + 1) lv (.int (f x y) :: s) st
  | _ => zstuck
def zun (f : Int32 → Value) (pc : Nat) (lv : zL) (stk : List Value) (st : zS) : zO := match stk with
  | .int x :: s => zstep True (pc + 1) lv (f x :: s) st
  | _ => zstuck
def zbinL (f : Int64 → Int64 → Value) (pc : Nat) (lv : zL) (stk : List Value) (st : zS) : zO := match stk with
  | .long y :: .long x :: s => zstep True (pc + 1) lv (f x y :: s) st
  | _ => zstuck
def zdup (pc : Nat) (lv : zL) (stk : List Value) (st : zS) : zO := match stk with
  | a :: s => zstep (a.category = 1) (pc + 1) lv (a :: a :: s) st
  | _ => zstuck
def zdup2 (pc : Nat) (lv : zL) (stk : List Value) (st : zS) : zO := match stk with
  | a :: b :: s => zstep (a.category = 1 ∧ b.category = 1) (pc + 1) lv (a :: b :: a :: b :: s) st
  | _ => zstuck
def zpop1 (pc : Nat) (lv : zL) (stk : List Value) (st : zS) : zO := match stk with
  | a :: s => zstep (a.category = 1) (pc + 1) lv s st
  | _ => zstuck
def ztgt (pc : Nat) (off : Int) : Nat := ((pc : Int) + off).toNat
def zbr (c : Prop) (pc : Nat) (off : Int) (lv : zL) (s : List Value) (st : zS) : zO := .inr (.inl (0 ≤ (pc : Int) + off, c, (ztgt pc off, lv, s, st), (pc + 3, lv, s, st)))
def zcm : Jvm.ClassFile.Cond → Int32 → Int32 → Prop
  | .eq, x, y => x = y
  | .ne, x, y => ¬ x = y
  | .lt, x, y => x < y
  | .ge, x, y => y ≤ x
  | .gt, x, y => y < x
  | .le, x, y => x ≤ y
def zif0 (c : Jvm.ClassFile.Cond) (off : Int) (pc : Nat) (lv : zL) (stk : List Value) (st : zS) : zO := match stk with
  | .int x :: s => zbr (zcm c x 0) pc off lv s st
  | _ => zstuck
def zif2 (c : Jvm.ClassFile.Cond) (off : Int) (pc : Nat) (lv : zL) (stk : List Value) (st : zS) : zO := match stk with
  | .int y :: .int x :: s => zbr (zcm c x y) pc off lv s st
  | _ => zstuck
def zpick (x : Int) : List (Int × zC) → zC → zC
  | [], d => d
  | (k, c) :: t, d => if x = k then c else zpick x t d
def ztsw (dflt lo hi : Int) (offs : List Int) (pc : Nat) (lv : zL) (stk : List Value) (st : zS) : zO := match stk with
  | .int x :: s => .inr (.inr (.inl (hi = lo + offs.length - 1 ∧ 0 ≤ (pc : Int) + dflt ∧ (∀ f ∈ offs, 0 ≤ (pc : Int) + f), x, offs.zipIdx.map (fun q => (lo + (q.2 : Int), (ztgt pc q.1, lv, s, st))), (ztgt pc dflt, lv, s, st))))
  | _ => zstuck
def zlsw (dflt : Int) (ps : List (Int × Int)) (pc : Nat) (lv : zL) (stk : List Value) (st : zS) : zO := match stk with
  | .int x :: s => .inr (.inr (.inl ((ps.zip (ps.drop 1)).all (fun (a, next) => a.1 < next.1) = true ∧ 0 ≤ (pc : Int) + dflt ∧ (∀ f ∈ ps, 0 ≤ (pc : Int) + f.2), x, ps.map (fun q => (q.1, (ztgt pc q.2, lv, s, st))), (ztgt pc dflt, lv, s, st))))
  | _ => zstuck
def zarr (fz : zFz) (st : zS) (r : Nat) : Option (FieldType × Nat × (Nat → Int32)) :=
  if r < 1000 then match st.1[r]? with
    | some (.inl (ty, n)) => some (ty, n, st.2 r)
    | _ => none
  else match fz[r - 1000]? with
    | some (n, f) => some (.int, n, f)
    | none => none
def zxald (ok : FieldType → Bool) (fz : zFz) (pc : Nat) (lv : zL) (stk : List Value) (st : zS) : zO := match stk with
  | .int i :: .ref r :: s => (match zarr fz st r with
    | some (ty, n, f) => zstep (ok ty = true ∧ 0 ≤ i.toInt ∧ i.toInt < n) (pc + 1) lv (.int (f i.toInt.toNat) :: s) st
    | none => zstuck)
  | _ => zstuck
def zxast (ok : FieldType → Bool) (pc : Nat) (lv : zL) (stk : List Value) (st : zS) : zO := match stk with
  | .int x :: .int i :: .ref r :: s => (match st.1[r]? with
    | some (.inl (ty, n)) => zstep (r < 1000 ∧ ok ty = true ∧ 0 ≤ i.toInt ∧ i.toInt < n) (pc + 1) lv s (st.1, va_up st.2 r (upd (st.2 r) i.toInt.toNat (vp_nar ty x)))
    | _ => zstuck)
  | _ => zstuck
def zokI : FieldType → Bool
  | .int => true
  | _ => false
def zokB : FieldType → Bool
  | .byte => true
  | _ => false
def zlenA (fz : zFz) (pc : Nat) (lv : zL) (stk : List Value) (st : zS) : zO := match stk with
  | .ref r :: s => (match zarr fz st r with
    | some (ty, n, f) => zstep (zokI ty = true ∨ zokB ty = true) (pc + 1) lv (.int (Int32.ofNat n) :: s) st
    | none => zstuck)
  | _ => zstuck
def zatp : ArrayType → Option FieldType
  | .int => some .int
  | .byte => some .byte
  | _ => none
def znewa (t : ArrayType) (pc : Nat) (lv : zL) (stk : List Value) (st : zS) : zO := match stk, zatp t with
  | .int n :: s, some ty => zstep (st.1.length < 1000 ∧ 0 ≤ n.toInt ∧ n.toInt ≤ 100000) (pc + 2) lv (.ref st.1.length :: s) (st.1 ++ [.inl (ty, n.toInt.toNat)], va_up st.2 st.1.length (fun _ => 0))
  | _, _ => zstuck
/-- a new object's fields -/
def zdf (ci : Nat) : List (Option Value) := (List.range (vwCl.getD ci (RX0, TX0, 0)).2.2).map (fun k => match zty ci k with
  | .object _ => some .null
  | .array _ => some .null
  | _ => none)
def znew (o ix pc : Nat) (lv : zL) (stk : List Value) (st : zS) : zO := match zfind zn o ix with
  | some ci => zstep (st.1.length < 1000) (pc + 3) lv (.ref st.1.length :: stk) (st.1 ++ [.inr (ci, zdf ci)], va_up st.2 st.1.length (fun _ => 0))
  | none => zstuck
def zgetf (o ix pc : Nat) (lv : zL) (stk : List Value) (st : zS) : zO := match zfind zf o ix, stk with
  | some (ci, k, _, _, _), .ref r :: s => (match st.1[r]? with
    | some (.inr (c, fs)) => (match fs[k]? with
      | some none => zstep (r < 1000 ∧ c = ci) (pc + 3) lv (.int (st.2 r k) :: s) st
      | some (some v) => zstep (r < 1000 ∧ c = ci) (pc + 3) lv (v :: s) st
      | none => zstuck)
    | _ => zstuck)
  | _, _ => zstuck
def zputf (o : Nat) (ini : Bool) (ix pc : Nat) (lv : zL) (stk : List Value) (st : zS) : zO := match zfind zf o ix, stk with
  | some (ci, k, fin, t, _), .int x :: .ref r :: s => (match st.1[r]? with
    | some (.inr (c, fs)) => (match fs[k]? with
      | some none => zstep (r < 1000 ∧ c = ci ∧ (t = 0 ∨ (t = 1 ∧ (x = 0 ∨ x = 1))) ∧ (fin = false ∨ (ini = true ∧ o = ci))) (pc + 3) lv s (st.1, va_up st.2 r (upd (st.2 r) k x))
      | _ => zstuck)
    | _ => zstuck)
  | some (ci, k, fin, t, _), .ref y :: .ref r :: s => (match st.1[r]? with
    | some (.inr (c, fs)) => (match fs[k]? with
      | some (some _) => zstep (r < 1000 ∧ c = ci ∧ t = 2 ∧ (fin = false ∨ (ini = true ∧ o = ci))) (pc + 3) lv s (st.1.set r (.inr (c, fs.set k (some (.ref y)))), st.2)
      | _ => zstuck)
    | _ => zstuck)
  | _, _ => zstuck
def zgets (o ix pc : Nat) (lv : zL) (stk : List Value) (st : zS) : zO := match zfind zs o ix with
  | some (k, _) => zstep True (pc + 3) lv (.ref (1000 + k) :: stk) st
  | none => zstuck
def zwide (l : List Value) : Nat := (l.map fun v => v.category).sum
def zisO (st : zS) (ci : Nat) : List Value → Prop
  | .ref r :: _ => r < 1000 ∧ (match st.1[r]? with
    | some (.inr (c, _)) => c = ci
    | _ => False)
  | _ => False
def zcallK (kind n o ix pc : Nat) (lv : zL) (stk : List Value) (st : zS) : zO := match zfind zk o ix with
  | some (mid, _) => .inr (.inr (.inr (.inl ((zmg mid).2.2.2.2.2.2 = kind ∧ (zmg mid).2.2.2.2.2.1 + n ≤ stk.length ∧ zwide (stk.drop ((zmg mid).2.2.2.2.2.1 + n)) ≤ 8 ∧ (¬ kind = 1 → zisO st (zmg mid).1 (stk.take ((zmg mid).2.2.2.2.2.1 + n)).reverse), mid, (stk.take ((zmg mid).2.2.2.2.2.1 + n)).reverse, pc + 3, lv, stk.drop ((zmg mid).2.2.2.2.2.1 + n)))))
  | none => zstuck
def zcopy (pc : Nat) (lv : zL) (stk : List Value) (st : zS) : zO := match stk with
  | .int n :: .int dp :: .ref d :: .int sp :: .ref q :: s => (match st.1[q]?, st.1[d]? with
    | some (.inl (.int, n0)), some (.inl (.int, n1)) => zstep (q < 1000 ∧ d < 1000 ∧ zwide s ≤ 8 ∧ 0 ≤ sp.toInt ∧ 0 ≤ dp.toInt ∧ 0 ≤ n.toInt ∧ sp.toInt + n.toInt ≤ n0 ∧ dp.toInt + n.toInt ≤ n1) (pc + 3) lv s (st.1, va_up st.2 d (va_cpy (st.2 q) (st.2 d) sp.toInt.toNat dp.toInt.toNat n.toInt.toNat))
    | _, _ => zstuck)
  | _ => zstuck
def zstat (o ix pc : Nat) (lv : zL) (stk : List Value) (st : zS) : zO := match zfind zy o ix with
  | some _ => zcopy pc lv stk st
  | none => zcallK 1 0 o ix pc lv stk st
def zspec (o ix pc : Nat) (lv : zL) (stk : List Value) (st : zS) : zO := match zfind zo o ix with
  | some _ => (match stk with
    | .ref _ :: s => zstep (zwide s ≤ 8) (pc + 3) lv s st
    | _ => zstuck)
  | none => zcallK 2 1 o ix pc lv stk st
def zretI (stk : List Value) : zO := match stk with
  | [.int v] => .inr (.inr (.inr (.inr (some (.int v)))))
  | _ => zstuck
def zretL (stk : List Value) : zO := match stk with
  | [.long v] => .inr (.inr (.inr (.inr (some (.long v)))))
  | _ => zstuck
def zretV (stk : List Value) : zO := match stk with
  | [] => .inr (.inr (.inr (.inr none)))
  | _ => zstuck
def zone (fz : zFz) (o : Nat) (ini : Bool) (i : Instr) (pc : Nat) (lv : zL) (stk : List Value) (st : zS) : zO := match i with
  | .iconst n => zstep True (pc + 1) lv (.int (Int32.ofInt n) :: stk) st
  | .lconst n => zstep True (pc + 1) lv (.long (Int64.ofNat n) :: stk) st
  | .bipush n => zstep True (pc + 2) lv (.int (Int8.ofInt n).toInt32 :: stk) st
  | .sipush n => zstep True (pc + 3) lv (.int (Int16.ofInt n).toInt32 :: stk) st
  | .ldc ix => (match zfind zc o ix with
    | some v => zstep True (pc + 2) lv (.int v :: stk) st
    | none => zstuck)
  | .ldc_w ix => (match zfind zc o ix with
    | some v => zstep True (pc + 3) lv (.int v :: stk) st
    | none => zstuck)
  | .ldc2_w ix => (match zfind zj o ix with
    | some v => zstep True (pc + 3) lv (.long v :: stk) st
    | none => zstuck)
  | .iload_n k => zild k 1 pc lv stk st
  | .iload k => zild k 2 pc lv stk st
  | .lload_n k => zlld k 1 pc lv stk st
  | .lload k => zlld k 2 pc lv stk st
  | .aload_n k => zald k 1 pc lv stk st
  | .aload k => zald k 2 pc lv stk st
  | .istore_n k => zist k 1 pc lv stk st
  | .istore k => zist k 2 pc lv stk st
  | .lstore_n k => zlst k 1 pc lv stk st
  | .lstore k => zlst k 2 pc lv stk st
  | .astore_n k => zast k 1 pc lv stk st
  | .astore k => zast k 2 pc lv stk st
  | .iinc k n => ziinc k n pc lv stk st
  | .iadd => zbin (fun x y => x + y) (fun _ => True) pc lv stk st
  | .isub => zbin (fun x y => x - y) (fun _ => True) pc lv stk st
  | .imul => zbin (fun x y => x * y) (fun _ => True) pc lv stk st
  | .idiv => zbin (fun x y => x / y) (fun y => ¬ y = 0) pc lv stk st
  | .irem => zbin (fun x y => x - x / y * y) (fun y => ¬ y = 0) pc lv stk st
  | .iand => zbin (fun x y => x &&& y) (fun _ => True) pc lv stk st
  | .ior => zbin (fun x y => x ||| y) (fun _ => True) pc lv stk st
  | .ixor => zbin (fun x y => x ^^^ y) (fun _ => True) pc lv stk st
  | .ishl => zbin (fun x y => x <<< (y &&& 31)) (fun _ => True) pc lv stk st
  | .ishr => zbin (fun x y => x >>> (y &&& 31)) (fun _ => True) pc lv stk st
  | .iushr => zbin (fun x y => (x.toUInt32 >>> (y.toUInt32 &&& Int32.toUInt32 31)).toInt32) (fun _ => True) pc lv stk st
  | .ineg => zun (fun x => .int (-x)) pc lv stk st
  | .i2l => zun (fun x => .long x.toInt64) pc lv stk st
  | .i2b => zun (fun x => .int x.toInt8.toInt32) pc lv stk st
  | .ladd => zbinL (fun x y => .long (x + y)) pc lv stk st
  | .lmul => zbinL (fun x y => .long (x * y)) pc lv stk st
  | .lcmp => zbinL (fun x y => .int (lg_cmp x y)) pc lv stk st
  | .dup => zdup pc lv stk st
  | .dup2 => zdup2 pc lv stk st
  | .pop => zpop1 pc lv stk st
  | .ifCond c off => zif0 c off pc lv stk st
  | .if_icmp c off => zif2 c off pc lv stk st
  | .goto off => zstep (0 ≤ (pc : Int) + off) (ztgt pc off) lv stk st
  | .tableswitch d lo hi offs => ztsw d lo hi offs.toList pc lv stk st
  | .lookupswitch d ps => zlsw d ps.toList pc lv stk st
  | .getfield ix => zgetf o ix pc lv stk st
  | .putfield ix => zputf o ini ix pc lv stk st
  | .getstatic ix => zgets o ix pc lv stk st
  | .iaload => zxald zokI fz pc lv stk st
  | .baload => zxald zokB fz pc lv stk st
  | .iastore => zxast zokI pc lv stk st
  | .bastore => zxast zokB pc lv stk st
  | .arraylength => zlenA fz pc lv stk st
  | .newarray t => znewa t pc lv stk st
  | .new ix => znew o ix pc lv stk st
  | .invokevirtual ix => zcallK 0 1 o ix pc lv stk st
  | .invokestatic ix => zstat o ix pc lv stk st
  | .invokespecial ix => zspec o ix pc lv stk st
  | .ireturn => zretI stk
  | .lreturn => zretL stk
  | .return_ => zretV stk
  | _ => zstuck
/-- an instruction's length; 0: of any length (the switches) -/
def zlen : Instr → Nat
  | .iconst _ => 1
  | .bipush _ => 2
  | .sipush _ => 3
  | .ldc _ => 2
  | .ldc_w _ => 3
  | .ldc2_w _ => 3
  | .iload_n _ => 1
  | .iload _ => 2
  | .lload_n _ => 1
  | .lload _ => 2
  | .aload_n _ => 1
  | .aload _ => 2
  | .istore_n _ => 1
  | .istore _ => 2
  | .lstore_n _ => 1
  | .lstore _ => 2
  | .astore_n _ => 1
  | .astore _ => 2
  | .iinc _ _ => 3
  | .ifCond _ _ => 3
  | .if_icmp _ _ => 3
  | .goto _ => 3
  | .tableswitch _ _ _ _ => 0
  | .lookupswitch _ _ => 0
  | .getfield _ => 3
  | .putfield _ => 3
  | .getstatic _ => 3
  | .newarray _ => 2
  | .new _ => 3
  | .invokevirtual _ => 3
  | .invokestatic _ => 3
  | .invokespecial _ => 3
  | _ => 1
abbrev zCall : Type := Nat → List Value → zS → Option Value → zS → Prop
/-- the run inside a method, to its answer r and state st' -/
def zR (fz : zFz) (call : zCall) (o : Nat) (ini : Bool) (cc : ByteArray) (r : Option Value) (st' : zS) : Nat → zC → Prop
  | 0, _ => False
  | n + 1, c => ∃ (i : Instr) (len : Nat), decode cc c.1 = .ok (i, len) ∧ (zlen i = 0 ∨ zlen i = len) ∧ match zone fz o ini i c.1 c.2.1 c.2.2.1 c.2.2.2 with
    | .inl (P, c') => P ∧ zR fz call o ini cc r st' n c'
    | .inr (.inl (P, b, ct, cf)) => P ∧ ((b ∧ zR fz call o ini cc r st' n ct) ∨ (¬ b ∧ zR fz call o ini cc r st' n cf))
    | .inr (.inr (.inl (P, x, cs, d))) => P ∧ zR fz call o ini cc r st' n (zpick x.toInt cs d)
    | .inr (.inr (.inr (.inl (P, mid, as, pc', lv', rest)))) => P ∧ ∃ (ro : Option Value) (so : zS), call mid as c.2.2.2 ro so ∧ zR fz call o ini cc r st' n (pc', lv', ro.toList ++ rest, so)
    | .inr (.inr (.inr (.inr v))) => v = r ∧ c.2.2.2 = st'
def zent : List Value → zL
  | [] => []
  | .long x :: vs => some (.long x) :: some .null :: zent vs
  | v :: vs => some v :: zent vs
def zinit (as : List Value) (n : Nat) : zL := zent as ++ List.replicate (n - (zent as).length) none
def zrt : Option FieldType → Option Value → Prop
  | none, none => True
  | some .int, some (.int _) => True
  | some .boolean, some (.int v) => v = 0 ∨ v = 1
  | some .long, some (.long _) => True
  | _, _ => False
def zplain : Value → Bool
  | .int _ => true
  | .long _ => true
  | .ref _ => true
  | _ => false
/-- a method's run, at most d calls deep -/
def zEv (fz : zFz) : Nat → zCall
  | 0 => fun _ _ _ _ _ => False
  | d + 1 => fun mid as st r st' => mid < zmL.length ∧ (zmg mid).1 < 99 ∧ as.all zplain = true ∧ (zent as).length ≤ (zmg mid).2.2.2.1 ∧ zrt (zmg mid).2.2.2.2.1 r ∧ ∃ n : Nat, zR fz (zEv fz d) (zmg mid).1 ((zmg mid).2.2.2.2.2.2 == 2) (zmg mid).2.2.1 r st' n (0, zinit as (zmg mid).2.2.2.1, [], st)
/-- from here on the method comes to an end with Q -/
def zwp (fz : zFz) (d o : Nat) (ini : Bool) (cc : ByteArray) (c : zC) (Q : Option Value → zS → Prop) : Prop := ∃ (n : Nat) (r : Option Value) (st' : zS), zR fz (zEv fz d) o ini cc r st' n c ∧ Q r st'
/-- a call comes to an end with Q -/
def zcl (fz : zFz) (d mid : Nat) (as : List Value) (st : zS) (Q : Option Value → zS → Prop) : Prop := ∃ (r : Option Value) (st' : zS), zEv fz d mid as st r st' ∧ Q r st'
theorem zcl.mono {fz : zFz} {d mid : Nat} {as : List Value} {st : zS} {Q Q' : Option Value → zS → Prop} (h : zcl fz d mid as st Q) (hq : ∀ r st', Q r st' → Q' r st') : zcl fz d mid as st Q' := by
  obtain ⟨r, st', h1, h2⟩ := h
  exact ⟨r, st', h1, hq r st' h2⟩
theorem zwp.mono {fz : zFz} {d o : Nat} {ini : Bool} {cc : ByteArray} {c : zC} {Q Q' : Option Value → zS → Prop} (h : zwp fz d o ini cc c Q) (hq : ∀ r st', Q r st' → Q' r st') : zwp fz d o ini cc c Q' := by
  obtain ⟨n, r, st', h1, h2⟩ := h
  exact ⟨n, r, st', h1, hq r st' h2⟩
theorem zcl_intro {fz : zFz} {d mid o ml np kind : Nat} {y : MethodName} {cc : ByteArray} {ret : Option FieldType} {as : List Value} {st : zS} {Q : Option Value → zS → Prop} (hm : zmg mid = (o, y, cc, ml, ret, np, kind)) (h1 : mid < zmL.length) (h2 : o < 99) (h3 : as.all zplain = true) (h4 : (zent as).length ≤ ml)
    (h : zwp fz d o (kind == 2) cc (0, zinit as ml, [], st) (fun r st' => zrt ret r ∧ Q r st')) : zcl fz (d + 1) mid as st Q := by
  obtain ⟨n, r, st', g1, g2, g3⟩ := h
  refine ⟨r, st', ⟨h1, ?_, h3, ?_, ?_, n, ?_⟩, g3⟩ <;> rw [hm]
  · exact h2
  · exact h4
  · exact g2
  · exact g1
/-- the run by computation: as far as n steps, a call, a stop or the end -/
def zx (fz : zFz) (d o : Nat) (ini : Bool) (cc : ByteArray) (Q : Option Value → zS → Prop) (stops : List Nat) : Nat → zC → Prop
  | 0, c => zwp fz d o ini cc c Q
  | n + 1, c => match decode cc c.1 with
    | .ok (i, len) => (zlen i = 0 ∨ zlen i = len) ∧ (match zone fz o ini i c.1 c.2.1 c.2.2.1 c.2.2.2 with
      | .inl (P, c') => P ∧ (if c'.1 ∈ stops then zwp fz d o ini cc c' Q else zx fz d o ini cc Q stops n c')
      | .inr (.inl (P, b, ct, cf)) => P ∧ (b → if ct.1 ∈ stops then zwp fz d o ini cc ct Q else zx fz d o ini cc Q stops n ct) ∧ (¬ b → if cf.1 ∈ stops then zwp fz d o ini cc cf Q else zx fz d o ini cc Q stops n cf)
      | .inr (.inr (.inl (P, x, cs, df))) => P ∧ (∀ q ∈ cs, x.toInt = q.1 → if q.2.1 ∈ stops then zwp fz d o ini cc q.2 Q else zx fz d o ini cc Q stops n q.2) ∧ ((∀ q ∈ cs, ¬ x.toInt = q.1) → if df.1 ∈ stops then zwp fz d o ini cc df Q else zx fz d o ini cc Q stops n df)
      | .inr (.inr (.inr (.inl (P, mid, as, pc', lv', rest)))) => P ∧ zcl fz d mid as c.2.2.2 (fun ro so => zwp fz d o ini cc (pc', lv', ro.toList ++ rest, so) Q)
      | .inr (.inr (.inr (.inr v))) => Q v c.2.2.2)
    | .error _ => False
theorem zpick_spec {x : Int} {K : zC → Prop} : ∀ {cs : List (Int × zC)} {d : zC}, (∀ q ∈ cs, x = q.1 → K q.2) → ((∀ q ∈ cs, ¬ x = q.1) → K d) → K (zpick x cs d)
  | [], d, _, h2 => h2 (fun _ h => absurd h List.not_mem_nil)
  | (k, c) :: t, d, h1, h2 => by
    unfold zpick
    split
    · rename_i hk
      exact h1 (k, c) List.mem_cons_self hk
    · rename_i hk
      exact zpick_spec (fun q hq => h1 q (List.mem_cons_of_mem _ hq)) (fun h => h2 (fun q hq => by
        rcases List.mem_cons.mp hq with e | e
        · rw [e]; exact hk
        · exact h q e))
theorem zx_ok {fz : zFz} {d o : Nat} {ini : Bool} {cc : ByteArray} {Q : Option Value → zS → Prop} (stops : List Nat) : ∀ (n : Nat) {c : zC}, zx fz d o ini cc Q stops n c → zwp fz d o ini cc c Q
  | 0, c, h => h
  | n + 1, c, h => by
    have key : ∀ c' : zC, (if c'.1 ∈ stops then zwp fz d o ini cc c' Q else zx fz d o ini cc Q stops n c') → zwp fz d o ini cc c' Q := by
      intro c' h'
      split at h'
      · exact h'
      · exact zx_ok stops n h'
    unfold zx at h
    split at h
    · rename_i i len hd
      obtain ⟨hl, h⟩ := h
      have go : ∀ (n' : Nat) (r : Option Value) (st' : zS), (match zone fz o ini i c.1 c.2.1 c.2.2.1 c.2.2.2 with
          | .inl (P, c') => P ∧ zR fz (zEv fz d) o ini cc r st' n' c'
          | .inr (.inl (P, b, ct, cf)) => P ∧ ((b ∧ zR fz (zEv fz d) o ini cc r st' n' ct) ∨ (¬ b ∧ zR fz (zEv fz d) o ini cc r st' n' cf))
          | .inr (.inr (.inl (P, x, cs, d'))) => P ∧ zR fz (zEv fz d) o ini cc r st' n' (zpick x.toInt cs d')
          | .inr (.inr (.inr (.inl (P, mid, as, pc', lv', rest)))) => P ∧ ∃ (ro : Option Value) (so : zS), zEv fz d mid as c.2.2.2 ro so ∧ zR fz (zEv fz d) o ini cc r st' n' (pc', lv', ro.toList ++ rest, so)
          | .inr (.inr (.inr (.inr v))) => v = r ∧ c.2.2.2 = st') → Q r st' → zwp fz d o ini cc c Q := fun n' r st' h1 h2 => ⟨n' + 1, r, st', ⟨i, len, hd, hl, h1⟩, h2⟩
      split at h
      · rename_i P c' he
        obtain ⟨hp, h⟩ := h
        obtain ⟨n', r, st', g1, g2⟩ := key c' h
        exact go n' r st' (by rw [he]; exact ⟨hp, g1⟩) g2
      · rename_i P b ct cf he
        obtain ⟨hp, ht, hf⟩ := h
        by_cases hb : b
        · obtain ⟨n', r, st', g1, g2⟩ := key ct (ht hb)
          exact go n' r st' (by rw [he]; exact ⟨hp, Or.inl ⟨hb, g1⟩⟩) g2
        · obtain ⟨n', r, st', g1, g2⟩ := key cf (hf hb)
          exact go n' r st' (by rw [he]; exact ⟨hp, Or.inr ⟨hb, g1⟩⟩) g2
      · rename_i P x cs df he
        obtain ⟨hp, h1, h2⟩ := h
        obtain ⟨n', r, st', g1, g2⟩ := zpick_spec (K := fun c' => zwp fz d o ini cc c' Q) (x := x.toInt) (cs := cs) (d := df) (fun q hq e => key q.2 (h1 q hq e)) (fun e => key df (h2 e))
        exact go n' r st' (by rw [he]; exact ⟨hp, g1⟩) g2
      · rename_i P mid as pc' lv' rest he
        obtain ⟨hp, ro, so, h1, n', r, st', g1, g2⟩ := h
        exact go n' r st' (by rw [he]; exact ⟨hp, ro, so, h1, g1⟩) g2
      · rename_i v he
        exact go 0 v c.2.2.2 (by rw [he]; exact ⟨rfl, rfl⟩) h
    · exact h.elim
