/-! THE ABSTRACT MACHINE: frames over a heap whose cells are numbered in the order of their making; a run of it is a run of the machine (05.sound) -/
/-- a cell: an array of ints (0) or chars (1) with its length; an array of stocks; an object with its class and fields -/
abbrev zC : Type := (Nat × Nat × (Nat → Int32)) ⊕ ((Nat × (Nat → Option Nat)) ⊕ (Nat × List Value))
/-- how many cells, how many slots, the cells, the script's length and values -/
abbrev zH : Type := Nat × Nat × (Nat → zC) × Nat × (Nat → Int32)
def zvoid : zC := .inr (.inr (99, []))
def zg (h : zH) (i : Nat) : zC := h.2.2.1 i
def zu (h : zH) (i : Nat) (c : zC) : zH := (h.1, h.2.1, fun j => if j = i then c else h.2.2.1 j, h.2.2.2)
def zpush (h : zH) (n : Nat) (c : zC) : zH := (h.1 + 1, h.2.1 + n, fun j => if j = h.1 then c else h.2.2.1 j, h.2.2.2)
def zin (j : Int32) (n : Nat) : Bool := !decide (j < 0) && decide (j.toNatClampNeg < n)
def zgetf (h : zH) (i ci k : Nat) : Option Value := match zg h i with
  | .inr (.inr (c, fs)) => if c = ci then fs[k]? else none
  | _ => none
def zputf (h : zH) (i ci k : Nat) (v : Value) : Option zH := match zg h i with
  | .inr (.inr (c, fs)) => if c = ci ∧ k < fs.length then some (zu h i (.inr (.inr (c, fs.set k v)))) else none
  | _ => none
def zald (t : Nat) (h : zH) (i : Nat) (j : Int32) : Option Int32 := match zg h i with
  | .inl (t', n, f) => if t' = t ∧ zin j n = true then some (f j.toNatClampNeg) else none
  | _ => none
def zasti (h : zH) (i : Nat) (j x : Int32) : Option zH := match zg h i with
  | .inl (t, n, f) => if t = 0 ∧ zin j n = true then some (zu h i (.inl (t, n, upd f j.toNatClampNeg x))) else none
  | _ => none
def zastc (h : zH) (i : Nat) (j x : Int32) : Option zH := match zg h i with
  | .inl (t, n, f) => if t = 1 ∧ zin j n = true then some (zu h i (.inl (t, n, upd f j.toNatClampNeg (vp_nar .char x)))) else none
  | _ => none
def zlen (h : zH) (i : Nat) : Option Int32 := match zg h i with
  | .inl (t, n, _) => if t = 0 ∨ t = 1 then some (Int32.ofNat n) else none
  | .inr (.inl (n, _)) => some (Int32.ofNat n)
  | _ => none
def zaldq (h : zH) (i : Nat) (j : Int32) : Option Nat := match zg h i with
  | .inr (.inl (n, f)) => if zin j n = true then f j.toNatClampNeg else none
  | _ => none
def zis (h : zH) (k ci : Nat) : Bool := match zg h k with
  | .inr (.inr (c, _)) => decide (c = ci)
  | _ => false
def zastq (h : zH) (i : Nat) (j : Int32) (k : Nat) : Option zH := match zg h i with
  | .inr (.inl (n, f)) => if zin j n = true ∧ zis h k 5 = true then some (zu h i (.inr (.inl (n, va_up f j.toNatClampNeg (some k))))) else none
  | _ => none
def zcopy (h : zH) (i0 : Nat) (sp : Int32) (i1 : Nat) (dp n : Int32) : Option zH := match zg h i0, zg h i1 with
  | .inl (t0, n0, f), .inl (t1, n1, g) => if t0 = 0 ∧ t1 = 0 ∧ ¬ sp < 0 ∧ ¬ dp < 0 ∧ ¬ n < 0 ∧ sp.toNatClampNeg + n.toNatClampNeg ≤ n0 ∧ dp.toNatClampNeg + n.toNatClampNeg ≤ n1 then some (zu h i1 (.inl (t1, n1, va_cpy f g sp.toNatClampNeg dp.toNatClampNeg n.toNatClampNeg))) else none
  | _, _ => none
/-! locals -/
def zld (al : List (Option Value)) (i : Nat) : Option Value := match al[i]? with
  | some (some v) => some v
  | _ => none
/-- longs lie where zwd says, alone -/
def z1k (m i : Nat) : Bool := !zwd m i && !zwe m i
def zst1 (m : Nat) (al : List (Option Value)) (i : Nat) (v : Value) : Option (List (Option Value)) := if i < al.length ∧ z1k m i = true then some (al.set i (some v)) else none
def zst2 (m : Nat) (al : List (Option Value)) (i : Nat) (v : Value) : Option (List (Option Value)) := if zwd m i = true ∧ i + 1 < al.length then some (al.set i (some v)) else none
def zentry (m : Nat) (as : List Value) : List (Option Value) := as.map some ++ List.replicate (zml m - as.length) none
/-! a step: on in this frame, or a call, or the end -/
abbrev zO : Type := Option ((Nat × List (Option Value) × List Value × zH) ⊕ ((Nat × List Value × List Value) ⊕ Option Value))
def zn (pc : Nat) (al : List (Option Value)) (st : List Value) (h : zH) : zO := some (.inl (pc, al, st, h))
def zq (b : Bool) (o : zO) : zO := if b = true then o else none
def ztg (pc : Nat) (off : Int) (al : List (Option Value)) (st : List Value) (h : zH) : zO := if 0 ≤ (pc : Int) + off then zn ((pc : Int) + off).toNat al st h else none
def zcond (c : ClassFile.Cond) (x y : Int32) : Bool := match c with
  | .eq => decide (x = y)
  | .ne => !decide (x = y)
  | .lt => decide (x < y)
  | .ge => decide (y ≤ x)
  | .gt => decide (y < x)
  | .le => decide (x ≤ y)
def zval (v : Value) : Bool := match v with
  | .int _ => true
  | .ref _ => true
  | _ => false
def zarg (v : Value) : Bool := match v with
  | .int _ => true
  | .ref _ => true
  | .float _ => true
  | _ => false
def zrest (st : List Value) : Bool := decide ((st.map fun v => v.category).sum ≤ 8)
def zcallV (k n : Nat) (st : List Value) (h : zH) : zO := match st.drop n with
  | .ref b :: r => zq (decide (n ≤ st.length) && (st.take n).all zarg && zrest r && zis h b (zci (zcl k)) && decide (n + 1 ≤ zml k) && decide (zcl k ≠ 7) && decide (zcl k < 9)) (some (.inr (.inl (k, .ref b :: (st.take n).reverse, r))))
  | _ => none
def zcallS (k n : Nat) (st : List Value) : zO := zq (decide (n ≤ st.length) && (st.take n).all zarg && zrest (st.drop n) && decide (n ≤ zml k)) (some (.inr (.inl (k, (st.take n).reverse, st.drop n))))
def zfit (ty : FieldType) (v : Value) : Bool := zval v && decide (narrow ty v = v) && fits ty v
def zpf (m : Nat) (ci fk : Nat) (v : Value) : Bool := match zT ci with
  | some (_, T, _) => zfit (zty ci fk) v && (!(T fk).2.2.2 || decide ((zy m).name = "<init>"))
  | none => false
def zblank (ci : Nat) : List Value := match zT ci with
  | some (_, _, N) => (List.range N).map fun j => defaultValue (zty ci j)
  | none => []
def zplain (v : Value) : Bool := match v with
  | .int _ => true
  | .null => true
  | _ => false
def zstatic (m idx : Nat) (pc : Nat) (al : List (Option Value)) (st : List Value) (h : zH) : zO := match zcall (zcl m) idx with
  | some (1, k, n) => zcallS k n st
  | some (3, k, n) => zcallS k n st
  | some (6, _, _) => match st with
    | .int y :: .int x :: r => zq (zrest r) (zn (pc + 3) al (.int (if x < y then y else x) :: r) h)
    | _ => none
  | some (7, _, _) => match st with
    | .int y :: .int x :: r => zq (zrest r) (zn (pc + 3) al (.int (if y < x then y else x) :: r) h)
    | _ => none
  | some (8, _, _) => match st with
    | .int n :: .int dp :: .ref i1 :: .int sp :: .ref i0 :: r => (zcopy h i0 sp i1 dp n).bind fun h1 => zq (zrest r) (zn (pc + 3) al r h1)
    | _ => none
  | _ => none
def zspecial (m idx : Nat) (pc : Nat) (al : List (Option Value)) (st : List Value) (h : zH) : zO := match zcall (zcl m) idx with
  | some (2, k, n) => zcallV k n st h
  | some (4, k, n) => zcallV k n st h
  | some (5, _, _) => match st with
    | .ref a :: r => zq (zrest r) (zn (pc + 3) al r h)
    | _ => none
  | _ => none
def zload (m : Nat) (pc w : Nat) (i : Nat) (al : List (Option Value)) (st : List Value) (h : zH) : zO := match zld al i with
  | some (.int x) => zn (pc + w) al (.int x :: st) h
  | _ => none
def zloada (m : Nat) (pc w : Nat) (i : Nat) (al : List (Option Value)) (st : List Value) (h : zH) : zO := match zld al i with
  | some (.ref x) => zn (pc + w) al (.ref x :: st) h
  | some (.float x) => zn (pc + w) al (.float x :: st) h
  | _ => none
def zstore (m pc w : Nat) (i : Nat) (al : List (Option Value)) (st : List Value) (h : zH) : zO := match st with
  | .int x :: r => (zst1 m al i (.int x)).bind fun al' => zn (pc + w) al' r h
  | _ => none
def zstorea (m pc w : Nat) (i : Nat) (al : List (Option Value)) (st : List Value) (h : zH) : zO := match st with
  | .ref x :: r => (zst1 m al i (.ref x)).bind fun al' => zn (pc + w) al' r h
  | _ => none
def zarith (pc : Nat) (al : List (Option Value)) (st : List Value) (h : zH) (f : Int32 → Int32 → Option Int32) : zO := match st with
  | .int y :: .int x :: r => (f x y).bind fun z => zn (pc + 1) al (.int z :: r) h
  | _ => none
def zdo (m pc : Nat) (i : Instr) (len : Nat) (al : List (Option Value)) (st : List Value) (h : zH) : zO := match i with
  | .iconst n => zq (len == 1) (zn (pc + 1) al (.int (Int32.ofInt n) :: st) h)
  | .bipush n => zq (len == 2) (zn (pc + 2) al (.int (Int8.ofInt n).toInt32 :: st) h)
  | .sipush n => zq (len == 3) (zn (pc + 3) al (.int (Int16.ofInt n).toInt32 :: st) h)
  | .ldc k => zq (len == 2) ((zcon (zcl m) k).bind fun v => zn (pc + 2) al (.int v :: st) h)
  | .ldc_w k => zq (len == 3) ((zcon (zcl m) k).bind fun v => zn (pc + 3) al (.int v :: st) h)
  | .iload_n k => zq (len == 1) (zload m pc 1 k al st h)
  | .iload k => zq (len == 2) (zload m pc 2 k al st h)
  | .aload_n k => zq (len == 1) (zloada m pc 1 k al st h)
  | .aload k => zq (len == 2) (zloada m pc 2 k al st h)
  | .istore_n k => zq (len == 1) (zstore m pc 1 k al st h)
  | .istore k => zq (len == 2) (zstore m pc 2 k al st h)
  | .astore_n k => zq (len == 1) (zstorea m pc 1 k al st h)
  | .astore k => zq (len == 2) (zstorea m pc 2 k al st h)
  | .iadd => zq (len == 1) (zarith pc al st h fun x y => some (x + y))
  | .isub => zq (len == 1) (zarith pc al st h fun x y => some (x - y))
  | .imul => zq (len == 1) (zarith pc al st h fun x y => some (x * y))
  | .idiv => zq (len == 1) (zarith pc al st h fun x y => if y = 0 then none else some (x / y))
  | .irem => zq (len == 1) (zarith pc al st h fun x y => if y = 0 then none else some (x - x / y * y))
  | .iand => zq (len == 1) (zarith pc al st h fun x y => some (x &&& y))
  | .ior => zq (len == 1) (zarith pc al st h fun x y => some (x ||| y))
  | .ishl => zq (len == 1) (zarith pc al st h fun x y => some (x <<< (y &&& 31)))
  | .ishr => zq (len == 1) (zarith pc al st h fun x y => some (x >>> (y &&& 31)))
  | .i2c => zq (len == 1) (match st with
    | .int x :: r => zn (pc + 1) al (.int (x.toUInt32 % 65536).toInt32 :: r) h
    | _ => none)
  | .i2l => zq (len == 1) (match st with
    | .int x :: r => zn (pc + 1) al (.long x.toInt64 :: r) h
    | _ => none)
  | .ladd => zq (len == 1) (match st with
    | .long y :: .long x :: r => zn (pc + 1) al (.long (x + y) :: r) h
    | _ => none)
  | .lmul => zq (len == 1) (match st with
    | .long y :: .long x :: r => zn (pc + 1) al (.long (x * y) :: r) h
    | _ => none)
  | .lcmp => zq (len == 1) (match st with
    | .long y :: .long x :: r => zn (pc + 1) al (.int (lg_cmp x y) :: r) h
    | _ => none)
  | .ldc2_w k => zq (len == 3) ((zcoL (zcl m) k).bind fun v => zn (pc + 3) al (.long v :: st) h)
  | .lload_n k => zq (len == 1) (match zld al k with
    | some (.long x) => zn (pc + 1) al (.long x :: st) h
    | _ => none)
  | .lload k => zq (len == 2) (match zld al k with
    | some (.long x) => zn (pc + 2) al (.long x :: st) h
    | _ => none)
  | .lstore_n k => zq (len == 1) (match st with
    | .long x :: r => (zst2 m al k (.long x)).bind fun al' => zn (pc + 1) al' r h
    | _ => none)
  | .lstore k => zq (len == 2) (match st with
    | .long x :: r => (zst2 m al k (.long x)).bind fun al' => zn (pc + 2) al' r h
    | _ => none)
  | .dup => zq (len == 1) (match st with
    | v :: r => zq (decide (v.category = 1)) (zn (pc + 1) al (v :: v :: r) h)
    | _ => none)
  | .dup2 => zq (len == 1) (match st with
    | v :: w :: r => zq (decide (v.category = 1) && decide (w.category = 1)) (zn (pc + 1) al (v :: w :: v :: w :: r) h)
    | _ => none)
  | .pop => zq (len == 1) (match st with
    | v :: r => zq (decide (v.category = 1)) (zn (pc + 1) al r h)
    | _ => none)
  | .iinc k n => zq (len == 3) (match zld al k with
    | some (.int x) => (zst1 m al k (.int (x + Int32.ofInt n))).bind fun al' => zn (pc + 3) al' st h
    | _ => none)
  | .goto off => zq (len == 3) (ztg pc off al st h)
  | .if_icmp c off => zq (len == 3) (match st with
    | .int y :: .int x :: r => zq (decide (0 ≤ (pc : Int) + off)) (if zcond c x y = true then zn ((pc : Int) + off).toNat al r h else zn (pc + 3) al r h)
    | _ => none)
  | .ifCond c off => zq (len == 3) (match st with
    | .int x :: r => zq (decide (0 ≤ (pc : Int) + off)) (if zcond c x 0 = true then zn ((pc : Int) + off).toNat al r h else zn (pc + 3) al r h)
    | _ => none)
  | .tableswitch dflt lo hi offs => match st with
    | .int x :: r => if x.toInt < lo ∨ hi < x.toInt then ztg pc dflt al r h else (offs[(x.toInt - lo).toNat]?).bind fun off => ztg pc off al r h
    | _ => none
  | .lookupswitch dflt ps => match st with
    | .int x :: r => zq ((ps.toList.zip (ps.toList.drop 1)).all (fun (a, next) => a.1 < next.1)) (ztg pc (Op.lookupswitch.offset ps.toList dflt x.toInt) al r h)
    | _ => none
  | .getfield k => zq (len == 3) (match st with
    | .ref i :: r => (zfld (zcl m) k).bind fun q => (zgetf h i q.1 q.2).bind fun v => zn (pc + 3) al (v :: r) h
    | _ => none)
  | .putfield k => zq (len == 3) (match st with
    | v :: .ref i :: r => (zfld (zcl m) k).bind fun q => zq (zpf m q.1 q.2 v) ((zputf h i q.1 q.2 v).bind fun h1 => zn (pc + 3) al r h1)
    | _ => none)
  | .iaload => zq (len == 1) (match st with
    | .int j :: .ref i :: r => (zald 0 h i j).bind fun x => zn (pc + 1) al (.int x :: r) h
    | .int j :: .float _ :: r => zq (zin j h.2.2.2.1) (zn (pc + 1) al (.int (h.2.2.2.2 j.toNatClampNeg) :: r) h)
    | _ => none)
  | .caload => zq (len == 1) (match st with
    | .int j :: .ref i :: r => (zald 1 h i j).bind fun x => zn (pc + 1) al (.int x :: r) h
    | _ => none)
  | .aaload => zq (len == 1) (match st with
    | .int j :: .ref i :: r => (zaldq h i j).bind fun x => zn (pc + 1) al (.ref x :: r) h
    | _ => none)
  | .iastore => zq (len == 1) (match st with
    | .int x :: .int j :: .ref i :: r => (zasti h i j x).bind fun h1 => zn (pc + 1) al r h1
    | _ => none)
  | .castore => zq (len == 1) (match st with
    | .int x :: .int j :: .ref i :: r => (zastc h i j x).bind fun h1 => zn (pc + 1) al r h1
    | _ => none)
  | .aastore => zq (len == 1) (match st with
    | .ref x :: .int j :: .ref i :: r => (zastq h i j x).bind fun h1 => zn (pc + 1) al r h1
    | _ => none)
  | .arraylength => zq (len == 1) (match st with
    | .ref i :: r => (zlen h i).bind fun x => zn (pc + 1) al (.int x :: r) h
    | .float _ :: r => zn (pc + 1) al (.int (Int32.ofNat h.2.2.2.1) :: r) h
    | _ => none)
  | .new k => zq (len == 3) ((znew (zcl m) k).bind fun ci => zq ((zblank ci).all zplain) (zn (pc + 3) al (.ref h.1 :: st) (zpush h (zblank ci).length (.inr (.inr (ci, zblank ci))))))
  | .newarray a => zq (len == 2) (match st, a with
    | .int n :: r, .int => zq (!decide (n < 0) && decide (n.toNatClampNeg ≤ 1000)) (zn (pc + 2) al (.ref h.1 :: r) (zpush h n.toNatClampNeg (.inl (0, n.toNatClampNeg, fun _ => 0))))
    | .int n :: r, .char => zq (!decide (n < 0) && decide (n.toNatClampNeg ≤ 1000)) (zn (pc + 2) al (.ref h.1 :: r) (zpush h n.toNatClampNeg (.inl (1, n.toNatClampNeg, fun _ => 0))))
    | _, _ => none)
  | .anewarray k => zq (len == 3) (match st with
    | .int n :: r => zq (!decide (n < 0) && decide (n.toNatClampNeg ≤ 1000) && zanew (zcl m) k) (zn (pc + 3) al (.ref h.1 :: r) (zpush h n.toNatClampNeg (.inr (.inl (n.toNatClampNeg, fun _ => none)))))
    | _ => none)
  | .invokevirtual k => zq (len == 3) (match zcall (zcl m) k with
    | some (0, q, n) => zcallV q n st h
    | _ => none)
  | .invokestatic k => zq (len == 3) (zstatic m k pc al st h)
  | .invokespecial k => zq (len == 3) (zspecial m k pc al st h)
  | .ireturn => zq (len == 1) (match st, zret m with
    | [.int x], some ty => if narrow ty (.int x) = .int x then some (.inr (.inr (some (.int x)))) else none
    | _, _ => none)
  | .areturn => zq (len == 1) (match st, zret m with
    | [.ref a], some (.object _) => some (.inr (.inr (some (.ref a))))
    | _, _ => none)
  | .lreturn => zq (len == 1) (match st, zret m with
    | [.long a], some .long => some (.inr (.inr (some (.long a))))
    | _, _ => none)
  | .return_ => zq (len == 1) (match st, zret m with
    | [], none => some (.inr (.inr none))
    | _, _ => none)
  | _ => none
def zstep (m pc : Nat) (al : List (Option Value)) (st : List Value) (h : zH) : zO := match decode (zb m) pc with
  | .ok (i, len) => zdo m pc i len al st h
  | _ => none
/-- n steps at most, calls d deep at most -/
def zx : Nat → Nat → Nat → Nat → List (Option Value) → List Value → zH → Option (Option Value × zH)
  | 0, _, _, _, _, _, _ => none
  | n + 1, d, m, pc, al, st, h => match zstep m pc al st h with
    | none => none
    | some (.inl (pc', al', st', h')) => zx n d m pc' al' st' h'
    | some (.inr (.inl (k, as, r))) => match d with
      | 0 => none
      | e + 1 => match zx n e k 0 (zentry k as) [] h with
        | none => none
        | some (v, h1) => zx n (e + 1) m (pc + 3) al (v.toList ++ r) h1
    | some (.inr (.inr v)) => some (v, h)
