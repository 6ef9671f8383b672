/-! A SMALL MACHINE: the same instructions over a heap of our own numbering; what it answers is a function (zRun, zCall). Its moves are tied to the JVM's in a later part. -/
section ZMINI
/-- a cell: its kind (a class of ours, or a kind of array) and its contents -/
abbrev zC : Type := Nat × List Value
/-- a heap: how many cells, how many slots, the cells -/
abbrev zH : Type := Nat × Nat × (Nat → zC)
/-- returned, or thrown (kind and place) -/
abbrev zR : Type := (Option Value × zH) ⊕ (Nat × Nat × zH)
/-- an instruction: its form, a number, places, numbers -/
abbrev zI : Type := Instr × Int × List Nat × List Int
def zi (z : Int) : Int32 := Int32.ofInt z
def zl (z : Int) : Int64 := Int64.ofInt z
def zUpd (f : Nat → zC) (k : Nat) (c : zC) : Nat → zC := fun j => if j = k then c else f j
def zPush (h : zH) (w : Nat) (c : zC) : zH := (h.1 + 1, h.2.1 + w, zUpd h.2.2 h.1 c)
def zSet (h : zH) (a : Nat) (c : zC) : zH := (h.1, h.2.1, zUpd h.2.2 a c)
/-- a field or an element as it stands -/
def zAt (h : zH) (a kind j : Nat) : Option Value := if (h.2.2 a).1 = kind then (h.2.2 a).2[j]? else none
def zVI (o : Option Value) : Option Int32 := match o with
  | some (.int x) => some x
  | _ => none
def zVL (o : Option Value) : Option Int64 := match o with
  | some (.long x) => some x
  | _ => none
def zVD (o : Option Value) : Option UInt64 := match o with
  | some (.double x) => some x
  | _ => none
def zVA (o : Option Value) : Option Nat := match o with
  | some (.ref x) => some x
  | _ => none
/-- an index into an array, or none -/
def zIx (h : zH) (a kind : Nat) (i : Int32) : Option Nat := if (h.2.2 a).1 = kind ∧ ¬ (i < 0 ∨ (h.2.2 a).2.length ≤ i.toNatClampNeg) then some i.toNatClampNeg else none
def zPut (h : zH) (a kind j : Nat) (v : Value) : Option zH := if (h.2.2 a).1 = kind ∧ j < (h.2.2 a).2.length then some (zSet h a (kind, (h.2.2 a).2.set j v)) else none
/-- a number that is 0 or 1 -/
def zB (x : Int32) : Option Int32 := if x = 0 then some 0 else if x = 1 then some 1 else none
def zNarrow (k : Nat) (x : Int32) : Option Int32 := match k with
  | 0 => some x
  | 1 => zB x
  | 2 => if x.toInt8.toInt32 = x then some x else none
  | _ => if (x.toUInt32 % 65536).toInt32 = x then some x else none
def zCats (l : List Value) : Nat := (l.map fun v => v.category).sum
def zLoad (ls : List Value) (k : Nat) : Option Value := match ls[k]? with
  | some (.retAddr 0) => none
  | o => o
/-- a store into the locals: what it overwrites is gone -/
def zStore : List Value → Nat → Value → List Value
  | [], _, _ => []
  | _ :: r, 0, v => v :: (if v.category = 2 then (match r with | [] => [] | _ :: r' => .retAddr 0 :: r') else r)
  | q :: r, k + 1, v => (if k = 0 ∧ q.category = 2 then .retAddr 0 else q) :: zStore r k v
def zMask : List Nat → List Value → List Value
  | b :: m, v :: r => (if b = 0 then .retAddr 0 else v) :: zMask m r
  | _, r => r
def zBr {α : Type} (c : Jvm.ClassFile.Cond) (x y : Int32) (t f : α) : α := match c with
  | .eq => if x = y then t else f
  | .ne => if x = y then f else t
  | .lt => if x < y then t else f
  | .ge => if x < y then f else t
  | .gt => if y < x then t else f
  | .le => if y < x then f else t
abbrev zN : Type := List Value → List Value → zH → Option zR
abbrev zJ : Type := Nat → List Value → List Value → zH → Option zR
abbrev zF : Type := Nat → List Value → zH → Option zR
def zI1 (st : List Value) (k : Int32 → List Value → Option zR) : Option zR := match st with
  | .int x :: r => k x r
  | _ => none
def zL1 (st : List Value) (k : Int64 → List Value → Option zR) : Option zR := match st with
  | .long x :: r => k x r
  | _ => none
def zII (st : List Value) (k : Int32 → Int32 → List Value → Option zR) : Option zR := match st with
  | .int y :: .int x :: r => k x y r
  | _ => none
def zLL (st : List Value) (k : Int64 → Int64 → List Value → Option zR) : Option zR := match st with
  | .long y :: .long x :: r => k x y r
  | _ => none
def zLI (st : List Value) (k : Int64 → Int32 → List Value → Option zR) : Option zR := match st with
  | .int y :: .long x :: r => k x y r
  | _ => none
def zDD (st : List Value) (k : UInt64 → UInt64 → List Value → Option zR) : Option zR := match st with
  | .double y :: .double x :: r => k x y r
  | _ => none
def zA1 (st : List Value) (k : Nat → List Value → Option zR) : Option zR := match st with
  | .ref a :: r => k a r
  | _ => none
/-- an element's place: array, index -/
def zAI (st : List Value) (k : Nat → Int32 → List Value → Option zR) : Option zR := match st with
  | .int i :: .ref a :: r => k a i r
  | _ => none
/-- a value over the rest -/
def zV1 (st : List Value) (k : Value → List Value → Option zR) : Option zR := match st with
  | v :: r => k v r
  | _ => none
def zOk (b : Bool) (k : Option zR) : Option zR := match b with
  | true => k
  | false => none
/-- nothing else on the stack -/
def zEmp (l : List Value) (k : Option zR) : Option zR := match l with
  | [] => k
  | _ => none
/-- the first of the n values on top is a reference -/
def zRf (n : Nat) (st : List Value) (k : Option zR) : Option zR := match (st.take n).reverse with
  | .ref _ :: _ => k
  | _ => none
/-- an object whose third field is not set yet -/
def zWr (l : List Value) (k : Option zR) : Option zR := match l with
  | [_, _, .null] => k
  | _ => none
def zTy (ty : Nat) (v : Value) : Bool := match v with
  | .int _ => Nat.beq ty 0
  | .long _ => Nat.beq ty 1
  | .double _ => Nat.beq ty 3
  | .ref _ => Nat.beq ty 2
  | _ => false
/-- a typed value out of a cell -/
def zTyped (ty : Nat) (o : Option Value) (k : Value → Option zR) : Option zR := match ty with
  | 0 => (zVI o).bind fun x => k (.int x)
  | 1 => (zVL o).bind fun x => k (.long x)
  | 2 => (zVA o).bind fun x => k (.ref x)
  | _ => (zVD o).bind fun x => k (.double x)
/-- a typed value into a cell; ty 4: a boolean, 5: as it is -/
def zFit (ty : Nat) (v : Value) (k : Value → Option zR) : Option zR := match ty with
  | 4 => (zVI (some v)).bind fun x => (zB x).bind fun y => k (.int y)
  | n => zOk (zTy n v) (k v)
def zCases (J : Nat → Option zR) (d : Nat) : List Int → List Nat → Int32 → Option zR
  | k :: ks, t :: ts, x => if x = zi k then J t else zCases J d ks ts x
  | _, _, _ => J d
def zHand (J : Nat → Option zR) (d : Option zR) : List Nat → Nat → Option zR
  | k :: t :: l, kind => if kind = k then J t else zHand J d l kind
  | _, _ => d
/-- what comes back from a call: nothing, an int, a long, a double, a reference; or a throw, which goes on -/
def zRV (k : zH → Option zR) : zR → Option zR
  | .inl (none, h) => k h
  | .inl (some _, _) => none
  | .inr e => some (.inr e)
def zRI (k : Int32 → zH → Option zR) : zR → Option zR
  | .inl (v, h) => (zVI v).bind fun x => k x h
  | .inr e => some (.inr e)
def zRL (k : Int64 → zH → Option zR) : zR → Option zR
  | .inl (v, h) => (zVL v).bind fun x => k x h
  | .inr e => some (.inr e)
def zRD (k : UInt64 → zH → Option zR) : zR → Option zR
  | .inl (v, h) => (zVD v).bind fun x => k x h
  | .inr e => some (.inr e)
def zRA (k : Nat → zH → Option zR) : zR → Option zR
  | .inl (v, h) => (zVA v).bind fun x => k x h
  | .inr e => some (.inr e)
/-- the same where throws may be caught -/
def zXm (x : Nat → Nat → zH → Option zR) (k : zR → Option zR) : zR → Option zR
  | .inl q => k (.inl q)
  | .inr (kind, a, h) => x kind a h
def zBack1 (rt : Nat) (ls st : List Value) (N : zN) : zR → Option zR := match rt with
  | 0 => zRV fun h => N ls st h
  | 1 => zRI fun x h => N ls (.int x :: st) h
  | 2 => zRL fun x h => N ls (.long x :: st) h
  | 3 => zRD fun x h => N ls (.double x :: st) h
  | _ => zRA fun x h => N ls (.ref x :: st) h
def zBack (rt : Nat) (hs : List Nat) (ls st : List Value) (N : zN) (J : zJ) : zR → Option zR := match hs with
  | [] => zBack1 rt ls st N
  | _ :: _ => zXm (fun kind a h => zHand (fun t => J t ls [.ref a] h) none hs kind) (zBack1 rt ls st N)
/-- a call of m with the n values on top; ci: the receiver's kind and one more, 0 if there is none -/
def zInv (C : zF) (m n ci rt : Nat) (hs : List Nat) (ls st : List Value) (h : zH) (N : zN) (J : zJ) : Option zR :=
  zOk (Nat.ble n st.length) (zOk (Nat.ble (zCats (st.drop n)) 8)
    (match ci with
      | 0 => (C m (st.take n).reverse h).bind (zBack rt hs ls (st.drop n) N J)
      | k + 1 => match (st.take n).reverse with
        | .ref a :: as => if (h.2.2 a).1 = k then (C m (.ref a :: as) h).bind (zBack rt hs ls (st.drop n) N J) else none
        | _ => none))
/-- the elements of a copy -/
def zCopy (src dst : List Value) (sp dp n : Nat) : List Value := dst.take dp ++ (src.drop sp).take n ++ dst.drop (dp + n)
def zACopy (h : zH) (src : Nat) (sp : Int32) (dst : Nat) (dp n : Int32) : Option zH :=
  if (h.2.2 src).1 = (h.2.2 dst).1 ∧ ((h.2.2 src).1 = 100 ∨ (h.2.2 src).1 = 101) ∧ ((h.2.2 src).2.all fun v => zTy ((h.2.2 src).1 - 100) v) = true ∧ ¬ sp < 0 ∧ ¬ dp < 0 ∧ ¬ n < 0 ∧ sp.toNatClampNeg + n.toNatClampNeg ≤ (h.2.2 src).2.length ∧ dp.toNatClampNeg + n.toNatClampNeg ≤ (h.2.2 dst).2.length
  then some (zSet h dst ((h.2.2 dst).1, zCopy (h.2.2 src).2 (h.2.2 dst).2 sp.toNatClampNeg dp.toNatClampNeg n.toNatClampNeg)) else none
def zDef (kind : Nat) : Value := match kind with
  | 101 => .long 0
  | 105 => .double 0
  | 110 => .null
  | 111 => .null
  | _ => .int 0
/-- n rows of k longs each, and the row of them -/
def zRows (h : zH) (n k : Nat) : zH :=
  (h.1 + 1 + n, h.2.1 + n + n * k, fun j => if j = h.1 then (111, (List.range n).map fun i => .ref (h.1 + 1 + i)) else if h.1 < j ∧ j ≤ h.1 + n then (101, List.replicate k (.long 0)) else h.2.2 j)
def zStep (N : zN) (J : zJ) (C : zF) (q : zI) (ls st : List Value) (h : zH) : Option zR :=
  match q.1 with
  | .iload k => (zLoad ls k).bind fun v => zOk (zTy (q.2.2.1.getD 0 0) v) (N ls (v :: st) h)
  | .istore k => zV1 st fun v r => zOk (zTy (q.2.2.1.getD 0 0) v) (N (zStore ls k v) r h)
  | .iconst n => N ls (.int (zi n) :: st) h
  | .lconst _ => N ls (.long (zl q.2.1) :: st) h
  | .dconst d => N ls (.double (if d = 0 then FP.dconst0 else FP.dconst1) :: st) h
  | .ldc k => N ls (.ref k :: st) h
  | .getstatic k => N ls (.retAddr (k + 1) :: st) h
  | .iinc k c => (zVI (zLoad ls k)).bind fun x => N (zStore ls k (.int (x + zi c))) st h
  | .iadd => zII st fun x y r => N ls (.int (x + y) :: r) h
  | .isub => zII st fun x y r => N ls (.int (x - y) :: r) h
  | .imul => zII st fun x y r => N ls (.int (x * y) :: r) h
  | .iand => zII st fun x y r => N ls (.int (x &&& y) :: r) h
  | .ior => zII st fun x y r => N ls (.int (x ||| y) :: r) h
  | .ixor => zII st fun x y r => N ls (.int (x ^^^ y) :: r) h
  | .idiv => zII st fun x y r => if y = 0 then none else N ls (.int (x / y) :: r) h
  | .irem => zII st fun x y r => if y = 0 then none else N ls (.int (x - x / y * y) :: r) h
  | .ishl => zII st fun x y r => N ls (.int (x <<< (y &&& 31)) :: r) h
  | .ishr => zII st fun x y r => N ls (.int (x >>> (y &&& 31)) :: r) h
  | .iushr => zII st fun x y r => N ls (.int (x.toUInt32 >>> (y.toUInt32 &&& Int32.toUInt32 31)).toInt32 :: r) h
  | .ladd => zLL st fun x y r => N ls (.long (x + y) :: r) h
  | .lsub => zLL st fun x y r => N ls (.long (x - y) :: r) h
  | .lmul => zLL st fun x y r => N ls (.long (x * y) :: r) h
  | .land => zLL st fun x y r => N ls (.long (x &&& y) :: r) h
  | .lor => zLL st fun x y r => N ls (.long (x ||| y) :: r) h
  | .lxor => zLL st fun x y r => N ls (.long (x ^^^ y) :: r) h
  | .ldiv => zLL st fun x y r => if y = 0 then none else N ls (.long (x / y) :: r) h
  | .lrem => zLL st fun x y r => if y = 0 then none else N ls (.long (x - x / y * y) :: r) h
  | .lneg => zL1 st fun x r => N ls (.long (-x) :: r) h
  | .lshl => zLI st fun x y r => N ls (.long (x <<< (y.toInt64 &&& 63)) :: r) h
  | .lcmp => zLL st fun x y r => N ls (.int (lg_cmp x y) :: r) h
  | .i2l => zI1 st fun x r => N ls (.long x.toInt64 :: r) h
  | .l2i => zL1 st fun x r => N ls (.int x.toInt32 :: r) h
  | .i2b => zI1 st fun x r => N ls (.int x.toInt8.toInt32 :: r) h
  | .i2c => zI1 st fun x r => N ls (.int (x.toUInt32 % 65536).toInt32 :: r) h
  | .i2d => zI1 st fun x r => N ls (.double (FP.i2d x) :: r) h
  | .ddiv => zDD st fun x y r => if FP.ddiv x y &&& 0x7fffffffffffffff ≤ 0x7ff0000000000000 then N ls (.double (FP.ddiv x y) :: r) h else none
  | .dcmp o => zDD st fun x y r => N ls (.int (Op.cmpValue (FP.dcmp x y) o) :: r) h
  | .dup => zV1 st fun v r => zOk (Nat.beq v.category 1) (N ls (v :: v :: r) h)
  | .pop => zV1 st fun v r => zOk (Nat.beq v.category 1) (N ls r h)
  | .dup2 => zV1 st fun v r => match v.category with
    | 2 => N ls (v :: v :: r) h
    | _ => zV1 r fun w r2 => zOk (Nat.beq v.category 1 && Nat.beq w.category 1) (N ls (v :: w :: v :: w :: r2) h)
  | .goto _ => J (q.2.2.1.getD 0 0) ls st h
  | .ifCond c _ => zI1 st fun x r => zBr c x 0 (J (q.2.2.1.getD 0 0) ls r h) (N ls r h)
  | .if_icmp c _ => zII st fun x y r => zBr c x y (J (q.2.2.1.getD 0 0) ls r h) (N ls r h)
  | .tableswitch _ _ _ _ => zI1 st fun x r => zCases (fun t => J t ls r h) (q.2.2.1.getD 0 0) q.2.2.2 (q.2.2.1.drop 1) x
  | .lookupswitch _ _ => zI1 st fun x r => zCases (fun t => J t ls r h) (q.2.2.1.getD 0 0) q.2.2.2 (q.2.2.1.drop 1) x
  | .getfield _ => zA1 st fun a r => zTyped (q.2.2.1.getD 2 0) (zAt h a (q.2.2.1.getD 0 0) (q.2.2.1.getD 1 0)) fun v => N ls (v :: r) h
  | .putfield _ => zV1 st fun v r => zA1 r fun a r => zFit (q.2.2.1.getD 2 0) v fun v => (zPut h a (q.2.2.1.getD 0 0) (q.2.2.1.getD 1 0) v).bind fun h => N ls r h
  | .iaload => zAI st fun a i r => (zIx h a (q.2.2.1.getD 0 0) i).bind fun j => zTyped 0 (zAt h a (q.2.2.1.getD 0 0) j) fun v => N ls (v :: r) h
  | .laload => zAI st fun a i r => (zIx h a 101 i).bind fun j => zTyped 1 (zAt h a 101 j) fun v => N ls (v :: r) h
  | .baload => zAI st fun a i r => (zIx h a (q.2.2.1.getD 0 0) i).bind fun j => zTyped 0 (zAt h a (q.2.2.1.getD 0 0) j) fun v => N ls (v :: r) h
  | .daload => zAI st fun a i r => (zIx h a 105 i).bind fun j => zTyped 3 (zAt h a 105 j) fun v => N ls (v :: r) h
  | .aaload => zAI st fun a i r => (zIx h a (q.2.2.1.getD 0 0) i).bind fun j => zTyped 2 (zAt h a (q.2.2.1.getD 0 0) j) fun v => N ls (v :: r) h
  | .iastore => zI1 st fun x r => zAI r fun a i r => (zIx h a 100 i).bind fun j => (zPut h a 100 j (.int x)).bind fun h => N ls r h
  | .lastore => zL1 st fun x r => zAI r fun a i r => (zIx h a 101 i).bind fun j => (zPut h a 101 j (.long x)).bind fun h => N ls r h
  | .bastore => zI1 st fun x r => zAI r fun a i r => (zB x).bind fun x => (zIx h a 102 i).bind fun j => (zPut h a 102 j (.int x)).bind fun h => N ls r h
  | .dastore => zV1 st fun v r => zFit 3 v fun v => zAI r fun a i r => (zIx h a 105 i).bind fun j => (zPut h a 105 j v).bind fun h => N ls r h
  | .aastore => zA1 st fun x r => zAI r fun a i r => if (h.2.2 x).1 = q.2.2.1.getD 1 0 then (zIx h a 110 i).bind fun j => (zPut h a 110 j (.ref x)).bind fun h => N ls r h else none
  | .arraylength => zA1 st fun a r => if 100 ≤ (h.2.2 a).1 then N ls (.int (h.2.2 a).2.length.toInt32 :: r) h else none
  | .newarray _ => zI1 st fun n r => if n < 0 ∨ 65536 < n.toNatClampNeg then none else N ls (.ref h.1 :: r) (zPush h n.toNatClampNeg (q.2.2.1.getD 0 0, List.replicate n.toNatClampNeg (zDef (q.2.2.1.getD 0 0))))
  | .anewarray _ => zI1 st fun n r => if n < 0 ∨ 65536 < n.toNatClampNeg then none else N ls (.ref h.1 :: r) (zPush h n.toNatClampNeg (110, List.replicate n.toNatClampNeg .null))
  | .multianewarray _ _ => zII st fun n k r => if n < 0 ∨ k < 0 ∨ 65536 < n.toNatClampNeg ∨ 65536 < k.toNatClampNeg then none else N ls (.ref h.1 :: r) (zRows h n.toNatClampNeg k.toNatClampNeg)
  | .new _ => N ls (.ref h.1 :: st) (zPush h (q.2.2.1.getD 1 0) (q.2.2.1.getD 0 0, (q.2.2.1.drop 2).map zDef))
  | .invokestatic _ => zInv C (q.2.2.1.getD 0 0) (q.2.2.1.getD 1 0) 0 (q.2.2.1.getD 3 0) (q.2.2.1.drop 4) ls st h N J
  | .invokevirtual _ => zInv C (q.2.2.1.getD 0 0) (q.2.2.1.getD 1 0) (q.2.2.1.getD 2 0) (q.2.2.1.getD 3 0) (q.2.2.1.drop 4) ls st h N J
  | .invokespecial _ => zRf (q.2.2.1.getD 1 0) st (zInv C (q.2.2.1.getD 0 0) (q.2.2.1.getD 1 0) (q.2.2.1.getD 2 0) (q.2.2.1.getD 3 0) (q.2.2.1.drop 4) ls st h N J)
  | .invokedynamic _ => match st with
    | .int n :: .int dp :: .ref dst :: .int sp :: .ref src :: r => (zACopy h src sp dst dp n).bind fun h => zOk (Nat.ble (zCats r) 8) (N ls r h)
    | _ => none
  | .jsr _ => zA1 st fun _ r => zOk (Nat.ble (zCats r) 8) (N ls r h)
  | .ireturn => zI1 st fun x r => zEmp r ((zNarrow (q.2.2.1.getD 0 0) x).bind fun x => some (.inl (some (.int x), h)))
  | .lreturn => zL1 st fun x r => zEmp r (some (.inl (some (.long x), h)))
  | .dreturn => zV1 st fun v r => zEmp r (zFit 3 v fun v => some (.inl (some v, h)))
  | .areturn => zA1 st fun a r => zEmp r (some (.inl (some (.ref a), h)))
  | .return_ => zEmp st (some (.inl (none, h)))
  | .athrow => zA1 st fun a _ => if (h.2.2 a).1 = q.2.2.1.getD 0 0 then some (.inr ((h.2.2 a).1, a, h)) else none
  | .goto_w _ => zA1 st fun a r => if (h.2.2 a).1 = 11 then zWr (h.2.2 a).2 (zOk (Nat.ble (zCats r) 8) (N ls r (zSet h a (11, [.retAddr 0, .retAddr 0, .retAddr 0])))) else none
  | .jsr_w _ => zOk (Nat.ble (zCats st) 8) (some (.inr (q.2.2.1.getD 0 0, h.1, zPush h (q.2.2.1.getD 1 0) (q.2.2.1.getD 0 0, []))))
  | _ => none
end ZMINI
