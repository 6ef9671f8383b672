/-! THE CHECK: each entry of the small machine's code is what the class files say at its place. -/
section ZCHECK
def zEx4 : List Nat := [11, 13, 14, 15]
/-- a word that stays, however warm the tables get -/
def zGood : Jvm.Cond → Bool
  | .arrayClass _ => true
  | .declares _ => true
  | .castable _ _ => true
  | w => w.onTables && w.keepsH
theorem zGood_at {args a' : Array Value} {s U : State} (hW : s.WarmedH U.vm) {w : Jvm.Cond} (hg : zGood w = true) (h : w.before args s = true) : w.before a' U = true := by
  have face : ∀ {w : Jvm.Cond}, w.onTables = true → w.before args (s.setVm U.vm) = true → w.before a' U = true := by
    intro w ht h2
    have h1 := Cond.onTables_vm (A := args) (A' := a') (U := s) (U' := U) U.vm w ht
    have h3 : U.setVm U.vm = U := rfl
    rw [h3] at h1
    rw [← h1]; exact h2
  cases w with
  | arrayClass ty => exact word_at hW (Or.inr ⟨ty, rfl⟩) h
  | declares x => exact face rfl (Cond.faceAtom_setVm hW.alike _ rfl h)
  | castable a b => exact face rfl (Cond.faceAtom_setVm hW.alike _ rfl h)
  | _ =>
    first
      | (simp only [zGood, Bool.and_eq_true] at hg
         have h1 := Cond.onTables_warmH (T := U) (args' := a') hW hg.1 hg.2 h
         exact h1)
      | (exact absurd hg (by simp [zGood, Cond.onTables, Cond.keepsH, Cond.steady]))
def zWs : List Jvm.Cond := lw_tbl.filter zGood
theorem zWs_at {args a' : Array Value} {s U : State} (hW : s.WarmedH U.vm) (h : ∀ w ∈ zWs, w.before args s = true) : ∀ w ∈ zWs, w.before a' U = true :=
  fun w hw => zGood_at hW (List.mem_filter.mp hw).2 (h w hw)
def zHas (p : Nat) (w : Jvm.Cond) : Bool := decide (lw_tbl[p]? = some w) && zGood w
theorem zHas_in {p : Nat} {w : Jvm.Cond} (h : zHas p w = true) : w ∈ zWs := by
  simp only [zHas, Bool.and_eq_true, decide_eq_true_eq] at h
  exact List.mem_filter.mpr ⟨List.mem_of_getElem? h.1, h.2⟩
def zOwn (m : Nat) : String := (zY m).cls
def zPc (m i : Nat) : Nat := match (zCode m).2[i]? with
  | some e => e.1 % 65536
  | none => 0
def zRc : Option FieldType → Nat
  | none => 0
  | some .int => 1
  | some .boolean => 1
  | some .byte => 1
  | some .char => 1
  | some .long => 2
  | some .double => 3
  | _ => 4
/-- what a field's type asks of a store -/
def zFc : FieldType → Nat
  | .int => 0
  | .long => 1
  | .double => 3
  | .boolean => 4
  | .byte => 0
  | _ => 2
def zDk : FieldType → Nat
  | .int => 100
  | .long => 101
  | .double => 105
  | .boolean => 102
  | _ => 110
def zHsOk (m pc : Nat) : List (Nat × Nat × Nat × Nat) → List Nat → Bool
  | [], [] => true
  | (s, e, h, ct) :: xs, hs => if s ≤ pc ∧ pc < e then (match hs with
      | k :: t :: r => decide (zPc m t = h) && decide (ct ≠ 0) && zHas (zHp (zOwn m) ct) (.classLink (zOwn m) ct (zCN k)) && zEx4.elem k && zHsOk m pc xs r
      | _ => false) else zHsOk m pc xs hs
  | _, _ => false
/-- a callee's room -/
def zRoomOk (m c : Nat) : Bool := decide (zDep c + 1 ≤ zDep m) && decide (8 + (zMl c + 11) + zLoc c ≤ zLoc m)
/-- what is known of a method that is called -/
def zCallee (c : Nat) : Bool := (if zHh c = [] then zHas (zP1 c) (.code (zY c) (zBy c) (zMl c) (zRt c)) else zHas (zP1 c) (.codeWith (zY c) (zBy c) (zMl c) (zRt c) (zHh c))) && zHas (zP4 c) (.initialized (zOwn c)) &&
  (if zSt c then zHas (zP2 c) (.static (zY c)) else zHas (zP2 c) (.instanceMethod (zY c))) &&
  decide (zOwn c ≠ "java/lang/invoke/MethodHandle") && decide (zOwn c ≠ "java/lang/invoke/VarHandle") && decide ((parseMethodDescriptor (zY c).desc).map (fun d => d.parameters.length) = some (zNp c)) && plainFor (zY c) && decide ((zCode c).1 = zMl c)
def zNestHost (p : Nat) : String := match lw_tbl[p]? with
  | some (.methodLinkNest _ _ _ h) => h
  | some (.fieldLinkNest _ _ _ _ _ h) => h
  | _ => ""
def zLinkM (p : Nat) (own : String) (idx : Nat) (y : MethodName) : Bool := zHas p (.methodLink own idx y) || zHas p (.methodLinkNest own idx y (zNestHost p))
def zLinkF (p : Nat) (own : String) (idx : Nat) (c f d : String) : Bool := zHas p (.fieldLink own idx c f d) || zHas p (.fieldLinkNest own idx c f d (zNestHost p))
def zNames : List String := ["java/lang/RuntimeException", "java/lang/Exception"]
/-- 'throw new E("..")' at pc -/
def zThrowOk (m pc hint ik : Nat) (q : zI) : Bool := match decode (zBy m) (pc + 4), decode (zBy m) (pc + 6) with
  | .ok (.ldc is, 2), .ok (.invokespecial ic, 3) => decide (decode (zBy m) (pc + 3) = .ok (.dup, 1)) && decide (decode (zBy m) (pc + 9) = .ok (.athrow, 1)) && decide (q = (.jsr_w 0, 0, [q.2.2.1.getD 0 0, 6], [])) && decide (13 ≤ q.2.2.1.getD 0 0) && decide (q.2.2.1.getD 0 0 < 16) &&
      zHas hint (.classLink (zOwn m) ik (zCN (q.2.2.1.getD 0 0))) && zHas (zKp (q.2.2.1.getD 0 0)).2 (.initialized (zCN (q.2.2.1.getD 0 0))) && decide (zOwn m = "PassForge") && decide (ic = zThIc (q.2.2.1.getD 0 0)) &&
      (zTx.any fun x => decide (x.1 = zOwn m) && decide (x.2.1 = is)) && decide (zHh m = []) && decide (6 ≤ zDep m) && decide (8 + 82 ≤ zLoc m)
  | _, _ => false
def zMatch (m i : Nat) (en : zE) (ri : Instr) (len : Nat) : Bool :=
  let q := en.2.1
  let pc := en.1 % 65536
  let hint := en.1 / 65536
  let own := zOwn m
  let nx := decide (zPc m (i + 1) = pc + len)
  let to (t : Nat) (off : Int) : Bool := decide ((pc : Int) + off = (zPc m t : Int))
  match ri with
  | .iload k => decide (q = (.iload k, 0, [0], [])) && nx && decide (len = 2)
  | .lload k => decide (q = (.iload k, 0, [1], [])) && nx && decide (len = 2)
  | .aload k => decide (q = (.iload k, 0, [2], [])) && nx && decide (len = 2)
  | .dload k => decide (q = (.iload k, 0, [3], [])) && nx && decide (len = 2)
  | .iload_n k => decide (q = (.iload k.val, 0, [0], [])) && nx && decide (len = 1)
  | .lload_n k => decide (q = (.iload k.val, 0, [1], [])) && nx && decide (len = 1)
  | .aload_n k => decide (q = (.iload k.val, 0, [2], [])) && nx && decide (len = 1)
  | .dload_n k => decide (q = (.iload k.val, 0, [3], [])) && nx && decide (len = 1)
  | .istore k => decide (q = (.istore k, 0, [0], [])) && nx && decide (len = 2) && decide (k < zMl m)
  | .lstore k => decide (q = (.istore k, 0, [1], [])) && nx && decide (len = 2) && decide (k + 1 < zMl m)
  | .astore k => decide (q = (.istore k, 0, [2], [])) && nx && decide (len = 2) && decide (k < zMl m)
  | .dstore k => decide (q = (.istore k, 0, [3], [])) && nx && decide (len = 2) && decide (k + 1 < zMl m)
  | .istore_n k => decide (q = (.istore k.val, 0, [0], [])) && nx && decide (len = 1) && decide (k.val < zMl m)
  | .lstore_n k => decide (q = (.istore k.val, 0, [1], [])) && nx && decide (len = 1) && decide (k.val + 1 < zMl m)
  | .astore_n k => decide (q = (.istore k.val, 0, [2], [])) && nx && decide (len = 1) && decide (k.val < zMl m)
  | .dstore_n k => decide (q = (.istore k.val, 0, [3], [])) && nx && decide (len = 1) && decide (k.val + 1 < zMl m)
  | .iconst n => decide (q = (.iconst n, 0, [], [])) && nx && decide (len = 1)
  | .bipush n => decide (q = (.iconst n, 0, [], [])) && nx && decide (len = 2) && decide ((Int8.ofInt n).toInt32 = zi n)
  | .sipush n => decide (q = (.iconst n, 0, [], [])) && nx && decide (len = 3) && decide ((Int16.ofInt n).toInt32 = zi n)
  | .lconst n => decide (q = (.lconst 0, (n.val : Int), [], [])) && nx && decide (len = 1)
  | .dconst d => decide (q = (.dconst d, 0, [], [])) && nx && decide (len = 1)
  | .ldc idx => nx && decide (len = 2) && (match q with
    | (.iconst n, 0, [], []) => zHas hint (.constant own idx (zi n))
    | (.ldc k, 0, [], []) => decide (k ≠ 0) && (zTx.any fun x => decide (x.1 = own) && decide (x.2.1 = idx) && decide (x.2.2.2 = k))
    | _ => false)
  | .ldc2_w idx => decide (q = (.lconst 0, q.2.1, [], [])) && nx && decide (len = 3) && zHas hint (.constantLong own idx (zl q.2.1))
  | .iinc k n => decide (q = (.iinc k n, 0, [], [])) && nx && decide (len = 3) && decide (k < zMl m)
  | .pop => decide (q = (.pop, 0, [], [])) && nx && decide (len = 1)
  | .dup => decide (q = (.dup, 0, [], [])) && nx && decide (len = 1)
  | .dup2 => decide (q = (.dup2, 0, [], [])) && nx && decide (len = 1)
  | .iadd => decide (q = (.iadd, 0, [], [])) && nx && decide (len = 1)
  | .isub => decide (q = (.isub, 0, [], [])) && nx && decide (len = 1)
  | .imul => decide (q = (.imul, 0, [], [])) && nx && decide (len = 1)
  | .iand => decide (q = (.iand, 0, [], [])) && nx && decide (len = 1)
  | .ior => decide (q = (.ior, 0, [], [])) && nx && decide (len = 1)
  | .ixor => decide (q = (.ixor, 0, [], [])) && nx && decide (len = 1)
  | .idiv => decide (q = (.idiv, 0, [], [])) && nx && decide (len = 1)
  | .irem => decide (q = (.irem, 0, [], [])) && nx && decide (len = 1)
  | .ishl => decide (q = (.ishl, 0, [], [])) && nx && decide (len = 1)
  | .ishr => decide (q = (.ishr, 0, [], [])) && nx && decide (len = 1)
  | .iushr => decide (q = (.iushr, 0, [], [])) && nx && decide (len = 1)
  | .ladd => decide (q = (.ladd, 0, [], [])) && nx && decide (len = 1)
  | .lsub => decide (q = (.lsub, 0, [], [])) && nx && decide (len = 1)
  | .lmul => decide (q = (.lmul, 0, [], [])) && nx && decide (len = 1)
  | .land => decide (q = (.land, 0, [], [])) && nx && decide (len = 1)
  | .lor => decide (q = (.lor, 0, [], [])) && nx && decide (len = 1)
  | .lxor => decide (q = (.lxor, 0, [], [])) && nx && decide (len = 1)
  | .ldiv => decide (q = (.ldiv, 0, [], [])) && nx && decide (len = 1)
  | .lrem => decide (q = (.lrem, 0, [], [])) && nx && decide (len = 1)
  | .lneg => decide (q = (.lneg, 0, [], [])) && nx && decide (len = 1)
  | .lshl => decide (q = (.lshl, 0, [], [])) && nx && decide (len = 1)
  | .lcmp => decide (q = (.lcmp, 0, [], [])) && nx && decide (len = 1)
  | .i2l => decide (q = (.i2l, 0, [], [])) && nx && decide (len = 1)
  | .l2i => decide (q = (.l2i, 0, [], [])) && nx && decide (len = 1)
  | .i2b => decide (q = (.i2b, 0, [], [])) && nx && decide (len = 1)
  | .i2c => decide (q = (.i2c, 0, [], [])) && nx && decide (len = 1)
  | .i2d => decide (q = (.i2d, 0, [], [])) && nx && decide (len = 1)
  | .ddiv => decide (q = (.ddiv, 0, [], [])) && nx && decide (len = 1)
  | .dcmp o => decide (q = (.dcmp o, 0, [], [])) && nx && decide (len = 1)
  | .goto off => decide (q = (.goto 0, 0, [q.2.2.1.getD 0 0], [])) && to (q.2.2.1.getD 0 0) off && decide (len = 3)
  | .ifCond c off => decide (q = (.ifCond c 0, 0, [q.2.2.1.getD 0 0], [])) && to (q.2.2.1.getD 0 0) off && nx && decide (len = 3)
  | .if_icmp c off => decide (q = (.if_icmp c 0, 0, [q.2.2.1.getD 0 0], [])) && to (q.2.2.1.getD 0 0) off && nx && decide (len = 3)
  | .tableswitch d lo hi offs => decide (q = (.tableswitch 0 0 0 #[], 0, q.2.2.1.getD 0 0 :: q.2.2.1.drop 1, (List.range (hi - lo + 1).toNat).map (fun (k : Nat) => lo + (k : Int)))) && to (q.2.2.1.getD 0 0) d && decide ((q.2.2.1.drop 1).length = offs.size) && decide ((offs.size : Int) = hi - lo + 1) && decide (-2147483648 ≤ lo) && decide (hi < 2147483648) &&
      ((List.range offs.size).all fun k => to ((q.2.2.1.drop 1).getD k 0) (offs.getD k 0))
  | .lookupswitch d ps => decide (q = (.lookupswitch 0 #[], 0, q.2.2.1.getD 0 0 :: q.2.2.1.drop 1, ps.toList.map fun x => x.1)) && to (q.2.2.1.getD 0 0) d && decide ((q.2.2.1.drop 1).length = ps.size) && (ps.toList.zip (ps.toList.drop 1)).all (fun (a, next) => decide (a.1 < next.1)) && (ps.toList.all fun x => decide (-2147483648 ≤ x.1) && decide (x.1 < 2147483648)) &&
      ((List.range ps.size).all fun k => to ((q.2.2.1.drop 1).getD k 0) ((ps.toList.getD k (0, 0)).2))
  | .getfield idx => nx && decide (len = 3) && (match q with
    | (.getfield 0, 0, [ci, j, ty], []) => decide (ci < 13) && decide (j < zFn ci) && zLinkF hint own idx (zFd ci j).1 (zFd ci j).2.1 (zFd ci j).2.2.1 && decide (ty < 4)
    | _ => false)
  | .putfield idx => nx && decide (len = 3) && (match q with
    | (.putfield 0, 0, [ci, j, ty], []) => decide (ci < 12) && decide (j < zFn ci) && zHas hint (.fieldLink own idx (zFd ci j).1 (zFd ci j).2.1 (zFd ci j).2.2.1) && decide (ty = zFc (zFt (zFd ci j).2.2.1)) && decide ((zFd ci j).2.2.2 = false ∨ (own = zCN ci ∧ (zY m).name = "<init>")) && decide ((zFd ci j).1 = zCN ci)
    | _ => false)
  | .getstatic idx => nx && decide (len = 3) && (match q with
    | (.iconst 1, 0, [], []) => zHas hint (.fieldLink own idx "java/lang/String" "COMPACT_STRINGS" "Z")
    | (.getstatic 0, 0, [], []) => zHas hint (.fieldLink own idx "jdk/internal/util/Preconditions" "SIOOBE_FORMATTER" "Ljava/util/function/BiFunction;")
    | _ => false)
  | .iaload => nx && decide (len = 1) && (decide (q = (.iaload, 0, [100], [])) || decide (q = (.iaload, 0, [106], [])))
  | .laload => decide (q = (.laload, 0, [], [])) && nx && decide (len = 1)
  | .daload => decide (q = (.daload, 0, [], [])) && nx && decide (len = 1)
  | .baload => nx && decide (len = 1) && (decide (q = (.baload, 0, [102], [])) || decide (q = (.baload, 0, [103], [])))
  | .aaload => nx && decide (len = 1) && (decide (q = (.aaload, 0, [110], [])) || decide (q = (.aaload, 0, [111], [])))
  | .iastore => decide (q = (.iastore, 0, [], [])) && nx && decide (len = 1)
  | .lastore => decide (q = (.lastore, 0, [], [])) && nx && decide (len = 1)
  | .dastore => decide (q = (.dastore, 0, [], [])) && nx && decide (len = 1)
  | .bastore => decide (q = (.bastore, 0, [], [])) && nx && decide (len = 1)
  | .aastore => decide (q = (.aastore, 0, [110, 1], [])) && nx && decide (len = 1)
  | .arraylength => decide (q = (.arraylength, 0, [], [])) && nx && decide (len = 1)
  | .newarray a => nx && decide (len = 2) && (match a with
    | .int => decide (q = (.newarray a, 0, [100], []))
    | .long => decide (q = (.newarray a, 0, [101], []))
    | .boolean => decide (q = (.newarray a, 0, [102], []))
    | .double => decide (q = (.newarray a, 0, [105], []))
    | _ => false)
  | .anewarray idx => decide (q = (.anewarray 0, 0, [], [])) && nx && decide (len = 3) && zHas hint (.classLink own idx "PassForge$Program")
  | .multianewarray idx k => decide (q = (.multianewarray 0 2, 0, [], [])) && nx && decide (len = 4) && decide (k = 2) && zHas hint (.classLink own idx "[[J")
  | .new idx => (match q.1 with
    | .new 0 => nx && decide (len = 3) && decide (q = (.new 0, 0, q.2.2.1.getD 0 0 :: q.2.2.1.getD 1 0 :: (List.range (zFn (q.2.2.1.getD 0 0))).map (fun j => zDk (zFt (zFd (q.2.2.1.getD 0 0) j).2.2.1)), [])) && decide (q.2.2.1.getD 0 0 < 12) && zHas hint (.classLink own idx (zCN (q.2.2.1.getD 0 0))) && zHas (zKp (q.2.2.1.getD 0 0)).1 (.instantiable (zCN (q.2.2.1.getD 0 0)) (q.2.2.1.getD 1 0)) && zHas (zKp (q.2.2.1.getD 0 0)).2 (.initialized (zCN (q.2.2.1.getD 0 0)))
    | .jsr_w 0 => decide (len = 3) && zThrowOk m pc hint idx q
    | _ => false)
  | .invokestatic idx => nx && decide (len = 3) && (match q with
    | (.invokedynamic 0, 0, [], []) => zHas hint (.methodLink own idx arraycopyName) && decide (1 ≤ zDep m) && decide (8 + (nativeFrameWords "java/lang/System" "arraycopy" 5 + 11) ≤ zLoc m)
    | (.invokestatic 0, 0, c :: n :: 0 :: rt :: hs, []) => zCallee c && zSt c && decide (n = zNp c) && decide (rt = zRc (zRt c)) && zLinkM hint own idx (zY c) && (decide (zHh c = []) || zHas hint (.methodLink own idx (zY c))) && zRoomOk m c && zHsOk m pc (zHh m) hs
    | (.nop, _, _, _) => true
    | _ => false)
  | .invokevirtual idx => nx && decide (len = 3) && (match q with
    | (.invokevirtual 0, 0, c :: n :: (k + 1) :: rt :: hs, []) => zCallee c && !zSt c && decide (n = zNp c + 1) && decide (rt = zRc (zRt c)) && zHas hint (.methodLink own idx (zY c)) && zHas (zP3 c) (.selects (zOwn c) (zY c) (zY c)) && decide (zCN k = zOwn c) && decide (k < 13) && zRoomOk m c && zHsOk m pc (zHh m) hs
    | (.nop, _, _, _) => true
    | _ => false)
  | .invokespecial idx => nx && decide (len = 3) && (match q with
    | (.jsr 0, 0, [], []) => zHas hint (.methodLink own idx objectInit) && decide (1 ≤ zDep m) && decide (8 + 12 ≤ zLoc m)
    | (.goto_w 0, 0, [], []) => decide (own = "PassForgeModel$Wrong") && decide (idx = 1) && decide (zHh m = []) && decide (6 ≤ zDep m) && decide (107 ≤ zLoc m)
    | (.invokespecial 0, 0, [c, n, 0, 0], []) => zCallee c && !zSt c && decide (n = zNp c + 1) && decide (zRt c = none) && decide ((zY c).name = "<init>") && zLinkM hint own idx (zY c) && zRoomOk m c && decide (zHh m = []) && decide (zHh c = [])
    | (.nop, _, _, _) => true
    | _ => false)
  | .ireturn => decide (len = 1) && ((decide (q = (.ireturn, 0, [0], [])) && decide (zRt m = some .int)) || (decide (q = (.ireturn, 0, [1], [])) && decide (zRt m = some .boolean)) || (decide (q = (.ireturn, 0, [2], [])) && decide (zRt m = some .byte)) || (decide (q = (.ireturn, 0, [3], [])) && decide (zRt m = some .char)))
  | .lreturn => decide (len = 1) && decide (q = (.lreturn, 0, [], [])) && decide (zRt m = some .long)
  | .dreturn => decide (len = 1) && decide (q = (.dreturn, 0, [], [])) && decide (zRt m = some .double)
  | .areturn => decide (len = 1) && decide (q = (.areturn, 0, [], [])) && (match zRt m with
    | some (.object _) => true
    | _ => false)
  | .return_ => decide (len = 1) && decide (q = (.return_, 0, [], [])) && decide (zRt m = none)
  | .athrow => decide (len = 1) && decide (q = (.athrow, 0, [q.2.2.1.getD 0 0], [])) && decide (zHh m = []) && (decide (q.2.2.1.getD 0 0 = 11) || decide (q.2.2.1.getD 0 0 = 999))
  | _ => decide (q.1 = .nop)
def zOk1 (m i : Nat) (en : zE) : Bool := match decode (zBy m) (en.1 % 65536) with
  | .ok (ri, len) => zMatch m i en ri len
  | _ => false
def zOkM (m : Nat) : Bool := (List.range (zCode m).2.length).all fun i => match (zCode m).2[i]? with
  | some en => zOk1 m i en
  | none => false
def zThAt (k : Nat) : List Jvm.Cond := vx_atS "PassForge" (zThIc k) (zCN k) zNames
theorem zThAt_p {k : Nat} (ps : List Nat) (h : (zThAt k).map some = ps.map fun p => lw_tbl[p]?) (hg : (zThAt k).all zGood = true) : ∀ w ∈ zThAt k, w ∈ zWs := by
  intro w hw
  have h1 : some w ∈ (zThAt k).map some := List.mem_map.mpr ⟨w, hw, rfl⟩
  rw [h] at h1
  obtain ⟨p, -, hp⟩ := List.mem_map.mp h1
  exact List.mem_filter.mpr ⟨List.mem_of_getElem? hp, List.all_eq_true.mp hg w hw⟩
theorem zThAt_13 : ∀ w ∈ zThAt 13, w ∈ zWs := zThAt_p (zThPs 13) (by decide +kernel) (by decide +kernel)
theorem zThAt_14 : ∀ w ∈ zThAt 14, w ∈ zWs := zThAt_p (zThPs 14) (by decide +kernel) (by decide +kernel)
theorem zThAt_15 : ∀ w ∈ zThAt 15, w ∈ zWs := zThAt_p (zThPs 15) (by decide +kernel) (by decide +kernel)
theorem zThOt_13 : (zThAt 13).all vx_ot = true := by decide +kernel
theorem zThOt_14 : (zThAt 14).all vx_ot = true := by decide +kernel
theorem zThOt_15 : (zThAt 15).all vx_ot = true := by decide +kernel
end ZCHECK
