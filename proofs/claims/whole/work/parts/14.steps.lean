/-! One row an instruction: the JVM goes as the small machine goes. -/
section ZSTEP
variable {p : Program} {l : Launch} {e : Env} {R : Room} {s : State} {m : MethodId} {args : Array Value} {below : List Frame} {meth : Method} {c : Code} {Q : State → Prop} {D : zD} {ad : Nat → Nat} {o : Nat → Value} {base : Nat} {mi : Nat} {h0 : zH} {i : Nat} {L st : List Value} {h : zH}
theorem zS_iadd {x y : Int32} (C : zCx p l s m args meth c R D ad o base mi) (hd : decode (zBy mi) (zPc mi i) = .ok (.iadd, 1)) (nx : zPc mi (i + 1) = zPc mi i + 1) (k : zG p l e R s m args below meth c Q D ad o base mi h0 (i + 1) L (.int (x + y) :: st) h) : zG p l e R s m args below meth c Q D ad o base mi h0 i L (.int y :: .int x :: st) h := by
  intro hl H locs cells slots ls hR hL hS hc hs
  show W p l e R s m args below meth c H locs cells slots Q (F0 m (zPc mi i) ls (.int y :: .int x :: st.map (zTr ad o)))
  refine lv_iadd C.1 C.2.1 hd ?_
  have := k hl H locs cells slots ls hR hL hS hc hs
  rw [nx] at this
  exact this
theorem zS_isub {x y : Int32} (C : zCx p l s m args meth c R D ad o base mi) (hd : decode (zBy mi) (zPc mi i) = .ok (.isub, 1)) (nx : zPc mi (i + 1) = zPc mi i + 1) (k : zG p l e R s m args below meth c Q D ad o base mi h0 (i + 1) L (.int (x - y) :: st) h) : zG p l e R s m args below meth c Q D ad o base mi h0 i L (.int y :: .int x :: st) h := by
  intro hl H locs cells slots ls hR hL hS hc hs
  show W p l e R s m args below meth c H locs cells slots Q (F0 m (zPc mi i) ls (.int y :: .int x :: st.map (zTr ad o)))
  refine lv_isub C.1 C.2.1 hd ?_
  have := k hl H locs cells slots ls hR hL hS hc hs
  rw [nx] at this
  exact this
theorem zS_imul {x y : Int32} (C : zCx p l s m args meth c R D ad o base mi) (hd : decode (zBy mi) (zPc mi i) = .ok (.imul, 1)) (nx : zPc mi (i + 1) = zPc mi i + 1) (k : zG p l e R s m args below meth c Q D ad o base mi h0 (i + 1) L (.int (x * y) :: st) h) : zG p l e R s m args below meth c Q D ad o base mi h0 i L (.int y :: .int x :: st) h := by
  intro hl H locs cells slots ls hR hL hS hc hs
  show W p l e R s m args below meth c H locs cells slots Q (F0 m (zPc mi i) ls (.int y :: .int x :: st.map (zTr ad o)))
  refine lv_imul C.1 C.2.1 hd ?_
  have := k hl H locs cells slots ls hR hL hS hc hs
  rw [nx] at this
  exact this
theorem zS_iand {x y : Int32} (C : zCx p l s m args meth c R D ad o base mi) (hd : decode (zBy mi) (zPc mi i) = .ok (.iand, 1)) (nx : zPc mi (i + 1) = zPc mi i + 1) (k : zG p l e R s m args below meth c Q D ad o base mi h0 (i + 1) L (.int (x &&& y) :: st) h) : zG p l e R s m args below meth c Q D ad o base mi h0 i L (.int y :: .int x :: st) h := by
  intro hl H locs cells slots ls hR hL hS hc hs
  show W p l e R s m args below meth c H locs cells slots Q (F0 m (zPc mi i) ls (.int y :: .int x :: st.map (zTr ad o)))
  refine lv_iand C.1 C.2.1 hd ?_
  have := k hl H locs cells slots ls hR hL hS hc hs
  rw [nx] at this
  exact this
theorem zS_ior {x y : Int32} (C : zCx p l s m args meth c R D ad o base mi) (hd : decode (zBy mi) (zPc mi i) = .ok (.ior, 1)) (nx : zPc mi (i + 1) = zPc mi i + 1) (k : zG p l e R s m args below meth c Q D ad o base mi h0 (i + 1) L (.int (x ||| y) :: st) h) : zG p l e R s m args below meth c Q D ad o base mi h0 i L (.int y :: .int x :: st) h := by
  intro hl H locs cells slots ls hR hL hS hc hs
  show W p l e R s m args below meth c H locs cells slots Q (F0 m (zPc mi i) ls (.int y :: .int x :: st.map (zTr ad o)))
  refine lv_ior C.1 C.2.1 hd ?_
  have := k hl H locs cells slots ls hR hL hS hc hs
  rw [nx] at this
  exact this
theorem zS_ixor {x y : Int32} (C : zCx p l s m args meth c R D ad o base mi) (hd : decode (zBy mi) (zPc mi i) = .ok (.ixor, 1)) (nx : zPc mi (i + 1) = zPc mi i + 1) (k : zG p l e R s m args below meth c Q D ad o base mi h0 (i + 1) L (.int (x ^^^ y) :: st) h) : zG p l e R s m args below meth c Q D ad o base mi h0 i L (.int y :: .int x :: st) h := by
  intro hl H locs cells slots ls hR hL hS hc hs
  show W p l e R s m args below meth c H locs cells slots Q (F0 m (zPc mi i) ls (.int y :: .int x :: st.map (zTr ad o)))
  refine lv_ixor C.1 C.2.1 hd ?_
  have := k hl H locs cells slots ls hR hL hS hc hs
  rw [nx] at this
  exact this
theorem zS_idiv {x y : Int32} (C : zCx p l s m args meth c R D ad o base mi) (hd : decode (zBy mi) (zPc mi i) = .ok (.idiv, 1)) (nx : zPc mi (i + 1) = zPc mi i + 1) (hy : ¬ y = 0) (k : zG p l e R s m args below meth c Q D ad o base mi h0 (i + 1) L (.int (x / y) :: st) h) : zG p l e R s m args below meth c Q D ad o base mi h0 i L (.int y :: .int x :: st) h := by
  intro hl H locs cells slots ls hR hL hS hc hs
  show W p l e R s m args below meth c H locs cells slots Q (F0 m (zPc mi i) ls (.int y :: .int x :: st.map (zTr ad o)))
  refine lv_idiv C.1 C.2.1 hd hy ?_
  have := k hl H locs cells slots ls hR hL hS hc hs
  rw [nx] at this
  exact this
theorem zS_irem {x y : Int32} (C : zCx p l s m args meth c R D ad o base mi) (hd : decode (zBy mi) (zPc mi i) = .ok (.irem, 1)) (nx : zPc mi (i + 1) = zPc mi i + 1) (hy : ¬ y = 0) (k : zG p l e R s m args below meth c Q D ad o base mi h0 (i + 1) L (.int (x - x / y * y) :: st) h) : zG p l e R s m args below meth c Q D ad o base mi h0 i L (.int y :: .int x :: st) h := by
  intro hl H locs cells slots ls hR hL hS hc hs
  show W p l e R s m args below meth c H locs cells slots Q (F0 m (zPc mi i) ls (.int y :: .int x :: st.map (zTr ad o)))
  refine lv_irem C.1 C.2.1 hd hy ?_
  have := k hl H locs cells slots ls hR hL hS hc hs
  rw [nx] at this
  exact this
theorem zS_ishl {x y : Int32} (C : zCx p l s m args meth c R D ad o base mi) (hd : decode (zBy mi) (zPc mi i) = .ok (.ishl, 1)) (nx : zPc mi (i + 1) = zPc mi i + 1) (k : zG p l e R s m args below meth c Q D ad o base mi h0 (i + 1) L (.int (x <<< (y &&& 31)) :: st) h) : zG p l e R s m args below meth c Q D ad o base mi h0 i L (.int y :: .int x :: st) h := by
  intro hl H locs cells slots ls hR hL hS hc hs
  show W p l e R s m args below meth c H locs cells slots Q (F0 m (zPc mi i) ls (.int y :: .int x :: st.map (zTr ad o)))
  refine lv_ishl C.1 C.2.1 hd ?_
  have := k hl H locs cells slots ls hR hL hS hc hs
  rw [nx] at this
  exact this
theorem zS_ishr {x y : Int32} (C : zCx p l s m args meth c R D ad o base mi) (hd : decode (zBy mi) (zPc mi i) = .ok (.ishr, 1)) (nx : zPc mi (i + 1) = zPc mi i + 1) (k : zG p l e R s m args below meth c Q D ad o base mi h0 (i + 1) L (.int (x >>> (y &&& 31)) :: st) h) : zG p l e R s m args below meth c Q D ad o base mi h0 i L (.int y :: .int x :: st) h := by
  intro hl H locs cells slots ls hR hL hS hc hs
  show W p l e R s m args below meth c H locs cells slots Q (F0 m (zPc mi i) ls (.int y :: .int x :: st.map (zTr ad o)))
  refine lv_ishr C.1 C.2.1 hd ?_
  have := k hl H locs cells slots ls hR hL hS hc hs
  rw [nx] at this
  exact this
theorem zS_iushr {x y : Int32} (C : zCx p l s m args meth c R D ad o base mi) (hd : decode (zBy mi) (zPc mi i) = .ok (.iushr, 1)) (nx : zPc mi (i + 1) = zPc mi i + 1) (k : zG p l e R s m args below meth c Q D ad o base mi h0 (i + 1) L (.int (x.toUInt32 >>> (y.toUInt32 &&& Int32.toUInt32 31)).toInt32 :: st) h) : zG p l e R s m args below meth c Q D ad o base mi h0 i L (.int y :: .int x :: st) h := by
  intro hl H locs cells slots ls hR hL hS hc hs
  show W p l e R s m args below meth c H locs cells slots Q (F0 m (zPc mi i) ls (.int y :: .int x :: st.map (zTr ad o)))
  refine lv_iushr C.1 C.2.1 hd rfl ?_
  have := k hl H locs cells slots ls hR hL hS hc hs
  rw [nx] at this
  exact this
theorem zS_ladd {x y : Int64} (C : zCx p l s m args meth c R D ad o base mi) (hd : decode (zBy mi) (zPc mi i) = .ok (.ladd, 1)) (nx : zPc mi (i + 1) = zPc mi i + 1) (k : zG p l e R s m args below meth c Q D ad o base mi h0 (i + 1) L (.long (x + y) :: st) h) : zG p l e R s m args below meth c Q D ad o base mi h0 i L (.long y :: .long x :: st) h := by
  intro hl H locs cells slots ls hR hL hS hc hs
  show W p l e R s m args below meth c H locs cells slots Q (F0 m (zPc mi i) ls (.long y :: .long x :: st.map (zTr ad o)))
  refine lv_ladd C.1 C.2.1 hd ?_
  have := k hl H locs cells slots ls hR hL hS hc hs
  rw [nx] at this
  exact this
theorem zS_lsub {x y : Int64} (C : zCx p l s m args meth c R D ad o base mi) (hd : decode (zBy mi) (zPc mi i) = .ok (.lsub, 1)) (nx : zPc mi (i + 1) = zPc mi i + 1) (k : zG p l e R s m args below meth c Q D ad o base mi h0 (i + 1) L (.long (x - y) :: st) h) : zG p l e R s m args below meth c Q D ad o base mi h0 i L (.long y :: .long x :: st) h := by
  intro hl H locs cells slots ls hR hL hS hc hs
  show W p l e R s m args below meth c H locs cells slots Q (F0 m (zPc mi i) ls (.long y :: .long x :: st.map (zTr ad o)))
  refine lv_lsub C.1 C.2.1 hd ?_
  have := k hl H locs cells slots ls hR hL hS hc hs
  rw [nx] at this
  exact this
theorem zS_lmul {x y : Int64} (C : zCx p l s m args meth c R D ad o base mi) (hd : decode (zBy mi) (zPc mi i) = .ok (.lmul, 1)) (nx : zPc mi (i + 1) = zPc mi i + 1) (k : zG p l e R s m args below meth c Q D ad o base mi h0 (i + 1) L (.long (x * y) :: st) h) : zG p l e R s m args below meth c Q D ad o base mi h0 i L (.long y :: .long x :: st) h := by
  intro hl H locs cells slots ls hR hL hS hc hs
  show W p l e R s m args below meth c H locs cells slots Q (F0 m (zPc mi i) ls (.long y :: .long x :: st.map (zTr ad o)))
  refine lv_lmul C.1 C.2.1 hd ?_
  have := k hl H locs cells slots ls hR hL hS hc hs
  rw [nx] at this
  exact this
theorem zS_land {x y : Int64} (C : zCx p l s m args meth c R D ad o base mi) (hd : decode (zBy mi) (zPc mi i) = .ok (.land, 1)) (nx : zPc mi (i + 1) = zPc mi i + 1) (k : zG p l e R s m args below meth c Q D ad o base mi h0 (i + 1) L (.long (x &&& y) :: st) h) : zG p l e R s m args below meth c Q D ad o base mi h0 i L (.long y :: .long x :: st) h := by
  intro hl H locs cells slots ls hR hL hS hc hs
  show W p l e R s m args below meth c H locs cells slots Q (F0 m (zPc mi i) ls (.long y :: .long x :: st.map (zTr ad o)))
  refine lv_land C.1 C.2.1 hd ?_
  have := k hl H locs cells slots ls hR hL hS hc hs
  rw [nx] at this
  exact this
theorem zS_lor {x y : Int64} (C : zCx p l s m args meth c R D ad o base mi) (hd : decode (zBy mi) (zPc mi i) = .ok (.lor, 1)) (nx : zPc mi (i + 1) = zPc mi i + 1) (k : zG p l e R s m args below meth c Q D ad o base mi h0 (i + 1) L (.long (x ||| y) :: st) h) : zG p l e R s m args below meth c Q D ad o base mi h0 i L (.long y :: .long x :: st) h := by
  intro hl H locs cells slots ls hR hL hS hc hs
  show W p l e R s m args below meth c H locs cells slots Q (F0 m (zPc mi i) ls (.long y :: .long x :: st.map (zTr ad o)))
  refine lv_lor C.1 C.2.1 hd ?_
  have := k hl H locs cells slots ls hR hL hS hc hs
  rw [nx] at this
  exact this
theorem zS_lxor {x y : Int64} (C : zCx p l s m args meth c R D ad o base mi) (hd : decode (zBy mi) (zPc mi i) = .ok (.lxor, 1)) (nx : zPc mi (i + 1) = zPc mi i + 1) (k : zG p l e R s m args below meth c Q D ad o base mi h0 (i + 1) L (.long (x ^^^ y) :: st) h) : zG p l e R s m args below meth c Q D ad o base mi h0 i L (.long y :: .long x :: st) h := by
  intro hl H locs cells slots ls hR hL hS hc hs
  show W p l e R s m args below meth c H locs cells slots Q (F0 m (zPc mi i) ls (.long y :: .long x :: st.map (zTr ad o)))
  refine lv_lxor C.1 C.2.1 hd ?_
  have := k hl H locs cells slots ls hR hL hS hc hs
  rw [nx] at this
  exact this
theorem zS_ldiv {x y : Int64} (C : zCx p l s m args meth c R D ad o base mi) (hd : decode (zBy mi) (zPc mi i) = .ok (.ldiv, 1)) (nx : zPc mi (i + 1) = zPc mi i + 1) (hy : ¬ y = 0) (k : zG p l e R s m args below meth c Q D ad o base mi h0 (i + 1) L (.long (x / y) :: st) h) : zG p l e R s m args below meth c Q D ad o base mi h0 i L (.long y :: .long x :: st) h := by
  intro hl H locs cells slots ls hR hL hS hc hs
  show W p l e R s m args below meth c H locs cells slots Q (F0 m (zPc mi i) ls (.long y :: .long x :: st.map (zTr ad o)))
  refine lv_ldiv C.1 C.2.1 hd hy ?_
  have := k hl H locs cells slots ls hR hL hS hc hs
  rw [nx] at this
  exact this
theorem zS_lrem {x y : Int64} (C : zCx p l s m args meth c R D ad o base mi) (hd : decode (zBy mi) (zPc mi i) = .ok (.lrem, 1)) (nx : zPc mi (i + 1) = zPc mi i + 1) (hy : ¬ y = 0) (k : zG p l e R s m args below meth c Q D ad o base mi h0 (i + 1) L (.long (x - x / y * y) :: st) h) : zG p l e R s m args below meth c Q D ad o base mi h0 i L (.long y :: .long x :: st) h := by
  intro hl H locs cells slots ls hR hL hS hc hs
  show W p l e R s m args below meth c H locs cells slots Q (F0 m (zPc mi i) ls (.long y :: .long x :: st.map (zTr ad o)))
  refine lv_lrem C.1 C.2.1 hd hy ?_
  have := k hl H locs cells slots ls hR hL hS hc hs
  rw [nx] at this
  exact this
theorem zS_lneg {x : Int64} (C : zCx p l s m args meth c R D ad o base mi) (hd : decode (zBy mi) (zPc mi i) = .ok (.lneg, 1)) (nx : zPc mi (i + 1) = zPc mi i + 1) (k : zG p l e R s m args below meth c Q D ad o base mi h0 (i + 1) L (.long (-x) :: st) h) : zG p l e R s m args below meth c Q D ad o base mi h0 i L (.long x :: st) h := by
  intro hl H locs cells slots ls hR hL hS hc hs
  show W p l e R s m args below meth c H locs cells slots Q (F0 m (zPc mi i) ls (.long x :: st.map (zTr ad o)))
  refine lv_lneg C.1 C.2.1 hd ?_
  have := k hl H locs cells slots ls hR hL hS hc hs
  rw [nx] at this
  exact this
theorem zS_lshl {x : Int64} {y : Int32} (C : zCx p l s m args meth c R D ad o base mi) (hd : decode (zBy mi) (zPc mi i) = .ok (.lshl, 1)) (nx : zPc mi (i + 1) = zPc mi i + 1) (k : zG p l e R s m args below meth c Q D ad o base mi h0 (i + 1) L (.long (x <<< (y.toInt64 &&& 63)) :: st) h) : zG p l e R s m args below meth c Q D ad o base mi h0 i L (.int y :: .long x :: st) h := by
  intro hl H locs cells slots ls hR hL hS hc hs
  show W p l e R s m args below meth c H locs cells slots Q (F0 m (zPc mi i) ls (.int y :: .long x :: st.map (zTr ad o)))
  refine lv_lshl C.1 C.2.1 hd rfl ?_
  have := k hl H locs cells slots ls hR hL hS hc hs
  rw [nx] at this
  exact this
theorem zS_lcmp {x y : Int64} (C : zCx p l s m args meth c R D ad o base mi) (hd : decode (zBy mi) (zPc mi i) = .ok (.lcmp, 1)) (nx : zPc mi (i + 1) = zPc mi i + 1) (k : zG p l e R s m args below meth c Q D ad o base mi h0 (i + 1) L (.int (lg_cmp x y) :: st) h) : zG p l e R s m args below meth c Q D ad o base mi h0 i L (.long y :: .long x :: st) h := by
  intro hl H locs cells slots ls hR hL hS hc hs
  show W p l e R s m args below meth c H locs cells slots Q (F0 m (zPc mi i) ls (.long y :: .long x :: st.map (zTr ad o)))
  refine W.lcmp C.1 C.2.1 hd ?_
  have := k hl H locs cells slots ls hR hL hS hc hs
  rw [nx] at this
  exact this
theorem zS_i2l {x : Int32} (C : zCx p l s m args meth c R D ad o base mi) (hd : decode (zBy mi) (zPc mi i) = .ok (.i2l, 1)) (nx : zPc mi (i + 1) = zPc mi i + 1) (k : zG p l e R s m args below meth c Q D ad o base mi h0 (i + 1) L (.long x.toInt64 :: st) h) : zG p l e R s m args below meth c Q D ad o base mi h0 i L (.int x :: st) h := by
  intro hl H locs cells slots ls hR hL hS hc hs
  show W p l e R s m args below meth c H locs cells slots Q (F0 m (zPc mi i) ls (.int x :: st.map (zTr ad o)))
  refine lv_i2l C.1 C.2.1 hd rfl ?_
  have := k hl H locs cells slots ls hR hL hS hc hs
  rw [nx] at this
  exact this
theorem zS_l2i {x : Int64} (C : zCx p l s m args meth c R D ad o base mi) (hd : decode (zBy mi) (zPc mi i) = .ok (.l2i, 1)) (nx : zPc mi (i + 1) = zPc mi i + 1) (k : zG p l e R s m args below meth c Q D ad o base mi h0 (i + 1) L (.int x.toInt32 :: st) h) : zG p l e R s m args below meth c Q D ad o base mi h0 i L (.long x :: st) h := by
  intro hl H locs cells slots ls hR hL hS hc hs
  show W p l e R s m args below meth c H locs cells slots Q (F0 m (zPc mi i) ls (.long x :: st.map (zTr ad o)))
  refine lv_l2i C.1 C.2.1 hd rfl ?_
  have := k hl H locs cells slots ls hR hL hS hc hs
  rw [nx] at this
  exact this
theorem zS_i2b {x : Int32} (C : zCx p l s m args meth c R D ad o base mi) (hd : decode (zBy mi) (zPc mi i) = .ok (.i2b, 1)) (nx : zPc mi (i + 1) = zPc mi i + 1) (k : zG p l e R s m args below meth c Q D ad o base mi h0 (i + 1) L (.int x.toInt8.toInt32 :: st) h) : zG p l e R s m args below meth c Q D ad o base mi h0 i L (.int x :: st) h := by
  intro hl H locs cells slots ls hR hL hS hc hs
  show W p l e R s m args below meth c H locs cells slots Q (F0 m (zPc mi i) ls (.int x :: st.map (zTr ad o)))
  refine lv_i2b C.1 C.2.1 hd rfl ?_
  have := k hl H locs cells slots ls hR hL hS hc hs
  rw [nx] at this
  exact this
theorem zS_i2c {x : Int32} (C : zCx p l s m args meth c R D ad o base mi) (hd : decode (zBy mi) (zPc mi i) = .ok (.i2c, 1)) (nx : zPc mi (i + 1) = zPc mi i + 1) (k : zG p l e R s m args below meth c Q D ad o base mi h0 (i + 1) L (.int (x.toUInt32 % 65536).toInt32 :: st) h) : zG p l e R s m args below meth c Q D ad o base mi h0 i L (.int x :: st) h := by
  intro hl H locs cells slots ls hR hL hS hc hs
  show W p l e R s m args below meth c H locs cells slots Q (F0 m (zPc mi i) ls (.int x :: st.map (zTr ad o)))
  refine lv_i2c C.1 C.2.1 hd rfl ?_
  have := k hl H locs cells slots ls hR hL hS hc hs
  rw [nx] at this
  exact this
theorem zS_i2d {x : Int32} (C : zCx p l s m args meth c R D ad o base mi) (hd : decode (zBy mi) (zPc mi i) = .ok (.i2d, 1)) (nx : zPc mi (i + 1) = zPc mi i + 1) (k : zG p l e R s m args below meth c Q D ad o base mi h0 (i + 1) L (.double (FP.i2d x) :: st) h) : zG p l e R s m args below meth c Q D ad o base mi h0 i L (.int x :: st) h := by
  intro hl H locs cells slots ls hR hL hS hc hs
  show W p l e R s m args below meth c H locs cells slots Q (F0 m (zPc mi i) ls (.int x :: st.map (zTr ad o)))
  refine lv_i2d C.1 C.2.1 hd ?_
  have := k hl H locs cells slots ls hR hL hS hc hs
  rw [nx] at this
  exact this
theorem zS_ddiv {x y : UInt64} (C : zCx p l s m args meth c R D ad o base mi) (hd : decode (zBy mi) (zPc mi i) = .ok (.ddiv, 1)) (nx : zPc mi (i + 1) = zPc mi i + 1) (hn : vf_n64 (FP.ddiv x y)) (k : zG p l e R s m args below meth c Q D ad o base mi h0 (i + 1) L (.double (FP.ddiv x y) :: st) h) : zG p l e R s m args below meth c Q D ad o base mi h0 i L (.double y :: .double x :: st) h := by
  intro hl H locs cells slots ls hR hL hS hc hs
  show W p l e R s m args below meth c H locs cells slots Q (F0 m (zPc mi i) ls (.double y :: .double x :: st.map (zTr ad o)))
  refine lv_ddiv C.1 C.2.1 hd hn ?_
  have := k hl H locs cells slots ls hR hL hS hc hs
  rw [nx] at this
  exact this
theorem zS_dcmp {x y : UInt64} {oo : CmpOp} (C : zCx p l s m args meth c R D ad o base mi) (hd : decode (zBy mi) (zPc mi i) = .ok (.dcmp oo, 1)) (nx : zPc mi (i + 1) = zPc mi i + 1) (k : zG p l e R s m args below meth c Q D ad o base mi h0 (i + 1) L (.int (Op.cmpValue (FP.dcmp x y) oo) :: st) h) : zG p l e R s m args below meth c Q D ad o base mi h0 i L (.double y :: .double x :: st) h := by
  intro hl H locs cells slots ls hR hL hS hc hs
  show W p l e R s m args below meth c H locs cells slots Q (F0 m (zPc mi i) ls (.double y :: .double x :: st.map (zTr ad o)))
  refine lv_dcmp C.1 C.2.1 hd ?_
  have := k hl H locs cells slots ls hR hL hS hc hs
  rw [nx] at this
  exact this
theorem zS_iconst {n : Int} (C : zCx p l s m args meth c R D ad o base mi) (hd : decode (zBy mi) (zPc mi i) = .ok (.iconst n, 1)) (nx : zPc mi (i + 1) = zPc mi i + 1) (k : zG p l e R s m args below meth c Q D ad o base mi h0 (i + 1) L (.int (zi n) :: st) h) : zG p l e R s m args below meth c Q D ad o base mi h0 i L (st) h := by
  intro hl H locs cells slots ls hR hL hS hc hs
  show W p l e R s m args below meth c H locs cells slots Q (F0 m (zPc mi i) ls (st.map (zTr ad o)))
  refine lv_iconst C.1 C.2.1 hd rfl ?_
  have := k hl H locs cells slots ls hR hL hS hc hs
  rw [nx] at this
  exact this
theorem zS_bipush {n : Int} (C : zCx p l s m args meth c R D ad o base mi) (hd : decode (zBy mi) (zPc mi i) = .ok (.bipush n, 2)) (nx : zPc mi (i + 1) = zPc mi i + 2) (hv : (Int8.ofInt n).toInt32 = zi n) (k : zG p l e R s m args below meth c Q D ad o base mi h0 (i + 1) L (.int (zi n) :: st) h) : zG p l e R s m args below meth c Q D ad o base mi h0 i L (st) h := by
  intro hl H locs cells slots ls hR hL hS hc hs
  show W p l e R s m args below meth c H locs cells slots Q (F0 m (zPc mi i) ls (st.map (zTr ad o)))
  refine lv_bipush C.1 C.2.1 hd hv ?_
  have := k hl H locs cells slots ls hR hL hS hc hs
  rw [nx] at this
  exact this
theorem zS_sipush {n : Int} (C : zCx p l s m args meth c R D ad o base mi) (hd : decode (zBy mi) (zPc mi i) = .ok (.sipush n, 3)) (nx : zPc mi (i + 1) = zPc mi i + 3) (hv : (Int16.ofInt n).toInt32 = zi n) (k : zG p l e R s m args below meth c Q D ad o base mi h0 (i + 1) L (.int (zi n) :: st) h) : zG p l e R s m args below meth c Q D ad o base mi h0 i L (st) h := by
  intro hl H locs cells slots ls hR hL hS hc hs
  show W p l e R s m args below meth c H locs cells slots Q (F0 m (zPc mi i) ls (st.map (zTr ad o)))
  refine lv_sipush C.1 C.2.1 hd hv ?_
  have := k hl H locs cells slots ls hR hL hS hc hs
  rw [nx] at this
  exact this
theorem zS_lconst {n : Fin 2} (C : zCx p l s m args meth c R D ad o base mi) (hd : decode (zBy mi) (zPc mi i) = .ok (.lconst n, 1)) (nx : zPc mi (i + 1) = zPc mi i + 1) (k : zG p l e R s m args below meth c Q D ad o base mi h0 (i + 1) L (.long (zl (n.val : Int)) :: st) h) : zG p l e R s m args below meth c Q D ad o base mi h0 i L (st) h := by
  intro hl H locs cells slots ls hR hL hS hc hs
  show W p l e R s m args below meth c H locs cells slots Q (F0 m (zPc mi i) ls (st.map (zTr ad o)))
  refine lv_lconst (v := zl (n.val : Int)) C.1 C.2.1 hd (by match n with | ⟨0, _⟩ => rfl | ⟨1, _⟩ => rfl) ?_
  have := k hl H locs cells slots ls hR hL hS hc hs
  rw [nx] at this
  exact this
theorem zS_dconst0  (C : zCx p l s m args meth c R D ad o base mi) (hd : decode (zBy mi) (zPc mi i) = .ok (.dconst 0, 1)) (nx : zPc mi (i + 1) = zPc mi i + 1) (k : zG p l e R s m args below meth c Q D ad o base mi h0 (i + 1) L (.double FP.dconst0 :: st) h) : zG p l e R s m args below meth c Q D ad o base mi h0 i L (st) h := by
  intro hl H locs cells slots ls hR hL hS hc hs
  show W p l e R s m args below meth c H locs cells slots Q (F0 m (zPc mi i) ls (st.map (zTr ad o)))
  refine lv_dconst0 C.1 C.2.1 hd ?_
  have := k hl H locs cells slots ls hR hL hS hc hs
  rw [nx] at this
  exact this
theorem zS_dconst1  (C : zCx p l s m args meth c R D ad o base mi) (hd : decode (zBy mi) (zPc mi i) = .ok (.dconst 1, 1)) (nx : zPc mi (i + 1) = zPc mi i + 1) (k : zG p l e R s m args below meth c Q D ad o base mi h0 (i + 1) L (.double FP.dconst1 :: st) h) : zG p l e R s m args below meth c Q D ad o base mi h0 i L (st) h := by
  intro hl H locs cells slots ls hR hL hS hc hs
  show W p l e R s m args below meth c H locs cells slots Q (F0 m (zPc mi i) ls (st.map (zTr ad o)))
  refine lv_dconst1 C.1 C.2.1 hd ?_
  have := k hl H locs cells slots ls hR hL hS hc hs
  rw [nx] at this
  exact this
theorem zS_ldc {n : Int} {idx : Nat} (C : zCx p l s m args meth c R D ad o base mi) (hd : decode (zBy mi) (zPc mi i) = .ok (.ldc idx, 2)) (nx : zPc mi (i + 1) = zPc mi i + 2) (hw : Jvm.Cond.constant (zOwn mi) idx (zi n) ∈ zWs) (k : zG p l e R s m args below meth c Q D ad o base mi h0 (i + 1) L (.int (zi n) :: st) h) : zG p l e R s m args below meth c Q D ad o base mi h0 i L (st) h := by
  intro hl H locs cells slots ls hR hL hS hc hs
  show W p l e R s m args below meth c H locs cells slots Q (F0 m (zPc mi i) ls (st.map (zTr ad o)))
  refine lv_ldc C.1 C.2.1 C.2.2.2.1 (C.2.2.2.2.1 _ hw) hd ?_
  have := k hl H locs cells slots ls hR hL hS hc hs
  rw [nx] at this
  exact this
theorem zS_ldc2 {n : Int} {idx : Nat} (C : zCx p l s m args meth c R D ad o base mi) (hd : decode (zBy mi) (zPc mi i) = .ok (.ldc2_w idx, 3)) (nx : zPc mi (i + 1) = zPc mi i + 3) (hw : Jvm.Cond.constantLong (zOwn mi) idx (zl n) ∈ zWs) (k : zG p l e R s m args below meth c Q D ad o base mi h0 (i + 1) L (.long (zl n) :: st) h) : zG p l e R s m args below meth c Q D ad o base mi h0 i L (st) h := by
  intro hl H locs cells slots ls hR hL hS hc hs
  show W p l e R s m args below meth c H locs cells slots Q (F0 m (zPc mi i) ls (st.map (zTr ad o)))
  refine lv_ldc2 C.1 C.2.1 C.2.2.2.1 (C.2.2.2.2.1 _ hw) hd ?_
  have := k hl H locs cells slots ls hR hL hS hc hs
  rw [nx] at this
  exact this
theorem zS_dup {v : Value} (C : zCx p l s m args meth c R D ad o base mi) (hd : decode (zBy mi) (zPc mi i) = .ok (.dup, 1)) (nx : zPc mi (i + 1) = zPc mi i + 1) (hv : v.category = 1) (k : zG p l e R s m args below meth c Q D ad o base mi h0 (i + 1) L (v :: v :: st) h) : zG p l e R s m args below meth c Q D ad o base mi h0 i L (v :: st) h := by
  intro hl H locs cells slots ls hR hL hS hc hs
  have ht := zTr_cat (ad := ad) C.2.2.2.2.2.2.2.2.2.2.2.2.1
  show W p l e R s m args below meth c H locs cells slots Q (F0 m (zPc mi i) ls (zTr ad o v :: st.map (zTr ad o)))
  refine lv_dup C.1 C.2.1 hd (by rw [ht]; exact hv) ?_
  have := k hl H locs cells slots ls hR hL hS hc hs
  rw [nx] at this
  exact this
theorem zS_pop {v : Value} (C : zCx p l s m args meth c R D ad o base mi) (hd : decode (zBy mi) (zPc mi i) = .ok (.pop, 1)) (nx : zPc mi (i + 1) = zPc mi i + 1) (hv : v.category = 1) (k : zG p l e R s m args below meth c Q D ad o base mi h0 (i + 1) L (st) h) : zG p l e R s m args below meth c Q D ad o base mi h0 i L (v :: st) h := by
  intro hl H locs cells slots ls hR hL hS hc hs
  have ht := zTr_cat (ad := ad) C.2.2.2.2.2.2.2.2.2.2.2.2.1
  show W p l e R s m args below meth c H locs cells slots Q (F0 m (zPc mi i) ls (zTr ad o v :: st.map (zTr ad o)))
  refine lv_pop C.1 C.2.1 hd (by rw [ht]; exact hv) ?_
  have := k hl H locs cells slots ls hR hL hS hc hs
  rw [nx] at this
  exact this
theorem zS_dup2 {v : Value} (C : zCx p l s m args meth c R D ad o base mi) (hd : decode (zBy mi) (zPc mi i) = .ok (.dup2, 1)) (nx : zPc mi (i + 1) = zPc mi i + 1) (hv : v.category = 2) (k : zG p l e R s m args below meth c Q D ad o base mi h0 (i + 1) L (v :: v :: st) h) : zG p l e R s m args below meth c Q D ad o base mi h0 i L (v :: st) h := by
  intro hl H locs cells slots ls hR hL hS hc hs
  have ht := zTr_cat (ad := ad) C.2.2.2.2.2.2.2.2.2.2.2.2.1
  show W p l e R s m args below meth c H locs cells slots Q (F0 m (zPc mi i) ls (zTr ad o v :: st.map (zTr ad o)))
  refine lv_dup2_2 C.1 C.2.1 hd (by rw [ht]; exact hv) ?_
  have := k hl H locs cells slots ls hR hL hS hc hs
  rw [nx] at this
  exact this
theorem zS_dup2b {v w : Value} (C : zCx p l s m args meth c R D ad o base mi) (hd : decode (zBy mi) (zPc mi i) = .ok (.dup2, 1)) (nx : zPc mi (i + 1) = zPc mi i + 1) (hv : v.category = 1) (hw : w.category = 1) (k : zG p l e R s m args below meth c Q D ad o base mi h0 (i + 1) L (v :: w :: v :: w :: st) h) : zG p l e R s m args below meth c Q D ad o base mi h0 i L (v :: w :: st) h := by
  intro hl H locs cells slots ls hR hL hS hc hs
  have ht := zTr_cat (ad := ad) C.2.2.2.2.2.2.2.2.2.2.2.2.1
  show W p l e R s m args below meth c H locs cells slots Q (F0 m (zPc mi i) ls (zTr ad o v :: zTr ad o w :: st.map (zTr ad o)))
  refine lv_dup2_11 C.1 C.2.1 hd (by rw [ht]; exact hv) (by rw [ht]; exact hw) ?_
  have := k hl H locs cells slots ls hR hL hS hc hs
  rw [nx] at this
  exact this
theorem zS_iload {kk : Nat} {x : Int32} (C : zCx p l s m args meth c R D ad o base mi) (hd : decode (zBy mi) (zPc mi i) = .ok (.iload kk, 2)) (nx : zPc mi (i + 1) = zPc mi i + 2) (hv : zLoad L kk = some (.int x)) (k : zG p l e R s m args below meth c Q D ad o base mi h0 (i + 1) L (.int x :: st) h) : zG p l e R s m args below meth c Q D ad o base mi h0 i L st h := by
  intro hl H locs cells slots ls hR hL hS hc hs
  refine lv_iload C.1 C.2.1 hd (hL.at hv) ?_
  have := k hl H locs cells slots ls hR hL hS hc hs
  rw [nx] at this
  exact this
theorem zS_iload_n {kk : Fin 4} {x : Int32} (C : zCx p l s m args meth c R D ad o base mi) (hd : decode (zBy mi) (zPc mi i) = .ok (.iload_n kk, 1)) (nx : zPc mi (i + 1) = zPc mi i + 1) (hv : zLoad L kk.val = some (.int x)) (k : zG p l e R s m args below meth c Q D ad o base mi h0 (i + 1) L (.int x :: st) h) : zG p l e R s m args below meth c Q D ad o base mi h0 i L st h := by
  intro hl H locs cells slots ls hR hL hS hc hs
  refine lv_iload_n C.1 C.2.1 hd rfl (hL.at hv) ?_
  have := k hl H locs cells slots ls hR hL hS hc hs
  rw [nx] at this
  exact this
theorem zS_lload {kk : Nat} {x : Int64} (C : zCx p l s m args meth c R D ad o base mi) (hd : decode (zBy mi) (zPc mi i) = .ok (.lload kk, 2)) (nx : zPc mi (i + 1) = zPc mi i + 2) (hv : zLoad L kk = some (.long x)) (k : zG p l e R s m args below meth c Q D ad o base mi h0 (i + 1) L (.long x :: st) h) : zG p l e R s m args below meth c Q D ad o base mi h0 i L st h := by
  intro hl H locs cells slots ls hR hL hS hc hs
  refine lv_lload C.1 C.2.1 hd (hL.at hv) ?_
  have := k hl H locs cells slots ls hR hL hS hc hs
  rw [nx] at this
  exact this
theorem zS_lload_n {kk : Fin 4} {x : Int64} (C : zCx p l s m args meth c R D ad o base mi) (hd : decode (zBy mi) (zPc mi i) = .ok (.lload_n kk, 1)) (nx : zPc mi (i + 1) = zPc mi i + 1) (hv : zLoad L kk.val = some (.long x)) (k : zG p l e R s m args below meth c Q D ad o base mi h0 (i + 1) L (.long x :: st) h) : zG p l e R s m args below meth c Q D ad o base mi h0 i L st h := by
  intro hl H locs cells slots ls hR hL hS hc hs
  refine lv_lload_n C.1 C.2.1 hd rfl (hL.at hv) ?_
  have := k hl H locs cells slots ls hR hL hS hc hs
  rw [nx] at this
  exact this
theorem zS_aload {kk : Nat} {x : Nat} (C : zCx p l s m args meth c R D ad o base mi) (hd : decode (zBy mi) (zPc mi i) = .ok (.aload kk, 2)) (nx : zPc mi (i + 1) = zPc mi i + 2) (hv : zLoad L kk = some (.ref x)) (k : zG p l e R s m args below meth c Q D ad o base mi h0 (i + 1) L (.ref x :: st) h) : zG p l e R s m args below meth c Q D ad o base mi h0 i L st h := by
  intro hl H locs cells slots ls hR hL hS hc hs
  refine lv_aload C.1 C.2.1 hd (hL.at hv) ?_
  have := k hl H locs cells slots ls hR hL hS hc hs
  rw [nx] at this
  exact this
theorem zS_aload_n {kk : Fin 4} {x : Nat} (C : zCx p l s m args meth c R D ad o base mi) (hd : decode (zBy mi) (zPc mi i) = .ok (.aload_n kk, 1)) (nx : zPc mi (i + 1) = zPc mi i + 1) (hv : zLoad L kk.val = some (.ref x)) (k : zG p l e R s m args below meth c Q D ad o base mi h0 (i + 1) L (.ref x :: st) h) : zG p l e R s m args below meth c Q D ad o base mi h0 i L st h := by
  intro hl H locs cells slots ls hR hL hS hc hs
  refine lv_aload_n C.1 C.2.1 hd rfl (hL.at hv) ?_
  have := k hl H locs cells slots ls hR hL hS hc hs
  rw [nx] at this
  exact this
theorem zS_dload {kk : Nat} {x : UInt64} (C : zCx p l s m args meth c R D ad o base mi) (hd : decode (zBy mi) (zPc mi i) = .ok (.dload kk, 2)) (nx : zPc mi (i + 1) = zPc mi i + 2) (hv : zLoad L kk = some (.double x)) (k : zG p l e R s m args below meth c Q D ad o base mi h0 (i + 1) L (.double x :: st) h) : zG p l e R s m args below meth c Q D ad o base mi h0 i L st h := by
  intro hl H locs cells slots ls hR hL hS hc hs
  refine lv_dload C.1 C.2.1 hd (hL.at hv) ?_
  have := k hl H locs cells slots ls hR hL hS hc hs
  rw [nx] at this
  exact this
theorem zS_dload_n {kk : Fin 4} {x : UInt64} (C : zCx p l s m args meth c R D ad o base mi) (hd : decode (zBy mi) (zPc mi i) = .ok (.dload_n kk, 1)) (nx : zPc mi (i + 1) = zPc mi i + 1) (hv : zLoad L kk.val = some (.double x)) (k : zG p l e R s m args below meth c Q D ad o base mi h0 (i + 1) L (.double x :: st) h) : zG p l e R s m args below meth c Q D ad o base mi h0 i L st h := by
  intro hl H locs cells slots ls hR hL hS hc hs
  refine lv_dload_n C.1 C.2.1 hd rfl (hL.at hv) ?_
  have := k hl H locs cells slots ls hR hL hS hc hs
  rw [nx] at this
  exact this
theorem zS_istore {kk : Nat} {x : Int32} (C : zCx p l s m args meth c R D ad o base mi) (hd : decode (zBy mi) (zPc mi i) = .ok (.istore kk, 2)) (nx : zPc mi (i + 1) = zPc mi i + 2) (hk : kk < zMl mi) (k : zG p l e R s m args below meth c Q D ad o base mi h0 (i + 1) (zStore L kk (.int x)) st h) : zG p l e R s m args below meth c Q D ad o base mi h0 i L (.int x :: st) h := by
  intro hl H locs cells slots ls hR hL hS hc hs
  have ht := zTr_cat (ad := ad) C.2.2.2.2.2.2.2.2.2.2.2.2.1
  show W p l e R s m args below meth c H locs cells slots Q (F0 m (zPc mi i) ls (.int x :: st.map (zTr ad o)))
  refine lv_istore C.1 C.2.1 hd hL.has (by rw [hl]; exact hk) rfl (fun ls2 hL2 => ?_)
  have := k (by rw [zStore_len]; exact hl) H locs cells slots ls2 hR (zLs.st1 ht rfl hL hL2) hS hc hs
  rw [nx] at this
  exact this
theorem zS_istore_n {kk : Fin 4} {x : Int32} (C : zCx p l s m args meth c R D ad o base mi) (hd : decode (zBy mi) (zPc mi i) = .ok (.istore_n kk, 1)) (nx : zPc mi (i + 1) = zPc mi i + 1) (hk : kk.val < zMl mi) (k : zG p l e R s m args below meth c Q D ad o base mi h0 (i + 1) (zStore L kk.val (.int x)) st h) : zG p l e R s m args below meth c Q D ad o base mi h0 i L (.int x :: st) h := by
  intro hl H locs cells slots ls hR hL hS hc hs
  have ht := zTr_cat (ad := ad) C.2.2.2.2.2.2.2.2.2.2.2.2.1
  show W p l e R s m args below meth c H locs cells slots Q (F0 m (zPc mi i) ls (.int x :: st.map (zTr ad o)))
  refine lv_istore_n C.1 C.2.1 hd rfl hL.has (by rw [hl]; exact hk) rfl (fun ls2 hL2 => ?_)
  have := k (by rw [zStore_len]; exact hl) H locs cells slots ls2 hR (zLs.st1 ht rfl hL hL2) hS hc hs
  rw [nx] at this
  exact this
theorem zS_lstore {kk : Nat} {x : Int64} (C : zCx p l s m args meth c R D ad o base mi) (hd : decode (zBy mi) (zPc mi i) = .ok (.lstore kk, 2)) (nx : zPc mi (i + 1) = zPc mi i + 2) (hk : kk + 1 < zMl mi) (k : zG p l e R s m args below meth c Q D ad o base mi h0 (i + 1) (zStore L kk (.long x)) st h) : zG p l e R s m args below meth c Q D ad o base mi h0 i L (.long x :: st) h := by
  intro hl H locs cells slots ls hR hL hS hc hs
  have ht := zTr_cat (ad := ad) C.2.2.2.2.2.2.2.2.2.2.2.2.1
  show W p l e R s m args below meth c H locs cells slots Q (F0 m (zPc mi i) ls (.long x :: st.map (zTr ad o)))
  refine lv_lstore C.1 C.2.1 hd hL.has (by rw [hl]; exact hk) rfl (fun ls2 hL2 => ?_)
  have := k (by rw [zStore_len]; exact hl) H locs cells slots ls2 hR (zLs.st2 ht rfl hL hL2) hS hc hs
  rw [nx] at this
  exact this
theorem zS_lstore_n {kk : Fin 4} {x : Int64} (C : zCx p l s m args meth c R D ad o base mi) (hd : decode (zBy mi) (zPc mi i) = .ok (.lstore_n kk, 1)) (nx : zPc mi (i + 1) = zPc mi i + 1) (hk : kk.val + 1 < zMl mi) (k : zG p l e R s m args below meth c Q D ad o base mi h0 (i + 1) (zStore L kk.val (.long x)) st h) : zG p l e R s m args below meth c Q D ad o base mi h0 i L (.long x :: st) h := by
  intro hl H locs cells slots ls hR hL hS hc hs
  have ht := zTr_cat (ad := ad) C.2.2.2.2.2.2.2.2.2.2.2.2.1
  show W p l e R s m args below meth c H locs cells slots Q (F0 m (zPc mi i) ls (.long x :: st.map (zTr ad o)))
  refine lv_lstore_n C.1 C.2.1 hd rfl hL.has (by rw [hl]; exact hk) rfl (fun ls2 hL2 => ?_)
  have := k (by rw [zStore_len]; exact hl) H locs cells slots ls2 hR (zLs.st2 ht rfl hL hL2) hS hc hs
  rw [nx] at this
  exact this
theorem zS_astore {kk : Nat} {x : Nat} (C : zCx p l s m args meth c R D ad o base mi) (hd : decode (zBy mi) (zPc mi i) = .ok (.astore kk, 2)) (nx : zPc mi (i + 1) = zPc mi i + 2) (hk : kk < zMl mi) (k : zG p l e R s m args below meth c Q D ad o base mi h0 (i + 1) (zStore L kk (.ref x)) st h) : zG p l e R s m args below meth c Q D ad o base mi h0 i L (.ref x :: st) h := by
  intro hl H locs cells slots ls hR hL hS hc hs
  have ht := zTr_cat (ad := ad) C.2.2.2.2.2.2.2.2.2.2.2.2.1
  show W p l e R s m args below meth c H locs cells slots Q (F0 m (zPc mi i) ls (.ref (ad x) :: st.map (zTr ad o)))
  refine lv_astore C.1 C.2.1 hd hL.has (by rw [hl]; exact hk) rfl (fun ls2 hL2 => ?_)
  have := k (by rw [zStore_len]; exact hl) H locs cells slots ls2 hR (zLs.st1 ht rfl hL hL2) hS hc hs
  rw [nx] at this
  exact this
theorem zS_astore_n {kk : Fin 4} {x : Nat} (C : zCx p l s m args meth c R D ad o base mi) (hd : decode (zBy mi) (zPc mi i) = .ok (.astore_n kk, 1)) (nx : zPc mi (i + 1) = zPc mi i + 1) (hk : kk.val < zMl mi) (k : zG p l e R s m args below meth c Q D ad o base mi h0 (i + 1) (zStore L kk.val (.ref x)) st h) : zG p l e R s m args below meth c Q D ad o base mi h0 i L (.ref x :: st) h := by
  intro hl H locs cells slots ls hR hL hS hc hs
  have ht := zTr_cat (ad := ad) C.2.2.2.2.2.2.2.2.2.2.2.2.1
  show W p l e R s m args below meth c H locs cells slots Q (F0 m (zPc mi i) ls (.ref (ad x) :: st.map (zTr ad o)))
  refine lv_astore_n C.1 C.2.1 hd rfl hL.has (by rw [hl]; exact hk) rfl (fun ls2 hL2 => ?_)
  have := k (by rw [zStore_len]; exact hl) H locs cells slots ls2 hR (zLs.st1 ht rfl hL hL2) hS hc hs
  rw [nx] at this
  exact this
theorem zS_dstore {kk : Nat} {x : UInt64} (C : zCx p l s m args meth c R D ad o base mi) (hd : decode (zBy mi) (zPc mi i) = .ok (.dstore kk, 2)) (nx : zPc mi (i + 1) = zPc mi i + 2) (hk : kk + 1 < zMl mi) (k : zG p l e R s m args below meth c Q D ad o base mi h0 (i + 1) (zStore L kk (.double x)) st h) : zG p l e R s m args below meth c Q D ad o base mi h0 i L (.double x :: st) h := by
  intro hl H locs cells slots ls hR hL hS hc hs
  have ht := zTr_cat (ad := ad) C.2.2.2.2.2.2.2.2.2.2.2.2.1
  show W p l e R s m args below meth c H locs cells slots Q (F0 m (zPc mi i) ls (.double x :: st.map (zTr ad o)))
  refine lv_dstore C.1 C.2.1 hd hL.has (by rw [hl]; exact hk) rfl (fun ls2 hL2 => ?_)
  have := k (by rw [zStore_len]; exact hl) H locs cells slots ls2 hR (zLs.st2 ht rfl hL hL2) hS hc hs
  rw [nx] at this
  exact this
theorem zS_dstore_n {kk : Fin 4} {x : UInt64} (C : zCx p l s m args meth c R D ad o base mi) (hd : decode (zBy mi) (zPc mi i) = .ok (.dstore_n kk, 1)) (nx : zPc mi (i + 1) = zPc mi i + 1) (hk : kk.val + 1 < zMl mi) (k : zG p l e R s m args below meth c Q D ad o base mi h0 (i + 1) (zStore L kk.val (.double x)) st h) : zG p l e R s m args below meth c Q D ad o base mi h0 i L (.double x :: st) h := by
  intro hl H locs cells slots ls hR hL hS hc hs
  have ht := zTr_cat (ad := ad) C.2.2.2.2.2.2.2.2.2.2.2.2.1
  show W p l e R s m args below meth c H locs cells slots Q (F0 m (zPc mi i) ls (.double x :: st.map (zTr ad o)))
  refine lv_dstore_n C.1 C.2.1 hd rfl hL.has (by rw [hl]; exact hk) rfl (fun ls2 hL2 => ?_)
  have := k (by rw [zStore_len]; exact hl) H locs cells slots ls2 hR (zLs.st2 ht rfl hL hL2) hS hc hs
  rw [nx] at this
  exact this
theorem zS_iinc {kk : Nat} {n : Int} {x : Int32} (C : zCx p l s m args meth c R D ad o base mi) (hd : decode (zBy mi) (zPc mi i) = .ok (.iinc kk n, 3)) (nx : zPc mi (i + 1) = zPc mi i + 3) (hk : kk < zMl mi) (hv : zLoad L kk = some (.int x)) (k : zG p l e R s m args below meth c Q D ad o base mi h0 (i + 1) (zStore L kk (.int (x + zi n))) st h) : zG p l e R s m args below meth c Q D ad o base mi h0 i L st h := by
  intro hl H locs cells slots ls hR hL hS hc hs
  have ht := zTr_cat (ad := ad) C.2.2.2.2.2.2.2.2.2.2.2.2.1
  have hm : (kk, Value.int x) ∈ zPairs (zTr ad o) L := by
    refine zPairs_mem.mpr ⟨.int x, ?_, by simp, rfl⟩
    unfold zLoad at hv
    split at hv
    · cases hv
    · exact hv
  obtain ⟨q, hq⟩ := List.getElem?_of_mem hm
  refine lv_iinc (k := q) (v := x + zi n) C.1 C.2.1 hd hL.has hq rfl (by rw [hl]; exact hk) rfl (fun ls2 hL2 => ?_)
  have := k (by rw [zStore_len]; exact hl) H locs cells slots ls2 hR (zLs.st1 ht rfl hL hL2) hS hc hs
  rw [nx] at this
  exact this
theorem zS_goto {off : Int} {tg : Nat} (C : zCx p l s m args meth c R D ad o base mi) (hd : decode (zBy mi) (zPc mi i) = .ok (.goto off, 3)) (ht : (zPc mi i : Int) + off = (zPc mi tg : Int)) (k : zG p l e R s m args below meth c Q D ad o base mi h0 tg L st h) : zG p l e R s m args below meth c Q D ad o base mi h0 i L st h := by
  intro hl H locs cells slots ls hR hL hS hc hs
  exact lv_goto C.1 C.2.1 hd ht (k hl H locs cells slots ls hR hL hS hc hs)
theorem zS_icmp_eq {off : Int} {tg : Nat} {x y : Int32} (C : zCx p l s m args meth c R D ad o base mi) (hd : decode (zBy mi) (zPc mi i) = .ok (.if_icmp .eq off, 3)) (nx : zPc mi (i + 1) = zPc mi i + 3) (ht : (zPc mi i : Int) + off = (zPc mi tg : Int)) (kt : x = y → zG p l e R s m args below meth c Q D ad o base mi h0 tg L st h) (kf : ¬ x = y → zG p l e R s m args below meth c Q D ad o base mi h0 (i + 1) L st h) : zG p l e R s m args below meth c Q D ad o base mi h0 i L (.int y :: .int x :: st) h := by
  intro hl H locs cells slots ls hR hL hS hc hs
  show W p l e R s m args below meth c H locs cells slots Q (F0 m (zPc mi i) ls (.int y :: .int x :: st.map (zTr ad o)))
  exact lv_icmp_eq (tgt := zPc mi tg) C.1 C.2.1 hd ht (fun q => kt q hl H locs cells slots ls hR hL hS hc hs) (fun q => by
    have := kf q hl H locs cells slots ls hR hL hS hc hs
    rw [nx] at this
    exact this)
theorem zS_if_eq {off : Int} {tg : Nat} {x : Int32} (C : zCx p l s m args meth c R D ad o base mi) (hd : decode (zBy mi) (zPc mi i) = .ok (.ifCond .eq off, 3)) (nx : zPc mi (i + 1) = zPc mi i + 3) (ht : (zPc mi i : Int) + off = (zPc mi tg : Int)) (kt : x = 0 → zG p l e R s m args below meth c Q D ad o base mi h0 tg L st h) (kf : ¬ x = 0 → zG p l e R s m args below meth c Q D ad o base mi h0 (i + 1) L st h) : zG p l e R s m args below meth c Q D ad o base mi h0 i L (.int x :: st) h := by
  intro hl H locs cells slots ls hR hL hS hc hs
  show W p l e R s m args below meth c H locs cells slots Q (F0 m (zPc mi i) ls (.int x :: st.map (zTr ad o)))
  exact lv_if_eq (tgt := zPc mi tg) C.1 C.2.1 hd ht (fun q => kt q hl H locs cells slots ls hR hL hS hc hs) (fun q => by
    have := kf q hl H locs cells slots ls hR hL hS hc hs
    rw [nx] at this
    exact this)
theorem zS_icmp_ne {off : Int} {tg : Nat} {x y : Int32} (C : zCx p l s m args meth c R D ad o base mi) (hd : decode (zBy mi) (zPc mi i) = .ok (.if_icmp .ne off, 3)) (nx : zPc mi (i + 1) = zPc mi i + 3) (ht : (zPc mi i : Int) + off = (zPc mi tg : Int)) (kt : ¬ x = y → zG p l e R s m args below meth c Q D ad o base mi h0 tg L st h) (kf : x = y → zG p l e R s m args below meth c Q D ad o base mi h0 (i + 1) L st h) : zG p l e R s m args below meth c Q D ad o base mi h0 i L (.int y :: .int x :: st) h := by
  intro hl H locs cells slots ls hR hL hS hc hs
  show W p l e R s m args below meth c H locs cells slots Q (F0 m (zPc mi i) ls (.int y :: .int x :: st.map (zTr ad o)))
  exact lv_icmp_ne (tgt := zPc mi tg) C.1 C.2.1 hd ht (fun q => kt q hl H locs cells slots ls hR hL hS hc hs) (fun q => by
    have := kf q hl H locs cells slots ls hR hL hS hc hs
    rw [nx] at this
    exact this)
theorem zS_if_ne {off : Int} {tg : Nat} {x : Int32} (C : zCx p l s m args meth c R D ad o base mi) (hd : decode (zBy mi) (zPc mi i) = .ok (.ifCond .ne off, 3)) (nx : zPc mi (i + 1) = zPc mi i + 3) (ht : (zPc mi i : Int) + off = (zPc mi tg : Int)) (kt : ¬ x = 0 → zG p l e R s m args below meth c Q D ad o base mi h0 tg L st h) (kf : x = 0 → zG p l e R s m args below meth c Q D ad o base mi h0 (i + 1) L st h) : zG p l e R s m args below meth c Q D ad o base mi h0 i L (.int x :: st) h := by
  intro hl H locs cells slots ls hR hL hS hc hs
  show W p l e R s m args below meth c H locs cells slots Q (F0 m (zPc mi i) ls (.int x :: st.map (zTr ad o)))
  exact lv_if_ne (tgt := zPc mi tg) C.1 C.2.1 hd ht (fun q => kt q hl H locs cells slots ls hR hL hS hc hs) (fun q => by
    have := kf q hl H locs cells slots ls hR hL hS hc hs
    rw [nx] at this
    exact this)
theorem zS_icmp_lt {off : Int} {tg : Nat} {x y : Int32} (C : zCx p l s m args meth c R D ad o base mi) (hd : decode (zBy mi) (zPc mi i) = .ok (.if_icmp .lt off, 3)) (nx : zPc mi (i + 1) = zPc mi i + 3) (ht : (zPc mi i : Int) + off = (zPc mi tg : Int)) (kt : x < y → zG p l e R s m args below meth c Q D ad o base mi h0 tg L st h) (kf : ¬ x < y → zG p l e R s m args below meth c Q D ad o base mi h0 (i + 1) L st h) : zG p l e R s m args below meth c Q D ad o base mi h0 i L (.int y :: .int x :: st) h := by
  intro hl H locs cells slots ls hR hL hS hc hs
  show W p l e R s m args below meth c H locs cells slots Q (F0 m (zPc mi i) ls (.int y :: .int x :: st.map (zTr ad o)))
  exact lv_icmp_lt (tgt := zPc mi tg) C.1 C.2.1 hd ht (fun q => kt q hl H locs cells slots ls hR hL hS hc hs) (fun q => by
    have := kf q hl H locs cells slots ls hR hL hS hc hs
    rw [nx] at this
    exact this)
theorem zS_if_lt {off : Int} {tg : Nat} {x : Int32} (C : zCx p l s m args meth c R D ad o base mi) (hd : decode (zBy mi) (zPc mi i) = .ok (.ifCond .lt off, 3)) (nx : zPc mi (i + 1) = zPc mi i + 3) (ht : (zPc mi i : Int) + off = (zPc mi tg : Int)) (kt : x < 0 → zG p l e R s m args below meth c Q D ad o base mi h0 tg L st h) (kf : ¬ x < 0 → zG p l e R s m args below meth c Q D ad o base mi h0 (i + 1) L st h) : zG p l e R s m args below meth c Q D ad o base mi h0 i L (.int x :: st) h := by
  intro hl H locs cells slots ls hR hL hS hc hs
  show W p l e R s m args below meth c H locs cells slots Q (F0 m (zPc mi i) ls (.int x :: st.map (zTr ad o)))
  exact lv_if_lt (tgt := zPc mi tg) C.1 C.2.1 hd ht (fun q => kt q hl H locs cells slots ls hR hL hS hc hs) (fun q => by
    have := kf q hl H locs cells slots ls hR hL hS hc hs
    rw [nx] at this
    exact this)
theorem zS_icmp_ge {off : Int} {tg : Nat} {x y : Int32} (C : zCx p l s m args meth c R D ad o base mi) (hd : decode (zBy mi) (zPc mi i) = .ok (.if_icmp .ge off, 3)) (nx : zPc mi (i + 1) = zPc mi i + 3) (ht : (zPc mi i : Int) + off = (zPc mi tg : Int)) (kt : ¬ x < y → zG p l e R s m args below meth c Q D ad o base mi h0 tg L st h) (kf : x < y → zG p l e R s m args below meth c Q D ad o base mi h0 (i + 1) L st h) : zG p l e R s m args below meth c Q D ad o base mi h0 i L (.int y :: .int x :: st) h := by
  intro hl H locs cells slots ls hR hL hS hc hs
  show W p l e R s m args below meth c H locs cells slots Q (F0 m (zPc mi i) ls (.int y :: .int x :: st.map (zTr ad o)))
  exact lv_icmp_ge (tgt := zPc mi tg) C.1 C.2.1 hd ht (fun q => kt (Int32.not_lt.mpr q) hl H locs cells slots ls hR hL hS hc hs) (fun q => by
    have := kf (Int32.not_le.mp q) hl H locs cells slots ls hR hL hS hc hs
    rw [nx] at this
    exact this)
theorem zS_if_ge {off : Int} {tg : Nat} {x : Int32} (C : zCx p l s m args meth c R D ad o base mi) (hd : decode (zBy mi) (zPc mi i) = .ok (.ifCond .ge off, 3)) (nx : zPc mi (i + 1) = zPc mi i + 3) (ht : (zPc mi i : Int) + off = (zPc mi tg : Int)) (kt : ¬ x < 0 → zG p l e R s m args below meth c Q D ad o base mi h0 tg L st h) (kf : x < 0 → zG p l e R s m args below meth c Q D ad o base mi h0 (i + 1) L st h) : zG p l e R s m args below meth c Q D ad o base mi h0 i L (.int x :: st) h := by
  intro hl H locs cells slots ls hR hL hS hc hs
  show W p l e R s m args below meth c H locs cells slots Q (F0 m (zPc mi i) ls (.int x :: st.map (zTr ad o)))
  exact lv_if_ge (tgt := zPc mi tg) C.1 C.2.1 hd ht (fun q => kt (Int32.not_lt.mpr q) hl H locs cells slots ls hR hL hS hc hs) (fun q => by
    have := kf (Int32.not_le.mp q) hl H locs cells slots ls hR hL hS hc hs
    rw [nx] at this
    exact this)
theorem zS_icmp_gt {off : Int} {tg : Nat} {x y : Int32} (C : zCx p l s m args meth c R D ad o base mi) (hd : decode (zBy mi) (zPc mi i) = .ok (.if_icmp .gt off, 3)) (nx : zPc mi (i + 1) = zPc mi i + 3) (ht : (zPc mi i : Int) + off = (zPc mi tg : Int)) (kt : y < x → zG p l e R s m args below meth c Q D ad o base mi h0 tg L st h) (kf : ¬ y < x → zG p l e R s m args below meth c Q D ad o base mi h0 (i + 1) L st h) : zG p l e R s m args below meth c Q D ad o base mi h0 i L (.int y :: .int x :: st) h := by
  intro hl H locs cells slots ls hR hL hS hc hs
  show W p l e R s m args below meth c H locs cells slots Q (F0 m (zPc mi i) ls (.int y :: .int x :: st.map (zTr ad o)))
  exact lv_icmp_gt (tgt := zPc mi tg) C.1 C.2.1 hd ht (fun q => kt q hl H locs cells slots ls hR hL hS hc hs) (fun q => by
    have := kf q hl H locs cells slots ls hR hL hS hc hs
    rw [nx] at this
    exact this)
theorem zS_if_gt {off : Int} {tg : Nat} {x : Int32} (C : zCx p l s m args meth c R D ad o base mi) (hd : decode (zBy mi) (zPc mi i) = .ok (.ifCond .gt off, 3)) (nx : zPc mi (i + 1) = zPc mi i + 3) (ht : (zPc mi i : Int) + off = (zPc mi tg : Int)) (kt : 0 < x → zG p l e R s m args below meth c Q D ad o base mi h0 tg L st h) (kf : ¬ 0 < x → zG p l e R s m args below meth c Q D ad o base mi h0 (i + 1) L st h) : zG p l e R s m args below meth c Q D ad o base mi h0 i L (.int x :: st) h := by
  intro hl H locs cells slots ls hR hL hS hc hs
  show W p l e R s m args below meth c H locs cells slots Q (F0 m (zPc mi i) ls (.int x :: st.map (zTr ad o)))
  exact lv_if_gt (tgt := zPc mi tg) C.1 C.2.1 hd ht (fun q => kt q hl H locs cells slots ls hR hL hS hc hs) (fun q => by
    have := kf q hl H locs cells slots ls hR hL hS hc hs
    rw [nx] at this
    exact this)
theorem zS_icmp_le {off : Int} {tg : Nat} {x y : Int32} (C : zCx p l s m args meth c R D ad o base mi) (hd : decode (zBy mi) (zPc mi i) = .ok (.if_icmp .le off, 3)) (nx : zPc mi (i + 1) = zPc mi i + 3) (ht : (zPc mi i : Int) + off = (zPc mi tg : Int)) (kt : ¬ y < x → zG p l e R s m args below meth c Q D ad o base mi h0 tg L st h) (kf : y < x → zG p l e R s m args below meth c Q D ad o base mi h0 (i + 1) L st h) : zG p l e R s m args below meth c Q D ad o base mi h0 i L (.int y :: .int x :: st) h := by
  intro hl H locs cells slots ls hR hL hS hc hs
  show W p l e R s m args below meth c H locs cells slots Q (F0 m (zPc mi i) ls (.int y :: .int x :: st.map (zTr ad o)))
  exact lv_icmp_le (tgt := zPc mi tg) C.1 C.2.1 hd ht (fun q => kt (Int32.not_lt.mpr q) hl H locs cells slots ls hR hL hS hc hs) (fun q => by
    have := kf (Int32.not_le.mp q) hl H locs cells slots ls hR hL hS hc hs
    rw [nx] at this
    exact this)
theorem zS_if_le {off : Int} {tg : Nat} {x : Int32} (C : zCx p l s m args meth c R D ad o base mi) (hd : decode (zBy mi) (zPc mi i) = .ok (.ifCond .le off, 3)) (nx : zPc mi (i + 1) = zPc mi i + 3) (ht : (zPc mi i : Int) + off = (zPc mi tg : Int)) (kt : ¬ 0 < x → zG p l e R s m args below meth c Q D ad o base mi h0 tg L st h) (kf : 0 < x → zG p l e R s m args below meth c Q D ad o base mi h0 (i + 1) L st h) : zG p l e R s m args below meth c Q D ad o base mi h0 i L (.int x :: st) h := by
  intro hl H locs cells slots ls hR hL hS hc hs
  show W p l e R s m args below meth c H locs cells slots Q (F0 m (zPc mi i) ls (.int x :: st.map (zTr ad o)))
  exact lv_if_le (tgt := zPc mi tg) C.1 C.2.1 hd ht (fun q => kt (Int32.not_lt.mpr q) hl H locs cells slots ls hR hL hS hc hs) (fun q => by
    have := kf (Int32.not_le.mp q) hl H locs cells slots ls hR hL hS hc hs
    rw [nx] at this
    exact this)
end ZSTEP
