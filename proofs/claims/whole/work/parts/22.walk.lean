/-! The walk: what the small machine answers, the JVM does. -/
section ZWALK
variable {p : Program} {l : Launch} {e : Env} {R : Room} {s : State} {m : MethodId} {args : Array Value} {below : List Frame} {meth : Method} {c : Code} {Q : State → Prop} {D : zD} {ad : Nat → Nat} {o : Nat → Value} {base : Nat} {mi : Nat} {h0 : zH} {i : Nat} {L st : List Value} {h : zH} {r : zR} {N : zN} {J : zJ} {Cc : zF} {e1 len : Nat} {q : zI} {ms : List Nat}
theorem zM_nop (hq : q.1 = .nop) (hs : zStep N J Cc q L st h = some r) : zG p l e R s m args below meth c Q D ad o base mi h0 i L st h := by
  obtain ⟨q1, q2⟩ := q
  cases hq
  simp only [zStep] at hs
  cases hs
theorem zM_getstatic {idx : Nat} (Y : zHy p l e R s m args below meth c Q D ad o base mi h0 i r N J Cc) (hp : e1 % 65536 = zPc mi i) (hd : decode (zBy mi) (zPc mi i) = .ok (.getstatic idx, len)) (hm : zMatch mi i (e1, q, ms) (.getstatic idx) len = true) (hs : zStep N J Cc q L st h = some r) : zG p l e R s m args below meth c Q D ad o base mi h0 i L st h := by
  obtain ⟨C, hE, hb1, hb2, hN, hJ, mN, mJ, hC⟩ := Y
  simp only [zMatch, Bool.and_eq_true, Bool.or_eq_true, decide_eq_true_eq, hp] at hm
  obtain ⟨⟨nx, rfl⟩, hq⟩ := hm
  split at hq
  · simp only [zStep] at hs
    exact zS_compact C hd nx (zHas_in hq) (hN _ _ _ hs)
  · simp only [zStep] at hs
    exact zS_sioobe C hd nx (zHas_in hq) (hN _ _ _ hs)
  · cases hq
set_option maxHeartbeats 4000000 in
theorem zM_any {ri : Instr} (Y : zHy p l e R s m args below meth c Q D ad o base mi h0 i r N J Cc) (hp : e1 % 65536 = zPc mi i) (hd : decode (zBy mi) (zPc mi i) = .ok (ri, len)) (hm : zMatch mi i (e1, q, ms) ri len = true) (hs : zStep N J Cc q L st h = some r) : zG p l e R s m args below meth c Q D ad o base mi h0 i L st h := by
  cases ri with
  | iload _ => exact zM_iload Y hp hd hm hs
  | lload _ => exact zM_lload Y hp hd hm hs
  | aload _ => exact zM_aload Y hp hd hm hs
  | dload _ => exact zM_dload Y hp hd hm hs
  | iload_n _ => exact zM_iload_n Y hp hd hm hs
  | lload_n _ => exact zM_lload_n Y hp hd hm hs
  | aload_n _ => exact zM_aload_n Y hp hd hm hs
  | dload_n _ => exact zM_dload_n Y hp hd hm hs
  | istore _ => exact zM_istore Y hp hd hm hs
  | lstore _ => exact zM_lstore Y hp hd hm hs
  | astore _ => exact zM_astore Y hp hd hm hs
  | dstore _ => exact zM_dstore Y hp hd hm hs
  | istore_n _ => exact zM_istore_n Y hp hd hm hs
  | lstore_n _ => exact zM_lstore_n Y hp hd hm hs
  | astore_n _ => exact zM_astore_n Y hp hd hm hs
  | dstore_n _ => exact zM_dstore_n Y hp hd hm hs
  | iconst _ => exact zM_iconst Y hp hd hm hs
  | bipush _ => exact zM_bipush Y hp hd hm hs
  | sipush _ => exact zM_sipush Y hp hd hm hs
  | lconst _ => exact zM_lconst Y hp hd hm hs
  | dconst _ => exact zM_dconst Y hp hd hm hs
  | ldc _ => exact zM_ldc Y hp hd hm hs
  | ldc2_w _ => exact zM_ldc2_w Y hp hd hm hs
  | iinc _ _ => exact zM_iinc Y hp hd hm hs
  | pop => exact zM_pop Y hp hd hm hs
  | dup => exact zM_dup Y hp hd hm hs
  | dup2 => exact zM_dup2 Y hp hd hm hs
  | iadd => exact zM_iadd Y hp hd hm hs
  | isub => exact zM_isub Y hp hd hm hs
  | imul => exact zM_imul Y hp hd hm hs
  | iand => exact zM_iand Y hp hd hm hs
  | ior => exact zM_ior Y hp hd hm hs
  | ixor => exact zM_ixor Y hp hd hm hs
  | idiv => exact zM_idiv Y hp hd hm hs
  | irem => exact zM_irem Y hp hd hm hs
  | ishl => exact zM_ishl Y hp hd hm hs
  | ishr => exact zM_ishr Y hp hd hm hs
  | iushr => exact zM_iushr Y hp hd hm hs
  | ladd => exact zM_ladd Y hp hd hm hs
  | lsub => exact zM_lsub Y hp hd hm hs
  | lmul => exact zM_lmul Y hp hd hm hs
  | land => exact zM_land Y hp hd hm hs
  | lor => exact zM_lor Y hp hd hm hs
  | lxor => exact zM_lxor Y hp hd hm hs
  | ldiv => exact zM_ldiv Y hp hd hm hs
  | lrem => exact zM_lrem Y hp hd hm hs
  | lneg => exact zM_lneg Y hp hd hm hs
  | lshl => exact zM_lshl Y hp hd hm hs
  | lcmp => exact zM_lcmp Y hp hd hm hs
  | i2l => exact zM_i2l Y hp hd hm hs
  | l2i => exact zM_l2i Y hp hd hm hs
  | i2b => exact zM_i2b Y hp hd hm hs
  | i2c => exact zM_i2c Y hp hd hm hs
  | i2d => exact zM_i2d Y hp hd hm hs
  | ddiv => exact zM_ddiv Y hp hd hm hs
  | dcmp _ => exact zM_dcmp Y hp hd hm hs
  | goto _ => exact zM_goto Y hp hd hm hs
  | tableswitch _ _ _ _ => exact zM_tableswitch Y hp hd hm hs
  | lookupswitch _ _ => exact zM_lookupswitch Y hp hd hm hs
  | getfield _ => exact zM_getfield Y hp hd hm hs
  | getstatic _ => exact zM_getstatic Y hp hd hm hs
  | putfield _ => exact zM_putfield Y hp hd hm hs
  | iaload => exact zM_iaload Y hp hd hm hs
  | laload => exact zM_laload Y hp hd hm hs
  | daload => exact zM_daload Y hp hd hm hs
  | baload => exact zM_baload Y hp hd hm hs
  | aaload => exact zM_aaload Y hp hd hm hs
  | iastore => exact zM_iastore Y hp hd hm hs
  | lastore => exact zM_lastore Y hp hd hm hs
  | dastore => exact zM_dastore Y hp hd hm hs
  | bastore => exact zM_bastore Y hp hd hm hs
  | aastore => exact zM_aastore Y hp hd hm hs
  | arraylength => exact zM_arraylength Y hp hd hm hs
  | newarray _ => exact zM_newarray Y hp hd hm hs
  | anewarray _ => exact zM_anewarray Y hp hd hm hs
  | multianewarray _ _ => exact zM_multianewarray Y hp hd hm hs
  | new _ => exact zM_new Y hp hd hm hs
  | invokestatic _ => exact zM_invokestatic Y hp hd hm hs
  | invokevirtual _ => exact zM_invokevirtual Y hp hd hm hs
  | invokespecial _ => exact zM_invokespecial Y hp hd hm hs
  | ireturn => exact zM_ireturn Y hp hd hm hs
  | lreturn => exact zM_lreturn Y hp hd hm hs
  | dreturn => exact zM_dreturn Y hp hd hm hs
  | areturn => exact zM_areturn Y hp hd hm hs
  | athrow => exact zM_athrow Y hp hd hm hs
  | return_ => exact zM_return Y hp hd hm hs
  | ifCond c _ =>
    cases c with
    | eq => exact zM_if_eq Y hp hd hm hs
    | ne => exact zM_if_ne Y hp hd hm hs
    | lt => exact zM_if_lt Y hp hd hm hs
    | ge => exact zM_if_ge Y hp hd hm hs
    | gt => exact zM_if_gt Y hp hd hm hs
    | le => exact zM_if_le Y hp hd hm hs
  | if_icmp c _ =>
    cases c with
    | eq => exact zM_icmp_eq Y hp hd hm hs
    | ne => exact zM_icmp_ne Y hp hd hm hs
    | lt => exact zM_icmp_lt Y hp hd hm hs
    | ge => exact zM_icmp_ge Y hp hd hm hs
    | gt => exact zM_icmp_gt Y hp hd hm hs
    | le => exact zM_icmp_le Y hp hd hm hs
  | _ => exact zM_nop (of_decide_eq_true hm) hs
theorem zOkM_at (hok : zOkM mi = true) {en : zE} (he : (zCode mi).2[i]? = some en) : zOk1 mi i en = true := by
  have := List.all_eq_true.mp hok i (List.mem_range.mpr (List.getElem?_eq_some_iff.mp he).1)
  rw [he] at this
  exact this
theorem zPc_at {en : zE} (he : (zCode mi).2[i]? = some en) : en.1 % 65536 = zPc mi i := by
  unfold zPc
  rw [he]
abbrev zWalkAt (l : Launch) (D : zD) (ad : Nat → Nat) (o : Nat → Value) (base n : Nat) : Prop :=
  ∀ (p : Program) (e : Env) (R : Room) (s : State) (m : MethodId) (args : Array Value) (below : List Frame) (meth : Method) (c : Code) (Q : State → Prop) (mi : Nat) (h0 : zH) (i : Nat) (L st : List Value) (h : zH) (r : zR),
    zRunF zCode n mi i L st h = some r → zCx p l s m args meth c R D ad o base mi → zEnd p l e R s m args below meth c Q D ad o base mi h0 r → (zRh r).1 ≤ h0.1 + R.cells → (zRh r).2.1 ≤ h0.2.1 + R.slots → zG p l e R s m args below meth c Q D ad o base mi h0 i L st h
theorem zOfW {y : MethodName} {ws ws' : List Jvm.Cond} {rm : Room} {Pc : Array Value → State → Prop} {Qc : Array Value → State → Outcome → State → Prop} {XC : String → Addr → State → State → Prop} {mc ms : Nat} {free : Addr → Prop} {cc : ByteArray} {maxL : Nat} {rty : Option FieldType}
    (hy : plainFor y = true) (hw : ws = Jvm.Cond.code y cc maxL rty :: ws')
    (body : ∀ p e s m args below meth c s₁, BodyLoose p l y (headSpec ws rm) cc maxL rty e s m args below meth c s₁ → c.maxLocals = maxL → (∀ x ∈ c.exceptionTable.toList, False) → Pc args s →
      W p l e (headSpec ws rm).room s m args below meth c s.heap [] 0 0 (vx_MQ below Qc XC args s mc ms free) (entryFrame m args maxL)) : vx_Met l y ws rm Pc Qc XC mc ms free := by
  refine MetFree.of_bodySF (code := cc) (maxLocals := maxL) (ret := rty) hy ?_ ?_
  · intro args s m h hn
    obtain ⟨meth, c, h1, h2, h3, h4, h5, h6, -, -⟩ := Cond.code_spec hn (atoms_spec (ws := ws) h _ (by rw [hw]; exact List.mem_cons_self))
    exact ⟨meth, c, h1, h2, h3, h4, h5, h6⟩
  · intro p e s m args below meth c s₁ B hml hP _
    have hh0 : s₁.heap = s.heap := by rw [B.state]; rfl
    have ht : ∀ x ∈ c.exceptionTable.toList, False := by
      obtain ⟨meth9, c9, h1, h2, -, -, -, -, h7, -⟩ := Cond.code_spec B.named (atoms_spec (ws := ws) B.pre _ (by rw [hw]; exact List.mem_cons_self))
      cases Option.some.inj (h1.symm.trans B.method)
      cases Option.some.inj (h2.symm.trans (Stand.of_body B).code)
      intro x hx
      rw [Array.isEmpty_iff.mp h7] at hx
      cases hx
    obtain ⟨t, a1, o, b1, b2, b3⟩ := body p e s m args below meth c s₁ B hml ht hP s₁ hh0 (Stand.of_body B)
    exact ⟨t, o, a1, b1, b2, b3⟩
theorem zOfWH {y : MethodName} {ws ws' : List Jvm.Cond} {rm : Room} {Pc : Array Value → State → Prop} {Qc : Array Value → State → Outcome → State → Prop} {XC : String → Addr → State → State → Prop} {mc ms : Nat} {free : Addr → Prop} {cc : ByteArray} {maxL : Nat} {rty : Option FieldType} {hh : List (Nat × Nat × Nat × Nat)}
    (hy : plainFor y = true) (hw : ws = Jvm.Cond.codeWith y cc maxL rty hh :: ws')
    (body : ∀ p e s m args below meth c s₁, BodyLoose p l y (headSpec ws rm) cc maxL rty e s m args below meth c s₁ → c.maxLocals = maxL → Pc args s →
      W p l e (headSpec ws rm).room s m args below meth c s.heap [] 0 0 (vx_MQ below Qc XC args s mc ms free) (entryFrame m args maxL)) : vx_Met l y ws rm Pc Qc XC mc ms free := by
  refine MetFree.of_bodySF (code := cc) (maxLocals := maxL) (ret := rty) hy ?_ ?_
  · intro args s m h hn
    obtain ⟨m9, meth, c, hn9, h1, h2, h3, h4, -, h5, h6, -⟩ := Cond.codeWith_spec (atoms_spec (ws := ws) h _ (by rw [hw]; exact List.mem_cons_self))
    cases hn.symm.trans hn9
    exact ⟨meth, c, h1, h2, h3, h4, h5, h6⟩
  · intro p e s m args below meth c s₁ B hml hP _
    have hh0 : s₁.heap = s.heap := by rw [B.state]; rfl
    obtain ⟨t, a1, o, b1, b2, b3⟩ := body p e s m args below meth c s₁ B hml hP s₁ hh0 (Stand.of_body B)
    exact ⟨t, o, a1, b1, b2, b3⟩
theorem zRel.nostat {U : State} {H : Heap} {t : Value → Value} (hR : zRel D t ad base U h H) : ∀ (q : Nat) (cell : Cell), base ≤ q → H[q]? = some cell → cell.vm.isStatics = false := by
  intro q cell hq hc
  have hlt := (Array.getElem?_eq_some_iff.mp hc).1
  have h5 := hR.2.2.1
  have hsz := hR.2.2.2.1
  have e1 := hR.2.2.2.2.1 (q + 5 - base) (by omega)
  obtain ⟨cell', c1, c2⟩ := hR.1 (q + 5 - base) (by omega)
  rw [show ad (q + 5 - base) = q by omega, hc] at c1
  cases c1
  have hro := hR.2.2.2.2.2.2 (q + 5 - base) (by omega)
  unfold zCell at c2
  split at c2
  · exact c2.2.2.1
  · split at c2
    · rename_i z; exact absurd (by unfold zRO; omega) hro
    · split at c2
      · rw [c2.2]; rfl
      · exact absurd c2 id
theorem zMet_of (hst : l.stackTraces = false) (ho : ∀ n, (o n).category = 1) (hz : ∀ k, zPc k 0 = 0) {n : Nat} (B : zWalkAt l D ad o base n) : ∀ k as c' rc, zCallee k = true → zOk (Nat.ble (zLay as).length (zCode k).1) (zRunF zCode n k 0 (zInit (zCode k).1 as) [] c') = some rc → zMet l D ad o base k as c' rc := by
  intro k as c' rc hcal hrun
  obtain ⟨hl1, hrun⟩ := zOk_some hrun
  have hle := zRunF_le _ _ _ _ _ _ _ hrun
  have hcal2 := hcal
  simp only [zCallee, Bool.and_eq_true, decide_eq_true_eq] at hcal2
  obtain ⟨⟨⟨⟨⟨⟨⟨c1, c2⟩, c3⟩, c4⟩, c5⟩, c6⟩, c7⟩, c8⟩ := hcal2
  have hl1 := Nat.le_of_ble_eq_true hl1
  rw [c8] at hrun hl1
  have key : ∀ (p : Program) (e : Env) (s : State) (m : MethodId) (args : Array Value) (below : List Frame) (meth : Method) (c : Code), p.tables.exec = Jvm.exec → c.code = zBy k → c.maxLocals = zMl k → s.vm.findClass (zOwn k) = some m.cls → (∀ w ∈ zWs, w.before args s = true) → meth.locks = false → meth.sig.returnType = zRt k → meth.name = (zY k).name → c.exceptionTable.toList = tableOf (zHh k) →
      args = (as.map (zTr ad o)).toArray → zSS D ad o base c' s → W p l e (zRm D k c' rc) s m args below meth c s.heap [] 0 0 (vx_MQ below (zQc D ad o base rc) (zXC D ad o base rc) args s ((zRh rc).1 - c'.1) ((zRh rc).2.1 - c'.2.1) (zThr base)) (entryFrame m args (zMl k)) := by
    intro p e s m args below meth c hx hb hml how hts hlk hrt hnm htab ha hS
    obtain ⟨hR, hK, hF⟩ := hS
    have C : zCx p l s m args meth c (zRm D k c' rc) D ad o base k := ⟨hx, hb, hml, how, hts, hlk, hrt, fun z => hnm.trans z, hst, fun _ => htab, hK, hF, ho, Nat.le_refl _, Nat.le_refl _, c8, hR.nostat⟩
    have hE := zEnd_of (e := e) (below := below) (h0 := c') (r := rc) C htab (by show (zRh rc).1 - c'.1 + c'.1 = _; have := hle.1; omega) (by show (zRh rc).2.1 - c'.2.1 + c'.2.1 = _; have := hle.2; omega)
    have G := B p e (zRm D k c' rc) s m args below meth c _ k c' 0 _ [] c' rc hrun C hE (by show _ ≤ c'.1 + ((zRh rc).1 - c'.1); omega) (by show _ ≤ c'.2.1 + ((zRh rc).2.1 - c'.2.1); omega)
    have hLs := zLs.entry (t := zTr ad o) (zTr_cat ho) (as := as) hl1
    have hlen : (zInit (zMl k) as).length = zMl k := by
      unfold zInit
      rw [List.length_append, List.length_replicate]
      omega
    have := G hlen s.heap [] 0 0 _ hR hLs ⟨Nat.le_refl _, fun _ _ _ => rfl, fun _ z => by cases z⟩ (by omega) (by omega)
    rw [hz] at this
    subst ha
    rw [lg_entry_eq]
    exact this
  unfold zMet
  by_cases hh : zHh k = []
  · have ecw : zCw k = .code (zY k) (zBy k) (zMl k) (zRt k) := by unfold zCw; rw [if_pos hh]
    rw [ecw]
    refine zOfW (ws' := zWs) (cc := zBy k) (maxL := zMl k) (rty := zRt k) c7 rfl ?_
    intro p e s m args below meth c s₁ B9 hml hno hP
    have hts := atoms_spec B9.pre
    refine key p e s m args below meth c B9.exec B9.bytes hml (findClass_of_methodNamed B9.named) (fun w hw => hts w (List.mem_cons_of_mem _ hw)) B9.notSynchronized B9.returns (name_of_methodNamed B9.named B9.method).1 ?_ hP.1 hP.2
    rw [hh]
    exact List.eq_nil_iff_forall_not_mem.mpr fun x hx => hno x hx
  · have ecw : zCw k = .codeWith (zY k) (zBy k) (zMl k) (zRt k) (zHh k) := by unfold zCw; rw [if_neg hh]
    rw [ecw]
    refine zOfWH (ws' := zWs) (cc := zBy k) (maxL := zMl k) (rty := zRt k) (hh := zHh k) c7 rfl ?_
    intro p e s m args below meth c s₁ B9 hml hP
    have hts := atoms_spec B9.pre
    exact key p e s m args below meth c B9.exec B9.bytes hml (findClass_of_methodNamed B9.named) (fun w hw => hts w (List.mem_cons_of_mem _ hw)) B9.notSynchronized B9.returns (name_of_methodNamed B9.named B9.method).1 (vx_table (x := zY k) B9 (hts _ List.mem_cons_self)) hP.1 hP.2
theorem zWalk (hst : l.stackTraces = false) (ho : ∀ n, (o n).category = 1) (hz : ∀ k, zPc k 0 = 0) (hok : ∀ k, zOkM k = true) : ∀ n, zWalkAt l D ad o base n
  | 0 => fun _ _ _ _ _ _ _ _ _ _ _ _ _ _ _ _ _ hrun => by simp [zRunF] at hrun
  | n + 1 => by
    have B := zWalk hst ho hz hok n
    have A := zMet_of hst ho hz B
    intro p e R s m args below meth c Q mi h0 i L st h r hrun C hE hb1 hb2
    unfold zRunF at hrun
    split at hrun
    · cases hrun
    · rename_i en hen
      obtain ⟨e1, q, ms⟩ := en
      have h1 := zOkM_at (hok mi) hen
      have hp := zPc_at hen
      unfold zOk1 at h1
      split at h1
      · rename_i ri len hd
        have hd : decode (zBy mi) (e1 % 65536) = .ok (ri, len) := hd
        have hp : e1 % 65536 = zPc mi i := hp
        rw [hp] at hd
        have Y : zHy p l e R s m args below meth c Q D ad o base mi h0 i r (fun ls st h => zRunF zCode n mi (i + 1) ls st h) (fun t ls st h => zRunF zCode n mi t ls st h) (fun k as h => zOk (Nat.ble (zLay as).length (zCode k).1) (zRunF zCode n k 0 (zInit (zCode k).1 as) [] h)) :=
          ⟨C, hE, hb1, hb2, fun a b c' hr => B p e R s m args below meth c Q mi h0 (i + 1) a b c' r hr C hE hb1 hb2, fun t a b c' hr => B p e R s m args below meth c Q mi h0 t a b c' r hr C hE hb1 hb2,
            fun a b c' r' hr => zRunF_le _ _ _ _ _ _ _ hr, fun t a b c' r' hr => zRunF_le _ _ _ _ _ _ _ hr, fun k a c' rc hk hr => ⟨zRunF_le _ _ _ _ _ _ _ (zOk_some hr).2, A k a c' rc hk hr⟩⟩
        have G := zM_any Y hp hd h1 hrun
        intro hl H locs cells slots ls hR hL hS hc hs
        exact G (by rw [zMask_len]; exact hl) H locs cells slots ls hR (hL.mask ms) hS hc hs
      · cases h1
end ZWALK
