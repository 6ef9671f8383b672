/-! super() of the model's own exception. -/
section ZSUPER
variable {p : Program} {l : Launch} {e : Env} {R : Room} {s : State} {m : MethodId} {args : Array Value} {below : List Frame} {meth : Method} {c : Code} {Q : State → Prop} {D : zD} {ad : Nat → Nat} {o : Nat → Value} {base : Nat} {mi : Nat} {h0 : zH} {i : Nat} {L st : List Value} {h : zH}
def zWrAt : List Jvm.Cond := (Bundle.throwableAtoms.filter vx_no) ++ Bundle.chain0Atoms "java/lang/RuntimeException" ["java/lang/Exception"] ++ [.methodLink "PassForgeModel$Wrong" 1 (Bundle.init0 "java/lang/RuntimeException"), .instantiable "PassForgeModel$Wrong" 8, .castable "PassForgeModel$Wrong" "PassForgeModel$Wrong", .selects "PassForgeModel$Wrong" Bundle.tFill0 Bundle.tFill0, .selects "PassForgeModel$Wrong" Bundle.tFill Bundle.tFill,
   .lays "PassForgeModel$Wrong" Bundle.tN "cause" "Ljava/lang/Throwable;", .lays "PassForgeModel$Wrong" Bundle.tN "stackTrace" Bundle.steD, .lays "PassForgeModel$Wrong" Bundle.tN "suppressedExceptions" Bundle.listD, .lays "PassForgeModel$Wrong" Bundle.tN "detailMessage" "Ljava/lang/String;",
   .fieldLink Bundle.tN 198 Bundle.tN "backtrace" "Ljava/lang/Object;", .lays Bundle.tN Bundle.tN "backtrace" "Ljava/lang/Object;", .lays "PassForgeModel$Wrong" Bundle.tN "backtrace" "Ljava/lang/Object;"]
theorem zWrAt_in : ∀ w ∈ zWrAt, w ∈ zWs := by
  have h : zWrAt.map some = zWrPs.map fun p => lw_tbl[p]? := by decide +kernel
  have hg : zWrAt.all zGood = true := by decide +kernel
  intro w hw
  have h1 : some w ∈ zWrAt.map some := List.mem_map.mpr ⟨w, hw, rfl⟩
  rw [h] at h1
  obtain ⟨p, -, hp⟩ := List.mem_map.mp h1
  exact List.mem_filter.mpr ⟨List.mem_of_getElem? hp, List.all_eq_true.mp hg w hw⟩
theorem zThrowable_all (hts : ∀ w ∈ zWs, w.before args s = true) (hF : zFacts ad o base s s.heap) : ∀ w ∈ Bundle.throwableAtoms, w.before args s = true :=
  vx_own (fun w hw => hts _ (zWrAt_in w (by unfold zWrAt; exact List.mem_append_left _ (List.mem_append_left _ hw)))) (vx_isRefq hF.1.1) (vx_isRefq hF.2.1.1) hF.1.2.word hF.2.1.2.word

set_option maxHeartbeats 4000000 in
theorem zS_super {a : Nat} (C : zCx p l s m args meth c R D ad o base mi) (hd : decode (zBy mi) (zPc mi i) = .ok (.invokespecial 1, 3)) (nx : zPc mi (i + 1) = zPc mi i + 3) (hown : zOwn mi = "PassForgeModel$Wrong") (hcat : zCats st ≤ 8) (hfr : 6 ≤ R.frames) (hlo : 107 ≤ R.locals) (hk : (h.2.2 a).1 = 11) (hfs : (h.2.2 a).2[2]? = some .null) (k : zG p l e R s m args below meth c Q D ad o base mi h0 (i + 1) L st (zSet h a (11, [.retAddr 0, .retAddr 0, .retAddr 0]))) : zG p l e R s m args below meth c Q D ad o base mi h0 i L (.ref a :: st) h := by
  intro hl H locs cells slots ls hR hL hS hc hs
  obtain ⟨hexec, hb, hml, how, hts, hlocks, hrt, hnm, hst, htab, hK, hF, ho, -, -, -, hns⟩ := id C
  have hro : ¬ zRO (h.2.2 a).1 := by rw [hk]; unfold zRO; omega
  have h5 := hR.ge hro
  have hlt := hR.lt (a := a) (by omega)
  obtain ⟨cell, hcell, hcls, hunk, hstat, hvm, hmon, hfl⟩ := hR.obj hk (by omega)
  have hvm := hvm (by omega)
  obtain ⟨hmo, hmc⟩ := hmon rfl
  obtain ⟨wb, hwb, hwb2⟩ := hfl 2 _ hfs
  have hwb3 := hwb2 (by simp)
  intro W hW X
  have htr : e.platform.stackTraces = false := (show e.platform.stackTraces = l.stackTraces by rw [X.admits.platform]).trans hst
  have howns : e.platform.frameOwnsMonitors = true := by rw [X.admits.platform]
  have hfin : e.platform.finalization = false := by rw [X.admits.platform]
  have hpl : e.platform.magicAccessors = ({} : Platform).magicAccessors := by rw [X.admits.platform]
  have ha : ∀ x ∈ zWrAt, x.before args s = true := fun x hx => hts _ (zWrAt_in x hx)
  have a' : ∀ x ∈ zWrAt, x.holds args s none s [] = true := fun x hx => ha x hx
  have hown' : s.vm.findClass "PassForgeModel$Wrong" = some m.cls := by rw [← hown]; exact how
  obtain ⟨T, Z, LT, LZ, Y⟩ := ThrowableC.of_atoms (args := args) howns hfin hpl (zThrowable_all hts hF)
  obtain ⟨P1, Ps, hlen, L1, hLs, hP1m, hlink1, hlink⟩ := Bundle.chain0 (args := args) hpl Y.init0 ["java/lang/Exception"] "java/lang/RuntimeException" (by decide +kernel) (by decide +kernel) (fun x hx => ha x (by unfold zWrAt; exact List.mem_append_left _ (List.mem_append_right _ hx)))
  obtain ⟨c1, kX, hc1, hkX, hord, -, -, hn8⟩ := Cond.instantiable_spec (a' (.instantiable "PassForgeModel$Wrong" 8) (by simp [zWrAt]))
  have hfound : s.vm.findClass "PassForgeModel$Wrong" = some (D.1 11) := hK.1 11 (by omega)
  cases Option.some.inj (hc1.symm.trans hfound)
  have hsel0 : selectMethod e.platform s.vm (D.1 11) T.fill0 = .method T.fill0 := by
    obtain ⟨c2, r2, m2, q1, q2, q3, q4, -⟩ := Cond.selects_spec (a' (.selects "PassForgeModel$Wrong" Bundle.tFill0 Bundle.tFill0) (by simp [zWrAt]))
    cases Option.some.inj (q1.symm.trans hfound)
    cases Option.some.inj (q2.symm.trans (State.methodFound?_of_named Y.fill0 (by decide)))
    cases Option.some.inj (q3.symm.trans Y.fill0)
    rw [Launch.admits_selectMethod X.admits]; exact q4
  have hselF : selectMethod e.platform s.vm (D.1 11) T.fill = .method T.fill := by
    obtain ⟨c2, r2, m2, q1, q2, q3, q4, -⟩ := Cond.selects_spec (a' (.selects "PassForgeModel$Wrong" Bundle.tFill Bundle.tFill) (by simp [zWrAt]))
    cases Option.some.inj (q1.symm.trans hfound)
    cases Option.some.inj (q2.symm.trans (State.methodFound?_of_named Y.fill (by decide)))
    cases Option.some.inj (q3.symm.trans Y.fill)
    rw [Launch.admits_selectMethod X.admits]; exact q4
  obtain ⟨cellS0, hcS0, hiss⟩ := Y.statics
  obtain ⟨u0, hu0⟩ := Cond.staticRefV Y.unassigned LT.unassignedStatic LT.statics hcS0 hiss (vx_isRefq (args := args) hF.1.1)
  obtain ⟨sen, hsen⟩ := Cond.staticRefV Y.sentinel LT.sentinelStatic LT.statics hcS0 hiss (vx_isRefq (args := args) hF.2.1.1)
  obtain ⟨ci198, i198, fB, hk198, hg198, ha198, hsB, -, hnB, htB, hffB⟩ := Cond.ownField (t := .object "java/lang/Object") Y.found LT.cls (by decide +kernel) (a' (.fieldLink Bundle.tN 198 Bundle.tN "backtrace" "Ljava/lang/Object;") (by simp [zWrAt])) (a' (.lays Bundle.tN Bundle.tN "backtrace" "Ljava/lang/Object;") (by simp [zWrAt])) e.platform hpl
  obtain ⟨cellS, hcS', heS, -, hkeep⟩ := X.same.2.2.2.2.2 T.aS cellS0 hcS0
  have hcellS : W.heap[T.aS]? = some cellS := hcS'
  have hba : base ≤ ad a := hR.base_le h5
  have hout' : ∀ i, (⟨T.aS, i⟩ : Loc) ∉ locs := fun i hmem => by
    have := hns _ _ (hS.2.2 _ hmem) hcS0
    rw [hiss] at this; cases this
  have hknownS : cellS.vm ≠ .unknown := by
    rw [heS]; intro hu
    rw [show cellS0.vm = .unknown from hu] at hiss
    cases hiss
  have hneS : T.aS ≠ ad a := fun q => by
    have := hns _ _ (q ▸ hba) hcS0
    rw [hiss] at this; cases this
  obtain ⟨iM, hffM⟩ := Y.msg
  obtain ⟨tyC, dC, hdC, hdnC⟩ := Cond.laysAt hfound hkX Y.cause (a' (.lays "PassForgeModel$Wrong" Bundle.tN "cause" "Ljava/lang/Throwable;") (by simp [zWrAt]))
  obtain ⟨tyS, dS, hdS, hdnS⟩ := Cond.laysAt hfound hkX Y.stack (a' (.lays "PassForgeModel$Wrong" Bundle.tN "stackTrace" Bundle.steD) (by simp [zWrAt]))
  obtain ⟨tyP, dP, hdP, hdnP⟩ := Cond.laysAt hfound hkX Y.supp (a' (.lays "PassForgeModel$Wrong" Bundle.tN "suppressedExceptions" Bundle.listD) (by simp [zWrAt]))
  obtain ⟨tyB, dB, hdB, hdnB⟩ := Cond.laysAt hfound hkX hffB (a' (.lays "PassForgeModel$Wrong" Bundle.tN "backtrace" "Ljava/lang/Object;") (by simp [zWrAt]))
  have bC := Cond.laysApart hdB hdC hdnB hdnC (by rw [hnB, Y.causeName]; decide)
  have bS := Cond.laysApart hdB hdS hdnB hdnS (by rw [hnB, Y.stackName]; decide)
  have bP := Cond.laysApart hdB hdP hdnB hdnP (by rw [hnB, Y.suppName]; decide)
  obtain ⟨cf, kf, fi, fd, g1, g2, g3⟩ := hK.2.2.1 11 2 (by omega) (by decide)
  have hfd : some (cf, kf, fi, fd) = some (T.cT, T.kT, i198, fB) := g1.symm.trans hffB
  have hfb : fB = fd := by
    have := congrArg (fun q : Option (ClassId × Class × Nat × Field) => q.map fun z => z.2.2.2) hfd
    exact (Option.some.inj this).symm
  have hsl : cell.slots[fB.slot]? = some .null := by
    rw [hfb, g2, hwb, hwb3]
    rfl
  have hcell' : W.heap[ad a]? = some cell := by rw [hW]; exact hcell
  have hskip : SkipFacts T e.platform s (fun u => u) u0 ((preparedCellV T.toThrowableT cell (ad a) u0 sen).withEntry W.cur) :=
    ⟨{ ci198 := ci198, i198 := i198, fBack := fB }, ⟨hk198, hg198, ha198, hsB⟩, by
      simpa [preparedCellV, Cell.setSlot, Cell.withEntry, Array.getElem?_setIfInBounds, bC, bS, bP, bC.symm, bS.symm, bP.symm] using hsl, fun _ _ => rfl⟩
  have htak : ∀ (f : Field) (v : Value), kX.instanceTypes[f.slot]? = some f.type → fits f.type v = true → Takes s cell f v := fun f v hty hv => by
    refine ⟨?_, ?_⟩
    · have := (Array.getElem?_eq_some_iff.mp hty).1
      omega
    · simp [State.fitsSlot, State.slotType?, hcls, hvm, hkX, hord, hty, hv]
  obtain ⟨hc1m, _⟩ : s.methodNamed? (Bundle.init0 "java/lang/RuntimeException") = some P1.m ∧ True := ⟨hP1m, trivial⟩
  obtain ⟨tm, methC, cdC, kC, vm₁, hnC, -, -, -, -, -, -, -, hW₁, st1⟩ := Steps.initCold (tb := p.tables) (e := e) (below := below) (s := s) (U := W) X.here hexec X.warmed hpl hown' (t := Bundle.init0 "java/lang/RuntimeException") rfl rfl (by decide +kernel)
    (a' (.methodLink "PassForgeModel$Wrong" 1 (Bundle.init0 "java/lang/RuntimeException")) (by simp [zWrAt])) (ha (.instanceMethod (Bundle.init0 "java/lang/RuntimeException")) (by simp [zWrAt, Bundle.chain0Atoms, Bundle.passAtoms])) (bytes := Bundle.five) (maxL := 1) (ha (.code (Bundle.init0 "java/lang/RuntimeException") Bundle.five 1 none) (by simp [zWrAt, Bundle.chain0Atoms, Bundle.passAtoms]))
    (f := F0 m (zPc mi i) ls (.ref (ad a) :: st.map (zTr ad o))) rfl (a := ad a) (rest := st.map (zTr ad o)) rfl (by rw [hb]; exact hd)
  cases Option.some.inj (hnC.symm.trans hP1m)
  have X₁ := X.noted hW₁
  have hcat2 : 2 * (F0 m (zPc mi i) ls (st.map (zTr ad o))).monitorRoom + ((st.map (zTr ad o)).map fun v => v.category).sum ≤ 8 := by
    rw [zCats_map ho]
    show 2 * 0 + _ ≤ 8
    omega
  obtain ⟨vm₂, X₂, st2⟩ := X₁.ctorPlainOffV hexec (g := F0 m (zPc mi i) ls (st.map (zTr ad o))) rfl (by show ls.size = c.maxLocals; rw [hL.1, hl, hml]) T LT Z LZ (P1 :: Ps)
    (fun P hP => by rcases List.mem_cons.mp hP with rfl | hP; exact L1; exact hLs P hP) ⟨hlink1, hlink⟩ (u0 := u0) (sen := sen) (self := ad a) (cell := cell) (cellS := cellS)
    hcell' (fun q z => by rw [z] at hvm; cases hvm) hunk hmo hmc.1 (by rw [hcls]; exact hsel0) (by rw [hcls]; exact hselF) hcellS hneS hknownS (by rw [hkeep _ (hout' _)]; exact hu0) (by rw [hkeep _ (hout' _)]; exact hsen)
    (htak _ _ tyC (by rw [Y.causeType]; rfl)) (htak _ _ tyS (by rw [Y.stackType]; exact fits_refV_array _ u0)) (htak _ _ tyP (by rw [Y.suppType]; exact fits_refV_object _ sen)) Y.objLocals hskip htr [] (by rw [hb]; exact hd)
    (by simp only [List.length_cons, hlen]; show 1 + 1 + 2 < R.frames; omega) (by simp only [List.length_cons, hlen]; show _ + (13 * (1 + 1) + 41) ≤ R.locals; omega)
  have hro0 : ¬ zRO 11 := by unfold zRO; omega
  have hlt9 : ad a < ((W.setVm vm₁).setVm vm₂).heap.size := (Array.getElem?_eq_some_iff.mp hcell').1
  have hWs : W.heap.size = H.size := by rw [hW]
  generalize hce : (preparedCellV T.toThrowableT cell (ad a) u0 sen).setSlot T.fStack.slot u0.v = ce at X₂ st2
  have c1 : ce.cls = D.1 11 := by rw [← hce]; exact hcls
  have c2 : ce.vm = .none := by rw [← hce]; exact hvm
  have c3 : ce.monitor = cell.monitor := by rw [← hce]; rfl
  have c4 : ce.slots.size = 8 := by rw [← hce]; simpa [preparedCellV, Cell.setSlot] using hmc.2
  have hlen3 : 2 < (h.2.2 a).2.length := (List.getElem?_eq_some_iff.mp hfs).1
  have hsl9 : ∀ j, j < 3 → D.2.1 11 j < 8 := fun j hj => by
    obtain ⟨w, e1, -⟩ := hfl j _ (List.getElem?_eq_getElem (show j < (h.2.2 a).2.length by omega))
    have := (Array.getElem?_eq_some_iff.mp e1).1
    rw [hmc.2] at this
    exact this
  have hz : zCell D (zTr ad o) s (11, [.retAddr 0, .retAddr 0, .retAddr 0]) ce := by
    unfold zCell
    rw [if_pos (show (11 : Nat) < 50 by omega)]
    refine ⟨⟨c1, fun _ => rfl⟩, (by rw [c2]; exact fun z => by cases z), (by rw [c2]; rfl), fun _ => c2, fun _ => ⟨by rw [c3]; exact hmo, by rw [c3]; exact hmc.1, c4⟩, fun j v hj => ?_⟩
    have hj3 : j < 3 := (List.getElem?_eq_some_iff.mp hj).1
    refine ⟨_, Array.getElem?_eq_getElem (by rw [c4]; exact hsl9 j hj3), fun hv => absurd ?_ hv⟩
    match j, hj3 with
    | 0, _ => exact (Option.some.inj hj).symm
    | 1, _ => exact (Option.some.inj hj).symm
    | 2, _ => exact (Option.some.inj hj).symm
  have hhS : (((W.setVm vm₁).setVm vm₂).setCell (ad a) ce).heap[ad a]? = some ce := heapAt_setCell_self (s := (W.setVm vm₁).setVm vm₂) ce hlt9
  have hhO : ∀ q, q ≠ ad a → (((W.setVm vm₁).setVm vm₂).setCell (ad a) ce).heap[q]? = H[q]? := fun q hq => by
    rw [← hW]
    exact heapAt_setCell_ne (s := (W.setVm vm₁).setVm vm₂) ce (fun z => hq z.symm)
  have hhZ : (((W.setVm vm₁).setVm vm₂).setCell (ad a) ce).heap.size = H.size := by
    rw [← hW]
    exact Array.size_setIfInBounds ..
  have hS2 : va_S (zThr base) s.heap (((W.setVm vm₁).setVm vm₂).setCell (ad a) ce).heap (locs ++ [⟨ad a, T.fCause.slot⟩, ⟨ad a, T.fStack.slot⟩, ⟨ad a, T.fSupp.slot⟩, ⟨ad a, T.fStack.slot⟩]) := by
    refine ⟨by rw [hhZ]; exact hS.1, fun q h1 h2 => by rw [hhO q (fun z => h2 (z ▸ hba))]; exact hS.2.1 q h1 h2, fun y hy => ?_⟩
    rcases List.mem_append.mp hy with hy | hy
    · exact hS.2.2 y hy
    · simp only [List.mem_cons, List.not_mem_nil, or_false] at hy
      rcases hy with rfl | rfl | rfl | rfl <;> exact hba
  have kk := k hl _ _ cells slots ls (hR.write h5 hlt hro0 hhS hz hhZ hhO) hL hS2 hc hs
  rw [nx] at kk
  obtain ⟨t, a1, b1⟩ := kk _ rfl X₂
  refine ⟨t, st1 _ (fun acts => ?_), b1⟩
  rw [doInvoke_state]
  exact st2 _ a1
end ZSUPER
