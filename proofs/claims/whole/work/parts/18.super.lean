/-! super() of the model's own exception. -/
section ZSUPER
variable {p : Program} {l : Launch} {e : Env} {R : Room} {s : State} {m : MethodId} {args : Array Value} {below : List Frame} {meth : Method} {c : Code} {Q : State → Prop} {D : zD} {ad : Nat → Nat} {o : Nat → Value} {base : Nat} {mi : Nat} {h0 : zH} {i : Nat} {L st : List Value} {h : zH}
def zWrAt : List Jvm.Cond := (Bundle.throwableAtoms.filter vx_no) ++ Bundle.chain0Atoms "java/lang/RuntimeException" ["java/lang/Exception"] ++ [.methodLink "PassForgeModel$Wrong" 1 (Bundle.init0 "java/lang/RuntimeException"), .instantiable "PassForgeModel$Wrong" 8, .castable "PassForgeModel$Wrong" "PassForgeModel$Wrong", .selects "PassForgeModel$Wrong" Bundle.tFill0 Bundle.tFill0, .selects "PassForgeModel$Wrong" Bundle.tFill Bundle.tFill,
   .lays "PassForgeModel$Wrong" Bundle.tN "cause" "Ljava/lang/Throwable;", .lays "PassForgeModel$Wrong" Bundle.tN "stackTrace" Bundle.steD, .lays "PassForgeModel$Wrong" Bundle.tN "suppressedExceptions" Bundle.listD, .lays "PassForgeModel$Wrong" Bundle.tN "detailMessage" "Ljava/lang/String;",
   .fieldLink Bundle.tN 198 Bundle.tN "backtrace" "Ljava/lang/Object;", .lays Bundle.tN Bundle.tN "backtrace" "Ljava/lang/Object;", .lays "PassForgeModel$Wrong" Bundle.tN "backtrace" "Ljava/lang/Object;"]
theorem zWrAt_in : ∀ w ∈ zWrAt, w ∈ zWs := by
  have h : zWrAt.map some = zWrPs.map fun p => lw_tbl[p]? := by decide +kernel
  have hg : zWrAt.all zGood = true := by decide +kernel
  intro w hw
  have h1 : some w ∈ zWrAt.map some := List.mem_map.mpr ⟨w, hw, rfl⟩
  rw [h] at h1
  obtain ⟨p, -, hp⟩ := List.mem_map.mp h1
  exact List.mem_filter.mpr ⟨List.mem_of_getElem? hp, List.all_eq_true.mp hg w hw⟩
theorem zThrowable_all (hts : ∀ w ∈ zWs, w.before args s = true) (hF : zFacts ad o base s s.heap) : ∀ w ∈ Bundle.throwableAtoms, w.before args s = true :=
  vx_own (fun w hw => hts _ (zWrAt_in w (by unfold zWrAt; exact List.mem_append_left _ (List.mem_append_left _ hw)))) (vx_isRefq hF.1.1) (vx_isRefq hF.2.1.1) hF.1.2.word hF.2.1.2.word

set_option maxHeartbeats 4000000 in
theorem zS_super {a : Nat} (C : zCx p l s m args meth c R D ad o base mi) (hd : decode (zBy mi) (zPc mi i) = .ok (.invokespecial 1, 3)) (nx : zPc mi (i + 1) = zPc mi i + 3) (hown : zOwn mi = "PassForgeModel$Wrong") (hcat : zCats st ≤ 8) (hfr : 6 ≤ R.frames) (hlo : 107 ≤ R.locals) (hk : (h.2.2 a).1 = 11) (hfs : (h.2.2 a).2[2]? = some .null) (k : zG p l e R s m args below meth c Q D ad o base mi h0 (i + 1) L st (zSet h a (11, [.retAddr 0, .retAddr 0, .retAddr 0]))) : zG p l e R s m args below meth c Q D ad o base mi h0 i L (.ref a :: st) h := by
  intro hl H locs cells slots ls hR hL hS hc hs
  obtain ⟨hexec, hb, hml, how, hts, hlocks, hrt, hnm, hst, htab, hK, hF, ho, -, -, -, hns⟩ := id C
  have hro : ¬ zRO (h.2.2 a).1 := by rw [hk]; unfold zRO; omega
  have h5 := hR.ge hro
  have hlt := hR.lt (a := a) (by omega)
  obtain ⟨cell, hcell, hcls, hunk, hstat, hvm, hmon, hfl⟩ := hR.obj hk (by omega)
  have hvm := hvm (by omega)
  obtain ⟨hmo, hmc⟩ := hmon rfl
  obtain ⟨wb, hwb, hwb2⟩ := hfl 2 _ hfs
  have hwb3 := hwb2 (by simp)
  intro W hW X
  have htr : e.platform.stackTraces = false := (show e.platform.stackTraces = l.stackTraces by rw [X.admits.platform]).trans hst
  have howns : e.platform.frameOwnsMonitors = true := by rw [X.admits.platform]
  have hfin : e.platform.finalization = false := by rw [X.admits.platform]
  have hpl : e.platform.magicAccessors = ({} : Platform).magicAccessors := by rw [X.admits.platform]
  have ha : ∀ x ∈ zWrAt, x.before args s = true := fun x hx => hts _ (zWrAt_in x hx)
  have a' : ∀ x ∈ zWrAt, x.holds args s none s [] = true := fun x hx => ha x hx
  have hown' : s.vm.findClass "PassForgeModel$Wrong" = some m.cls := by rw [← hown]; exact how
  obtain ⟨T, Z, LT, LZ, Y⟩ := ThrowableC.of_atoms (args := args) howns hfin hpl (zThrowable_all hts hF)
  obtain ⟨P1, Ps, hlen, L1, hLs, hP1m, hlink1, hlink⟩ := Bundle.chain0 (args := args) hpl Y.init0 ["java/lang/Exception"] "java/lang/RuntimeException" (by decide +kernel) (by decide +kernel) (fun x hx => ha x (by unfold zWrAt; exact List.mem_append_left _ (List.mem_append_right _ hx)))
  obtain ⟨c1, kX, hc1, hkX, hord, -, -, hn8⟩ := Cond.instantiable_spec (a' (.instantiable "PassForgeModel$Wrong" 8) (by simp [zWrAt]))
  have hfound : s.vm.findClass "PassForgeModel$Wrong" = some (D.1 11) := hK.1 11 (by omega)
  cases Option.some.inj (hc1.symm.trans hfound)
  have hsel0 : selectMethod e.platform s.vm (D.1 11) T.fill0 = .method T.fill0 := by
    obtain ⟨c2, r2, m2, q1, q2, q3, q4, -⟩ := Cond.selects_spec (a' (.selects "PassForgeModel$Wrong" Bundle.tFill0 Bundle.tFill0) (by simp [zWrAt]))
    cases Option.some.inj (q1.symm.trans hfound)
    cases Option.some.inj (q2.symm.trans (State.methodFound?_of_named Y.fill0 (by decide)))
    cases Option.some.inj (q3.symm.trans Y.fill0)
    rw [Launch.admits_selectMethod X.admits]; exact q4
  have hselF : selectMethod e.platform s.vm (D.1 11) T.fill = .method T.fill := by
    obtain ⟨c2, r2, m2, q1, q2, q3, q4, -⟩ := Cond.selects_spec (a' (.selects "PassForgeModel$Wrong" Bundle.tFill Bundle.tFill) (by simp [zWrAt]))
    cases Option.some.inj (q1.symm.trans hfound)
    cases Option.some.inj (q2.symm.trans (State.methodFound?_of_named Y.fill (by decide)))
    cases Option.some.inj (q3.symm.trans Y.fill)
    rw [Launch.admits_selectMethod X.admits]; exact q4
  obtain ⟨cellS0, hcS0, hiss⟩ := Y.statics
  obtain ⟨u0, hu0⟩ := Cond.staticRefV Y.unassigned LT.unassignedStatic LT.statics hcS0 hiss (vx_isRefq (args := args) hF.1.1)
  obtain ⟨sen, hsen⟩ := Cond.staticRefV Y.sentinel LT.sentinelStatic LT.statics hcS0 hiss (vx_isRefq (args := args) hF.2.1.1)
  obtain ⟨ci198, i198, fB, hk198, hg198, ha198, hsB, -, hnB, htB, hffB⟩ := Cond.ownField (t := .object "java/lang/Object") Y.found LT.cls (by decide +kernel) (a' (.fieldLink Bundle.tN 198 Bundle.tN "backtrace" "Ljava/lang/Object;") (by simp [zWrAt])) (a' (.lays Bundle.tN Bundle.tN "backtrace" "Ljava/lang/Object;") (by simp [zWrAt]))
  sorry
end ZSUPER
