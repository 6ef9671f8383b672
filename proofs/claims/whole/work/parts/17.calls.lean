/-! Calls, ends of methods, throws. -/
section ZCALL
variable {p : Program} {l : Launch} {e : Env} {R : Room} {s : State} {m : MethodId} {args : Array Value} {below : List Frame} {meth : Method} {c : Code} {Q : State → Prop} {D : zD} {ad : Nat → Nat} {o : Nat → Value} {base : Nat} {mi : Nat} {h0 : zH} {i : Nat} {L st : List Value} {h : zH}
theorem zBlind {D : zD} {ad : Nat → Nat} {o : Nat → Value} {base : Nat} {h : zH} (av : List Value) : FrameBlind (va_Pc av (fun U => zSS D ad o base h U)) := by
  intro a U g mk q
  obtain ⟨q0, q1, q2, q3⟩ := q
  exact ⟨q0, zRel.moved (U := U) (V := U.calling g mk a) (Vm.Alike.refl U.vm) q1, zKnown.moved (U := U) (V := U.calling g mk a) (Vm.Alike.refl U.vm) q2, zFacts.moved (s := U) (U := U.calling g mk a) (State.WarmedH.refl U) q3⟩
theorem zSS_at (C : zCx p l s m args meth c R D ad o base mi) {H : Heap} {locs : List Loc} (hR : zRel D (zTr ad o) ad base s h H) (hS : va_S (zThr base) s.heap H locs) : ∀ U : State, U.heap = H → s.WarmedH U.vm → zSS D ad o base h U := by
  intro U hU hW
  refine ⟨by rw [hU]; exact hR.moved hW.alike, C.2.2.2.2.2.2.2.2.2.2.1.moved hW.alike, by rw [hU]; exact (C.2.2.2.2.2.2.2.2.2.2.2.1.kept hS.2.1).moved hW⟩
theorem zCw_in {cm : Nat} (hc : zCallee cm = true) : zCw cm ∈ zWs := by
  simp only [zCallee, Bool.and_eq_true] at hc
  have h1 := hc.1.1.1.1.1.1.1
  unfold zCw
  by_cases e : zHh cm = []
  · rw [if_pos e] at h1 ⊢; exact zHas_in h1
  · rw [if_neg e] at h1 ⊢; exact zHas_in h1
theorem zWsC_at {cm : Nat} (C : zCx p l s m args meth c R D ad o base mi) (hc : zCallee cm = true) : ∀ w ∈ zCw cm :: zWs, ∀ (a' : Array Value) (U : State), s.WarmedH U.vm → w.before a' U = true := by
  intro w hw a' U hW
  rcases List.mem_cons.mp hw with rfl | hw
  · exact zWs_at hW C.2.2.2.2.1 _ (zCw_in hc)
  · exact zWs_at hW C.2.2.2.2.1 _ hw
abbrev zRm (D : zD) (cm : Nat) (h : zH) (r : zR) : Room := { frames := zDep cm, cells := (zRh r).1 - h.1, slots := (zRh r).2.1 - h.2.1, locals := zLoc cm }
/-- what stands behind a call -/
theorem zAfter {pc : Nat} {ls : Array Slot} {st0 rest : List Value} {H : Heap} {locs : List Loc} {cells slots : Nat} {rc : zR} {a : Array Value} (C : zCx p l s m args meth c R D ad o base mi) (hS : va_S (zThr base) s.heap H locs) (hle : zLe h (zRh rc)) (hc : cells + h0.1 = h.1) (hs : slots + h0.2.1 = h.2.1)
    (hr : vx_Run p l e R s m args below meth c H locs cells slots ((zRh rc).1 - h.1) ((zRh rc).2.1 - h.2.1) (F0 m pc ls st0) (rest.map (zTr ad o)) (zQc D ad o base rc a) (zXC D ad o base rc) (zThr base))
    (kr : ∀ v h', rc = .inl (v, h') → ∀ (H : Heap) (locs : List Loc) (cells slots : Nat), zRel D (zTr ad o) ad base s h' H → va_S (zThr base) s.heap H locs → cells + h0.1 = h'.1 → slots + h0.2.1 = h'.2.1 → W p l e R s m args below meth c H locs cells slots Q (F0 m (pc + 3) ls ((v.toList ++ rest).map (zTr ad o))))
    (kx : ∀ kd q h', rc = .inr (kd, q, h') → kd ∈ zEx4 → (h'.2.2 q).1 = kd → ∀ (H : Heap) (locs : List Loc) (cells slots : Nat), zRel D (zTr ad o) ad base s h' H → va_S (zThr base) s.heap H locs → cells + h0.1 = h'.1 → slots + h0.2.1 = h'.2.1 → vx_W p l e R s m args below meth c H locs cells slots Q (F0 m pc ls (rest.map (zTr ad o))) (ad q)) :
    W p l e R s m args below meth c H locs cells slots Q (F0 m pc ls st0) := by
  intro T hT X
  have fin : ∀ {st₀ t T' : State} {L : List Loc}, st₀.heap = H → T'.heap = t.heap → va_F (zThr base) st₀ t → (∀ q ∈ L, zThr base q.base) → va_S (zThr base) s.heap T'.heap (locs ++ L) := by
    intro st₀ t T' L g0 e1 hF hL
    obtain ⟨hz, hk⟩ := hF
    rw [g0] at hz hk
    refine ⟨Nat.le_trans hS.1 (by rw [e1]; exact hz), fun q h1 h2 => ?_, fun q hq => ?_⟩
    · rw [e1, hk q (Nat.lt_of_lt_of_le h1 hS.1) h2]; exact hS.2.1 q h1 h2
    · rcases List.mem_append.mp hq with h | h
      · exact hS.2.2 q h
      · exact hL q h
  rcases hr T hT X with ⟨v, st₀, t, T', L, g0, X', hL, e1, e2, hQ, stp⟩ | ⟨q, st₀, t, T', L, E, ce, g0, X', hL, e1, e2, hX, hce, hcv, hcl, stp⟩
  · cases rc with
    | inr q => exact hQ.elim
    | inl q =>
      obtain ⟨v', h'⟩ := q
      obtain ⟨hv, hss, hF⟩ := hQ
      cases hv
      have hle' : zLe h h' := hle
      have hal : t.vm.Alike s.vm := by rw [← e2]; exact X'.warmed.alike.symm
      obtain ⟨t2, a1, b1⟩ := kr v' h' rfl T'.heap (locs ++ L) (cells + (h'.1 - h.1)) (slots + (h'.2.1 - h.2.1)) (by rw [e1]; exact hss.1.moved hal) (fin g0 e1 hF hL) (by have := hle'.1; omega) (by have := hle'.2; omega) T' rfl X'
      refine ⟨t2, stp t2 ?_, b1⟩
      have e9 : (v'.toList ++ rest).map (zTr ad o) = (v'.map (zTr ad o)).toList ++ rest.map (zTr ad o) := by cases v' <;> simp
      rw [e9] at a1
      exact a1
  · cases rc with
    | inl q => exact hX.elim
    | inr q' =>
      obtain ⟨kd, q', h'⟩ := q'
      obtain ⟨hE, hin, hq, hkd, hss, hF⟩ := hX
      subst hq
      have hle' : zLe h h' := hle
      have hal : t.vm.Alike s.vm := by rw [← e2]; exact X'.warmed.alike.symm
      obtain ⟨t2, a1, b1⟩ := kx kd q' h' rfl hin hkd T'.heap (locs ++ L) (cells + (h'.1 - h.1)) (slots + (h'.2.1 - h.2.1)) (by rw [e1]; exact hss.1.moved hal) (fin g0 e1 hF hL) (by have := hle'.1; omega) (by have := hle'.2; omega) T' rfl X'
      exact ⟨t2, stp.trans a1, b1⟩
theorem zCat4 : ∀ k ∈ zEx4, Jvm.Cond.castable (zCN k) (zCN k) ∈ zWs := by
  have h : ∀ (k p : Nat), zHas p (.castable (zCN k) (zCN k)) = true → Jvm.Cond.castable (zCN k) (zCN k) ∈ zWs := fun k p q => zHas_in q
  intro k hk
  simp only [zEx4, List.mem_cons, List.not_mem_nil, or_false] at hk
  rcases hk with rfl | rfl | rfl | rfl
  · exact h 11 1510 (by decide +kernel)
  · exact h 13 516 (by decide +kernel)
  · exact h 14 597 (by decide +kernel)
  · exact h 15 904 (by decide +kernel)
theorem zHand_some {own : String} {J : Nat → Option zR} {kd pc : Nat} {r : zR} (hkd : kd ∈ zEx4) (ho : own = zOwn mi) (hNc : ∀ i j, i ∈ zEx4 → j ∈ zEx4 → i ≠ j → va_Nc (zCN i) (zCN j) s) (hts : ∀ w ∈ zWs, w.before args s = true) : ∀ (tab : List (Nat × Nat × Nat × Nat)) (hs : List Nat), zHsOk mi pc tab hs = true → zHand J none hs kd = some r →
    ∃ pre x suf tg, tableOf tab = pre ++ x :: suf ∧ covers x pc = true ∧ (∀ z ∈ pre, covers z pc = false ∨ (z.catchType ≠ 0 ∧ ∃ nm : String, (Cond.classLink own z.catchType nm).before args s = true ∧ va_Nc (zCN kd) nm s)) ∧ x.catchType ≠ 0 ∧ (Cond.classLink own x.catchType (zCN kd)).before args s = true ∧ zPc mi tg = x.handlerPc ∧ J tg = some r
  | [], hs, h1, h2 => by
    cases hs with
    | nil => simp [zHand] at h2
    | cons a l => simp [zHsOk] at h1
  | (st, en, hd, ct) :: tab, hs, h1, h2 => by
    unfold zHsOk at h1
    split at h1
    · rename_i hcov
      split at h1
      · rename_i k t r9
        simp only [Bool.and_eq_true, decide_eq_true_eq] at h1
        obtain ⟨⟨⟨⟨c1, c2⟩, c3⟩, c4⟩, c5⟩ := h1
        have hk4 : k ∈ zEx4 := List.elem_iff.mp c4
        have hcv : covers (⟨st, en, hd, ct⟩ : ExceptionTableEntry) pc = true := by simp [covers, hcov]
        have hl := hts _ (zHas_in c3)
        unfold zHand at h2
        by_cases e : kd = k
        · rw [if_pos e] at h2
          subst e
          exact ⟨[], ⟨st, en, hd, ct⟩, tableOf tab, t, rfl, hcv, (fun z hz => by cases hz), c2, (by rw [ho]; exact hl), c1, h2⟩
        · rw [if_neg e] at h2
          obtain ⟨pre, x, suf, tg, g1, g2, g3, g4⟩ := zHand_some hkd ho hNc hts tab r9 c5 h2
          refine ⟨⟨st, en, hd, ct⟩ :: pre, x, suf, tg, by show _ :: tableOf tab = _; rw [g1]; rfl, g2, fun z hz => ?_, g4⟩
          rcases List.mem_cons.mp hz with rfl | hz
          · exact Or.inr ⟨c2, _, by rw [ho]; exact hl, hNc kd k hkd hk4 e⟩
          · exact g3 z hz
      · cases h1
    · rename_i hcov
      obtain ⟨pre, x, suf, tg, g1, g2, g3, g4⟩ := zHand_some hkd ho hNc hts tab hs h1 h2
      refine ⟨⟨st, en, hd, ct⟩ :: pre, x, suf, tg, by show _ :: tableOf tab = _; rw [g1]; rfl, g2, fun z hz => ?_, g4⟩
      rcases List.mem_cons.mp hz with rfl | hz
      · left
        by_cases q1 : st ≤ pc
        · have q2 : ¬ pc < en := fun q => hcov ⟨q1, q⟩
          simp [covers, q2]
        · simp [covers, q1]
      · exact g3 z hz
theorem zHsNil {pc : Nat} : ∀ (tab : List (Nat × Nat × Nat × Nat)), zHsOk mi pc tab [] = true → ∀ x ∈ tableOf tab, covers x pc = false
  | [], _, x, hx => by cases hx
  | (st, en, hd, ct) :: tab, h1, x, hx => by
    unfold zHsOk at h1
    split at h1
    · cases h1
    · rename_i hcov
      have hx : x ∈ (⟨st, en, hd, ct⟩ : ExceptionTableEntry) :: tableOf tab := hx
      rcases List.mem_cons.mp hx with rfl | hx
      · by_cases q1 : st ≤ pc
        · have q2 : ¬ pc < en := fun q => hcov ⟨q1, q⟩
          simp [covers, q2]
        · simp [covers, q1]
      · exact zHsNil tab h1 x hx
def zRetOk (mi pc : Nat) (v : Option Value) : Prop :=
  (∃ x : Int32, v = some (.int x) ∧ decode (zBy mi) pc = .ok (.ireturn, 1) ∧ ∃ ty, zRt mi = some ty ∧ narrow ty (.int x) = .int x) ∨ (∃ x : Int64, v = some (.long x) ∧ decode (zBy mi) pc = .ok (.lreturn, 1) ∧ zRt mi = some .long) ∨
  (∃ x : UInt64, v = some (.double x) ∧ decode (zBy mi) pc = .ok (.dreturn, 1) ∧ zRt mi = some .double) ∨ (∃ x : Nat, v = some (.ref x) ∧ decode (zBy mi) pc = .ok (.areturn, 1) ∧ ∃ n, zRt mi = some (.object n)) ∨ (v = none ∧ decode (zBy mi) pc = .ok (.return_, 1) ∧ zRt mi = none)
/-- what is owed at the ends of a frame -/
abbrev zEnd (p : Program) (l : Launch) (e : Env) (R : Room) (s : State) (m : MethodId) (args : Array Value) (below : List Frame) (meth : Method) (c : Code) (Q : State → Prop) (D : zD) (ad : Nat → Nat) (o : Nat → Value) (base : Nat) (mi : Nat) (h0 : zH) (r : zR) : Prop :=
  (∀ (v : Option Value) (h : zH), r = .inl (v, h) → ∀ (H : Heap) (locs : List Loc) (cells slots : Nat) (ls : Array Slot) (pc : Nat), zRel D (zTr ad o) ad base s h H → va_S (zThr base) s.heap H locs → cells + h0.1 = h.1 → slots + h0.2.1 = h.2.1 → zRetOk mi pc v → W p l e R s m args below meth c H locs cells slots Q (F0 m pc ls (v.map (zTr ad o)).toList)) ∧
  (∀ (kd a : Nat) (h : zH), r = .inr (kd, a, h) → kd ∈ zEx4 → (h.2.2 a).1 = kd → ∀ (H : Heap) (locs : List Loc) (cells slots : Nat) (ls : Array Slot) (pc : Nat) (rest : List Value), zRel D (zTr ad o) ad base s h H → va_S (zThr base) s.heap H locs → cells + h0.1 = h.1 → slots + h0.2.1 = h.2.1 → (∀ x ∈ tableOf (zHh mi), covers x pc = false) → vx_W p l e R s m args below meth c H locs cells slots Q (F0 m pc ls rest) (ad a)) ∧
  (∀ (kd : Nat) (h : zH), r = .inr (kd, h.1, zPush h 6 (kd, [])) → ∀ (H : Heap) (locs : List Loc) (cells slots : Nat) (ls : Array Slot) (pc : Nat) (rest : List Value) (hint ik : Nat), decode (zBy mi) pc = .ok (.new ik, 3) → zThrowOk mi pc hint ik (.jsr_w 0, 0, [kd, 6], []) = true → ls.size = zMl mi → zRel D (zTr ad o) ad base s h H → va_S (zThr base) s.heap H locs → cells + h0.1 = h.1 → slots + h0.2.1 = h.2.1 → zCats rest ≤ 8 → W p l e R s m args below meth c H locs cells slots Q (F0 m pc ls (rest.map (zTr ad o))))
theorem zThAt_in {k : Nat} (h1 : 13 ≤ k) (h2 : k < 16) : (∀ w ∈ zThAt k, w ∈ zWs) ∧ (zThAt k).all vx_ot = true := by
  rcases (show k = 13 ∨ k = 14 ∨ k = 15 by omega) with rfl | rfl | rfl
  · exact ⟨zThAt_13, zThOt_13⟩
  · exact ⟨zThAt_14, zThOt_14⟩
  · exact ⟨zThAt_15, zThOt_15⟩
theorem zFit4 : ∀ k, k < 16 → 13 ≤ k → Bundle.fit (zCN k) = true := by decide +kernel
theorem zFitN : ∀ n ∈ zNames, Bundle.fit n = true := by decide +kernel
set_option maxHeartbeats 1000000 in
theorem zEnd_of {r : zR} (C : zCx p l s m args meth c R D ad o base mi) (htab : c.exceptionTable.toList = tableOf (zHh mi)) (hsz : R.cells + h0.1 = (zRh r).1) (hss : R.slots + h0.2.1 = (zRh r).2.1) : zEnd p l e R s m args below meth c (vx_MQ below (zQc D ad o base r) (zXC D ad o base r) args s R.cells R.slots (zThr base)) D ad o base mi h0 r := by
  obtain ⟨hx, hb, hml, hown, hts, hlocks, hrt, hnm, hst, -, hK, hF, ho, hfr, hlo, -⟩ := id C
  refine ⟨?_, ?_, ?_⟩
  · intro v h hr H locs cells slots ls pc hR hS hc hs hok
    subst hr
    have hsz : R.cells + h0.1 = h.1 := hsz
    have hss : R.slots + h0.2.1 = h.2.1 := hss
    have e1 : cells = R.cells := by omega
    have e2 : slots = R.slots := by omega
    subst e1
    subst e2
    have post : ∀ t : State, t.heap = H → s.WarmedH t.vm → zQc D ad o base (.inl (v, h)) args s (.returned (v.map (zTr ad o))) t := fun t ht hW => ⟨rfl, zSS_at C hR hS t ht hW, hS.F ht⟩
    refine vx_ret ?_
    rcases hok with ⟨x, rfl, hd, ty, h1, h2⟩ | ⟨x, rfl, hd, h1⟩ | ⟨x, rfl, hd, h1⟩ | ⟨x, rfl, hd, n, h1⟩ | ⟨rfl, hd, h1⟩
    · exact W.zret hx hb (by rw [hrt]; exact h1) h2 post hS.2.2 hd hlocks
    · exact W.lret hx hb (by rw [hrt]; exact h1) post hS.2.2 hd hlocks
    · exact W.dret hx hb (by rw [hrt]; exact h1) post hS.2.2 hd hlocks
    · exact W.aret hx hb (by rw [hrt]; exact h1) (Or.inl ⟨n, rfl⟩) (Or.inr ⟨_, rfl⟩) post hS.2.2 hd hlocks
    · exact W.vret hx hb (by rw [hrt]; exact h1) post hS.2.2 hd hlocks
  · intro kd a h hr hkd hka H locs cells slots ls pc rest hR hS hc hs hcov
    subst hr
    have hsz : R.cells + h0.1 = h.1 := hsz
    have hss : R.slots + h0.2.1 = h.2.1 := hss
    have hk50 : kd < 50 := by simp [zEx4] at hkd; omega
    have hk12 : kd ≠ 12 := by simp [zEx4] at hkd; omega
    obtain ⟨ce, b1, b2, b3, b4, b5, -⟩ := hR.obj hka hk50
    refine vx_out (E := zCN kd) (ce := ce) (by rw [htab]; exact hcov) hlocks b1 (b5 hk12) (by rw [b2]; exact hK.1 kd (by simp [zEx4] at hkd; omega)) ?_ hS.2.2 (by omega) (by omega)
    intro t ht hW
    exact ⟨rfl, hkd, rfl, hka, zSS_at C hR hS t ht hW, hS.F ht⟩
  · intro kd h hr H locs cells slots ls pc rest hint ik hd0 hok hlsz hR hS hc hs hcat
    subst hr
    have hsz : R.cells + h0.1 = h.1 + 1 := hsz
    have hss : R.slots + h0.2.1 = h.2.1 + 6 := hss
    unfold zThrowOk at hok
    split at hok
    · rename_i is ic hd4 hd6
      have e0 : ([kd, 6] : List Nat).getD 0 0 = kd := rfl
      simp only [Bool.and_eq_true, decide_eq_true_eq, List.any_eq_true, e0] at hok
      obtain ⟨⟨⟨⟨⟨⟨⟨⟨⟨⟨⟨⟨hd3, hd9⟩, -⟩, h13⟩, h16⟩, hw1⟩, hw2⟩, hpf⟩, hic⟩, ⟨tx, htx1, htx2, htx3⟩⟩, hhn⟩, h6⟩, h90⟩ := hok
      subst hic
      obtain ⟨hat, hot⟩ := zThAt_in h13 h16
      obtain ⟨sa, hsa, -⟩ := hF.2.2.2.2.1 tx htx1
      rw [htx2, htx3] at hsa
      have hfit := zFit4 kd h16 h13
      refine vx_throwS (own := zOwn mi) (cls := zCN kd) (text := tx.2.2.1) (names := zNames) (ik := ik) (is := is) (ic := zThIc kd) (sa := sa) (A := zThr base) hx hb hst hown hfit zFitN (hts _ (zHas_in hw1)) (hts _ (zHas_in hw2)) hsa (fun w hw => hts _ (hat w (by rw [hpf] at hw; exact hw))) ?_ hF.1 hF.2.1 hS (by rw [hlsz, hml]) hd0 hd3 hd4 hd6 hd9 (by rw [htab, hhn]; intro x hx; cases hx) (by show 2 + 3 < R.frames; omega) ?_ (by omega) (by omega) hlocks ?_ hS.2.2 (by omega) (by omega)
      · intro w hw
        rcases List.mem_cons.mp hw with rfl | hw
        · rfl
        · rcases List.mem_cons.mp hw with rfl | hw
          · rfl
          · rw [hpf] at hw
            exact List.all_eq_true.mp hot w hw
      · rw [zCats_map ho]
        show zCats rest + (13 * (2 + 1) + 43) ≤ R.locals
        omega
      · intro t ce hW z1 o1 hce hvm hcl
        have hcd : ce.cls = D.1 kd := Option.some.inj (hcl.symm.trans (hK.1 kd h16))
        have hz : zCell D (zTr ad o) s (kd, []) ce := by
          unfold zCell
          rw [if_pos (show kd < 50 by omega)]
          exact ⟨⟨hcd, fun z => absurd (show kd < 12 from z) (by omega)⟩, (by rw [hvm]; intro z; cases z), (by rw [hvm]; rfl), (fun _ => hvm), (fun z => absurd (show kd = 11 from z) (by omega)), (fun j v hj => by cases hj)⟩
        have hR2 : zRel D (zTr ad o) ad base s (zPush h 6 (kd, [])) t.heap := hR.push (by unfold zRO; show ¬ (kd = 12 ∨ kd = 103 ∨ kd = 106); omega) hce hz z1 o1
        have hS2 := zS_push hS z1 o1
        refine ⟨rfl, ?_, hR.top.symm, ?_, zSS_at C hR2 hS2 t rfl hW, hS2.F rfl⟩
        · simp only [zEx4, List.mem_cons, List.not_mem_nil, or_false]; omega
        · show (zUpd h.2.2 h.1 (kd, []) h.1).1 = kd
          unfold zUpd
          rw [if_pos rfl]
    · cases hok
theorem zRoom_of {cm : Nat} (C : zCx p l s m args meth c R D ad o base mi) (hr : zRoomOk mi cm = true) : zDep cm + 1 ≤ R.frames ∧ 8 + (zMl cm + 11) + zLoc cm ≤ R.locals := by
  simp only [zRoomOk, Bool.and_eq_true, decide_eq_true_eq] at hr
  have h1 := C.2.2.2.2.2.2.2.2.2.2.2.2.2.1
  have h2 := C.2.2.2.2.2.2.2.2.2.2.2.2.2.2.1
  omega
theorem zCal_of {cm : Nat} (C : zCx p l s m args meth c R D ad o base mi) (hc : zCallee cm = true) : (zCw cm).before args s = true ∧ (Cond.initialized (zY cm).cls).before args s = true ∧ ((zY cm).cls ≠ "java/lang/invoke/MethodHandle" ∧ (zY cm).cls ≠ "java/lang/invoke/VarHandle") ∧ (∀ sig, parseMethodDescriptor (zY cm).desc = some sig → zNp cm = sig.parameters.length) ∧ (zSt cm = true → (Cond.static (zY cm)).before args s = true) ∧ (zSt cm = false → (Cond.instanceMethod (zY cm)).before args s = true) := by
  have h0 := C.2.2.2.2.1 _ (zCw_in hc)
  simp only [zCallee, Bool.and_eq_true, decide_eq_true_eq] at hc
  obtain ⟨⟨⟨⟨⟨⟨⟨c1, c2⟩, c3⟩, c4⟩, c5⟩, c6⟩, c7⟩, c8⟩ := hc
  refine ⟨h0, C.2.2.2.2.1 _ (zHas_in c2), ⟨c4, c5⟩, fun sig h => ?_, fun q => ?_, fun q => ?_⟩
  · rw [h] at c6; exact (Option.some.inj c6).symm
  · rw [if_pos q] at c3; exact C.2.2.2.2.1 _ (zHas_in c3)
  · rw [q] at c3; exact C.2.2.2.2.1 _ (zHas_in (by simpa using c3))
theorem zLinkM_of {hint idx : Nat} {y : MethodName} (C : zCx p l s m args meth c R D ad o base mi) (hl : zLinkM hint (zOwn mi) idx y = true) : (Cond.methodLink (zOwn mi) idx y).before args s = true ∨ (Cond.methodLinkNest (zOwn mi) idx y (zNestHost hint)).before args s = true := by
  simp only [zLinkM, Bool.or_eq_true] at hl
  rcases hl with q | q
  · exact Or.inl (C.2.2.2.2.1 _ (zHas_in q))
  · exact Or.inr (C.2.2.2.2.1 _ (zHas_in q))
abbrev zKx (p : Program) (l : Launch) (e : Env) (R : Room) (s : State) (m : MethodId) (args : Array Value) (below : List Frame) (meth : Method) (c : Code) (Q : State → Prop) (D : zD) (ad : Nat → Nat) (o : Nat → Value) (base : Nat) (mi : Nat) (h0 : zH) (i : Nat) (L rest : List Value) (rc : zR) : Prop :=
  ∀ kd q h', rc = .inr (kd, q, h') → kd ∈ zEx4 → (h'.2.2 q).1 = kd → ∀ (H : Heap) (locs : List Loc) (cells slots : Nat) (ls : Array Slot), zLs (zTr ad o) ls L → zRel D (zTr ad o) ad base s h' H → va_S (zThr base) s.heap H locs → cells + h0.1 = h'.1 → slots + h0.2.1 = h'.2.1 → vx_W p l e R s m args below meth c H locs cells slots Q (F0 m (zPc mi i) ls (rest.map (zTr ad o))) (ad q)

theorem zS_static {idx cm hint : Nat} {as rest : List Value} {rc : zR} (C : zCx p l s m args meth c R D ad o base mi) (hd : decode (zBy mi) (zPc mi i) = .ok (.invokestatic idx, 3)) (nx : zPc mi (i + 1) = zPc mi i + 3) (hcal : zCallee cm = true) (hroom : zRoomOk mi cm = true) (hle : zLe h (zRh rc)) (hb1 : (zRh rc).1 ≤ h0.1 + R.cells) (hb2 : (zRh rc).2.1 ≤ h0.2.1 + R.slots) (hcat : zCats rest ≤ 8) (hss : zSt cm = true) (hn : as.length = zNp cm) (hlink : zLinkM hint (zOwn mi) idx (zY cm) = true) (hnest : zHh cm = [] ∨ Jvm.Cond.methodLink (zOwn mi) idx (zY cm) ∈ zWs) (hM : zMet l D ad o base cm as h rc) (kr : ∀ v h', rc = .inl (v, h') → zG p l e R s m args below meth c Q D ad o base mi h0 (i + 1) L (v.toList ++ rest) h') (kx : zKx p l e R s m args below meth c Q D ad o base mi h0 i L rest rc) : zG p l e R s m args below meth c Q D ad o base mi h0 i L (as.reverse ++ rest) h := by
  intro hl H locs cells slots ls hR hL hS hc hs
  obtain ⟨hx, hb, hml, hown, hts, -⟩ := id C
  obtain ⟨hcw, hini, hy, hlen, hst, hns⟩ := zCal_of C hcal
  obtain ⟨hf, hlo⟩ := zRoom_of C hroom
  have hws := zWsC_at C hcal
  have hsize : (F0 m (zPc mi i) ls ((as.map (zTr ad o)).reverse ++ rest.map (zTr ad o))).locals.size = zMl mi := by rw [← hl]; exact hL.1
  have hcat2 : 2 * (F0 m (zPc mi i) ls ((as.map (zTr ad o)).reverse ++ rest.map (zTr ad o))).monitorRoom + ((rest.map (zTr ad o)).map fun v => v.category).sum ≤ 8 := by
    rw [zCats_map C.2.2.2.2.2.2.2.2.2.2.2.2.1]
    show 2 * 0 + _ ≤ 8
    omega
  have hfits : cells + ((zRh rc).1 - h.1) ≤ R.cells ∧ slots + ((zRh rc).2.1 - h.2.1) ≤ R.slots := by
    have := hle.1; have := hle.2; omega
  have e9 : (as.reverse ++ rest).map (zTr ad o) = (as.map (zTr ad o)).reverse ++ rest.map (zTr ad o) := by simp
  rw [e9]
  have hp : PreS s H (va_Pc (as.map (zTr ad o)) (fun U => zSS D ad o base h U)) (as.map (zTr ad o)) := ⟨zBlind _, fun U hU hW => ⟨rfl, zSS_at C hR hS U hU hW⟩⟩
  refine zAfter C hS hle hc hs (a := (as.map (zTr ad o)).toArray) ?_ (fun v h' e H locs cells slots hR hS hc hs => by
    have := kr v h' e hl H locs cells slots ls hR hL hS hc hs
    rw [nx] at this
    exact this) (fun kd q h' e hkd hkq H locs cells slots hR hS hc hs => kx kd q h' e hkd hkq H locs cells slots ls hL hR hS hc hs)
  unfold zMet at hM
  by_cases hh : zHh cm = []
  · have ecw : zCw cm = .code (zY cm) (zBy cm) (zMl cm) (zRt cm) := by unfold zCw; rw [if_pos hh]
    rw [ecw] at hM hcw hws
    rcases zLinkM_of C hlink with hl1 | hl1
    · exact vx_runS ⟨hx, hb, hml, hown, hts⟩ hM ⟨⟨rfl, rfl, hf, hlo, hws, List.mem_cons_self, hcw, hini, hy, hlen, hl1⟩, hst hss⟩ hp rfl (by rw [List.length_map]; exact hn) hsize rfl hcat2 hd hfits
    · exact vx_runSN ⟨hx, hb, hml, hown, hts⟩ hM ⟨⟨⟨rfl, rfl, hf, hlo, hws, List.mem_cons_self⟩, hcw, hini, hy, hlen, hl1⟩, hst hss, trivial⟩ hp rfl (by rw [List.length_map]; exact hn) hsize rfl hcat2 hd hfits
  · have ecw : zCw cm = .codeWith (zY cm) (zBy cm) (zMl cm) (zRt cm) (zHh cm) := by unfold zCw; rw [if_neg hh]
    rw [ecw] at hM hcw hws
    have hl1 := hts _ (hnest.resolve_left hh)
    exact vx_runSX ⟨hx, hb, hml, hown, hts⟩ hM ⟨⟨rfl, rfl, hf, hlo, hws, List.mem_cons_self⟩, hcw, hini, hy, hlen, hl1, hst hss⟩ hp rfl (by rw [List.length_map]; exact hn) hsize rfl hcat2 hd hfits
theorem zS_virtual {idx cm kk b : Nat} {as rest : List Value} {rc : zR} (C : zCx p l s m args meth c R D ad o base mi) (hd : decode (zBy mi) (zPc mi i) = .ok (.invokevirtual idx, 3)) (nx : zPc mi (i + 1) = zPc mi i + 3) (hcal : zCallee cm = true) (hroom : zRoomOk mi cm = true) (hle : zLe h (zRh rc)) (hb1 : (zRh rc).1 ≤ h0.1 + R.cells) (hb2 : (zRh rc).2.1 ≤ h0.2.1 + R.slots) (hcat : zCats rest ≤ 8) (hss : zSt cm = false) (hn : as.length = zNp cm) (hk : zCN kk = zOwn cm) (hk13 : kk < 13) (hbk : (h.2.2 b).1 = kk) (hlink : Jvm.Cond.methodLink (zOwn mi) idx (zY cm) ∈ zWs) (hsel : Jvm.Cond.selects (zOwn cm) (zY cm) (zY cm) ∈ zWs) (hM : zMet l D ad o base cm (.ref b :: as) h rc) (kr : ∀ v h', rc = .inl (v, h') → zG p l e R s m args below meth c Q D ad o base mi h0 (i + 1) L (v.toList ++ rest) h') (kx : zKx p l e R s m args below meth c Q D ad o base mi h0 i L rest rc) : zG p l e R s m args below meth c Q D ad o base mi h0 i L (as.reverse ++ .ref b :: rest) h := by
  intro hl H locs cells slots ls hR hL hS hc hs
  obtain ⟨hx, hb, hml, hown, hts, -⟩ := id C
  obtain ⟨hcw, hini, hy, hlen, hst, hns⟩ := zCal_of C hcal
  obtain ⟨hf, hlo⟩ := zRoom_of C hroom
  have hws := zWsC_at C hcal
  have hsize : (F0 m (zPc mi i) ls ((as.map (zTr ad o)).reverse ++ .ref (ad b) :: rest.map (zTr ad o))).locals.size = zMl mi := by rw [← hl]; exact hL.1
  have hcat2 : 2 * (F0 m (zPc mi i) ls ((as.map (zTr ad o)).reverse ++ .ref (ad b) :: rest.map (zTr ad o))).monitorRoom + ((rest.map (zTr ad o)).map fun v => v.category).sum ≤ 8 := by
    rw [zCats_map C.2.2.2.2.2.2.2.2.2.2.2.2.1]
    show 2 * 0 + _ ≤ 8
    omega
  have hfits : cells + ((zRh rc).1 - h.1) ≤ R.cells ∧ slots + ((zRh rc).2.1 - h.2.1) ≤ R.slots := by
    have := hle.1; have := hle.2; omega
  have e9 : (as.reverse ++ .ref b :: rest).map (zTr ad o) = (as.map (zTr ad o)).reverse ++ .ref (ad b) :: rest.map (zTr ad o) := by simp [zTr]
  rw [e9]
  obtain ⟨cb, b1, b2, b3, b4, -, -⟩ := hR.obj hbk (by omega)
  have hp : PreV s H (zOwn cm) (ad b) (va_Pc ((.ref b :: as).map (zTr ad o)) (fun U => zSS D ad o base h U)) (as.map (zTr ad o)) := ⟨zBlind _, ⟨cb, b1, b4, by rw [b2, ← hk]; exact C.2.2.2.2.2.2.2.2.2.2.1.1 kk (by omega)⟩, fun U hU hW => ⟨rfl, zSS_at C hR hS U hU hW⟩⟩
  refine zAfter C hS hle hc hs (a := (Value.ref (ad b) :: as.map (zTr ad o)).toArray) ?_ (fun v h' e H locs cells slots hR hS hc hs => by
    have := kr v h' e hl H locs cells slots ls hR hL hS hc hs
    rw [nx] at this
    exact this) (fun kd q h' e hkd hkq H locs cells slots hR hS hc hs => kx kd q h' e hkd hkq H locs cells slots ls hL hR hS hc hs)
  unfold zMet at hM
  by_cases hh : zHh cm = []
  · have ecw : zCw cm = .code (zY cm) (zBy cm) (zMl cm) (zRt cm) := by unfold zCw; rw [if_pos hh]
    rw [ecw] at hM hcw hws
    exact vx_runV ⟨hx, hb, hml, hown, hts⟩ hM ⟨⟨rfl, rfl, hf, hlo, hws, List.mem_cons_self, hcw, hini, hy, hlen, hts _ hlink⟩, hns hss, hts _ hsel⟩ hp rfl (by rw [List.length_map]; exact hn) hsize rfl hcat2 hd hfits
  · have ecw : zCw cm = .codeWith (zY cm) (zBy cm) (zMl cm) (zRt cm) (zHh cm) := by unfold zCw; rw [if_neg hh]
    rw [ecw] at hM hcw hws
    exact vx_runVX ⟨hx, hb, hml, hown, hts⟩ hM ⟨⟨rfl, rfl, hf, hlo, hws, List.mem_cons_self⟩, hcw, hini, hy, hlen, hts _ hlink, hns hss, hts _ hsel⟩ hp rfl (by rw [List.length_map]; exact hn) hsize rfl hcat2 hd hfits
theorem zS_special {idx cm hint b : Nat} {as rest : List Value} {rc : zR} (C : zCx p l s m args meth c R D ad o base mi) (hd : decode (zBy mi) (zPc mi i) = .ok (.invokespecial idx, 3)) (nx : zPc mi (i + 1) = zPc mi i + 3) (hcal : zCallee cm = true) (hroom : zRoomOk mi cm = true) (hle : zLe h (zRh rc)) (hb1 : (zRh rc).1 ≤ h0.1 + R.cells) (hb2 : (zRh rc).2.1 ≤ h0.2.1 + R.slots) (hcat : zCats rest ≤ 8) (hss : zSt cm = false) (hn : as.length = zNp cm) (hin : (zY cm).name = "<init>") (hrt : zRt cm = none) (hh : zHh cm = []) (hlink : zLinkM hint (zOwn mi) idx (zY cm) = true) (hM : zMet l D ad o base cm (.ref b :: as) h rc) (kr : ∀ v h', rc = .inl (v, h') → zG p l e R s m args below meth c Q D ad o base mi h0 (i + 1) L (v.toList ++ rest) h') (kx : zKx p l e R s m args below meth c Q D ad o base mi h0 i L rest rc) : zG p l e R s m args below meth c Q D ad o base mi h0 i L (as.reverse ++ .ref b :: rest) h := by
  intro hl H locs cells slots ls hR hL hS hc hs
  obtain ⟨hx, hb, hml, hown, hts, -⟩ := id C
  obtain ⟨hcw, hini, hy, hlen, hst, hns⟩ := zCal_of C hcal
  obtain ⟨hf, hlo⟩ := zRoom_of C hroom
  have hws := zWsC_at C hcal
  have hsize : (F0 m (zPc mi i) ls ((as.map (zTr ad o)).reverse ++ .ref (ad b) :: rest.map (zTr ad o))).locals.size = zMl mi := by rw [← hl]; exact hL.1
  have hcat2 : 2 * (F0 m (zPc mi i) ls ((as.map (zTr ad o)).reverse ++ .ref (ad b) :: rest.map (zTr ad o))).monitorRoom + ((rest.map (zTr ad o)).map fun v => v.category).sum ≤ 8 := by
    rw [zCats_map C.2.2.2.2.2.2.2.2.2.2.2.2.1]
    show 2 * 0 + _ ≤ 8
    omega
  have hfits : cells + ((zRh rc).1 - h.1) ≤ R.cells ∧ slots + ((zRh rc).2.1 - h.2.1) ≤ R.slots := by
    have := hle.1; have := hle.2; omega
  have e9 : (as.reverse ++ .ref b :: rest).map (zTr ad o) = (as.map (zTr ad o)).reverse ++ .ref (ad b) :: rest.map (zTr ad o) := by simp [zTr]
  rw [e9]
  have hp : PreS s H (va_Pc ((.ref b :: as).map (zTr ad o)) (fun U => zSS D ad o base h U)) (.ref (ad b) :: as.map (zTr ad o)) := ⟨zBlind _, fun U hU hW => ⟨rfl, zSS_at C hR hS U hU hW⟩⟩
  refine zAfter C hS hle hc hs (a := (Value.ref (ad b) :: as.map (zTr ad o)).toArray) ?_ (fun v h' e H locs cells slots hR hS hc hs => by
    have := kr v h' e hl H locs cells slots ls hR hL hS hc hs
    rw [nx] at this
    exact this) (fun kd q h' e hkd hkq H locs cells slots hR hS hc hs => kx kd q h' e hkd hkq H locs cells slots ls hL hR hS hc hs)
  unfold zMet at hM
  have ecw : zCw cm = .code (zY cm) (zBy cm) (zMl cm) none := by unfold zCw; rw [if_pos hh, hrt]
  rw [ecw] at hM hcw hws
  rcases zLinkM_of C hlink with hl1 | hl1
  · exact vx_runI ⟨hx, hb, hml, hown, hts⟩ hM ⟨⟨rfl, rfl, hf, hlo, hws, List.mem_cons_self, hcw, hini, hy, hlen, hl1⟩, hin, hns hss⟩ hp rfl (by rw [List.length_map]; exact hn) hsize rfl hcat2 hd hfits
  · exact vx_runIN ⟨hx, hb, hml, hown, hts⟩ hM ⟨⟨⟨rfl, rfl, hf, hlo, hws, List.mem_cons_self⟩, hcw, hini, hy, hlen, hl1⟩, hin, hns hss⟩ hp rfl (by rw [List.length_map]; exact hn) hsize rfl hcat2 hd hfits
end ZCALL
