/-! The law's start: what is known there. -/
section ZSTART
variable {s : State} {args : Array Value}
theorem zFoundI {cls : String} (h : (Cond.initialized cls).before args s = true) : ∃ c, s.vm.findClass cls = some c := by
  simp only [Cond.before, Cond.holds, Cond.value] at h
  cases hc : s.vm.findClass cls with
  | none => simp [hc] at h
  | some c => exact ⟨c, rfl⟩
def zInP (k : Nat) : Nat := if k = 12 then 116 else (zKp k).2
theorem zIn_at : ∀ k, k < 16 → lw_tbl[zInP k]? = some (.initialized (zCN k)) := by decide +kernel
def zIsInst (k : Nat) (w : Option Jvm.Cond) : Bool := match w with
  | some (.instantiable c _) => decide (c = zCN k)
  | _ => false
theorem zInst_at : ∀ k, k < 16 → k ≠ 12 → zIsInst k lw_tbl[(zKp k).1]? = true := by decide +kernel
theorem zInst_of {k : Nat} (h1 : k < 16) (h2 : k ≠ 12) : ∃ n, Jvm.Cond.instantiable (zCN k) n ∈ lw_tbl := by
  have h := zInst_at k h1 h2
  unfold zIsInst at h
  split at h
  · rename_i c n hw
    have hc := of_decide_eq_true h
    subst hc
    exact ⟨n, List.mem_of_getElem? hw⟩
  · cases h
def zD0 (s : State) : zD := (fun k => (s.vm.findClass (zCN k)).getD 0, fun k j => match s.fieldFound? (zFd k j).1 (zFd k j).2.1 (zFd k j).2.2.1 with
  | some q => q.2.2.2.slot
  | none => 0, fun k => (s.vm.findClass ("[" ++ (zAT k).toString)).getD 0)
theorem zD0_cls (hts : ∀ w ∈ lw_tbl, w.before args s = true) {k : Nat} (h : k < 16) : s.vm.findClass (zCN k) = some ((zD0 s).1 k) := by
  obtain ⟨c, hc⟩ := zFoundI (hts _ (List.mem_of_getElem? (zIn_at k h)))
  show _ = some ((s.vm.findClass (zCN k)).getD 0)
  rw [hc]
  rfl
theorem zD0_at (hts : ∀ w ∈ lw_tbl, w.before args s = true) {k : Nat} (h : k < 16) (h2 : k ≠ 12) : ClassAt s (zCN k) ((zD0 s).1 k) := by
  obtain ⟨n, hn⟩ := zInst_of h h2
  obtain ⟨c1, kX, hc1, hkX, hord, -⟩ := Cond.instantiable_spec (hts _ hn)
  have e := zD0_cls hts h
  cases Option.some.inj (e.symm.trans hc1)
  exact ⟨hc1, kX, hkX, hord⟩
/-- a field of ours as it lies -/
theorem zFld_of (hts : ∀ w ∈ lw_tbl, w.before args s = true) {k j : Nat} (hk : k < 12) (hj : j < zFn k) : ∃ cf kf fi fd d, s.fieldFound? (zFd k j).1 (zFd k j).2.1 (zFd k j).2.2.1 = some (cf, kf, fi, fd) ∧ fd.isStatic = false ∧ fd.name = (zFd k j).2.1 ∧ Jmm.declares? s.vm fd.slot ((zD0 s).1 k + 1) ((zD0 s).1 k) = some d ∧ d.2.name = fd.name := by
  have hw := hts _ (List.mem_filter.mp (zLays k hk _ (u_in_lay hj))).1
  have e := zD0_cls hts (show k < 16 by omega)
  unfold u_lay at hw
  split at hw
  · obtain ⟨c, k1, c', k', i, f, r1, r2, r3, r4, r5, r6, r7, r8, d, q1, q2, q3, q4⟩ := Cond.laysFinal_spec hw
    cases Option.some.inj (e.symm.trans r1)
    exact ⟨c', k', i, f, d, r3, r4, (State.fieldFound?_type r3 (zFdOk k (by omega) j hj)).1, q1, q3⟩
  · obtain ⟨c, k1, c', k', i, f, r1, r2, r3, r4, r5, r6, r7, d, q1, q2, q3, q4⟩ := Cond.lays_spec hw
    cases Option.some.inj (e.symm.trans r1)
    exact ⟨c', k', i, f, d, r3, r4, (State.fieldFound?_type r3 (zFdOk k (by omega) j hj)).1, q1, q3⟩
theorem zD0_fld {k j : Nat} {cf : ClassId} {kf : Class} {fi : Nat} {fd : Field} (h : s.fieldFound? (zFd k j).1 (zFd k j).2.1 (zFd k j).2.2.1 = some (cf, kf, fi, fd)) : (zD0 s).2.1 k j = fd.slot := by
  show (match s.fieldFound? (zFd k j).1 (zFd k j).2.1 (zFd k j).2.2.1 with
    | some q => q.2.2.2.slot
    | none => 0) = fd.slot
  rw [h]
theorem zKnown_of (hts : ∀ w ∈ lw_tbl, w.before args s = true) (hstr : ∀ j, j < 2 → ∃ cf kf fi fd, s.fieldFound? (zFd 12 j).1 (zFd 12 j).2.1 (zFd 12 j).2.2.1 = some (cf, kf, fi, fd) ∧ fd.isStatic = false) : zKnown (zD0 s) s := by
  refine ⟨fun k hk => zD0_cls hts hk, fun k hk h2 => zD0_at hts hk h2, fun k j hk hj => ?_, fun k i j hk hi hj hij => ?_, fun k hk => ?_⟩
  · by_cases h12 : k = 12
    · subst h12
      obtain ⟨cf, kf, fi, fd, h1, h2⟩ := hstr j hj
      exact ⟨cf, kf, fi, fd, h1, (zD0_fld h1).symm, h2⟩
    · obtain ⟨cf, kf, fi, fd, d, h1, h2, -⟩ := zFld_of hts (show k < 12 by omega) hj
      exact ⟨cf, kf, fi, fd, h1, (zD0_fld h1).symm, h2⟩
  · obtain ⟨cf, kf, fi, fd, d, h1, h2, h3, h4, h5⟩ := zFld_of hts hk hi
    obtain ⟨cf', kf', fi', fd', d', g1, g2, g3, g4, g5⟩ := zFld_of hts hk hj
    rw [zD0_fld h1, zD0_fld g1]
    exact Cond.laysApart h4 g4 h5 g5 (by rw [h3, g3]; exact zFdNm k hk i hi j hj hij)
  · have hprim : ∀ ty : FieldType, (∀ C, ty ≠ .object C) → (Cond.arrayClass ty).before args s = true → ∀ c9, c9 = (s.vm.findClass ("[" ++ ty.toString)).getD 0 → ArrOfT s c9 ty ∧ va_RA s c9 ty := by
      intro ty hty hw c9 hc9
      obtain ⟨cA, kA, comp, h1, h2, h3⟩ := Cond.arrayClass_spec hw
      have e : c9 = cA := by rw [hc9, h1]; rfl
      subst e
      refine ⟨fun n z => ⟨fun k h => (by cases h), kA, h2, comp, h3⟩, ?_⟩
      cases ty <;> first | exact h1 | exact absurd rfl (hty _)
    simp only [zAK, List.mem_cons, List.not_mem_nil, or_false] at hk
    rcases hk with rfl | rfl | rfl | rfl | rfl | rfl
    · exact hprim .int (fun C z => by cases z) (hts _ (List.mem_of_getElem? (i := 194) (by decide +kernel))) _ rfl
    · exact hprim .long (fun C z => by cases z) (hts _ (List.mem_of_getElem? (i := 195) (by decide +kernel))) _ rfl
    · exact hprim .boolean (fun C z => by cases z) (hts _ (List.mem_of_getElem? (i := 196) (by decide +kernel))) _ rfl
    · exact hprim .double (fun C z => by cases z) (hts _ (List.mem_of_getElem? (i := 1815) (by decide +kernel))) _ rfl
    · obtain ⟨comp, c, kA, h1, -, h2, h3, h4⟩ := Cond.arrayOver_spec (hts (.arrayOver (.object "PassForge$Program")) (List.mem_of_getElem? (i := 133) (by decide +kernel)))
      have e : (zD0 s).2.2 110 = c := by
        show (s.vm.findClass ("[" ++ (FieldType.object "PassForge$Program").toString)).getD 0 = c
        rw [h4]; rfl
      rw [e]
      exact ⟨fun n z => ⟨fun k h => (by cases h), kA, h2, comp, h3⟩, kA, comp, h2, h3, h1, h4⟩
    · obtain ⟨comp, c, kA, h1, h2, h3, h4⟩ := Cond.arrayOver_specA (hts (.arrayOver (.array .long)) (List.mem_of_getElem? (i := 1238) (by decide +kernel)))
      have e : (zD0 s).2.2 111 = c := by
        show (s.vm.findClass ("[" ++ (FieldType.array .long).toString)).getD 0 = c
        rw [h4]; rfl
      rw [e]
      exact ⟨fun n z => ⟨fun k h => (by cases h), kA, h2, comp, h3⟩, h4⟩
end ZSTART
