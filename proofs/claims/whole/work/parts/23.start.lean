/-! The law's start: what is known there. -/
section ZSTART
variable {s : State} {args : Array Value}
theorem zFoundI {cls : String} (h : (Cond.initialized cls).before args s = true) : ∃ c, s.vm.findClass cls = some c := by
  simp only [Cond.before, Cond.holds, Cond.value] at h
  cases hc : s.vm.findClass cls with
  | none => simp [hc] at h
  | some c => exact ⟨c, rfl⟩
def zInP (k : Nat) : Nat := if k = 12 then 117 else (zKp k).2
theorem zIn_at : ∀ k, k < 16 → lw_tbl[zInP k]? = some (.initialized (zCN k)) := by decide +kernel
def zIsInst (k : Nat) (w : Option Jvm.Cond) : Bool := match w with
  | some (.instantiable c _) => decide (c = zCN k)
  | _ => false
theorem zInst_at : ∀ k, k < 16 → k ≠ 12 → zIsInst k lw_tbl[(zKp k).1]? = true := by decide +kernel
theorem zInst_of {k : Nat} (h1 : k < 16) (h2 : k ≠ 12) : ∃ n, Jvm.Cond.instantiable (zCN k) n ∈ lw_tbl := by
  have h := zInst_at k h1 h2
  unfold zIsInst at h
  split at h
  · rename_i c n hw
    have hc := of_decide_eq_true h
    subst hc
    exact ⟨n, List.mem_of_getElem? hw⟩
  · cases h
def zD0 (s : State) : zD := (fun k => (s.vm.findClass (zCN k)).getD 0, fun k j => match s.fieldFound? (zFd k j).1 (zFd k j).2.1 (zFd k j).2.2.1 with
  | some q => q.2.2.2.slot
  | none => 0, fun k => (s.vm.findClass ("[" ++ (zAT k).toString)).getD 0)
theorem zD0_cls (hts : ∀ w ∈ lw_tbl, w.before args s = true) {k : Nat} (h : k < 16) : s.vm.findClass (zCN k) = some ((zD0 s).1 k) := by
  obtain ⟨c, hc⟩ := zFoundI (hts _ (List.mem_of_getElem? (zIn_at k h)))
  show _ = some ((s.vm.findClass (zCN k)).getD 0)
  rw [hc]
  rfl
theorem zD0_at (hts : ∀ w ∈ lw_tbl, w.before args s = true) {k : Nat} (h : k < 16) (h2 : k ≠ 12) : ClassAt s (zCN k) ((zD0 s).1 k) := by
  obtain ⟨n, hn⟩ := zInst_of h h2
  obtain ⟨c1, kX, hc1, hkX, hord, -⟩ := Cond.instantiable_spec (hts _ hn)
  have e := zD0_cls hts h
  cases Option.some.inj (e.symm.trans hc1)
  exact ⟨hc1, kX, hkX, hord⟩
/-- a field of ours as it lies -/
theorem zFld_of (hts : ∀ w ∈ lw_tbl, w.before args s = true) {k j : Nat} (hk : k < 12) (hj : j < zFn k) : ∃ cf kf fi fd d, s.fieldFound? (zFd k j).1 (zFd k j).2.1 (zFd k j).2.2.1 = some (cf, kf, fi, fd) ∧ fd.isStatic = false ∧ fd.name = (zFd k j).2.1 ∧ Jmm.declares? s.vm fd.slot ((zD0 s).1 k + 1) ((zD0 s).1 k) = some d ∧ d.2.name = fd.name := by
  have hw := hts _ (List.mem_filter.mp (zLays k hk _ (u_in_lay hj))).1
  have e := zD0_cls hts (show k < 16 by omega)
  unfold u_lay at hw
  split at hw
  · obtain ⟨c, k1, c', k', i, f, r1, r2, r3, r4, r5, r6, r7, r8, d, q1, q2, q3, q4⟩ := Cond.laysFinal_spec hw
    cases Option.some.inj (e.symm.trans r1)
    exact ⟨c', k', i, f, d, r3, r4, (State.fieldFound?_type r3 (zFdOk k (by omega) j hj)).1, q1, q3⟩
  · obtain ⟨c, k1, c', k', i, f, r1, r2, r3, r4, r5, r6, r7, d, q1, q2, q3, q4⟩ := Cond.lays_spec hw
    cases Option.some.inj (e.symm.trans r1)
    exact ⟨c', k', i, f, d, r3, r4, (State.fieldFound?_type r3 (zFdOk k (by omega) j hj)).1, q1, q3⟩
theorem zD0_fld {k j : Nat} {cf : ClassId} {kf : Class} {fi : Nat} {fd : Field} (h : s.fieldFound? (zFd k j).1 (zFd k j).2.1 (zFd k j).2.2.1 = some (cf, kf, fi, fd)) : (zD0 s).2.1 k j = fd.slot := by
  show (match s.fieldFound? (zFd k j).1 (zFd k j).2.1 (zFd k j).2.2.1 with
    | some q => q.2.2.2.slot
    | none => 0) = fd.slot
  rw [h]
theorem zKnown_of (hts : ∀ w ∈ lw_tbl, w.before args s = true) (hstr : ∀ j, j < 2 → ∃ cf kf fi fd, s.fieldFound? (zFd 12 j).1 (zFd 12 j).2.1 (zFd 12 j).2.2.1 = some (cf, kf, fi, fd) ∧ fd.isStatic = false) : zKnown (zD0 s) s := by
  refine ⟨fun k hk => zD0_cls hts hk, fun k hk h2 => zD0_at hts hk h2, fun k j hk hj => ?_, fun k i j hk hi hj hij => ?_, fun k hk => ?_⟩
  · by_cases h12 : k = 12
    · subst h12
      obtain ⟨cf, kf, fi, fd, h1, h2⟩ := hstr j hj
      exact ⟨cf, kf, fi, fd, h1, (zD0_fld h1).symm, h2⟩
    · obtain ⟨cf, kf, fi, fd, d, h1, h2, -⟩ := zFld_of hts (show k < 12 by omega) hj
      exact ⟨cf, kf, fi, fd, h1, (zD0_fld h1).symm, h2⟩
  · obtain ⟨cf, kf, fi, fd, d, h1, h2, h3, h4, h5⟩ := zFld_of hts hk hi
    obtain ⟨cf', kf', fi', fd', d', g1, g2, g3, g4, g5⟩ := zFld_of hts hk hj
    rw [zD0_fld h1, zD0_fld g1]
    exact Cond.laysApart h4 g4 h5 g5 (by rw [h3, g3]; exact zFdNm k hk i hi j hj hij)
  · have hprim : ∀ ty : FieldType, (∀ C, ty ≠ .object C) → (Cond.arrayClass ty).before args s = true → ∀ c9, c9 = (s.vm.findClass ("[" ++ ty.toString)).getD 0 → ArrOfT s c9 ty ∧ va_RA s c9 ty := by
      intro ty hty hw c9 hc9
      obtain ⟨cA, kA, comp, h1, h2, h3⟩ := Cond.arrayClass_spec hw
      have e : c9 = cA := by rw [hc9, h1]; rfl
      subst e
      refine ⟨fun n z => ⟨fun k h => (by cases h), kA, h2, comp, h3⟩, ?_⟩
      cases ty <;> first | exact h1 | exact absurd rfl (hty _)
    simp only [zAK, List.mem_cons, List.not_mem_nil, or_false] at hk
    rcases hk with rfl | rfl | rfl | rfl | rfl | rfl
    · exact hprim .int (fun C z => by cases z) (hts _ (List.mem_of_getElem? (i := 195) (by decide +kernel))) _ rfl
    · exact hprim .long (fun C z => by cases z) (hts _ (List.mem_of_getElem? (i := 196) (by decide +kernel))) _ rfl
    · exact hprim .boolean (fun C z => by cases z) (hts _ (List.mem_of_getElem? (i := 197) (by decide +kernel))) _ rfl
    · exact hprim .double (fun C z => by cases z) (hts _ (List.mem_of_getElem? (i := 1821) (by decide +kernel))) _ rfl
    · obtain ⟨comp, c, kA, h1, -, h2, h3, h4⟩ := Cond.arrayOver_spec (hts (.arrayOver (.object "PassForge$Program")) (List.mem_of_getElem? (i := 134) (by decide +kernel)))
      have e : (zD0 s).2.2 110 = c := by
        show (s.vm.findClass ("[" ++ (FieldType.object "PassForge$Program").toString)).getD 0 = c
        rw [h4]; rfl
      rw [e]
      exact ⟨fun n z => ⟨fun k h => (by cases h), kA, h2, comp, h3⟩, kA, comp, h2, h3, h1, h4⟩
    · obtain ⟨comp, c, kA, h1, h2, h3, h4⟩ := Cond.arrayOver_specA (hts (.arrayOver (.array .long)) (List.mem_of_getElem? (i := 1246) (by decide +kernel)))
      have e : (zD0 s).2.2 111 = c := by
        show (s.vm.findClass ("[" ++ (FieldType.array .long).toString)).getD 0 = c
        rw [h4]; rfl
      rw [e]
      exact ⟨fun n z => ⟨fun k h => (by cases h), kA, h2, comp, h3⟩, h4⟩
def zOPS : List Int32 := [43, 45, 42, 47, 37, 38, 124, 94, 60, 61]
def zKEYS : List Int32 := [103, 111, 116, 111, 32, 105, 102, 32, 105, 110, 32, 111, 117, 116, 32, 104, 97, 108, 116, 32]
/-- the law's first heap: the script, two texts -/
def zH0 (L : Nat) (xs : Nat → Int32) : zH := (5, 0, fun k => match k with
  | 0 => (106, (List.range L).map fun j => .int (xs j))
  | 1 => (12, [.ref 2, .int 0])
  | 2 => (103, zOPS.map .int)
  | 3 => (12, [.ref 4, .int 0])
  | 4 => (103, zKEYS.map .int)
  | _ => (50, []))
abbrev zGN : Jvm.Cond := .and given_1 narrow_1
theorem zTxt_of (hts : ∀ w ∈ lw_tbl, w.before args s = true) (hgv : zGN.before args s = true) : ∀ q ∈ zTx, ∃ a, vk_R q.1 q.2.1 q.2.2.1 a s ∧ (Term.string q.1 q.2.1).eval args s none [] s = some (.ref a) := by
  have hs := flat_of_before _ hgv
  intro q hq
  have key : ∀ (own : String) (idx : Nat) (tx : String), Jvm.Cond.stringRef own idx tx ∈ lw_tbl → (Jvm.Cond.exactly (.string own idx) "java/lang/String").before args s = true → ∃ a, vk_R own idx tx a s ∧ (Term.string own idx).eval args s none [] s = some (.ref a) := by
    intro own idx tx h1 h2
    obtain ⟨a, c, cA, kA, q1, -⟩ := Cond.exactly_spec (args := args) (first := s) (o := none) (s := s) (idx := []) (t := .string own idx) (cls := "java/lang/String") h2
    exact ⟨a, vk_R.of (A := args) (hts _ h1) q1, q1⟩
  simp only [zTx, List.mem_cons, List.not_mem_nil, or_false] at hq
  rcases hq with rfl | rfl | rfl | rfl | rfl | rfl | rfl | rfl | rfl | rfl | rfl | rfl | rfl | rfl | rfl | rfl | rfl
  · exact key _ _ _ (List.mem_of_getElem? (i := 556) (by decide +kernel)) (hs _ (by decide +kernel))
  · exact key _ _ _ (List.mem_of_getElem? (i := 604) (by decide +kernel)) (hs _ (by decide +kernel))
  · exact key _ _ _ (List.mem_of_getElem? (i := 918) (by decide +kernel)) (hs _ (by decide +kernel))
  · exact key _ _ _ (List.mem_of_getElem? (i := 932) (by decide +kernel)) (hs _ (by decide +kernel))
  · exact key _ _ _ (List.mem_of_getElem? (i := 954) (by decide +kernel)) (hs _ (by decide +kernel))
  · exact key _ _ _ (List.mem_of_getElem? (i := 1135) (by decide +kernel)) (hs _ (by decide +kernel))
  · exact key _ _ _ (List.mem_of_getElem? (i := 1143) (by decide +kernel)) (hs _ (by decide +kernel))
  · exact key _ _ _ (List.mem_of_getElem? (i := 1188) (by decide +kernel)) (hs _ (by decide +kernel))
  · exact key _ _ _ (List.mem_of_getElem? (i := 1196) (by decide +kernel)) (hs _ (by decide +kernel))
  · exact key _ _ _ (List.mem_of_getElem? (i := 1204) (by decide +kernel)) (hs _ (by decide +kernel))
  · exact key _ _ _ (List.mem_of_getElem? (i := 911) (by decide +kernel)) (hs _ (by decide +kernel))
  · exact key _ _ _ (List.mem_of_getElem? (i := 931) (by decide +kernel)) (hs _ (by decide +kernel))
  · exact key _ _ _ (List.mem_of_getElem? (i := 626) (by decide +kernel)) (hs _ (by decide +kernel))
  · exact key _ _ _ (List.mem_of_getElem? (i := 1215) (by decide +kernel)) (hs _ (by decide +kernel))
  · exact key _ _ _ (List.mem_of_getElem? (i := 1216) (by decide +kernel)) (hs _ (by decide +kernel))
  · exact key _ _ _ (List.mem_of_getElem? (i := 1393) (by decide +kernel)) (hs _ (by decide +kernel))
  · exact key _ _ _ (List.mem_of_getElem? (i := 1493) (by decide +kernel)) (hs _ (by decide +kernel))
theorem zStr_of (tm : Term) (bs : List Int32) (hlen : bs.length < 2 ^ 31) (hA : ∀ a : Nat, a < s.heap.size → ¬ zThr s.heap.size a) (hex : (Cond.exactly tm "java/lang/String").before args s = true) (hco : (Cond.eq (.field tm "java/lang/String" "coder" "B") (.int 0)).before args s = true)
    (har : (Cond.arrayOf (.field tm "java/lang/String" "value" "[B") .byte).before args s = true) (hle : (Cond.eq (.length (.field tm "java/lang/String" "value" "[B")) (.int (Int32.ofNat bs.length))).before args s = true)
    (hel : ∀ j : Nat, j < bs.length → (Cond.eq (.elem (.field tm "java/lang/String" "value" "[B") (.int (Int32.ofNat j))) (.int (bs.getD j 0))).before args s = true) :
    ∃ a v : Nat, tm.eval args s none [] s = some (.ref a) ∧ va_O "java/lang/String" a (zThr s.heap.size) s s.heap ∧ va_OF "java/lang/String" "coder" "B" (.int 0) a (zThr s.heap.size) s s.heap ∧ va_OF "java/lang/String" "value" "[B" (.ref v) a (zThr s.heap.size) s s.heap ∧ va_T .byte v bs.length (fun j => .int (bs.getD j 0)) (zThr s.heap.size) s s.heap := by
  obtain ⟨adK, adV, hS, hE⟩ := vk_Sof (args := args) (s := s) (N := 1) (tm := fun _ => tm) (len := [bs.length]) (byt := [bs]) (A := zThr s.heap.size)
    (fun i hi => by rw [show i = 0 by omega]; exact hlen) (fun i hi => hex) (fun i hi => hco) (fun i hi => har) (fun i hi => by rw [show i = 0 by omega]; exact hle) (fun i hi j hj => by rw [show i = 0 by omega] at hj ⊢; exact hel j hj) (fun i j hi hj hn => absurd (show i = j by omega) hn) hA
  exact ⟨adK 0, adV 0, hE 0 (by omega), hS.1 0 (by omega)⟩
theorem zOpsT (hgv : zGN.before args s = true) (hA : ∀ a : Nat, a < s.heap.size → ¬ zThr s.heap.size a) : ∃ a v : Nat, (Term.string "PassForgeModel" 152).eval args s none [] s = some (.ref a) ∧ va_O "java/lang/String" a (zThr s.heap.size) s s.heap ∧ va_OF "java/lang/String" "coder" "B" (.int 0) a (zThr s.heap.size) s s.heap ∧ va_OF "java/lang/String" "value" "[B" (.ref v) a (zThr s.heap.size) s s.heap ∧ va_T .byte v zOPS.length (fun j => .int (zOPS.getD j 0)) (zThr s.heap.size) s s.heap := by
  have hs := flat_of_before _ hgv
  refine zStr_of (.string "PassForgeModel" 152) zOPS (by decide) hA (hs _ (by decide +kernel)) (hs _ (by decide +kernel)) (hs _ (by decide +kernel)) (hs _ (by decide +kernel)) ?_
  intro j hj
  have h9 : ∀ j, j < zOPS.length → (Cond.eq (.elem (.field (.string "PassForgeModel" 152) "java/lang/String" "value" "[B") (.int (Int32.ofNat j))) (.int (zOPS.getD j 0))) ∈ flatC zGN := by decide +kernel
  exact hs _ (h9 j hj)
theorem zKeysT (hgv : zGN.before args s = true) (hA : ∀ a : Nat, a < s.heap.size → ¬ zThr s.heap.size a) : ∃ a v : Nat, (Term.string "PassForgeModel" 111).eval args s none [] s = some (.ref a) ∧ va_O "java/lang/String" a (zThr s.heap.size) s s.heap ∧ va_OF "java/lang/String" "coder" "B" (.int 0) a (zThr s.heap.size) s s.heap ∧ va_OF "java/lang/String" "value" "[B" (.ref v) a (zThr s.heap.size) s s.heap ∧ va_T .byte v zKEYS.length (fun j => .int (zKEYS.getD j 0)) (zThr s.heap.size) s s.heap := by
  have hs := flat_of_before _ hgv
  refine zStr_of (.string "PassForgeModel" 111) zKEYS (by decide) hA (hs _ (by decide +kernel)) (hs _ (by decide +kernel)) (hs _ (by decide +kernel)) (hs _ (by decide +kernel)) ?_
  intro j hj
  have h9 : ∀ j, j < zKEYS.length → (Cond.eq (.elem (.field (.string "PassForgeModel" 111) "java/lang/String" "value" "[B") (.int (Int32.ofNat j))) (.int (zKEYS.getD j 0))) ∈ flatC zGN := by decide +kernel
  exact hs _ (h9 j hj)
def zAd0 (b a1 v1 a2 v2 base : Nat) (k : Nat) : Nat := match k with
  | 0 => b
  | 1 => a1
  | 2 => v1
  | 3 => a2
  | 4 => v2
  | k + 5 => base + k
theorem zStart_of {b L : Nat} {xs : Nat → Int32} (hts : ∀ w ∈ lw_tbl, w.before args s = true) (hgv : zGN.before args s = true) (hX : va_X b L xs s s.heap) (hb : b < s.heap.size) :
    ∃ (ad : Nat → Nat) (o : Nat → Value), (∀ n, (o n).category = 1) ∧ zSS (zD0 s) ad o s.heap.size (zH0 L xs) s ∧ ad 0 = b := by
  have hA : ∀ a : Nat, a < s.heap.size → ¬ zThr s.heap.size a := fun a h1 h2 => by
    have h2 : s.heap.size ≤ a := h2
    omega
  have hs := flat_of_before _ hgv
  have htw : ∀ w ∈ zWs, w.before args s = true := fun w hw => hts w (List.mem_filter.mp hw).1
  obtain ⟨a1, v1, e1, O1, C1, V1, T1⟩ := zOpsT hgv hA
  obtain ⟨a2, v2, e2, O2, C2, V2, T2⟩ := zKeysT hgv hA
  obtain ⟨v0, ev0, hv0⟩ := Cond.isRef_spec (args := args) (first := s) (o := none) (idx := []) (s := s) (hs (.isRef (.static "jdk/internal/util/Preconditions" "SIOOBE_FORMATTER" "Ljava/util/function/BiFunction;")) (by decide +kernel))
  have hK : zKnown (zD0 s) s := by
    refine zKnown_of hts fun j hj => ?_
    match j, hj with
    | 0, _ => obtain ⟨cf, k, i, f, cell, h1, h2, -⟩ := V1; exact ⟨cf, k, i, f, h1, h2⟩
    | 1, _ => obtain ⟨cf, k, i, f, cell, h1, h2, -⟩ := C1; exact ⟨cf, k, i, f, h1, h2⟩
  refine ⟨zAd0 b a1 v1 a2 v2 s.heap.size, fun _ => v0, fun _ => (by cases v0 <;> first | rfl | cases hv0), ⟨?_, hK, ?_⟩, rfl⟩
  · have hstr : ∀ (a v : Nat) (bs : List Int32) (i : Nat), va_O "java/lang/String" a (zThr s.heap.size) s s.heap → va_OF "java/lang/String" "coder" "B" (.int 0) a (zThr s.heap.size) s s.heap → va_OF "java/lang/String" "value" "[B" (.ref v) a (zThr s.heap.size) s s.heap → zAd0 b a1 v1 a2 v2 s.heap.size i = v →
        ∃ cell, s.heap[a]? = some cell ∧ zCell (zD0 s) (zTr (zAd0 b a1 v1 a2 v2 s.heap.size) fun _ => v0) s (12, [.ref i, .int 0]) cell := by
      intro a v bs i hO hC hV hi
      obtain ⟨cell, h1, h2, h3, -⟩ := hO
      obtain ⟨cf, k, fi, f, c9, g1, g2, g3, g4, g5, -⟩ := hC
      obtain ⟨cf', k', fi', f', c9', k1, k2, k3, k4, k5, -⟩ := hV
      cases Option.some.inj (h1.symm.trans g3)
      cases Option.some.inj (h1.symm.trans k3)
      refine ⟨cell, h1, ?_⟩
      unfold zCell
      rw [if_pos (show (12 : Nat) < 50 by omega)]
      refine ⟨⟨Option.some.inj (h3.symm.trans (hK.1 12 (by omega))), fun z => absurd (show (12 : Nat) < 12 from z) (by omega)⟩, g4, h2, fun z => absurd rfl z, fun z => absurd (show (12 : Nat) = 11 from z) (by omega), fun j w hj => ?_⟩
      have hj2 : j < 2 := (List.getElem?_eq_some_iff.mp hj).1
      match j, hj2 with
      | 0, _ =>
        cases Option.some.inj hj
        refine ⟨_, (by rw [zD0_fld (k := 12) (j := 0) k1]; exact k5), fun _ => ?_⟩
        show _ = Value.ref (zAd0 b a1 v1 a2 v2 s.heap.size i)
        rw [hi]
      | 1, _ =>
        cases Option.some.inj hj
        exact ⟨_, (by rw [zD0_fld (k := 12) (j := 1) g1]; exact g5), fun _ => rfl⟩
    have hbyt : ∀ (v : Nat) (bs : List Int32), bs.length < 2 ^ 31 → va_T .byte v bs.length (fun j => .int (bs.getD j 0)) (zThr s.heap.size) s s.heap → ∃ cell, s.heap[v]? = some cell ∧ zCell (zD0 s) (zTr (zAd0 b a1 v1 a2 v2 s.heap.size) fun _ => v0) s (103, bs.map .int) cell := by
      intro v bs hbs hT
      obtain ⟨cell, h1, h2, h3, h4, h5, h6, -⟩ := hT
      refine ⟨cell, h1, ?_⟩
      unfold zCell
      rw [if_neg (show ¬ (103 : Nat) < 50 by omega), if_pos (Or.inl rfl)]
      refine ⟨h2, h3, ⟨by rw [List.length_map]; exact h4, by rw [List.length_map]; exact h5⟩, fun j w hj => ?_⟩
      have hj : (bs.map Value.int)[j]? = some w := hj
      rw [List.getElem?_map] at hj
      cases hq : bs[j]? with
      | none => rw [hq] at hj; cases hj
      | some x =>
        rw [hq] at hj
        cases Option.some.inj hj
        have hlt := (List.getElem?_eq_some_iff.mp hq).1
        have h7 : cell.slots[j]? = some (.int (bs.getD j 0)) := h6 j hlt
        rw [List.getD_eq_getElem?_getD, hq] at h7
        exact h7
    have l1 : a1 < s.heap.size := by obtain ⟨cell, h1, -⟩ := O1; exact (Array.getElem?_eq_some_iff.mp h1).1
    have l2 : a2 < s.heap.size := by obtain ⟨cell, h1, -⟩ := O2; exact (Array.getElem?_eq_some_iff.mp h1).1
    have l3 : v1 < s.heap.size := by obtain ⟨cell, h1, -⟩ := T1; exact (Array.getElem?_eq_some_iff.mp h1).1
    have l4 : v2 < s.heap.size := by obtain ⟨cell, h1, -⟩ := T2; exact (Array.getElem?_eq_some_iff.mp h1).1
    refine ⟨fun k hk => ?_, fun k hk => ?_, (by show 5 ≤ 5; omega), (by show s.heap.size + 5 = s.heap.size + 5; rfl), fun k hk => ?_, fun k hk => ?_, fun k hk => ?_⟩
    · have hk : k < 5 := hk
      match k, hk with
      | 0, _ =>
        obtain ⟨scr, h1, h2, h3, h4, h5⟩ := hX
        refine ⟨scr, h1, ?_⟩
        show zCell _ _ s (106, (List.range L).map fun j => .int (xs j)) scr
        unfold zCell
        rw [if_neg (show ¬ (106 : Nat) < 50 by omega), if_pos (Or.inr rfl)]
        refine ⟨h2, h3, ⟨by simp [h4], by simp [h4]⟩, fun j w hj => ?_⟩
        have hj : ((List.range L).map fun j => Value.int (xs j))[j]? = some w := hj
        rw [List.getElem?_map] at hj
        by_cases hjl : j < L
        · rw [List.getElem?_range hjl] at hj
          cases Option.some.inj hj
          exact h5 j hjl
        · rw [List.getElem?_eq_none (by simpa using hjl)] at hj
          cases hj
      | 1, _ => exact hstr a1 v1 zOPS 2 O1 C1 V1 rfl
      | 2, _ => exact hbyt v1 zOPS (by decide) T1
      | 3, _ => exact hstr a2 v2 zKEYS 4 O2 C2 V2 rfl
      | 4, _ => exact hbyt v2 zKEYS (by decide) T2
    · have hk : 5 ≤ k := hk
      match k, hk with
      | k + 5, _ => rfl
    · match k, hk with
      | k + 5, _ => show s.heap.size + k + 5 = s.heap.size + (k + 5); omega
    · match k, hk with
      | 0, _ => exact ⟨hb, Or.inr (Or.inr rfl)⟩
      | 1, _ => exact ⟨l1, Or.inl rfl⟩
      | 2, _ => exact ⟨l3, Or.inr (Or.inl rfl)⟩
      | 3, _ => exact ⟨l2, Or.inl rfl⟩
      | 4, _ => exact ⟨l4, Or.inr (Or.inl rfl)⟩
    · match k, hk with
      | k + 5, _ => show ¬ zRO 50; unfold zRO; omega
  · refine ⟨vx_Zqof (hts (.laysStatic Bundle.tN "UNASSIGNED_STACK" Bundle.steD) (List.mem_of_getElem? (i := 541) (by decide +kernel))) (hts (.initialized Bundle.tN) (List.mem_of_getElem? (i := 111) (by decide +kernel))) (hs _ (by decide +kernel)) hA, vx_Zqof (hts (.laysStatic Bundle.tN "SUPPRESSED_SENTINEL" Bundle.listD) (List.mem_of_getElem? (i := 543) (by decide +kernel))) (hts (.initialized Bundle.tN) (List.mem_of_getElem? (i := 111) (by decide +kernel))) (hs _ (by decide +kernel)) hA,
      va_Zof (hts (.laysStatic "java/lang/String" "COMPACT_STRINGS" "Z") (List.mem_of_getElem? (i := 1403) (by decide +kernel))) (hts (.initialized "java/lang/String") (List.mem_of_getElem? (i := 117) (by decide +kernel))) (va_eqt (hs _ (by decide +kernel))) hA, va_Zof (hts (.laysStatic "jdk/internal/util/Preconditions" "SIOOBE_FORMATTER" "Ljava/util/function/BiFunction;") (List.mem_of_getElem? (i := 1442) (by decide +kernel))) (hts (.initialized "jdk/internal/util/Preconditions") (List.mem_of_getElem? (i := 120) (by decide +kernel))) ev0 hA, fun q hq => ?_, va_AO.of (hts (.arrayOver (.object "PassForge$Program")) (List.mem_of_getElem? (i := 134) (by decide +kernel))), (hts (.arrayOver (.array .long)) (List.mem_of_getElem? (i := 1246) (by decide +kernel))), fun i j hi hj hn => ?_⟩
    · obtain ⟨a, h1, h2⟩ := zTxt_of hts hgv q hq
      refine ⟨a, h1, fun h0 => ?_⟩
      have hq2 : (q.1 = "PassForgeModel" ∧ q.2.1 = 152 ∧ q.2.2.2 = 1) ∨ (q.1 = "PassForgeModel" ∧ q.2.1 = 111 ∧ q.2.2.2 = 3) := by
        have : ∀ q ∈ zTx, q.2.2.2 ≠ 0 → (q.1 = "PassForgeModel" ∧ q.2.1 = 152 ∧ q.2.2.2 = 1) ∨ (q.1 = "PassForgeModel" ∧ q.2.1 = 111 ∧ q.2.2.2 = 3) := by decide +kernel
        exact this q hq h0
      rcases hq2 with ⟨g1, g2, g3⟩ | ⟨g1, g2, g3⟩
      · rw [g1, g2, e1] at h2
        rw [g3]
        cases h2; rfl
      · rw [g1, g2, e2] at h2
        rw [g3]
        cases h2; rfl
    · simp only [zEx4, List.mem_cons, List.not_mem_nil, or_false] at hi hj
      rcases hi with rfl | rfl | rfl | rfl <;> rcases hj with rfl | rfl | rfl | rfl <;> first
        | exact absurd rfl hn
        | exact va_Nc.of (hs _ (by decide +kernel))
end ZSTART
