/-! What is known of a state, beside its heap. -/
section ZSTATE
def zThr (base : Nat) : Nat → Prop := fun q => base ≤ q
def zKnown (D : zD) (U : State) : Prop :=
  (∀ k, k < 16 → U.vm.findClass (zCN k) = some (D.1 k)) ∧ (∀ k, k < 16 → k ≠ 12 → ClassAt U (zCN k) (D.1 k)) ∧
  (∀ k j, k < 13 → j < zFn k → ∃ cf kf fi fd, U.fieldFound? (zFd k j).1 (zFd k j).2.1 (zFd k j).2.2.1 = some (cf, kf, fi, fd) ∧ fd.slot = D.2.1 k j ∧ fd.isStatic = false) ∧
  (∀ k i j, k < 12 → i < zFn k → j < zFn k → i ≠ j → D.2.1 k i ≠ D.2.1 k j) ∧
  (∀ k, k ∈ zAK → ArrOfT U (D.2.2 k) (zAT k) ∧ va_RA U (D.2.2 k) (zAT k))
theorem zKnown.moved {D : zD} {U V : State} (hvm : U.vm.Alike V.vm) (h : zKnown D U) : zKnown D V := by
  refine ⟨fun k hk => by rw [hvm.findClass]; exact h.1 k hk, fun k hk hn => classAt_moved hvm (h.2.1 k hk hn), fun k j hk hj => ?_, h.2.2.2.1, fun k hk => ⟨arrOfT_moved hvm (h.2.2.2.2 k hk).1, (h.2.2.2.2 k hk).2.moved hvm⟩⟩
  obtain ⟨cf, kf, fi, fd, h1, h2, h3⟩ := h.2.2.1 k j hk hj
  obtain ⟨k', hi', -⟩ := State.fieldFound?_setVm hvm h1
  exact ⟨cf, k', fi, fd, hi', h2, h3⟩
theorem zKnown.arr {D : zD} {U : State} (h : zKnown D U) : ∀ k ∈ zAK, ArrOfT U (D.2.2 k) (zAT k) := fun k hk => (h.2.2.2.2 k hk).1
def zAOA (ty : FieldType) (U : State) : Prop := (Cond.arrayOver (.array ty)).before #[] U = true
theorem zAOA.moved {ty : FieldType} {u U : State} (hvm : u.vm.Alike U.vm) (h : zAOA ty u) : zAOA ty U := by
  have e : (Cond.arrayOver (.array ty)).before #[] U = (Cond.arrayOver (.array ty)).before #[] (u.setVm U.vm) := rfl
  show (Cond.arrayOver (.array ty)).before #[] U = true
  rw [e, Cond.arrayOver_setVmC hvm]
  exact h
def zFacts (ad : Nat → Nat) (o : Nat → Value) (base : Nat) (U : State) (H : Heap) : Prop :=
  vx_Zq Bundle.tN "UNASSIGNED_STACK" Bundle.steD (zThr base) U H ∧ vx_Zq Bundle.tN "SUPPRESSED_SENTINEL" Bundle.listD (zThr base) U H ∧
  va_Z "java/lang/String" "COMPACT_STRINGS" "Z" (.int 1) (zThr base) U H ∧ va_Z "jdk/internal/util/Preconditions" "SIOOBE_FORMATTER" "Ljava/util/function/BiFunction;" (o 0) (zThr base) U H ∧
  (∀ q ∈ zTx, ∃ a, vk_R q.1 q.2.1 q.2.2.1 a U ∧ (q.2.2.2 ≠ 0 → a = ad q.2.2.2)) ∧ va_AO "PassForge$Program" U ∧ zAOA .long U ∧ (∀ i j, i ∈ zEx4 → j ∈ zEx4 → i ≠ j → va_Nc (zCN i) (zCN j) U)
theorem zFacts.moved {ad : Nat → Nat} {o : Nat → Value} {base : Nat} {s U : State} {H : Heap} (hW : s.WarmedH U.vm) (h : zFacts ad o base s H) : zFacts ad o base U H := by
  obtain ⟨h1, h2, h3, h4, h5, h6, h7, h8⟩ := h
  refine ⟨vx_Zq.moved hW.alike h1, vx_Zq.moved hW.alike h2, va_Z.moved hW.alike h3, va_Z.moved hW.alike h4, fun q hq => ?_, va_AO.moved hW.alike h6, zAOA.moved hW.alike h7, fun i j hi hj hn => va_Nc.moved hW.alike (h8 i j hi hj hn)⟩
  obtain ⟨a, k1, k2⟩ := h5 q hq
  exact ⟨a, vk_R.warm hW k1, k2⟩
theorem zFacts.kept {ad : Nat → Nat} {o : Nat → Value} {base : Nat} {U : State} {H H1 : Heap} (h : zFacts ad o base U H) (hk : ∀ q : Nat, q < H.size → ¬ zThr base q → H1[q]? = H[q]?) : zFacts ad o base U H1 := by
  obtain ⟨h1, h2, h3, h4, h5⟩ := h
  exact ⟨h1.kept hk, h2.kept hk, h3.kept hk, h4.kept hk, h5⟩
def zSS (D : zD) (ad : Nat → Nat) (o : Nat → Value) (base : Nat) (h : zH) (U : State) : Prop := zRel D (zTr ad o) ad base U h U.heap ∧ zKnown D U ∧ zFacts ad o base U U.heap
/-- a call's contract, out of what the small machine answers -/
def zQc (D : zD) (ad : Nat → Nat) (o : Nat → Value) (base : Nat) (r : zR) : Array Value → State → Outcome → State → Prop := fun _ st oc u => match r with
  | .inl (v, h) => oc = .returned (v.map (zTr ad o)) ∧ zSS D ad o base h u ∧ va_F (zThr base) st u
  | .inr _ => False
def zXC (D : zD) (ad : Nat → Nat) (o : Nat → Value) (base : Nat) (r : zR) : String → Addr → State → State → Prop := fun E q st u => match r with
  | .inl _ => False
  | .inr (k, a, h) => E = zCN k ∧ k ∈ zEx4 ∧ q = ad a ∧ (h.2.2 a).1 = k ∧ zSS D ad o base h u ∧ va_F (zThr base) st u
def zCw (m : Nat) : Jvm.Cond := if zHh m = [] then .code (zY m) (zBy m) (zMl m) (zRt m) else .codeWith (zY m) (zBy m) (zMl m) (zRt m) (zHh m)
def zMet (l : Launch) (D : zD) (ad : Nat → Nat) (o : Nat → Value) (base : Nat) (m : Nat) (as : List Value) (h : zH) (r : zR) : Prop :=
  vx_Met l (zY m) (zCw m :: zWs) { frames := zDep m, cells := (zRh r).1 - h.1, slots := (zRh r).2.1 - h.2.1, locals := zLoc m } (va_Pc (as.map (zTr ad o)) (fun U => zSS D ad o base h U)) (zQc D ad o base r) (zXC D ad o base r) ((zRh r).1 - h.1) ((zRh r).2.1 - h.2.1) (zThr base)
/-- what holds all along a method's frame -/
def zCx (p : Program) (l : Launch) (s : State) (m : MethodId) (args : Array Value) (meth : Method) (c : Code) (R : Room) (D : zD) (ad : Nat → Nat) (o : Nat → Value) (base : Nat) (mi : Nat) : Prop :=
  p.tables.exec = Jvm.exec ∧ c.code = zBy mi ∧ c.maxLocals = zMl mi ∧ s.vm.findClass (zOwn mi) = some m.cls ∧ (∀ w ∈ zWs, w.before args s = true) ∧ meth.locks = false ∧ meth.sig.returnType = zRt mi ∧ ((zY mi).name = "<init>" → meth.name = "<init>") ∧ l.stackTraces = false ∧
  (zHh mi ≠ [] → c.exceptionTable.toList = tableOf (zHh mi)) ∧ zKnown D s ∧ zFacts ad o base s s.heap ∧ (∀ n, (o n).category = 1) ∧ zDep mi ≤ R.frames ∧ zLoc mi ≤ R.locals ∧ (zCode mi).1 = zMl mi ∧ (∀ (q : Nat) (cell : Cell), base ≤ q → s.heap[q]? = some cell → cell.vm.isStatics = false)
abbrev zG (p : Program) (l : Launch) (e : Env) (R : Room) (s : State) (m : MethodId) (args : Array Value) (below : List Frame) (meth : Method) (c : Code) (Q : State → Prop) (D : zD) (ad : Nat → Nat) (o : Nat → Value) (base : Nat) (mi : Nat) (h0 : zH) (i : Nat) (L st : List Value) (h : zH) : Prop :=
  L.length = zMl mi → ∀ (H : Heap) (locs : List Loc) (cells slots : Nat) (ls : Array Slot), zRel D (zTr ad o) ad base s h H → zLs (zTr ad o) ls L → va_S (zThr base) s.heap H locs → cells + h0.1 = h.1 → slots + h0.2.1 = h.2.1 → W p l e R s m args below meth c H locs cells slots Q (F0 m (zPc mi i) ls (st.map (zTr ad o)))
end ZSTATE
