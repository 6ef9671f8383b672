/-! One row an instruction: those that make cells, texts, statics, copies. -/
section ZASTEP
variable {p : Program} {l : Launch} {e : Env} {R : Room} {s : State} {m : MethodId} {args : Array Value} {below : List Frame} {meth : Method} {c : Code} {Q : State → Prop} {D : zD} {ad : Nat → Nat} {o : Nat → Value} {base : Nat} {mi : Nat} {h0 : zH} {i : Nat} {L st : List Value} {h : zH}
theorem zAssign (vm : Vm) (c : ClassId) : vm.assignable c c = true := by
  first | (show vm.assignableAux _ c c = true; unfold Vm.assignableAux; simp)
theorem zS_push {H H1 : Heap} {locs : List Loc} (hS : va_S (zThr base) s.heap H locs) (z1 : H1.size = H.size + 1) (o1 : ∀ q : Nat, q < H.size → H1[q]? = H[q]?) : va_S (zThr base) s.heap H1 locs :=
  ⟨Nat.le_trans hS.1 (by omega), fun x h1 h2 => (o1 x (Nat.lt_of_lt_of_le h1 hS.1)).trans (hS.2.1 x h1 h2), hS.2.2⟩
theorem zS_newarray_int {n : Int32} (C : zCx p l s m args meth c R D ad o base mi) (hd : decode (zBy mi) (zPc mi i) = .ok (.newarray .int, 2)) (nx : zPc mi (i + 1) = zPc mi i + 2) (hn : ¬ n < 0) (hn2 : ¬ 65536 < n.toNatClampNeg) (hw : Jvm.Cond.arrayClass .int ∈ zWs) (hrc : h.1 + 1 ≤ h0.1 + R.cells) (hrs : h.2.1 + n.toNatClampNeg ≤ h0.2.1 + R.slots) (k : zG p l e R s m args below meth c Q D ad o base mi h0 (i + 1) L (.ref h.1 :: st) (zPush h n.toNatClampNeg (100, List.replicate n.toNatClampNeg (.int 0)))) : zG p l e R s m args below meth c Q D ad o base mi h0 i L (.int n :: st) h := by
  intro hl H locs cells slots ls hR hL hS hc hs
  have ht := hR.top
  have hby : n.toNatClampNeg * componentBytes (newarray.typeOf ArrayType.int) ≤ 536870912 := by
    have h8 : componentBytes (newarray.typeOf ArrayType.int) ≤ 8 := by decide
    have h9 : n.toNatClampNeg * componentBytes (newarray.typeOf ArrayType.int) ≤ 65536 * 8 := Nat.mul_le_mul (by omega) h8
    omega
  refine va_newaK (atype := .int) C.1 C.2.1 (C.2.2.2.2.1 _ hw) rfl hd rfl hn rfl hby (by omega) (by omega) rfl (fun H1 cA e1 z1 o1 hA hF => ?_)
  obtain ⟨-, hra⟩ := C.2.2.2.2.2.2.2.2.2.2.1.2.2.2.2 100 (by simp [zAK])
  have hcA : cA = D.2.2 100 := Option.some.inj (hF.symm.trans hra)
  subst hcA
  have := k hl H1 locs (cells + 1) (slots + n.toNatClampNeg) ls (hR.push (by unfold zRO; omega) e1 (zCell.arrNew (by simp [zAK]) (by omega) (by unfold zRO; omega) rfl) z1 o1) hL (zS_push hS z1 o1) (by show cells + 1 + h0.1 = h.1 + 1; omega) (by show slots + n.toNatClampNeg + h0.2.1 = h.2.1 + n.toNatClampNeg; omega)
  rw [nx] at this
  have e9 : zTr ad o (.ref h.1) = .ref H.size := by show Value.ref (ad h.1) = _; rw [ht]
  simp only [List.map_cons, e9] at this
  exact this
theorem zS_newarray_long {n : Int32} (C : zCx p l s m args meth c R D ad o base mi) (hd : decode (zBy mi) (zPc mi i) = .ok (.newarray .long, 2)) (nx : zPc mi (i + 1) = zPc mi i + 2) (hn : ¬ n < 0) (hn2 : ¬ 65536 < n.toNatClampNeg) (hw : Jvm.Cond.arrayClass .long ∈ zWs) (hrc : h.1 + 1 ≤ h0.1 + R.cells) (hrs : h.2.1 + n.toNatClampNeg ≤ h0.2.1 + R.slots) (k : zG p l e R s m args below meth c Q D ad o base mi h0 (i + 1) L (.ref h.1 :: st) (zPush h n.toNatClampNeg (101, List.replicate n.toNatClampNeg (.long 0)))) : zG p l e R s m args below meth c Q D ad o base mi h0 i L (.int n :: st) h := by
  intro hl H locs cells slots ls hR hL hS hc hs
  have ht := hR.top
  have hby : n.toNatClampNeg * componentBytes (newarray.typeOf ArrayType.long) ≤ 536870912 := by
    have h8 : componentBytes (newarray.typeOf ArrayType.long) ≤ 8 := by decide
    have h9 : n.toNatClampNeg * componentBytes (newarray.typeOf ArrayType.long) ≤ 65536 * 8 := Nat.mul_le_mul (by omega) h8
    omega
  refine va_newaK (atype := .long) C.1 C.2.1 (C.2.2.2.2.1 _ hw) rfl hd rfl hn rfl hby (by omega) (by omega) rfl (fun H1 cA e1 z1 o1 hA hF => ?_)
  obtain ⟨-, hra⟩ := C.2.2.2.2.2.2.2.2.2.2.1.2.2.2.2 101 (by simp [zAK])
  have hcA : cA = D.2.2 101 := Option.some.inj (hF.symm.trans hra)
  subst hcA
  have := k hl H1 locs (cells + 1) (slots + n.toNatClampNeg) ls (hR.push (by unfold zRO; omega) e1 (zCell.arrNew (by simp [zAK]) (by omega) (by unfold zRO; omega) rfl) z1 o1) hL (zS_push hS z1 o1) (by show cells + 1 + h0.1 = h.1 + 1; omega) (by show slots + n.toNatClampNeg + h0.2.1 = h.2.1 + n.toNatClampNeg; omega)
  rw [nx] at this
  have e9 : zTr ad o (.ref h.1) = .ref H.size := by show Value.ref (ad h.1) = _; rw [ht]
  simp only [List.map_cons, e9] at this
  exact this
theorem zS_newarray_boolean {n : Int32} (C : zCx p l s m args meth c R D ad o base mi) (hd : decode (zBy mi) (zPc mi i) = .ok (.newarray .boolean, 2)) (nx : zPc mi (i + 1) = zPc mi i + 2) (hn : ¬ n < 0) (hn2 : ¬ 65536 < n.toNatClampNeg) (hw : Jvm.Cond.arrayClass .boolean ∈ zWs) (hrc : h.1 + 1 ≤ h0.1 + R.cells) (hrs : h.2.1 + n.toNatClampNeg ≤ h0.2.1 + R.slots) (k : zG p l e R s m args below meth c Q D ad o base mi h0 (i + 1) L (.ref h.1 :: st) (zPush h n.toNatClampNeg (102, List.replicate n.toNatClampNeg (.int 0)))) : zG p l e R s m args below meth c Q D ad o base mi h0 i L (.int n :: st) h := by
  intro hl H locs cells slots ls hR hL hS hc hs
  have ht := hR.top
  have hby : n.toNatClampNeg * componentBytes (newarray.typeOf ArrayType.boolean) ≤ 536870912 := by
    have h8 : componentBytes (newarray.typeOf ArrayType.boolean) ≤ 8 := by decide
    have h9 : n.toNatClampNeg * componentBytes (newarray.typeOf ArrayType.boolean) ≤ 65536 * 8 := Nat.mul_le_mul (by omega) h8
    omega
  refine va_newaK (atype := .boolean) C.1 C.2.1 (C.2.2.2.2.1 _ hw) rfl hd rfl hn rfl hby (by omega) (by omega) rfl (fun H1 cA e1 z1 o1 hA hF => ?_)
  obtain ⟨-, hra⟩ := C.2.2.2.2.2.2.2.2.2.2.1.2.2.2.2 102 (by simp [zAK])
  have hcA : cA = D.2.2 102 := Option.some.inj (hF.symm.trans hra)
  subst hcA
  have := k hl H1 locs (cells + 1) (slots + n.toNatClampNeg) ls (hR.push (by unfold zRO; omega) e1 (zCell.arrNew (by simp [zAK]) (by omega) (by unfold zRO; omega) rfl) z1 o1) hL (zS_push hS z1 o1) (by show cells + 1 + h0.1 = h.1 + 1; omega) (by show slots + n.toNatClampNeg + h0.2.1 = h.2.1 + n.toNatClampNeg; omega)
  rw [nx] at this
  have e9 : zTr ad o (.ref h.1) = .ref H.size := by show Value.ref (ad h.1) = _; rw [ht]
  simp only [List.map_cons, e9] at this
  exact this
theorem zS_newarray_double {n : Int32} (C : zCx p l s m args meth c R D ad o base mi) (hd : decode (zBy mi) (zPc mi i) = .ok (.newarray .double, 2)) (nx : zPc mi (i + 1) = zPc mi i + 2) (hn : ¬ n < 0) (hn2 : ¬ 65536 < n.toNatClampNeg) (hw : Jvm.Cond.arrayClass .double ∈ zWs) (hrc : h.1 + 1 ≤ h0.1 + R.cells) (hrs : h.2.1 + n.toNatClampNeg ≤ h0.2.1 + R.slots) (k : zG p l e R s m args below meth c Q D ad o base mi h0 (i + 1) L (.ref h.1 :: st) (zPush h n.toNatClampNeg (105, List.replicate n.toNatClampNeg (.double 0)))) : zG p l e R s m args below meth c Q D ad o base mi h0 i L (.int n :: st) h := by
  intro hl H locs cells slots ls hR hL hS hc hs
  have ht := hR.top
  have hby : n.toNatClampNeg * componentBytes (newarray.typeOf ArrayType.double) ≤ 536870912 := by
    have h8 : componentBytes (newarray.typeOf ArrayType.double) ≤ 8 := by decide
    have h9 : n.toNatClampNeg * componentBytes (newarray.typeOf ArrayType.double) ≤ 65536 * 8 := Nat.mul_le_mul (by omega) h8
    omega
  refine va_newaK (atype := .double) C.1 C.2.1 (C.2.2.2.2.1 _ hw) rfl hd rfl hn rfl hby (by omega) (by omega) rfl (fun H1 cA e1 z1 o1 hA hF => ?_)
  obtain ⟨-, hra⟩ := C.2.2.2.2.2.2.2.2.2.2.1.2.2.2.2 105 (by simp [zAK])
  have hcA : cA = D.2.2 105 := Option.some.inj (hF.symm.trans hra)
  subst hcA
  have := k hl H1 locs (cells + 1) (slots + n.toNatClampNeg) ls (hR.push (by unfold zRO; omega) e1 (zCell.arrNew (by simp [zAK]) (by omega) (by unfold zRO; omega) rfl) z1 o1) hL (zS_push hS z1 o1) (by show cells + 1 + h0.1 = h.1 + 1; omega) (by show slots + n.toNatClampNeg + h0.2.1 = h.2.1 + n.toNatClampNeg; omega)
  rw [nx] at this
  have e9 : zTr ad o (.ref h.1) = .ref H.size := by show Value.ref (ad h.1) = _; rw [ht]
  simp only [List.map_cons, e9] at this
  exact this
theorem zS_anewarray {idx : Nat} {n : Int32} (C : zCx p l s m args meth c R D ad o base mi) (hd : decode (zBy mi) (zPc mi i) = .ok (.anewarray idx, 3)) (nx : zPc mi (i + 1) = zPc mi i + 3) (hn : ¬ n < 0) (hn2 : ¬ 65536 < n.toNatClampNeg) (hw : Jvm.Cond.classLink (zOwn mi) idx "PassForge$Program" ∈ zWs) (hrc : h.1 + 1 ≤ h0.1 + R.cells) (hrs : h.2.1 + n.toNatClampNeg ≤ h0.2.1 + R.slots) (k : zG p l e R s m args below meth c Q D ad o base mi h0 (i + 1) L (.ref h.1 :: st) (zPush h n.toNatClampNeg (110, List.replicate n.toNatClampNeg .null))) : zG p l e R s m args below meth c Q D ad o base mi h0 i L (.int n :: st) h := by
  intro hl H locs cells slots ls hR hL hS hc hs
  have ht := hR.top
  refine W.anew C.1 C.2.1 C.2.2.2.1 (C.2.2.2.2.1 _ hw) (va_AO.use C.2.2.2.2.2.2.2.2.2.2.2.1.2.2.2.2.2.1) rfl hd rfl hn (by omega) (by omega) (by omega) fun cA kA comp f1 f2 f3 f4 => ?_
  generalize hH1 : H.push ({ cls := cA, slots := Array.replicate n.toNatClampNeg .null, vm := .none } : Cell) = H1
  have z1 : H1.size = H.size + 1 := by rw [← hH1, Array.size_push]
  have e1 : H1[H.size]? = some (arrV cA n.toNatClampNeg (fun _ => .null)) := by rw [← hH1, Array.getElem?_push_size, ← arrV_new]
  have o1 : ∀ q : Nat, q < H.size → H1[q]? = H[q]? := fun q hq => by rw [← hH1, Array.getElem?_push, if_neg (Nat.ne_of_lt hq)]
  obtain ⟨-, kA2, comp2, -, -, -, r4⟩ := C.2.2.2.2.2.2.2.2.2.2.1.2.2.2.2 110 (by simp [zAK])
  have hcA : cA = D.2.2 110 := Option.some.inj (f1.symm.trans r4)
  subst hcA
  have := k hl H1 locs (cells + 1) (slots + n.toNatClampNeg) ls (hR.push (by unfold zRO; omega) e1 (zCell.arrNew (by simp [zAK]) (by omega) (by unfold zRO; omega) rfl) z1 o1) hL (zS_push hS z1 o1) (by show cells + 1 + h0.1 = h.1 + 1; omega) (by show slots + n.toNatClampNeg + h0.2.1 = h.2.1 + n.toNatClampNeg; omega)
  rw [nx] at this
  have e9 : zTr ad o (.ref h.1) = .ref H.size := by show Value.ref (ad h.1) = _; rw [ht]
  simp only [List.map_cons, e9] at this
  exact this
theorem zRel.rows {U : State} {H H' : Heap} {n k : Nat} (hR : zRel D (zTr ad o) ad base U h H) (hs : H'.size = H.size + 1 + n) (ho : ∀ q, q < H.size → H'[q]? = H[q]?) (h1 : H'[H.size]? = some (arrV (D.2.2 111) n (fun i => if i < n then .ref (H.size + 1 + i) else .null))) (h2 : ∀ j, j < n → H'[H.size + 1 + j]? = some (arrV (D.2.2 101) k (fun _ => .long 0))) : zRel D (zTr ad o) ad base U (zRows h n k) H' := by
  have ht := hR.top
  have h5 := hR.2.2.1
  have hsz := hR.2.2.2.1
  have had := hR.2.2.2.2.1
  refine ⟨fun q hq => ?_, fun q hq => ?_, by show 5 ≤ h.1 + 1 + n; omega, by show H'.size + 5 = base + (h.1 + 1 + n); omega, had, fun q hq => ?_, fun q hq => ?_⟩
  · have hq : q < h.1 + 1 + n := hq
    show ∃ cell, H'[ad q]? = some cell ∧ zCell D (zTr ad o) U (if q = h.1 then (111, (List.range n).map fun i => .ref (h.1 + 1 + i)) else if h.1 < q ∧ q ≤ h.1 + n then (101, List.replicate k (.long 0)) else h.2.2 q) cell
    by_cases e : q = h.1
    · rw [if_pos e, e, ht]
      refine ⟨_, h1, ?_⟩
      unfold zCell
      rw [if_neg (by simp), if_neg (by simp), if_pos (by simp)]
      refine ⟨by simp [zAK], ?_⟩
      show arrV (D.2.2 111) n _ = arrV (D.2.2 111) ((List.range n).map _).length _
      rw [List.length_map, List.length_range]
      unfold arrV
      congr 1
      apply Array.ext
      · simp
      · intro i g1 g2
        simp at g1
        have e2 : ad (h.1 + 1 + i) = H.size + 1 + i := by
          have := had (h.1 + 1 + i) (by omega)
          omega
        simp [g1, zTr, e2]
    · rw [if_neg e]
      by_cases e2 : h.1 < q ∧ q ≤ h.1 + n
      · rw [if_pos e2]
        have e3 : ad q = H.size + 1 + (q - h.1 - 1) := by
          have := had q (by omega)
          omega
        rw [e3]
        exact ⟨_, h2 _ (by omega), zCell.arrNew (by simp [zAK]) (by omega) (by unfold zRO; omega) rfl⟩
      · rw [if_neg e2]
        obtain ⟨c0, g1, g2⟩ := hR.1 q (by omega)
        exact ⟨c0, by rw [ho _ (Array.getElem?_eq_some_iff.mp g1).1]; exact g1, g2⟩
  · have hq : h.1 + 1 + n ≤ q := hq
    show (if q = h.1 then (111, (List.range n).map fun i => Value.ref (h.1 + 1 + i)) else if h.1 < q ∧ q ≤ h.1 + n then (101, List.replicate k (.long 0)) else h.2.2 q).1 = 50
    rw [if_neg (by omega), if_neg (by omega)]
    exact hR.2.1 q (by omega)
  · show ad q < base ∧ zRO (if q = h.1 then (111, (List.range n).map fun i => Value.ref (h.1 + 1 + i)) else if h.1 < q ∧ q ≤ h.1 + n then (101, List.replicate k (.long 0)) else h.2.2 q).1
    rw [if_neg (by omega), if_neg (by omega)]
    exact hR.2.2.2.2.2.1 q hq
  · show ¬ zRO (if q = h.1 then (111, (List.range n).map fun i => Value.ref (h.1 + 1 + i)) else if h.1 < q ∧ q ≤ h.1 + n then (101, List.replicate k (.long 0)) else h.2.2 q).1
    split
    · show ¬ zRO 111; unfold zRO; omega
    · split
      · show ¬ zRO 101; unfold zRO; omega
      · exact hR.2.2.2.2.2.2 q hq
theorem zS_multianewarray {idx : Nat} {n kk : Int32} (C : zCx p l s m args meth c R D ad o base mi) (hd : decode (zBy mi) (zPc mi i) = .ok (.multianewarray idx 2, 4)) (nx : zPc mi (i + 1) = zPc mi i + 4) (hn : ¬ n < 0) (hk : ¬ kk < 0) (hn2 : ¬ 65536 < n.toNatClampNeg) (hk2 : ¬ 65536 < kk.toNatClampNeg) (hw : Jvm.Cond.classLink (zOwn mi) idx "[[J" ∈ zWs) (hwl : Jvm.Cond.arrayClass .long ∈ zWs) (hrc : h.1 + 1 + n.toNatClampNeg ≤ h0.1 + R.cells) (hrs : h.2.1 + n.toNatClampNeg + n.toNatClampNeg * kk.toNatClampNeg ≤ h0.2.1 + R.slots) (k : zG p l e R s m args below meth c Q D ad o base mi h0 (i + 1) L (.ref h.1 :: st) (zRows h n.toNatClampNeg kk.toNatClampNeg)) : zG p l e R s m args below meth c Q D ad o base mi h0 i L (.int kk :: .int n :: st) h := by
  intro hl H locs cells slots ls hR hL hS hc hs
  have ht := hR.top
  intro T hT Xs
  obtain ⟨vm₁, cA, comp, -, fA, fC, hO, -, X', step⟩ := Xs.multianewarray2F (ty := .long) (index := idx) (n := n) (k := kk) (rest := st.map (zTr ad o)) C.1 C.2.2.2.1 (C.2.2.2.2.1 _ hw) C.2.2.2.2.2.2.2.2.2.2.2.1.2.2.2.2.2.2.1 (C.2.2.2.2.1 _ hwl) (g := F0 m (zPc mi i) ls (.int kk :: .int n :: st.map (zTr ad o))) rfl (by rw [C.2.1]; exact hd) rfl hn hk (by omega) (by show kk.toNatClampNeg * 8 ≤ 536870912; omega) (by omega) rfl rfl (by omega) (by omega)
  obtain ⟨-, kA2, comp2, -, r4⟩ := C.2.2.2.2.2.2.2.2.2.2.1
  have hcA : cA = D.2.2 111 := Option.some.inj (fA.symm.trans (r4 111 (by simp [zAK])).2)
  have hcC : comp = D.2.2 101 := Option.some.inj (fC.symm.trans (r4 101 (by simp [zAK])).2)
  subst hcA
  subst hcC
  generalize hF : Jvm.Free.Multi.fill (T.setVm vm₁) (D.2.2 111) (D.2.2 101) n.toNatClampNeg kk.toNatClampNeg (defaultValue .long) n.toNatClampNeg = F at X' step
  have hTh : (T.setVm vm₁).heap = H := hT
  obtain ⟨f1, f2, -, -⟩ := Jvm.Free.Multi.fill_facts (T.setVm vm₁) (D.2.2 111) (D.2.2 101) n.toNatClampNeg kk.toNatClampNeg (defaultValue .long) n.toNatClampNeg
  rw [hF, hTh] at f1 f2
  have hold : ∀ x : Nat, x < H.size → F.heap[x]? = H[x]? := fun x hx => by
    have := Jvm.Free.Multi.fill_old (T.setVm vm₁) (D.2.2 111) (D.2.2 101) n.toNatClampNeg kk.toNatClampNeg (defaultValue .long) (a := x) (by rw [hTh]; exact hx) n.toNatClampNeg
    rw [hF, hTh] at this
    exact this
  have hrow : ∀ j : Nat, j < n.toNatClampNeg → F.heap[H.size + 1 + j]? = some (arrV (D.2.2 101) kk.toNatClampNeg (fun _ => .long 0)) := fun j hj => by
    have := Jvm.Free.Multi.fill_inner (T.setVm vm₁) (D.2.2 111) (D.2.2 101) n.toNatClampNeg kk.toNatClampNeg (defaultValue .long) n.toNatClampNeg j hj
    rw [hF, hTh] at this
    rw [this]
    exact congrArg some (arrV_new (D.2.2 101) kk.toNatClampNeg (.long 0))
  have hout : ∀ q : Nat, Jvm.Free.Multi.outerC (D.2.2 111) n.toNatClampNeg H.size q = arrV (D.2.2 111) n.toNatClampNeg (fun j => if j < q then .ref (H.size + 1 + j) else .null) := by
    intro q
    induction q with
    | zero =>
      show ({ cls := D.2.2 111, slots := Array.replicate n.toNatClampNeg .null, vm := .none } : Cell) = _
      rw [arrV_new]
      rfl
    | succ q ih =>
      show (Jvm.Free.Multi.outerC (D.2.2 111) n.toNatClampNeg H.size q).setSlot q (.ref (H.size + 1 + q)) = _
      rw [ih, arrV_store]
      refine congrArg (arrV (D.2.2 111) n.toNatClampNeg) (funext fun j => ?_)
      by_cases e : j = q
      · subst e
        simp [updV]
      · by_cases h : j < q
        · simp [updV, e, h, Nat.lt_succ_of_lt h]
        · simp [updV, e, h, show ¬ j < q + 1 by omega]
  rw [hout] at f2
  have hR2 := hR.rows (n := n.toNatClampNeg) (k := kk.toNatClampNeg) f1 hold f2 hrow
  have hS2 : va_S (zThr base) s.heap F.heap locs := ⟨Nat.le_trans hS.1 (by omega), fun x h1 h2 => (hold x (Nat.lt_of_lt_of_le h1 hS.1)).trans (hS.2.1 x h1 h2), hS.2.2⟩
  have := k hl F.heap locs (cells + 1 + n.toNatClampNeg) (slots + n.toNatClampNeg + n.toNatClampNeg * kk.toNatClampNeg) ls hR2 hL hS2 (by show cells + 1 + n.toNatClampNeg + h0.1 = h.1 + 1 + n.toNatClampNeg; omega) (by show slots + n.toNatClampNeg + n.toNatClampNeg * kk.toNatClampNeg + h0.2.1 = h.2.1 + n.toNatClampNeg + n.toNatClampNeg * kk.toNatClampNeg; omega)
  rw [nx] at this
  have e9 : zTr ad o (.ref h.1) = .ref H.size := by show Value.ref (ad h.1) = _; rw [ht]
  simp only [List.map_cons, e9] at this
  obtain ⟨t, a1, b1⟩ := this F rfl X'
  refine ⟨t, step _ ?_, b1⟩
  rw [hT]
  exact a1
theorem zIns11 : Jvm.Cond.instantiable (zCN 11) 8 ∈ zWs := zHas_in (p := 1509) (by decide +kernel)
theorem zFdDef : ∀ k, k < 12 → ∀ j, j < zFn k → zDef (zDk (zFt (zFd k j).2.2.1)) = defaultValue (zFt (zFd k j).2.2.1) := by decide +kernel
theorem zS_new {idx ci w : Nat} (C : zCx p l s m args meth c R D ad o base mi) (hd : decode (zBy mi) (zPc mi i) = .ok (.new idx, 3)) (nx : zPc mi (i + 1) = zPc mi i + 3) (hci : ci < 12) (h1 : Jvm.Cond.classLink (zOwn mi) idx (zCN ci) ∈ zWs) (h2 : Jvm.Cond.instantiable (zCN ci) w ∈ zWs) (h3 : Jvm.Cond.initialized (zCN ci) ∈ zWs) (hrc : h.1 + 1 ≤ h0.1 + R.cells) (hrs : h.2.1 + w ≤ h0.2.1 + R.slots) (k : zG p l e R s m args below meth c Q D ad o base mi h0 (i + 1) L (.ref h.1 :: st) (zPush h w (ci, ((List.range (zFn ci)).map fun j => zDk (zFt (zFd ci j).2.2.1)).map zDef))) : zG p l e R s m args below meth c Q D ad o base mi h0 i L st h := by
  intro hl H locs cells slots ls hR hL hS hc hs
  have ht := hR.top
  obtain ⟨hfc, kC0, hkC0, hkind0⟩ := C.2.2.2.2.2.2.2.2.2.2.1.2.1 ci (by omega) (by omega)
  refine W.newcK C.1 C.2.1 C.2.2.2.1 (C.2.2.2.2.1 _ h1) (C.2.2.2.2.1 _ h2) (C.2.2.2.2.1 _ h3) rfl hd (by omega) (by omega) hfc rfl fun H1 kC hkC e1 z1 o1 => ?_
  have hz : zCell D (zTr ad o) s (ci, ((List.range (zFn ci)).map fun j => zDk (zFt (zFd ci j).2.2.1)).map zDef) (blank (D.1 ci) kC) := by
    unfold zCell
    rw [if_pos (show ci < 50 by omega)]
    refine ⟨⟨rfl, fun _ => by simp⟩, (fun z => by cases z), rfl, fun _ => rfl, fun q11 => ⟨rfl, rfl, ?_⟩, fun j v hj => ?_⟩
    · have q11 : ci = 11 := q11
      obtain ⟨c9, k9, e9, f9, -, -, -, g9⟩ := Cond.instantiable_spec (C.2.2.2.2.1 _ zIns11)
      rw [← q11] at e9
      cases Option.some.inj (e9.symm.trans hfc)
      cases Option.some.inj (f9.symm.trans hkC)
      rw [← g9]
      exact Array.size_map ..
    have hjl : j < zFn ci := by have := (List.getElem?_eq_some_iff.mp hj).1; simpa using this
    have hv : v = defaultValue (zFt (zFd ci j).2.2.1) := by
      rw [List.map_map, List.getElem?_map, List.getElem?_range hjl] at hj
      simp only [Option.map_some, Option.some.injEq, Function.comp] at hj
      rw [← hj]
      exact zFdDef ci hci j hjl
    obtain ⟨cf, kf, fi, fd, g1, g2, g3⟩ := C.2.2.2.2.2.2.2.2.2.2.1.2.2.1 ci j (by omega) hjl
    have hlay := C.2.2.2.2.1 _ (zLays ci hci _ (u_in_lay hjl))
    have hls : (Cond.lays (zCN ci) (zFd ci j).1 (zFd ci j).2.1 (zFd ci j).2.2.1).before args s = true ∨ (Cond.laysFinal (zCN ci) (zFd ci j).1 (zFd ci j).2.1 (zFd ci j).2.2.1).before args s = true := by
      unfold u_lay at hlay
      split at hlay
      · exact Or.inr hlay
      · exact Or.inl hlay
    have h3 := (u_facts hfc hkC hls g1).2.2
    rw [(State.fieldFound?_type g1 (zFdOk ci (by omega) j hjl)).2, g2] at h3
    refine ⟨defaultValue (zFt (zFd ci j).2.2.1), k2_blank h3, fun _ => ?_⟩
    rw [hv]
    cases zFt (zFd ci j).2.2.1 <;> rfl
  have := k hl H1 locs (cells + 1) (slots + w) ls (hR.push (by unfold zRO; show ¬ (ci = 12 ∨ ci = 103 ∨ ci = 106); omega) e1 hz z1 o1) hL (zS_push hS z1 o1) (by show cells + 1 + h0.1 = h.1 + 1; omega) (by show slots + w + h0.2.1 = h.2.1 + w; omega)
  rw [nx] at this
  have e9 : zTr ad o (.ref h.1) = .ref H.size := by show Value.ref (ad h.1) = _; rw [ht]
  simp only [List.map_cons, e9] at this
  exact this
theorem zS_ldcS {idx kk : Nat} {tx : String} (C : zCx p l s m args meth c R D ad o base mi) (hd : decode (zBy mi) (zPc mi i) = .ok (.ldc idx, 2)) (nx : zPc mi (i + 1) = zPc mi i + 2) (hq : (zOwn mi, idx, tx, kk) ∈ zTx) (h0k : kk ≠ 0) (k : zG p l e R s m args below meth c Q D ad o base mi h0 (i + 1) L (.ref kk :: st) h) : zG p l e R s m args below meth c Q D ad o base mi h0 i L st h := by
  intro hl H locs cells slots ls hR hL hS hc hs
  obtain ⟨a, h1, h2⟩ := C.2.2.2.2.2.2.2.2.2.2.2.1.2.2.2.2.1 _ hq
  have e := h2 h0k
  subst e
  refine va_ldcS C.1 C.2.1 C.2.2.2.1 h1 hd ?_
  have := k hl H locs cells slots ls hR hL hS hc hs
  rw [nx] at this
  exact this
theorem zS_compact {idx : Nat} (C : zCx p l s m args meth c R D ad o base mi) (hd : decode (zBy mi) (zPc mi i) = .ok (.getstatic idx, 3)) (nx : zPc mi (i + 1) = zPc mi i + 3) (hw : Jvm.Cond.fieldLink (zOwn mi) idx "java/lang/String" "COMPACT_STRINGS" "Z" ∈ zWs) (k : zG p l e R s m args below meth c Q D ad o base mi h0 (i + 1) L (.int (zi 1) :: st) h) : zG p l e R s m args below meth c Q D ad o base mi h0 i L st h := by
  intro hl H locs cells slots ls hR hL hS hc hs
  refine va_gets C.1 C.2.1 C.2.2.2.2.2.2.2.2.2.2.2.1.2.2.1 hS C.2.2.2.1 (C.2.2.2.2.1 _ hw) (fun x hx => hx) hd ?_
  have := k hl H locs cells slots ls hR hL hS hc hs
  rw [nx] at this
  exact this
theorem zS_sioobe {idx : Nat} (C : zCx p l s m args meth c R D ad o base mi) (hd : decode (zBy mi) (zPc mi i) = .ok (.getstatic idx, 3)) (nx : zPc mi (i + 1) = zPc mi i + 3) (hw : Jvm.Cond.fieldLink (zOwn mi) idx "jdk/internal/util/Preconditions" "SIOOBE_FORMATTER" "Ljava/util/function/BiFunction;" ∈ zWs) (k : zG p l e R s m args below meth c Q D ad o base mi h0 (i + 1) L (.retAddr 1 :: st) h) : zG p l e R s m args below meth c Q D ad o base mi h0 i L st h := by
  intro hl H locs cells slots ls hR hL hS hc hs
  refine va_gets C.1 C.2.1 C.2.2.2.2.2.2.2.2.2.2.2.1.2.2.2.1 hS C.2.2.2.1 (C.2.2.2.2.1 _ hw) (fun x hx => hx) hd ?_
  have := k hl H locs cells slots ls hR hL hS hc hs
  rw [nx] at this
  exact this
theorem zCats_map (ho : ∀ n, (o n).category = 1) (l : List Value) : ((l.map (zTr ad o)).map fun v => v.category).sum = zCats l := by
  unfold zCats
  rw [List.map_map]
  congr 1
  exact List.map_congr_left fun v _ => zTr_cat ho v
theorem zS_objInit {idx a : Nat} (C : zCx p l s m args meth c R D ad o base mi) (hd : decode (zBy mi) (zPc mi i) = .ok (.invokespecial idx, 3)) (nx : zPc mi (i + 1) = zPc mi i + 3) (hw : Jvm.Cond.methodLink (zOwn mi) idx objectInit ∈ zWs) (hw2 : Jvm.Cond.instanceMethod objectInit ∈ zWs) (hw3 : Jvm.Cond.code objectInit ⟨#[0xb1]⟩ 1 none ∈ zWs) (hcat : zCats st ≤ 8) (hf : 1 ≤ R.frames) (hlo : 8 + 12 ≤ R.locals) (k : zG p l e R s m args below meth c Q D ad o base mi h0 (i + 1) L st h) : zG p l e R s m args below meth c Q D ad o base mi h0 i L (.ref a :: st) h := by
  intro hl H locs cells slots ls hR hL hS hc hs
  refine W.objInit C.1 C.2.1 C.2.2.2.1 (C.2.2.2.2.1 _ hw) (C.2.2.2.2.1 _ hw2) (C.2.2.2.2.1 _ hw3) rfl (by rw [C.2.2.1, ← hl]; exact hL.1) rfl hd hf (by
    show 2 * 0 + _ + 12 ≤ _
    rw [zCats_map C.2.2.2.2.2.2.2.2.2.2.2.2.1]
    omega) ?_
  have := k hl H locs cells slots ls hR hL hS hc hs
  rw [nx] at this
  exact this
theorem zCell.copy {U : State} {t : Value → Value} {kd : Nat} {src dst : List Value} {sp dp n : Nat} (hm : kd ∈ zAK) (hge : 100 ≤ kd) (hro : ¬ zRO kd) (h1 : sp + n ≤ src.length) (h2 : dp + n ≤ dst.length) : zCell D t U (kd, zCopy src dst sp dp n) (arrV (D.2.2 kd) dst.length (va_cpy (fun j => t (src.getD j .null)) (fun j => t (dst.getD j .null)) sp dp n)) := by
  unfold zCell
  rw [if_neg (show ¬ kd < 50 by omega), if_neg (fun q => hro (by unfold zRO; simp only at q; omega)), if_pos hge]
  refine ⟨hm, ?_⟩
  have hlen : (zCopy src dst sp dp n).length = dst.length := by
    unfold zCopy
    simp only [List.length_append, List.length_take, List.length_drop]
    omega
  show arrV (D.2.2 kd) dst.length _ = arrV (D.2.2 kd) (zCopy src dst sp dp n).length _
  rw [hlen]
  unfold arrV
  congr 1
  apply Array.ext
  · simp
  · intro i g1 g2
    simp only [Array.size_ofFn] at g1
    simp only [Array.getElem_ofFn]
    show va_cpy _ _ sp dp n i = t ((zCopy src dst sp dp n).getD i .null)
    unfold va_cpy zCopy
    rw [List.getD_eq_getElem?_getD (l := _ ++ _)]
    by_cases c1 : i < dp
    · rw [if_neg (by omega)]
      show t (dst.getD i .null) = _
      rw [List.getElem?_append_left (by simp; omega), List.getElem?_append_left (by simp; omega), List.getElem?_take, if_pos c1, List.getD_eq_getElem?_getD]
    · by_cases c2 : i < dp + n
      · rw [if_pos ⟨by omega, c2⟩]
        show t (src.getD (sp + (i - dp)) .null) = _
        rw [List.getElem?_append_left (by simp; omega), List.getElem?_append_right (by simp; omega), List.getElem?_take, List.getElem?_drop, if_pos (by simp; omega), List.getD_eq_getElem?_getD]
        have e : (List.take dp dst).length = dp := by simp; omega
        rw [e]
      · rw [if_neg (by omega)]
        show t (dst.getD i .null) = _
        rw [List.getElem?_append_right (by simp; omega), List.getElem?_drop, List.getD_eq_getElem?_getD]
        have e : (List.take dp dst ++ List.take n (List.drop sp src)).length = dp + n := by simp; omega
        rw [e, show dp + n + (i - (dp + n)) = i by omega]
theorem zS_arraycopy {idx src dst : Nat} {sp dp n : Int32} {h' : zH} (C : zCx p l s m args meth c R D ad o base mi) (hd : decode (zBy mi) (zPc mi i) = .ok (.invokestatic idx, 3)) (nx : zPc mi (i + 1) = zPc mi i + 3) (hw : Jvm.Cond.methodLink (zOwn mi) idx arraycopyName ∈ zWs) (hw2 : Jvm.Cond.native arraycopyName ∈ zWs) (hw3 : Jvm.Cond.static arraycopyName ∈ zWs) (hw4 : Jvm.Cond.initialized "java/lang/System" ∈ zWs) (hcat : zCats st ≤ 8) (hf : 1 ≤ R.frames) (hlo : 8 + (nativeFrameWords "java/lang/System" "arraycopy" 5 + 11) ≤ R.locals) (hv : zACopy h src sp dst dp n = some h') (k : zG p l e R s m args below meth c Q D ad o base mi h0 (i + 1) L st h') : zG p l e R s m args below meth c Q D ad o base mi h0 i L (.int n :: .int dp :: .ref dst :: .int sp :: .ref src :: st) h := by
  intro hl H locs cells slots ls hR hL hS hc hs
  have nn : ∀ z : Int32, ¬ z < 0 → z.toInt = (z.toNatClampNeg : Int) := by
    intro z hz
    have hz0 : (0 : Int) ≤ z.toInt := by
      have := Int32.not_lt.mp hz
      simpa using Int32.le_iff_toInt_le.mp this
    show z.toInt = ((z.toInt.toNat : Nat) : Int)
    omega
  unfold zACopy at hv
  split at hv
  · rename_i hk
    cases hv
    obtain ⟨k1, k2, k3, k4, k5, k6, k7, k8⟩ := hk
    have hm : (h.2.2 src).1 ∈ zAK := by rcases k2 with q | q <;> rw [q] <;> simp [zAK]
    have hge : 100 ≤ (h.2.2 src).1 := by omega
    have hro : ¬ zRO (h.2.2 src).1 := by unfold zRO; omega
    have hro2 : ¬ zRO (h.2.2 dst).1 := by rw [← k1]; exact hro
    have h5 := hR.ge hro2
    have hlt := hR.lt (a := dst) (by omega)
    have hc0 := hR.arrW (a := src) rfl hge hro
    have hc1 := hR.arrW (a := dst) k1.symm hge hro
    intro T hT X
    obtain ⟨-, k0, hk0, cm0, hkk0⟩ := C.2.2.2.2.2.2.2.2.2.2.1.arr _ hm 0 (fun _ => .null)
    obtain ⟨vm', X', step⟩ := X.arraycopy C.1 C.2.2.2.1 (C.2.2.2.2.1 _ hw) (C.2.2.2.2.1 _ hw2) (C.2.2.2.2.1 _ hw3) (C.2.2.2.2.1 _ hw4) (src := ad src) (dst := ad dst) (cs := arrV (D.2.2 (h.2.2 src).1) (h.2.2 src).2.length (fun j => zTr ad o ((h.2.2 src).2.getD j .null))) (cd := arrV (D.2.2 (h.2.2 src).1) (h.2.2 dst).2.length (fun j => zTr ad o ((h.2.2 dst).2.getD j .null))) (srcPos := sp) (destPos := dp) (n := n) (by rw [hT]; exact hc0) (by rw [hT]; exact hc1)
      (fun _ h => by cases h) (fun _ h => by cases h) (fun h => by cases h) (fun h => by cases h) hk0 hk0 hkk0 hkk0 (by rcases k2 with q | q <;> rw [q] <;> simp [zAT, refKind]) k4 k5 k6
      (by rw [nn sp k4, nn n k6, arrV_size]; omega)
      (by rw [nn dp k5, nn n k6, arrV_size]; omega)
      (fun vm₁ _ i hi => by
        have hlt2 : sp.toNatClampNeg + i < (h.2.2 src).2.length := by omega
        have e : (arrV (D.2.2 (h.2.2 src).1) (h.2.2 src).2.length (fun j => zTr ad o ((h.2.2 src).2.getD j .null))).slots.getD (sp.toNatClampNeg + i) .null = zTr ad o ((h.2.2 src).2.getD (sp.toNatClampNeg + i) .null) := by
          rw [Array.getD_eq_getD_getElem?, arrV_read _ _ hlt2]
          rfl
        have hty := List.all_eq_true.mp k3 _ (List.getElem_mem hlt2)
        have e2 : (h.2.2 src).2.getD (sp.toNatClampNeg + i) .null = (h.2.2 src).2[sp.toNatClampNeg + i] := by rw [List.getD_eq_getElem?_getD, List.getElem?_eq_getElem hlt2]; rfl
        rw [e, e2]
        generalize (h.2.2 src).2[sp.toNatClampNeg + i] = v at hty
        rcases k2 with q | q
        · rw [q] at hty ⊢
          cases v <;> first | exact ⟨rfl, trivial⟩ | (exact absurd (show false = true from hty) (by decide))
        · rw [q] at hty ⊢
          cases v <;> first | exact ⟨rfl, trivial⟩ | (exact absurd (show false = true from hty) (by decide)))
      (g := F0 m (zPc mi i) ls (.int n :: .int dp :: .ref (ad dst) :: .int sp :: .ref (ad src) :: st.map (zTr ad o))) rfl (by show ls.size = c.maxLocals; rw [C.2.2.1, ← hl]; exact hL.1) (rest := st.map (zTr ad o)) rfl (by rw [C.2.1]; exact hd) hf (by
        show 2 * 0 + _ + _ ≤ _
        rw [zCats_map C.2.2.2.2.2.2.2.2.2.2.2.2.1]
        omega)
    have e1 : copied (arrV (D.2.2 (h.2.2 src).1) (h.2.2 src).2.length (fun j => zTr ad o ((h.2.2 src).2.getD j .null))) (arrV (D.2.2 (h.2.2 src).1) (h.2.2 dst).2.length (fun j => zTr ad o ((h.2.2 dst).2.getD j .null))) sp dp n = arrV (D.2.2 (h.2.2 src).1) (h.2.2 dst).2.length (va_cpy (fun j => zTr ad o ((h.2.2 src).2.getD j .null)) (fun j => zTr ad o ((h.2.2 dst).2.getD j .null)) sp.toNatClampNeg dp.toNatClampNeg n.toNatClampNeg) := va_copied (fun z => z) _ _ _ _ k7
    rw [e1] at X' step
    have hl9 : ad dst < H.size := (Array.getElem?_eq_some_iff.mp hc1).1
    generalize hcc : arrV (D.2.2 (h.2.2 src).1) (h.2.2 dst).2.length (va_cpy (fun j => zTr ad o ((h.2.2 src).2.getD j .null)) (fun j => zTr ad o ((h.2.2 dst).2.getD j .null)) sp.toNatClampNeg dp.toNatClampNeg n.toNatClampNeg) = cnew at X' step
    have hz : zCell D (zTr ad o) s ((h.2.2 dst).1, zCopy (h.2.2 src).2 (h.2.2 dst).2 sp.toNatClampNeg dp.toNatClampNeg n.toNatClampNeg) cnew := by
      rw [← hcc, ← k1]
      exact zCell.copy hm hge hro k7 k8
    have hheap : ((T.setVm vm').setCell (ad dst) cnew).heap = H.setIfInBounds (ad dst) cnew := by rw [← hT]; rfl
    have oq : ∀ q : Nat, q ≠ ad dst → (H.setIfInBounds (ad dst) cnew)[q]? = H[q]? := fun q hq => by simp [Array.getElem?_setIfInBounds, Ne.symm hq]
    have hR2 := hR.write (c := ((h.2.2 dst).1, zCopy (h.2.2 src).2 (h.2.2 dst).2 sp.toNatClampNeg dp.toNatClampNeg n.toNatClampNeg)) h5 hlt hro2 (show (H.setIfInBounds (ad dst) cnew)[ad dst]? = some cnew by simp [Array.getElem?_setIfInBounds, hl9]) hz (by simp) oq
    have key : ∀ locs1 : List Loc, va_S (zThr base) s.heap (H.setIfInBounds (ad dst) cnew) locs1 → W p l e R s m args below meth c (H.setIfInBounds (ad dst) cnew) locs1 cells slots Q (F0 m (zPc mi i + 3) ls (st.map (zTr ad o))) := fun locs1 h9 => by
      have := k hl _ locs1 cells slots ls hR2 hL h9 hc hs
      rw [nx] at this
      exact this
    obtain ⟨t, a1, b1⟩ := key _ ⟨by simp; exact hS.1, fun q g1 g2 => by
      rw [oq q (fun e => g2 (by rw [e]; exact hR.base_le h5))]
      exact hS.2.1 q g1 g2, fun q hq => by
      rcases List.mem_append.mp hq with h | h
      · exact hS.2.2 q h
      · obtain ⟨z, -, hz⟩ := List.mem_map.mp h
        rw [← hz]
        exact hR.base_le h5⟩ _ hheap X'
    exact ⟨t, step t a1, b1⟩
  · cases hv
end ZASTEP
