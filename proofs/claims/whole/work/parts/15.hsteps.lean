/-! One row an instruction: those of the heap. -/
section ZHSTEP
variable {p : Program} {l : Launch} {e : Env} {R : Room} {s : State} {m : MethodId} {args : Array Value} {below : List Frame} {meth : Method} {c : Code} {Q : State → Prop} {D : zD} {ad : Nat → Nat} {o : Nat → Value} {base : Nat} {mi : Nat} {h0 : zH} {i : Nat} {L st : List Value} {h : zH}
theorem zLays_w (k : Nat) (ps : List Nat) (h : (u_ws (zCN k) (zFd k) (zFn k)).map some = ps.map fun p => lw_tbl[p]?) (hg : (u_ws (zCN k) (zFd k) (zFn k)).all zGood = true) : ∀ w ∈ u_ws (zCN k) (zFd k) (zFn k), w ∈ zWs := by
  intro w hw
  have h1 : some w ∈ (u_ws (zCN k) (zFd k) (zFn k)).map some := List.mem_map.mpr ⟨w, hw, rfl⟩
  rw [h] at h1
  obtain ⟨p, -, hp⟩ := List.mem_map.mp h1
  exact List.mem_filter.mpr ⟨List.mem_of_getElem? hp, List.all_eq_true.mp hg w hw⟩
theorem zLays_0 : ∀ w ∈ u_ws (zCN 0) (zFd 0) (zFn 0), w ∈ zWs := zLays_w 0 [380, 382, 384, 386, 388, 390, 392, 394, 396, 398, 400, 402, 404] (by decide +kernel) (by decide +kernel)
theorem zLays_1 : ∀ w ∈ u_ws (zCN 1) (zFd 1) (zFn 1), w ∈ zWs := zLays_w 1 [158, 160, 162, 164, 166, 168, 170, 172, 174, 176, 178, 180, 182, 184, 186, 188, 190, 192] (by decide +kernel) (by decide +kernel)
theorem zLays_2 : ∀ w ∈ u_ws (zCN 2) (zFd 2) (zFn 2), w ∈ zWs := zLays_w 2 [206, 208] (by decide +kernel) (by decide +kernel)
theorem zLays_3 : ∀ w ∈ u_ws (zCN 3) (zFd 3) (zFn 3), w ∈ zWs := zLays_w 3 [271, 273, 275, 277, 279, 281, 283, 285, 287, 289, 291, 293, 295] (by decide +kernel) (by decide +kernel)
theorem zLays_4 : ∀ w ∈ u_ws (zCN 4) (zFd 4) (zFn 4), w ∈ zWs := zLays_w 4 [228, 230, 232, 234, 236] (by decide +kernel) (by decide +kernel)
theorem zLays_5 : ∀ w ∈ u_ws (zCN 5) (zFd 5) (zFn 5), w ∈ zWs := zLays_w 5 [249, 251, 253, 255] (by decide +kernel) (by decide +kernel)
theorem zLays_6 : ∀ w ∈ u_ws (zCN 6) (zFd 6) (zFn 6), w ∈ zWs := zLays_w 6 [307, 309, 311] (by decide +kernel) (by decide +kernel)
theorem zLays_7 : ∀ w ∈ u_ws (zCN 7) (zFd 7) (zFn 7), w ∈ zWs := zLays_w 7 [323, 325, 327] (by decide +kernel) (by decide +kernel)
theorem zLays_8 : ∀ w ∈ u_ws (zCN 8) (zFd 8) (zFn 8), w ∈ zWs := zLays_w 8 [339] (by decide +kernel) (by decide +kernel)
theorem zLays_9 : ∀ w ∈ u_ws (zCN 9) (zFd 9) (zFn 9), w ∈ zWs := zLays_w 9 [354, 356, 358, 360, 362, 364] (by decide +kernel) (by decide +kernel)
theorem zLays_10 : ∀ w ∈ u_ws (zCN 10) (zFd 10) (zFn 10), w ∈ zWs := zLays_w 10 [1279, 1281, 1283, 1285, 1287, 1289, 1291, 1293, 1295, 1297, 1299, 1301, 1303, 1305, 1307, 1309, 1311, 1313, 1315, 1317, 1319, 1321, 1323, 1325, 1327, 1329, 1331, 1333, 1335, 1337, 1339, 1341] (by decide +kernel) (by decide +kernel)
theorem zLays_11 : ∀ w ∈ u_ws (zCN 11) (zFd 11) (zFn 11), w ∈ zWs := zLays_w 11 [1531, 1533, 1516] (by decide +kernel) (by decide +kernel)
theorem zLays : ∀ k, k < 12 → ∀ w ∈ u_ws (zCN k) (zFd k) (zFn k), w ∈ zWs
  | 0, _ => zLays_0
  | 1, _ => zLays_1
  | 2, _ => zLays_2
  | 3, _ => zLays_3
  | 4, _ => zLays_4
  | 5, _ => zLays_5
  | 6, _ => zLays_6
  | 7, _ => zLays_7
  | 8, _ => zLays_8
  | 9, _ => zLays_9
  | 10, _ => zLays_10
  | 11, _ => zLays_11
  | k + 12, h => absurd h (by omega)
theorem zFdOk : ∀ k, k < 13 → ∀ j, j < zFn k → parseFieldDescriptor (zFd k j).2.2.1 = some (zFt (zFd k j).2.2.1) := by decide +kernel
theorem zFdNm : ∀ k, k < 12 → ∀ a, a < zFn k → ∀ b, b < zFn k → a ≠ b → (zFd k a).2.1 ≠ (zFd k b).2.1 := by decide +kernel
theorem zS_getfield {idx ci j : Nat} {a : Nat} {v : Value} {host : String} (C : zCx p l s m args meth c R D ad o base mi) (hd : decode (zBy mi) (zPc mi i) = .ok (.getfield idx, 3)) (nx : zPc mi (i + 1) = zPc mi i + 3) (hci : ci < 13) (hj : j < zFn ci) (hw : Jvm.Cond.fieldLink (zOwn mi) idx (zFd ci j).1 (zFd ci j).2.1 (zFd ci j).2.2.1 ∈ zWs ∨ Jvm.Cond.fieldLinkNest (zOwn mi) idx (zFd ci j).1 (zFd ci j).2.1 (zFd ci j).2.2.1 host ∈ zWs) (hv : zAt h a ci j = some v) (hv0 : v ≠ .retAddr 0) (k : zG p l e R s m args below meth c Q D ad o base mi h0 (i + 1) L (v :: st) h) : zG p l e R s m args below meth c Q D ad o base mi h0 i L (.ref a :: st) h := by
  intro hl H locs cells slots ls hR hL hS hc hs
  unfold zAt at hv
  split at hv
  · rename_i hk
    obtain ⟨cell, h1, h2, h3, h4, h5, -, h6⟩ := hR.obj hk (by omega)
    obtain ⟨w, h7, h8⟩ := h6 j v hv
    rw [h8 hv0] at h7
    obtain ⟨cf, kf, fi, fd, g1, g2, g3⟩ := C.2.2.2.2.2.2.2.2.2.2.1.2.2.1 ci j hci hj
    have kk := k hl H locs cells slots ls hR hL hS hc hs
    rw [nx] at kk
    rw [← g2] at h7
    rcases hw with hw | hw
    · exact W.getf C.1 C.2.1 C.2.2.2.1 (C.2.2.2.2.1 _ hw) g1 g3 h1 h3 h7 rfl rfl hd kk
    · exact va_Wgetf C.1 C.2.1 C.2.2.2.1 (C.2.2.2.2.1 _ hw) g1 g3 h1 h3 h7 rfl rfl hd kk
  · cases hv
theorem zCell.objSet {U : State} {t : Value → Value} {k j : Nat} {l : List Value} {v : Value} {cell : Cell} (hk : k < 50) (hc : zCell D t U (k, l) cell) (hn : ∀ i j, i < l.length → j < l.length → i ≠ j → D.2.1 k i ≠ D.2.1 k j) (hj : j < l.length) : zCell D t U (k, l.set j v) (cell.setSlot (D.2.1 k j) (t v)) := by
  unfold zCell at hc ⊢
  rw [if_pos hk] at hc ⊢
  obtain ⟨h1, h2, h3, h4, hm, h5⟩ := hc
  refine ⟨⟨h1.1, fun z => by rw [show (l.set j v).length = l.length from List.length_set ..]; exact h1.2 z⟩, h2, h3, h4, fun q11 => ⟨(hm q11).1, (hm q11).2.1, by rw [show (cell.setSlot (D.2.1 k j) (t v)).slots.size = cell.slots.size from Array.size_setIfInBounds ..]; exact (hm q11).2.2⟩, fun i w hw => ?_⟩
  have hi : i < l.length := by have := (List.getElem?_eq_some_iff.mp hw).1; simpa using this
  by_cases e : i = j
  · subst e
    obtain ⟨w0, hw0, -⟩ := h5 i l[i] (List.getElem?_eq_getElem hi)
    have hs := (Array.getElem?_eq_some_iff.mp hw0).1
    simp only [List.getElem?_set_self hi, Option.some.injEq] at hw
    subst hw
    exact ⟨t v, by simp [Cell.setSlot, hs], fun _ => rfl⟩
  · rw [List.getElem?_set_ne (fun q => e q.symm)] at hw
    obtain ⟨w0, hw0, hw1⟩ := h5 i w hw
    refine ⟨w0, ?_, hw1⟩
    have hne : D.2.1 k j ≠ D.2.1 k i := hn j i hj hi (fun q => e q.symm)
    simp only [Cell.setSlot, Array.getElem?_setIfInBounds, hne, if_false]
    exact hw0
theorem zS_putfield {idx ci j : Nat} {a : Nat} {v : Value} {h' : zH} (C : zCx p l s m args meth c R D ad o base mi) (hd : decode (zBy mi) (zPc mi i) = .ok (.putfield idx, 3)) (nx : zPc mi (i + 1) = zPc mi i + 3) (hci : ci < 12) (hj : j < zFn ci) (hw : Jvm.Cond.fieldLink (zOwn mi) idx (zFd ci j).1 (zFd ci j).2.1 (zFd ci j).2.2.1 ∈ zWs) (hfin : (zFd ci j).2.2.2 = false ∨ (zOwn mi = zCN ci ∧ (zY mi).name = "<init>")) (hdc : (zFd ci j).1 = zCN ci) (hn : narrow (zFt (zFd ci j).2.2.1) (zTr ad o v) = zTr ad o v) (hf : fits (zFt (zFd ci j).2.2.1) (zTr ad o v) = true) (hv : zPut h a ci j v = some h') (k : zG p l e R s m args below meth c Q D ad o base mi h0 (i + 1) L st h') : zG p l e R s m args below meth c Q D ad o base mi h0 i L (v :: .ref a :: st) h := by
  intro hl H locs cells slots ls hR hL hS hc hs
  unfold zPut at hv
  split at hv
  · rename_i hk
    cases hv
    obtain ⟨hk, hjl⟩ := hk
    have hl2 : (h.2.2 a).2.length = zFn ci := by have := hR.len (a := a) (by omega); rw [hk] at this; exact this
    have hro : ¬ zRO (h.2.2 a).1 := by rw [hk]; unfold zRO; omega
    have h5 := hR.ge hro
    have hlt := hR.lt (a := a) (by omega)
    obtain ⟨cell, h1, hz⟩ := hR.1 a hlt
    have hz2 : zCell D (zTr ad o) s (ci, (h.2.2 a).2) cell := by
      have e : h.2.2 a = (ci, (h.2.2 a).2) := by rw [← hk]
      rw [e] at hz; exact hz
    have hzz := hz2
    unfold zCell at hzz
    rw [if_pos (show (ci, (h.2.2 a).2).1 < 50 by show ci < 50; omega)] at hzz
    obtain ⟨q1, q2, q3, q4, -, q5⟩ := hzz
    have hvm : cell.vm = .none := q4 (by show ci ≠ 12; omega)
    obtain ⟨cf, kf, fi, fd, g1, g2, g3⟩ := C.2.2.2.2.2.2.2.2.2.2.1.2.2.1 ci j (by omega) hj
    obtain ⟨hfc, kC, hkC, hkind⟩ := C.2.2.2.2.2.2.2.2.2.2.1.2.1 ci (by omega) (by omega)
    obtain ⟨w0, hw0, -⟩ := q5 j (h.2.2 a).2[j] (List.getElem?_eq_getElem hjl)
    have hw0 : cell.slots[D.2.1 ci j]? = some w0 := hw0
    have hsl : fd.slot < cell.slots.size := by rw [g2]; exact (Array.getElem?_eq_some_iff.mp hw0).1
    have hlay := C.2.2.2.2.1 _ (zLays ci hci _ (u_in_lay hj))
    have hpd := zFdOk ci (by omega) j hj
    have hq1 : cell.cls = D.1 ci := q1.1
    have fin : ∀ H' : Heap, H'[ad a]? = some (cell.setSlot fd.slot (zTr ad o v)) → H'.size = H.size → (∀ q, q ≠ ad a → H'[q]? = H[q]?) → W p l e R s m args below meth c H' (locs ++ [⟨ad a, fd.slot⟩]) cells slots Q (F0 m (zPc mi i + 3) ls (st.map (zTr ad o))) := by
      intro H' e1 e2 e3
      rw [g2] at e1
      have hz3 := zCell.objSet (v := v) (by omega) hz2 (fun x y hx hy => C.2.2.2.2.2.2.2.2.2.2.1.2.2.2.1 ci x y hci (by omega) (by omega)) hjl
      have := k hl H' (locs ++ [⟨ad a, fd.slot⟩]) cells slots ls (hR.write h5 hlt (by show ¬ zRO ci; rw [← hk]; exact hro) e1 hz3 e2 e3) hL (hS.put e2 e3 (hR.base_le h5)) hc hs
      rw [nx] at this
      exact this
    show W p l e R s m args below meth c H locs cells slots Q (F0 m (zPc mi i) ls (zTr ad o v :: .ref (ad a) :: st.map (zTr ad o)))
    unfold u_lay at hlay
    by_cases hff : (zFd ci j).2.2.2 = true
    · rw [if_pos hff] at hlay
      have hfin2 : zOwn mi = zCN ci ∧ (zY mi).name = "<init>" := by
        rcases hfin with q | q
        · rw [q] at hff; cases hff
        · exact q
      have hst := (u_facts hfc hkC (Or.inr hlay) g1).1
      have hcf : m.cls = cf := by
        obtain ⟨_, _, c', _, _, _, -, -, hf', -, -, -, hown2, -⟩ := Cond.laysFinal_spec hlay
        have e1 : c' = cf := by have := g1.symm.trans hf'; simp at this; exact this.1.symm
        rw [hdc] at hown2
        rw [← e1]
        have ho := C.2.2.2.1
        rw [hfin2.1] at ho
        exact Option.some.inj (ho.symm.trans hown2)
      have h6 := u_fits hfc hkC hkind (Or.inr hlay) g1 hpd hn hf
      exact W.putFinK C.1 C.2.1 C.2.2.2.1 (C.2.2.2.2.1 _ hw) g1 hst hcf (C.2.2.2.2.2.2.2.1 hfin2.2) (by rw [hq1]; exact h6) h1 hvm hsl rfl rfl hd fin
    · rw [if_neg hff] at hlay
      have h6 := u_store hfc hkC hkind hlay g1 hpd hn hf
      exact W.putK C.1 C.2.1 (f := fd) ⟨C.2.2.2.1, C.2.2.2.2.1 _ hw, ⟨_, _, _, g1⟩, g3⟩ (by rw [hq1]; exact h6) h1 hvm hsl rfl rfl hd fin
  · cases hv
theorem zS_iaload {kd : Nat} {a j : Nat} {x : Int32} {v : Value} (C : zCx p l s m args meth c R D ad o base mi) (hd : decode (zBy mi) (zPc mi i) = .ok (.iaload, 1)) (nx : zPc mi (i + 1) = zPc mi i + 1) (hkd : kd = 100 ∨ kd = 106) (hj : zIx h a kd x = some j) (hv : zAt h a kd j = some v) (hv0 : v ≠ .retAddr 0) (k : zG p l e R s m args below meth c Q D ad o base mi h0 (i + 1) L (v :: st) h) : zG p l e R s m args below meth c Q D ad o base mi h0 i L (.int x :: .ref a :: st) h := by
  intro hl H locs cells slots ls hR hL hS hc hs
  unfold zIx at hj
  unfold zAt at hv
  split at hj
  · rename_i hk
    cases hj
    rw [if_pos hk.1] at hv
    obtain ⟨cell, h1, h2, h3, h4, h5⟩ := hR.arr C.2.2.2.2.2.2.2.2.2.2.1.arr hk.1 (by omega)
    have kk := k hl H locs cells slots ls hR hL hS hc hs
    rw [nx] at kk
    exact W.iald C.1 C.2.1 h1 (by rcases hkd with rfl | rfl <;> exact h2) h3 (fun z => hk.2 (z.imp id fun q => Nat.le_trans h4.1 q)) (h5 _ _ hv) rfl rfl hd kk
  · cases hj
theorem zS_laload {kd : Nat} {a j : Nat} {x : Int32} {v : Value} (C : zCx p l s m args meth c R D ad o base mi) (hd : decode (zBy mi) (zPc mi i) = .ok (.laload, 1)) (nx : zPc mi (i + 1) = zPc mi i + 1) (hkd : kd = 101) (hj : zIx h a kd x = some j) (hv : zAt h a kd j = some v) (hv0 : v ≠ .retAddr 0) (k : zG p l e R s m args below meth c Q D ad o base mi h0 (i + 1) L (v :: st) h) : zG p l e R s m args below meth c Q D ad o base mi h0 i L (.int x :: .ref a :: st) h := by
  intro hl H locs cells slots ls hR hL hS hc hs
  unfold zIx at hj
  unfold zAt at hv
  split at hj
  · rename_i hk
    cases hj
    rw [if_pos hk.1] at hv
    obtain ⟨cell, h1, h2, h3, h4, h5⟩ := hR.arr C.2.2.2.2.2.2.2.2.2.2.1.arr hk.1 (by omega)
    have kk := k hl H locs cells slots ls hR hL hS hc hs
    rw [nx] at kk
    exact W.lald C.1 C.2.1 h1 (by subst hkd; exact h2) h3 (fun z => hk.2 (z.imp id fun q => Nat.le_trans h4.1 q)) (h5 _ _ hv) rfl rfl hd kk
  · cases hj
theorem zS_daload {kd : Nat} {a j : Nat} {x : Int32} {v : Value} (C : zCx p l s m args meth c R D ad o base mi) (hd : decode (zBy mi) (zPc mi i) = .ok (.daload, 1)) (nx : zPc mi (i + 1) = zPc mi i + 1) (hkd : kd = 105) (hj : zIx h a kd x = some j) (hv : zAt h a kd j = some v) (hv0 : v ≠ .retAddr 0) (k : zG p l e R s m args below meth c Q D ad o base mi h0 (i + 1) L (v :: st) h) : zG p l e R s m args below meth c Q D ad o base mi h0 i L (.int x :: .ref a :: st) h := by
  intro hl H locs cells slots ls hR hL hS hc hs
  unfold zIx at hj
  unfold zAt at hv
  split at hj
  · rename_i hk
    cases hj
    rw [if_pos hk.1] at hv
    obtain ⟨cell, h1, h2, h3, h4, h5⟩ := hR.arr C.2.2.2.2.2.2.2.2.2.2.1.arr hk.1 (by omega)
    have kk := k hl H locs cells slots ls hR hL hS hc hs
    rw [nx] at kk
    exact W.dald C.1 C.2.1 h1 (by subst hkd; exact h2) h3 (fun z => hk.2 (z.imp id fun q => Nat.le_trans h4.1 q)) (h5 _ _ hv) rfl rfl hd kk
  · cases hj
theorem zS_baload {kd : Nat} {a j : Nat} {x : Int32} {v : Value} (C : zCx p l s m args meth c R D ad o base mi) (hd : decode (zBy mi) (zPc mi i) = .ok (.baload, 1)) (nx : zPc mi (i + 1) = zPc mi i + 1) (hkd : kd = 102 ∨ kd = 103) (hj : zIx h a kd x = some j) (hv : zAt h a kd j = some v) (hv0 : v ≠ .retAddr 0) (k : zG p l e R s m args below meth c Q D ad o base mi h0 (i + 1) L (v :: st) h) : zG p l e R s m args below meth c Q D ad o base mi h0 i L (.int x :: .ref a :: st) h := by
  intro hl H locs cells slots ls hR hL hS hc hs
  unfold zIx at hj
  unfold zAt at hv
  split at hj
  · rename_i hk
    cases hj
    rw [if_pos hk.1] at hv
    obtain ⟨cell, h1, h2, h3, h4, h5⟩ := hR.arr C.2.2.2.2.2.2.2.2.2.2.1.arr hk.1 (by omega)
    have kk := k hl H locs cells slots ls hR hL hS hc hs
    rw [nx] at kk
    rcases hkd with rfl | rfl
    · exact W.zald C.1 C.2.1 h1 h2 h3 (fun z => hk.2 (z.imp id fun q => Nat.le_trans h4.1 q)) (h5 _ _ hv) rfl rfl hd kk
    · exact W.bald C.1 C.2.1 h1 h2 h3 (fun z => hk.2 (z.imp id fun q => Nat.le_trans h4.1 q)) (h5 _ _ hv) rfl rfl hd kk
  · cases hj
theorem zS_aaload {kd : Nat} {a j : Nat} {x : Int32} {v : Value} (C : zCx p l s m args meth c R D ad o base mi) (hd : decode (zBy mi) (zPc mi i) = .ok (.aaload, 1)) (nx : zPc mi (i + 1) = zPc mi i + 1) (hkd : kd = 110 ∨ kd = 111) (hj : zIx h a kd x = some j) (hv : zAt h a kd j = some v) (hv0 : v ≠ .retAddr 0) (k : zG p l e R s m args below meth c Q D ad o base mi h0 (i + 1) L (v :: st) h) : zG p l e R s m args below meth c Q D ad o base mi h0 i L (.int x :: .ref a :: st) h := by
  intro hl H locs cells slots ls hR hL hS hc hs
  unfold zIx at hj
  unfold zAt at hv
  split at hj
  · rename_i hk
    cases hj
    rw [if_pos hk.1] at hv
    obtain ⟨cell, h1, h2, h3, h4, h5⟩ := hR.arr C.2.2.2.2.2.2.2.2.2.2.1.arr hk.1 (by omega)
    have kk := k hl H locs cells slots ls hR hL hS hc hs
    rw [nx] at kk
    exact W.aald C.1 C.2.1 h1 h2 (by rcases hkd with rfl | rfl <;> rfl) h3 (fun z => hk.2 (z.imp id fun q => Nat.le_trans h4.1 q)) (h5 _ _ hv) rfl rfl hd kk
  · cases hj
theorem zStoreArr {kd : Nat} {a j : Nat} {x : Int32} {v : Value} {h' : zH} {H : Heap} {locs : List Loc} (hR : zRel D (zTr ad o) ad base s h H) (hS : va_S (zThr base) s.heap H locs) (hm : kd ∈ zAK) (hge : 100 ≤ kd) (hro : ¬ zRO kd) (hj : zIx h a kd x = some j) (hv : zPut h a kd j v = some h') :
    ∃ (cell : Cell), H[ad a]? = some cell ∧ cell = arrV (D.2.2 kd) (h.2.2 a).2.length (fun j => zTr ad o ((h.2.2 a).2.getD j .null)) ∧ ¬ (x < 0 ∨ cell.slots.size ≤ x.toNatClampNeg) ∧ h'.1 = h.1 ∧ h'.2.1 = h.2.1 ∧ ∀ H' : Heap, H'[ad a]? = some (cell.setSlot x.toNatClampNeg (zTr ad o v)) → H'.size = H.size → (∀ q, q ≠ ad a → H'[q]? = H[q]?) → zRel D (zTr ad o) ad base s h' H' ∧ va_S (zThr base) s.heap H' (locs ++ [⟨ad a, x.toNatClampNeg⟩]) := by
  unfold zIx at hj
  split at hj
  · rename_i hk
    cases hj
    unfold zPut at hv
    split at hv
    · rename_i hk2
      cases hv
      have hro2 : ¬ zRO (h.2.2 a).1 := by rw [hk.1]; exact hro
      have h5 := hR.ge hro2
      have hlt := hR.lt (a := a) (by omega)
      refine ⟨_, hR.arrW hk.1 hge hro, rfl, by rw [arrV_size]; exact hk.2, rfl, rfl, fun H' e1 e2 e3 => ?_⟩
      exact ⟨hR.write h5 hlt hro e1 (zCell.arrSet rfl hm hge hro hk2.2) e2 e3, hS.put e2 e3 (hR.base_le h5)⟩
    · cases hv
  · cases hj
theorem zS_iastore {a j : Nat} {x : Int32} {y : Int32} {h' : zH} (C : zCx p l s m args meth c R D ad o base mi) (hd : decode (zBy mi) (zPc mi i) = .ok (.iastore, 1)) (nx : zPc mi (i + 1) = zPc mi i + 1) (hj : zIx h a 100 x = some j) (hv : zPut h a 100 j (.int y) = some h') (k : zG p l e R s m args below meth c Q D ad o base mi h0 (i + 1) L st h') : zG p l e R s m args below meth c Q D ad o base mi h0 i L (.int y :: .int x :: .ref a :: st) h := by
  intro hl H locs cells slots ls hR hL hS hc hs
  obtain ⟨cell, h1, hce, h2, h3, h4, h5⟩ := zStoreArr hR hS (by simp [zAK]) (by omega) (by unfold zRO; omega) hj hv
  refine W.iast C.1 C.2.1 h1 (by rw [hce]; exact (C.2.2.2.2.2.2.2.2.2.2.1.arr 100 (by simp [zAK])) _ _) (by rw [hce]; exact fun z => by cases z) h2 rfl rfl hd fun H' e1 e2 e3 => ?_
  obtain ⟨g1, g2⟩ := h5 H' e1 e2 e3
  have := k hl H' _ cells slots ls g1 hL g2 (by rw [h3]; exact hc) (by rw [h4]; exact hs)
  rw [nx] at this
  exact this
theorem zS_lastore {a j : Nat} {x : Int32} {y : Int64} {h' : zH} (C : zCx p l s m args meth c R D ad o base mi) (hd : decode (zBy mi) (zPc mi i) = .ok (.lastore, 1)) (nx : zPc mi (i + 1) = zPc mi i + 1) (hj : zIx h a 101 x = some j) (hv : zPut h a 101 j (.long y) = some h') (k : zG p l e R s m args below meth c Q D ad o base mi h0 (i + 1) L st h') : zG p l e R s m args below meth c Q D ad o base mi h0 i L (.long y :: .int x :: .ref a :: st) h := by
  intro hl H locs cells slots ls hR hL hS hc hs
  obtain ⟨cell, h1, hce, h2, h3, h4, h5⟩ := zStoreArr hR hS (by simp [zAK]) (by omega) (by unfold zRO; omega) hj hv
  refine W.last C.1 C.2.1 h1 (by rw [hce]; exact (C.2.2.2.2.2.2.2.2.2.2.1.arr 101 (by simp [zAK])) _ _) (by rw [hce]; exact fun z => by cases z) h2 rfl rfl hd fun H' e1 e2 e3 => ?_
  obtain ⟨g1, g2⟩ := h5 H' e1 e2 e3
  have := k hl H' _ cells slots ls g1 hL g2 (by rw [h3]; exact hc) (by rw [h4]; exact hs)
  rw [nx] at this
  exact this
theorem zS_dastore {a j : Nat} {x : Int32} {y : UInt64} {h' : zH} (C : zCx p l s m args meth c R D ad o base mi) (hd : decode (zBy mi) (zPc mi i) = .ok (.dastore, 1)) (nx : zPc mi (i + 1) = zPc mi i + 1) (hj : zIx h a 105 x = some j) (hv : zPut h a 105 j (.double y) = some h') (k : zG p l e R s m args below meth c Q D ad o base mi h0 (i + 1) L st h') : zG p l e R s m args below meth c Q D ad o base mi h0 i L (.double y :: .int x :: .ref a :: st) h := by
  intro hl H locs cells slots ls hR hL hS hc hs
  obtain ⟨cell, h1, hce, h2, h3, h4, h5⟩ := zStoreArr hR hS (by simp [zAK]) (by omega) (by unfold zRO; omega) hj hv
  refine W.dast C.1 C.2.1 h1 (by rw [hce]; exact (C.2.2.2.2.2.2.2.2.2.2.1.arr 105 (by simp [zAK])) _ _) (by rw [hce]; exact fun z => by cases z) h2 rfl rfl hd fun H' e1 e2 e3 => ?_
  obtain ⟨g1, g2⟩ := h5 H' e1 e2 e3
  have := k hl H' _ cells slots ls g1 hL g2 (by rw [h3]; exact hc) (by rw [h4]; exact hs)
  rw [nx] at this
  exact this
theorem zS_bastore {a j : Nat} {x y z : Int32} {h' : zH} (C : zCx p l s m args meth c R D ad o base mi) (hd : decode (zBy mi) (zPc mi i) = .ok (.bastore, 1)) (nx : zPc mi (i + 1) = zPc mi i + 1) (hz : zB y = some z) (hj : zIx h a 102 x = some j) (hv : zPut h a 102 j (.int z) = some h') (k : zG p l e R s m args below meth c Q D ad o base mi h0 (i + 1) L st h') : zG p l e R s m args below meth c Q D ad o base mi h0 i L (.int y :: .int x :: .ref a :: st) h := by
  intro hl H locs cells slots ls hR hL hS hc hs
  obtain ⟨cell, h1, hce, h2, h3, h4, h5⟩ := zStoreArr hR hS (by simp [zAK]) (by omega) (by unfold zRO; omega) hj hv
  refine W.zast C.1 C.2.1 h1 (by rw [hce]; exact (C.2.2.2.2.2.2.2.2.2.2.1.arr 102 (by simp [zAK])) _ _) (by rw [hce]; exact fun z => by cases z) h2 rfl rfl hd fun H' e1 e2 e3 => ?_
  have hnr : narrow .boolean (.int y) = .int z := by
    unfold zB at hz
    split at hz
    · rename_i q; cases hz; rw [q]; rfl
    · split at hz
      · rename_i q; cases hz; rw [q]; rfl
      · cases hz
  rw [hnr] at e1
  obtain ⟨g1, g2⟩ := h5 H' e1 e2 e3
  have := k hl H' _ cells slots ls g1 hL g2 (by rw [h3]; exact hc) (by rw [h4]; exact hs)
  rw [nx] at this
  exact this
theorem zS_arraylength {a : Nat} (C : zCx p l s m args meth c R D ad o base mi) (hd : decode (zBy mi) (zPc mi i) = .ok (.arraylength, 1)) (nx : zPc mi (i + 1) = zPc mi i + 1) (hk : 100 ≤ (h.2.2 a).1) (k : zG p l e R s m args below meth c Q D ad o base mi h0 (i + 1) L (.int (h.2.2 a).2.length.toInt32 :: st) h) : zG p l e R s m args below meth c Q D ad o base mi h0 i L (.ref a :: st) h := by
  intro hl H locs cells slots ls hR hL hS hc hs
  obtain ⟨cell, h1, h2, h3, h4, h5⟩ := hR.arr C.2.2.2.2.2.2.2.2.2.2.1.arr rfl hk
  have kk := k hl H locs cells slots ls hR hL hS hc hs
  rw [nx] at kk
  exact W.alen C.1 C.2.1 h1 h2 h4.2 rfl rfl hd kk
theorem zS_aastore {a j b : Nat} {x : Int32} {h' : zH} (C : zCx p l s m args meth c R D ad o base mi) (hd : decode (zBy mi) (zPc mi i) = .ok (.aastore, 1)) (nx : zPc mi (i + 1) = zPc mi i + 1) (hb1 : (h.2.2 b).1 = 1) (hj : zIx h a 110 x = some j) (hv : zPut h a 110 j (.ref b) = some h') (hself : ∀ k, s.vm.classes[D.1 1]? = some k → s.vm.assignable (D.1 1) (D.1 1) = true) (k : zG p l e R s m args below meth c Q D ad o base mi h0 (i + 1) L st h') : zG p l e R s m args below meth c Q D ad o base mi h0 i L (.ref b :: .int x :: .ref a :: st) h := by
  intro hl H locs cells slots ls hR hL hS hc hs
  obtain ⟨cell, h1, hce, h2, h3, h4, h5⟩ := zStoreArr hR hS (by simp [zAK]) (by omega) (by unfold zRO; omega) hj hv
  obtain ⟨cb, b1, b2, b3, b4, b5, -⟩ := hR.obj hb1 (by omega)
  obtain ⟨-, kA, comp, r1, r2, r3, r4⟩ := C.2.2.2.2.2.2.2.2.2.2.1.2.2.2.2 110 (by simp [zAK])
  obtain ⟨hfc, kC, hkC, hkind⟩ := C.2.2.2.2.2.2.2.2.2.2.1.2.1 1 (by omega) (by omega)
  have hcomp : comp = D.1 1 := Option.some.inj (r3.symm.trans hfc)
  subst hcomp
  refine W.aast C.1 C.2.1 h1 (by rw [hce]; exact fun q z => by cases z) (by rw [hce]; exact fun z => by cases z) (by rw [hce]; exact r1) r2 rfl hkC (not_or.mp h2 |>.imp id Nat.not_le.mp) b1 (fun q z => by rw [z] at b4; cases b4) (by rw [b2]; exact hkC) (by rw [b2]; exact hself _ hkC) rfl rfl hd fun H' e1 e2 e3 => ?_
  obtain ⟨g1, g2⟩ := h5 H' e1 e2 e3
  have := k hl H' _ cells slots ls g1 hL g2 (by rw [h3]; exact hc) (by rw [h4]; exact hs)
  rw [nx] at this
  exact this
end ZHSTEP
