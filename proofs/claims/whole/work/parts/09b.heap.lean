/-! The small machine's heap against the JVM's: its cells lie one behind another from 'base' on; the first five are read alone. -/
section ZHEAP
/-- class numbers, places of fields, classes of arrays -/
abbrev zD : Type := (Nat → ClassId) × (Nat → Nat → Nat) × (Nat → ClassId)
/-- the array types by their kinds -/
def zAT : Nat → FieldType
  | 100 => .int
  | 101 => .long
  | 102 => .boolean
  | 103 => .byte
  | 105 => .double
  | 106 => .int
  | 110 => .object "PassForge$Program"
  | _ => .array .long
def zAK : List Nat := [100, 101, 102, 105, 110, 111]
def zRO (k : Nat) : Prop := k = 12 ∨ k = 103 ∨ k = 106
def zCell (D : zD) (t : Value → Value) (U : State) (c : zC) (cell : Cell) : Prop :=
  if c.1 < 50 then (cell.cls = D.1 c.1 ∧ (c.1 < 12 → c.2.length = zFn c.1)) ∧ cell.vm ≠ .unknown ∧ cell.vm.isStatics = false ∧ (c.1 ≠ 12 → cell.vm = .none) ∧ (c.1 = 11 → cell.monitor.owner = none ∧ cell.monitor.count = 0 ∧ cell.slots.size = 8) ∧ ∀ (j : Nat) (v : Value), c.2[j]? = some v → ∃ w, cell.slots[D.2.1 c.1 j]? = some w ∧ (v ≠ .retAddr 0 → w = t v)
  else if c.1 = 103 ∨ c.1 = 106 then U.isArrayOf cell (if c.1 = 103 then .byte else .int) ∧ cell.vm ≠ .unknown ∧ (c.2.length ≤ cell.slots.size ∧ cell.slots.size.toInt32 = c.2.length.toInt32) ∧ ∀ (j : Nat) (v : Value), c.2[j]? = some v → cell.slots[j]? = some (t v)
  else if 100 ≤ c.1 then c.1 ∈ zAK ∧ cell = arrV (D.2.2 c.1) c.2.length (fun j => t (c.2.getD j .null)) else False
def zRel (D : zD) (t : Value → Value) (ad : Nat → Nat) (base : Nat) (U : State) (h : zH) (H : Heap) : Prop :=
  (∀ k, k < h.1 → ∃ cell, H[ad k]? = some cell ∧ zCell D t U (h.2.2 k) cell) ∧ (∀ k, h.1 ≤ k → (h.2.2 k).1 = 50) ∧ 5 ≤ h.1 ∧ H.size + 5 = base + h.1 ∧ (∀ k, 5 ≤ k → ad k + 5 = base + k) ∧ (∀ k, k < 5 → ad k < base ∧ zRO (h.2.2 k).1) ∧ (∀ k, 5 ≤ k → ¬ zRO (h.2.2 k).1)
variable {D : zD} {t : Value → Value} {ad : Nat → Nat} {base : Nat} {U V : State} {h : zH} {H H' : Heap}
theorem zCell.moved {c : zC} {cell : Cell} (hvm : U.vm.Alike V.vm) (hc : zCell D t U c cell) : zCell D t V c cell := by
  unfold zCell at hc ⊢
  by_cases h1 : c.1 < 50
  · rw [if_pos h1] at hc ⊢; exact hc
  · rw [if_neg h1] at hc ⊢
    by_cases h2 : c.1 = 103 ∨ c.1 = 106
    · rw [if_pos h2] at hc ⊢
      exact ⟨State.isArrayOf_alike hvm hc.1, hc.2⟩
    · rw [if_neg h2] at hc ⊢; exact hc
theorem zRel.moved (hvm : U.vm.Alike V.vm) (hR : zRel D t ad base U h H) : zRel D t ad base V h H :=
  ⟨fun k hk => by obtain ⟨c, h1, h2⟩ := hR.1 k hk; exact ⟨c, h1, h2.moved hvm⟩, hR.2⟩
theorem zRel.lt (hR : zRel D t ad base U h H) {a : Nat} (hk : (h.2.2 a).1 ≠ 50) : a < h.1 := by
  by_cases e : a < h.1
  · exact e
  · exact absurd (hR.2.1 a (by omega)) hk
theorem zRel.ge (hR : zRel D t ad base U h H) {a : Nat} (hk : ¬ zRO (h.2.2 a).1) : 5 ≤ a := by
  by_cases e : 5 ≤ a
  · exact e
  · exact absurd (hR.2.2.2.2.2.1 a (by omega)).2 hk
theorem zRel.base_le (hR : zRel D t ad base U h H) {a : Nat} (ha : 5 ≤ a) : base ≤ ad a := by
  have := hR.2.2.2.2.1 a ha
  omega
theorem zRel.ne (hR : zRel D t ad base U h H) {a k : Nat} (ha : 5 ≤ a) (hk : k ≠ a) : ad k ≠ ad a := by
  have h1 := hR.2.2.2.2.1 a ha
  by_cases e : 5 ≤ k
  · have h2 := hR.2.2.2.2.1 k e
    omega
  · have h2 := (hR.2.2.2.2.2.1 k (by omega)).1
    omega
theorem zRel.write (hR : zRel D t ad base U h H) {a : Nat} {c : zC} {cell : Cell} (h5 : 5 ≤ a) (hl : a < h.1) (hro : ¬ zRO c.1) (hc : H'[ad a]? = some cell) (hz : zCell D t U c cell) (hs : H'.size = H.size) (ho : ∀ q, q ≠ ad a → H'[q]? = H[q]?) : zRel D t ad base U (zSet h a c) H' := by
  refine ⟨fun k hk => ?_, fun k hk => ?_, hR.2.2.1, by rw [hs]; exact hR.2.2.2.1, hR.2.2.2.2.1, fun k hk => ?_, fun k hk => ?_⟩
  · show ∃ cell, H'[ad k]? = some cell ∧ zCell D t U (zUpd h.2.2 a c k) cell
    unfold zUpd
    by_cases e : k = a
    · subst e
      rw [if_pos rfl]
      exact ⟨cell, hc, hz⟩
    · rw [if_neg e, ho _ (hR.ne h5 e)]
      exact hR.1 k hk
  · show (zUpd h.2.2 a c k).1 = 50
    unfold zUpd
    rw [if_neg (by have : h.1 ≤ k := hk; omega)]
    exact hR.2.1 k hk
  · show ad k < base ∧ zRO (zUpd h.2.2 a c k).1
    unfold zUpd
    rw [if_neg (by omega)]
    exact hR.2.2.2.2.2.1 k hk
  · show ¬ zRO (zUpd h.2.2 a c k).1
    unfold zUpd
    split
    · exact hro
    · exact hR.2.2.2.2.2.2 k hk
theorem zRel.top (hR : zRel D t ad base U h H) : ad h.1 = H.size := by
  have h1 := hR.2.2.2.2.1 h.1 hR.2.2.1
  have h2 := hR.2.2.2.1
  omega
theorem zRel.push (hR : zRel D t ad base U h H) {w : Nat} {c : zC} {cell : Cell} (hro : ¬ zRO c.1) (hc : H'[H.size]? = some cell) (hz : zCell D t U c cell) (hs : H'.size = H.size + 1) (ho : ∀ q, q < H.size → H'[q]? = H[q]?) : zRel D t ad base U (zPush h w c) H' := by
  have ht := hR.top
  have h5 := hR.2.2.1
  have hsz := hR.2.2.2.1
  refine ⟨fun k hk => ?_, fun k hk => ?_, by show 5 ≤ h.1 + 1; omega, by show H'.size + 5 = base + (h.1 + 1); omega, hR.2.2.2.2.1, fun k hk => ?_, fun k hk => ?_⟩
  · show ∃ cell, H'[ad k]? = some cell ∧ zCell D t U (zUpd h.2.2 h.1 c k) cell
    have hk : k < h.1 + 1 := hk
    unfold zUpd
    by_cases e : k = h.1
    · subst e
      rw [if_pos rfl, ht]
      exact ⟨cell, hc, hz⟩
    · rw [if_neg e]
      obtain ⟨c0, h1, h2⟩ := hR.1 k (by omega)
      exact ⟨c0, by rw [ho _ (Array.getElem?_eq_some_iff.mp h1).1]; exact h1, h2⟩
  · show (zUpd h.2.2 h.1 c k).1 = 50
    have hk : h.1 + 1 ≤ k := hk
    unfold zUpd
    rw [if_neg (by omega)]
    exact hR.2.1 k (by omega)
  · show ad k < base ∧ zRO (zUpd h.2.2 h.1 c k).1
    unfold zUpd
    rw [if_neg (by omega)]
    exact hR.2.2.2.2.2.1 k hk
  · show ¬ zRO (zUpd h.2.2 h.1 c k).1
    unfold zUpd
    split
    · exact hro
    · exact hR.2.2.2.2.2.2 k hk
/-- an object -/
theorem zRel.obj (hR : zRel D t ad base U h H) {a : Nat} {k : Nat} (hk : (h.2.2 a).1 = k) (hlt : k < 50) : ∃ cell, H[ad a]? = some cell ∧ cell.cls = D.1 k ∧ cell.vm ≠ .unknown ∧ cell.vm.isStatics = false ∧ (k ≠ 12 → cell.vm = .none) ∧ (k = 11 → cell.monitor.owner = none ∧ cell.monitor.count = 0 ∧ cell.slots.size = 8) ∧ ∀ (j : Nat) (v : Value), (h.2.2 a).2[j]? = some v → ∃ w, cell.slots[D.2.1 k j]? = some w ∧ (v ≠ .retAddr 0 → w = t v) := by
  subst hk
  obtain ⟨cell, h1, h2⟩ := hR.1 a (hR.lt (by omega))
  unfold zCell at h2
  rw [if_pos hlt] at h2
  exact ⟨cell, h1, h2.1.1, h2.2⟩
theorem zRel.len (hR : zRel D t ad base U h H) {a : Nat} (hlt : (h.2.2 a).1 < 12) : (h.2.2 a).2.length = zFn (h.2.2 a).1 := by
  obtain ⟨cell, h1, h2⟩ := hR.1 a (hR.lt (by omega))
  unfold zCell at h2
  rw [if_pos (by omega)] at h2
  exact h2.1.2 hlt
/-- an array, to read -/
theorem zRel.arr (hR : zRel D t ad base U h H) (hA : ∀ k ∈ zAK, ArrOfT U (D.2.2 k) (zAT k)) {a : Nat} {k : Nat} (hk : (h.2.2 a).1 = k) (hge : 100 ≤ k) : ∃ cell, H[ad a]? = some cell ∧ U.isArrayOf cell (zAT k) ∧ cell.vm ≠ .unknown ∧ ((h.2.2 a).2.length ≤ cell.slots.size ∧ cell.slots.size.toInt32 = (h.2.2 a).2.length.toInt32) ∧ ∀ (j : Nat) (v : Value), (h.2.2 a).2[j]? = some v → cell.slots[j]? = some (t v) := by
  subst hk
  obtain ⟨cell, h1, h2⟩ := hR.1 a (hR.lt (by omega))
  unfold zCell at h2
  rw [if_neg (by omega)] at h2
  by_cases e : (h.2.2 a).1 = 103 ∨ (h.2.2 a).1 = 106
  · rw [if_pos e] at h2
    refine ⟨cell, h1, ?_, h2.2⟩
    rcases e with e | e
    · rw [e]; have := h2.1; rw [if_pos e] at this; exact this
    · rw [e]; have := h2.1; rw [if_neg (by omega)] at this; exact this
  · rw [if_neg e, if_pos hge] at h2
    obtain ⟨hm, h2⟩ := h2
    refine ⟨cell, h1, ?_, ?_, ?_, ?_⟩
    · rw [h2]; exact hA _ hm _ _
    · rw [h2]; exact fun z => by cases z
    · rw [h2, arrV_size]; exact ⟨Nat.le_refl _, rfl⟩
    · intro j v hj
      rw [h2, arrV_read _ _ (List.getElem?_eq_some_iff.mp hj).1, List.getD_eq_getElem?_getD, hj]
      rfl
/-- an array, to write: its cell whole -/
theorem zRel.arrW (hR : zRel D t ad base U h H) {a : Nat} {k : Nat} (hk : (h.2.2 a).1 = k) (hge : 100 ≤ k) (hro : ¬ zRO k) : H[ad a]? = some (arrV (D.2.2 k) (h.2.2 a).2.length (fun j => t ((h.2.2 a).2.getD j .null))) := by
  subst hk
  obtain ⟨cell, h1, h2⟩ := hR.1 a (hR.lt (by omega))
  unfold zCell at h2
  rw [if_neg (by omega), if_neg (fun q => hro (by unfold zRO; omega)), if_pos hge] at h2
  rw [h1, h2.2]
theorem zCell.arrSet {k n j : Nat} {l : List Value} {v : Value} (hn : l.length = n) (hm : k ∈ zAK) (hge : 100 ≤ k) (hro : ¬ zRO k) (hj : j < n) : zCell D t U (k, l.set j v) ((arrV (D.2.2 k) n (fun j => t (l.getD j .null))).setSlot j (t v)) := by
  unfold zCell
  rw [if_neg (show ¬ k < 50 by omega), if_neg (fun q => hro (by unfold zRO; simp only at q; omega)), if_pos hge, arrV_store]
  refine ⟨hm, ?_⟩
  show arrV (D.2.2 k) n _ = arrV (D.2.2 k) (l.set j v).length _
  rw [List.length_set, hn]
  refine congrArg (arrV (D.2.2 k) n) (funext fun i => ?_)
  show (if i = j then t v else t (l.getD i .null)) = t ((l.set j v).getD i .null)
  rw [List.getD_eq_getElem?_getD, List.getD_eq_getElem?_getD, List.getElem?_set]
  by_cases e : i = j
  · subst e
    rw [if_pos rfl, if_pos rfl, if_pos (by omega)]
    rfl
  · rw [if_neg e, if_neg (fun q => e q.symm)]
theorem zCell.arrNew {k n : Nat} {v : Value} (hm : k ∈ zAK) (hge : 100 ≤ k) (hro : ¬ zRO k) {w : Value} (hw : w = t v) : zCell D t U (k, List.replicate n v) (arrV (D.2.2 k) n (fun _ => w)) := by
  unfold zCell
  rw [if_neg (show ¬ k < 50 by omega), if_neg (fun q => hro (by unfold zRO; simp only at q; omega)), if_pos hge, List.length_replicate]
  refine ⟨hm, ?_⟩
  have key : ∀ f g : Nat → Value, (∀ i, i < n → f i = g i) → arrV (D.2.2 k) n f = arrV (D.2.2 k) n g := fun f g hfg => by
    unfold arrV
    congr 1
    apply Array.ext
    · simp
    · intro i h1 h2
      simp at h1
      simp [hfg i h1]
  refine key _ _ fun i hi => ?_
  rw [List.getD_eq_getElem?_getD, List.getElem?_replicate, if_pos hi, hw]
  rfl
end ZHEAP
