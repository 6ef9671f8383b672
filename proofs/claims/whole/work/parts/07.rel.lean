/-! The small machine's values, locals and heap against the JVM's. -/
section ZLOC
def zTr (ad : Nat → Nat) (o : Nat → Value) : Value → Value
  | .ref k => .ref (ad k)
  | .retAddr (n + 1) => o n
  | v => v
theorem zTr_cat {ad : Nat → Nat} {o : Nat → Value} (ho : ∀ n, (o n).category = 1) (v : Value) : (zTr ad o v).category = v.category := by
  cases v with
  | retAddr n =>
    cases n with
    | zero => rfl
    | succ n => exact ho n
  | _ => rfl
/-- the locals of a frame hold what the list says; .retAddr 0 says nothing -/
def zLs (t : Value → Value) (ls : Array Slot) (L : List Value) : Prop := ls.size = L.length ∧ lv_wf ls ∧ ∀ (k : Nat) (v : Value), L[k]? = some v → v ≠ .retAddr 0 → ls[k]? = some (.val (t v))
def zPairs (t : Value → Value) (L : List Value) : List (Nat × Value) := (List.range L.length).filterMap fun k => match L[k]? with
  | some v => if v = .retAddr 0 then none else some (k, t v)
  | none => none
theorem zPairs_mem {t : Value → Value} {L : List Value} {q : Nat × Value} : q ∈ zPairs t L ↔ ∃ v, L[q.1]? = some v ∧ v ≠ .retAddr 0 ∧ q.2 = t v := by
  unfold zPairs
  rw [List.mem_filterMap]
  constructor
  · rintro ⟨k, hk, h⟩
    cases hv : L[k]? with
    | none => rw [hv] at h; cases h
    | some v =>
      rw [hv] at h
      by_cases e : v = .retAddr 0
      · simp [e] at h
      · simp only [e, if_false, Option.some.injEq] at h
        subst h
        exact ⟨v, hv, e, rfl⟩
  · rintro ⟨v, hv, e, h2⟩
    refine ⟨q.1, List.mem_range.mpr (List.getElem?_eq_some_iff.mp hv).1, ?_⟩
    rw [hv]
    simp only [e, if_false, ← h2]
theorem zLs.has {t : Value → Value} {ls : Array Slot} {L : List Value} (h : zLs t ls L) : lv_has ls L.length (zPairs t L) := by
  refine ⟨h.1, h.2.1, fun q hq => ?_⟩
  obtain ⟨v, h1, h2, h3⟩ := zPairs_mem.mp hq
  rw [h3]
  exact h.2.2 q.1 v h1 h2
theorem zLs.at {t : Value → Value} {ls : Array Slot} {L : List Value} (h : zLs t ls L) {k : Nat} {v : Value} (hv : zLoad L k = some v) : ls[k]? = some (.val (t v)) := by
  unfold zLoad at hv
  split at hv
  · cases hv
  · rename_i h2
    exact h.2.2 k v hv (fun e => h2 (by rw [hv, e]))
theorem zStore_len : ∀ (L : List Value) (i : Nat) (v : Value), (zStore L i v).length = L.length
  | [], _, _ => rfl
  | q :: r, 0, v => by
    unfold zStore
    split
    · cases r <;> simp
    · simp
  | q :: r, k + 1, v => by
    unfold zStore
    simp [zStore_len r k v]
theorem zStore_get : ∀ (L : List Value) (i : Nat) (v : Value) (k : Nat) (w : Value), (zStore L i v)[k]? = some w → w ≠ .retAddr 0 → (k = i ∧ w = v) ∨ (k ≠ i ∧ L[k]? = some w ∧ ¬ (k + 1 = i ∧ w.category = 2) ∧ ¬ (k = i + 1 ∧ v.category = 2))
  | [], _, _, k, w, h, _ => by simp [zStore] at h
  | q :: r, 0, v, k, w, h, hw => by
    unfold zStore at h
    cases k with
    | zero =>
      simp at h
      exact Or.inl ⟨rfl, h.symm⟩
    | succ k =>
      right
      rw [List.getElem?_cons_succ] at h
      refine ⟨by omega, ?_, by omega, ?_⟩
      · rw [List.getElem?_cons_succ]
        split at h
        · cases r with
          | nil => exact h
          | cons a r' =>
            cases k with
            | zero => simp at h; exact absurd h.symm hw
            | succ k => exact h
        · exact h
      · rintro ⟨e, hc⟩
        have : k = 0 := by omega
        subst this
        rw [if_pos hc] at h
        cases r with
        | nil => simp at h
        | cons a r' => simp at h; exact hw h.symm
  | q :: r, i + 1, v, k, w, h, hw => by
    unfold zStore at h
    cases k with
    | zero =>
      right
      simp only [List.getElem?_cons_zero, Option.some.injEq] at h
      refine ⟨by omega, ?_, ?_, by omega⟩
      · split at h
        · exact absurd h.symm hw
        · simp [h]
      · rintro ⟨e, hc⟩
        have : i = 0 := by omega
        subst this
        by_cases hq : q.category = 2
        · rw [if_pos ⟨rfl, hq⟩] at h
          exact hw h.symm
        · rw [if_neg (fun z => hq z.2)] at h
          rw [h] at hq
          exact hq hc
    | succ k =>
      rw [List.getElem?_cons_succ] at h
      rcases zStore_get r i v k w h hw with ⟨h1, h2⟩ | ⟨h1, h2, h3, h4⟩
      · exact Or.inl ⟨by omega, h2⟩
      · refine Or.inr ⟨by omega, by rw [List.getElem?_cons_succ]; exact h2, fun z => h3 ⟨by omega, z.2⟩, fun z => h4 ⟨by omega, z.2⟩⟩
theorem zLs.st1 {t : Value → Value} (ht : ∀ v, (t v).category = v.category) {ls ls' : Array Slot} {L : List Value} {i : Nat} {v : Value} (hc : v.category = 1) (_h : zLs t ls L) (h' : lv_has ls' L.length ((i, t v) :: (zPairs t L).filter (fun q => !(q.1 == i) && !(q.1 + 1 == i && q.2.category == 2)))) : zLs t ls' (zStore L i v) := by
  refine ⟨by rw [zStore_len]; exact h'.1, h'.2.1, fun k w hk hw => ?_⟩
  rcases zStore_get L i v k w hk hw with ⟨rfl, rfl⟩ | ⟨h1, h2, h3, h4⟩
  · exact h'.2.2 _ List.mem_cons_self
  · refine h'.2.2 (k, t w) (List.mem_cons_of_mem _ (List.mem_filter.mpr ⟨zPairs_mem.mpr ⟨w, h2, hw, rfl⟩, ?_⟩))
    have e1 : (k == i) = false := by simpa using h1
    simp only [e1, Bool.not_false, Bool.true_and, Bool.not_eq_true', Bool.and_eq_false_iff, beq_eq_false_iff_ne, ht]
    by_cases e : k + 1 = i
    · right; exact fun z => h3 ⟨e, z⟩
    · left; exact e
theorem zLs.st2 {t : Value → Value} (ht : ∀ v, (t v).category = v.category) {ls ls' : Array Slot} {L : List Value} {i : Nat} {v : Value} (hc : v.category = 2) (_h : zLs t ls L) (h' : lv_has ls' L.length ((i, t v) :: (zPairs t L).filter (fun q => !(q.1 == i) && (!(q.1 == i + 1) && !(q.1 + 1 == i && q.2.category == 2))))) : zLs t ls' (zStore L i v) := by
  refine ⟨by rw [zStore_len]; exact h'.1, h'.2.1, fun k w hk hw => ?_⟩
  rcases zStore_get L i v k w hk hw with ⟨rfl, rfl⟩ | ⟨h1, h2, h3, h4⟩
  · exact h'.2.2 _ List.mem_cons_self
  · refine h'.2.2 (k, t w) (List.mem_cons_of_mem _ (List.mem_filter.mpr ⟨zPairs_mem.mpr ⟨w, h2, hw, rfl⟩, ?_⟩))
    have e1 : (k == i) = false := by simpa using h1
    have e2 : (k == i + 1) = false := by simpa using fun z => h4 ⟨z, hc⟩
    simp only [e1, e2, Bool.not_false, Bool.true_and, Bool.not_eq_true', Bool.and_eq_false_iff, beq_eq_false_iff_ne, ht]
    by_cases e : k + 1 = i
    · right; exact fun z => h3 ⟨e, z⟩
    · left; exact e
theorem zMask_get : ∀ (m : List Nat) (L : List Value) (k : Nat) (v : Value), (zMask m L)[k]? = some v → v ≠ .retAddr 0 → L[k]? = some v
  | [], L, k, v, h, _ => by simpa [zMask] using h
  | _ :: _, [], k, v, h, _ => by simp [zMask] at h
  | b :: m, w :: L, k, v, h, hv => by
    cases k with
    | zero =>
      simp only [zMask, List.getElem?_cons_zero, Option.some.injEq] at h ⊢
      split at h
      · exact absurd h.symm hv
      · exact h
    | succ k =>
      simp only [zMask, List.getElem?_cons_succ] at h ⊢
      exact zMask_get m L k v h hv
theorem zMask_len : ∀ (m : List Nat) (L : List Value), (zMask m L).length = L.length
  | [], L => by simp [zMask]
  | _ :: _, [] => by simp [zMask]
  | b :: m, w :: L => by simp [zMask, zMask_len m L]
theorem zLs.mask {t : Value → Value} {ls : Array Slot} {L : List Value} (h : zLs t ls L) (m : List Nat) : zLs t ls (zMask m L) :=
  ⟨by rw [zMask_len]; exact h.1, h.2.1, fun k v hk hv => h.2.2 k v (zMask_get m L k v hk hv) hv⟩
theorem zLay_len {t : Value → Value} (ht : ∀ v, (t v).category = v.category) : ∀ as : List Value, (lg_sl (as.map t)).length = (zLay as).length
  | [] => rfl
  | v :: r => by
    have ih := zLay_len ht r
    simp only [lg_sl, List.map_cons, List.flatMap_cons, List.length_append] at ih ⊢
    simp only [zLay, ht]
    split <;> simp [lg_sl] at ih ⊢ <;> omega
theorem zLay_args {t : Value → Value} (ht : ∀ v, (t v).category = v.category) : ∀ (as : List Value) (i k : Nat) (v : Value), (zLay as)[k]? = some v → v ≠ .retAddr 0 → (i + k, t v) ∈ lv_args i (as.map t)
  | [], i, k, v, h, _ => by simp [zLay] at h
  | a :: r, i, k, v, h, hv => by
    simp only [List.map_cons, lv_args, ht]
    cases k with
    | zero =>
      simp only [zLay, List.getElem?_cons_zero, Option.some.injEq] at h
      subst h
      exact List.mem_cons_self
    | succ k =>
      refine List.mem_cons_of_mem _ ?_
      simp only [zLay, List.getElem?_cons_succ] at h
      split at h
      · rename_i hc
        cases k with
        | zero => simp at h; exact absurd h.symm hv
        | succ k =>
          rw [List.getElem?_cons_succ] at h
          rw [if_pos hc, show i + (k + 1 + 1) = i + 2 + k by omega]
          exact zLay_args ht r (i + 2) k v h hv
      · rename_i hc
        rw [if_neg hc, show i + (k + 1) = i + 1 + k by omega]
        exact zLay_args ht r (i + 1) k v h hv
theorem zLs.entry {t : Value → Value} (ht : ∀ v, (t v).category = v.category) {as : List Value} {n : Nat} (hn : (zLay as).length ≤ n) : zLs t ((lg_sl (as.map t) ++ List.replicate (n - (lg_sl (as.map t)).length) Slot.unset).toArray) (zInit n as) := by
  have h := lv_entry (as.map t) (n := n) (by rw [zLay_len ht]; exact hn)
  refine ⟨?_, h.2.1, fun k v hk hv => ?_⟩
  · rw [h.1]; unfold zInit; simp; omega
  · unfold zInit at hk
    by_cases hl : k < (zLay as).length
    · rw [List.getElem?_append_left hl] at hk
      have := h.2.2 _ (zLay_args ht as 0 k v hk hv)
      simpa using this
    · rw [List.getElem?_append_right (by omega), List.getElem?_replicate] at hk
      split at hk
      · cases hk; exact absurd rfl hv
      · cases hk
end ZLOC
