/-! Programs as rows of instructions: what both sides mean. -/
section YABS
abbrev yIns : Type := Int × Int × Int × Int × Int × Int64 × Int64
abbrev yPr : Type := Int → yIns
def ySo (A : yPr) (k : Int) : Int := (A k).1
def yX (A : yPr) (k : Int) : Int := (A k).2.1
def yOp (A : yPr) (k : Int) : Int := (A k).2.2.1
def yV (A : yPr) (k : Int) : Int := (A k).2.2.2.1
def yW (A : yPr) (k : Int) : Int := (A k).2.2.2.2.1
def yNv (A : yPr) (k : Int) : Int64 := (A k).2.2.2.2.2.1
def yNw (A : yPr) (k : Int) : Int64 := (A k).2.2.2.2.2.2
def yAs (A : yPr) (k : Int) : Prop := ySo A k = 1 ∨ ySo A k = 2 ∨ ySo A k = 5
def yJp (A : yPr) (k : Int) : Prop := ySo A k = 3 ∨ ySo A k = 4
def yLb (A : yPr) (k x : Int) : Prop := ySo A k = 0 ∧ yX A k = x
def yRd (A : yPr) (k v : Int) : Prop := v = yV A k ∨ v = yW A k
def yAg (A : yPr) (k v : Int) : Prop := yAs A k ∧ v = yX A k
/-- the place of a label, n if there is none -/
noncomputable def yPl (n : Int) (A : yPr) (x : Int) : Int := @dite Int (∃ k, 0 ≤ k ∧ k < n ∧ yLb A k x) (Classical.propDecidable _) (fun h => Classical.choose h) (fun _ => n)
noncomputable def yDs (n : Int) (A : yPr) (k : Int) : Int := @ite Int (yJp A k) (Classical.propDecidable _) (yPl n A (yX A k)) n
noncomputable def yNx (n : Int) (A : yPr) (k : Int) : Int := @ite Int (ySo A k = 3 ∨ ySo A k = 7) (Classical.propDecidable _) n (k + 1)
/-- how many of the first n places -/
noncomputable def yCn (P : Int → Prop) : Nat → Int
  | 0 => 0
  | n + 1 => yCn P n + yD (P n)
noncomputable def yCt (n : Int) (A : yPr) (x : Int) : Int := yCn (fun k => yJp A k ∧ yX A k = x) n.toNat
def yBb (A : yPr) (k : Int) : Prop := k = 0 ∨ ySo A k = 0 ∨ yJp A (k - 1) ∨ ySo A (k - 1) = 7
/-- one instruction as it may be -/
def yIk (A : yPr) (k : Int) : Prop := (0 ≤ ySo A k ∧ ySo A k ≤ 7) ∧ (ySo A k ≤ 5 → 0 ≤ yX A k ∧ yX A k < 12) ∧ (-1 ≤ yX A k ∧ yX A k < 12) ∧ (-1 ≤ yV A k ∧ yV A k < 12) ∧ (-1 ≤ yW A k ∧ yW A k < 12) ∧ (-1 ≤ yOp A k ∧ yOp A k < 10) ∧ (ySo A k = 2 → 0 ≤ yOp A k) ∧ (yV A k ≠ -1 → yNv A k = zl 0) ∧ (yW A k ≠ -1 → yNw A k = zl 0) ∧ (ySo A k ≠ 2 → yW A k = -1 ∧ yNw A k = zl 0 ∧ yOp A k = -1) ∧ (ySo A k = 0 ∨ ySo A k = 3 ∨ ySo A k = 5 ∨ ySo A k = 7 → yV A k = -1 ∧ yNv A k = zl 0)
/-- a program as it may be -/
def yOk (n : Int) (A : yPr) : Prop := (0 ≤ n ∧ n ≤ 80) ∧ (∀ k, 0 ≤ k → k < n → yIk A k) ∧ (∀ j k, 0 ≤ j → j < n → 0 ≤ k → k < n → ySo A j = 0 → ySo A k = 0 → yX A j = yX A k → j = k) ∧ (∀ k, 0 ≤ k → k < n → yJp A k → ∃ j, 0 ≤ j ∧ j < n ∧ yLb A j (yX A k))
theorem yPl_ex {n : Int} {A : yPr} {x : Int} (h : ∃ k, 0 ≤ k ∧ k < n ∧ yLb A k x) : 0 ≤ yPl n A x ∧ yPl n A x < n ∧ yLb A (yPl n A x) x := by
  unfold yPl
  rw [@dif_pos _ (Classical.propDecidable _) h]
  exact Classical.choose_spec h
theorem yPl_no {n : Int} {A : yPr} {x : Int} (h : ¬ ∃ k, 0 ≤ k ∧ k < n ∧ yLb A k x) : yPl n A x = n := by
  unfold yPl
  rw [@dif_neg _ (Classical.propDecidable _) h]
theorem yPl_rng {n : Int} {A : yPr} {x : Int} (h0 : 0 ≤ n) : 0 ≤ yPl n A x ∧ yPl n A x ≤ n := by
  by_cases h : ∃ k, 0 ≤ k ∧ k < n ∧ yLb A k x
  · have := yPl_ex h; omega
  · rw [yPl_no h]; omega
theorem yPl_of {n : Int} {A : yPr} {x k : Int} (hu : ∀ j k, 0 ≤ j → j < n → 0 ≤ k → k < n → ySo A j = 0 → ySo A k = 0 → yX A j = yX A k → j = k) (h0 : 0 ≤ k) (h1 : k < n) (h2 : yLb A k x) : yPl n A x = k := by
  have h := yPl_ex ⟨k, h0, h1, h2⟩
  exact hu _ _ h.1 h.2.1 h0 h1 h.2.2.1 h2.1 (h.2.2.2.trans h2.2.symm)
theorem yDs_j {n : Int} {A : yPr} {k : Int} (h : yJp A k) : yDs n A k = yPl n A (yX A k) := @if_pos _ (Classical.propDecidable _) h _ _ _
theorem yDs_n {n : Int} {A : yPr} {k : Int} (h : ¬ yJp A k) : yDs n A k = n := @if_neg _ (Classical.propDecidable _) h _ _ _
theorem yNx_n {n : Int} {A : yPr} {k : Int} (h : ySo A k = 3 ∨ ySo A k = 7) : yNx n A k = n := @if_pos _ (Classical.propDecidable _) h _ _ _
theorem yNx_s {n : Int} {A : yPr} {k : Int} (h : ¬ (ySo A k = 3 ∨ ySo A k = 7)) : yNx n A k = k + 1 := @if_neg _ (Classical.propDecidable _) h _ _ _
theorem yDs_rng {n : Int} {A : yPr} {k : Int} (h0 : 0 ≤ n) : 0 ≤ yDs n A k ∧ yDs n A k ≤ n := by
  by_cases h : yJp A k
  · rw [yDs_j h]; exact yPl_rng h0
  · rw [yDs_n h]; omega
theorem yNx_rng {n : Int} {A : yPr} {k : Int} (h0 : 0 ≤ k) (h1 : k < n) : 0 ≤ yNx n A k ∧ yNx n A k ≤ n := by
  by_cases h : ySo A k = 3 ∨ ySo A k = 7
  · rw [yNx_n h]; omega
  · rw [yNx_s h]; omega
theorem yDs_lt {n : Int} {A : yPr} {k : Int} (h : yOk n A) (h0 : 0 ≤ k) (h1 : k < n) (hj : yJp A k) : yDs n A k < n ∧ yLb A (yDs n A k) (yX A k) := by
  rw [yDs_j hj]
  exact (yPl_ex (h.2.2.2 k h0 h1 hj)).2
theorem yDs_iff {n : Int} {A : yPr} {k i : Int} (h : yOk n A) (h0 : 0 ≤ k) (h1 : k < n) (i0 : 0 ≤ i) (i1 : i < n) : yDs n A k = i ↔ yJp A k ∧ yLb A i (yX A k) := by
  constructor
  · intro e
    by_cases hj : yJp A k
    · have := (yDs_lt h h0 h1 hj).2
      rw [e] at this
      exact ⟨hj, this⟩
    · rw [yDs_n hj] at e; omega
  · intro ⟨hj, hl⟩
    rw [yDs_j hj]
    exact yPl_of h.2.2.1 i0 i1 hl
theorem yCn_congr {P Q : Int → Prop} : ∀ n : Nat, (∀ k : Int, 0 ≤ k → k < n → (P k ↔ Q k)) → yCn P n = yCn Q n
  | 0, _ => rfl
  | n + 1, h => by
    rw [yCn, yCn, yCn_congr n fun k h0 h1 => h k h0 (by omega), yD_congr (h n (by omega) (by omega))]
theorem yCn_rng (P : Int → Prop) : ∀ n : Nat, 0 ≤ yCn P n ∧ yCn P n ≤ n
  | 0 => ⟨Int.le_refl _, Int.le_refl _⟩
  | n + 1 => by
    have h := yCn_rng P n
    have d := yD_rng (P n)
    rw [yCn]
    omega
theorem yCn_suc {P : Int → Prop} {k : Int} (h : 0 ≤ k) : yCn P (k + 1).toNat = yCn P k.toNat + yD (P k) := by
  obtain ⟨n, rfl⟩ : ∃ n : Nat, k = n := ⟨k.toNat, by omega⟩
  have : ((n : Int) + 1).toNat = n + 1 := by omega
  rw [this, yCn]
  rfl
theorem yCn_0 {P : Int → Prop} : ∀ n : Nat, yCn P n = 0 ↔ ∀ k : Int, 0 ≤ k → k < n → ¬ P k
  | 0 => ⟨fun _ k h0 h1 => by omega, fun _ => rfl⟩
  | n + 1 => by
    have ih := yCn_0 (P := P) n
    have r := yCn_rng P n
    have d := yD_rng (P n)
    rw [yCn]
    constructor
    · intro h k h0 h1 p
      by_cases hk : k = n
      · subst hk; rw [yD_T p] at h; omega
      · exact ih.mp (by omega) k h0 (by omega) p
    · intro h
      rw [ih.mpr fun k h0 h1 => h k h0 (by omega), yD_F (h n (by omega) (by omega))]
      rfl
theorem yCn_1 {P : Int → Prop} : ∀ n : Nat, yCn P n = 1 ↔ ∃ j : Int, 0 ≤ j ∧ j < n ∧ P j ∧ ∀ k : Int, 0 ≤ k → k < n → P k → k = j
  | 0 => ⟨fun h => by exact absurd h (by show ¬ ((0 : Int) = 1); decide), fun ⟨j, h0, h1, _⟩ => by omega⟩
  | n + 1 => by
    have ih := yCn_1 (P := P) n
    have z := yCn_0 (P := P) n
    have r := yCn_rng P n
    rw [yCn]
    by_cases p : P n
    · rw [yD_T p]
      constructor
      · intro h
        have h := z.mp (by omega)
        refine ⟨n, by omega, by omega, p, fun k h0 h1 q => ?_⟩
        by_cases hk : k = n
        · exact hk
        · exact absurd q (h k h0 (by omega))
      · intro ⟨j, h0, h1, hp, hu⟩
        have e : (n : Int) = j := hu n (by omega) (by omega) p
        rw [z.mpr fun k k0 k1 q => by have := hu k k0 (by omega) q; omega]
        rfl
    · rw [yD_F p]
      constructor
      · intro h
        obtain ⟨j, h0, h1, hp, hu⟩ := ih.mp (by omega)
        refine ⟨j, h0, by omega, hp, fun k k0 k1 q => hu k k0 ?_ q⟩
        have : k ≠ n := fun e => p (e ▸ q)
        omega
      · intro ⟨j, h0, h1, hp, hu⟩
        have : j ≠ n := fun e => p (e ▸ hp)
        rw [ih.mpr ⟨j, h0, by omega, hp, fun k k0 k1 q => hu k k0 (by omega) q⟩]
        rfl
/-- upwards and downwards to a bound -/
theorem yInd (n : Int) (P : Int → Prop) (h0 : ∀ i, n ≤ i → P i) (h1 : ∀ i, i < n → P (i + 1) → P i) (i : Int) : P i := by
  suffices H : ∀ d : Nat, ∀ i : Int, (n - i).toNat ≤ d → P i from H _ i (Nat.le_refl _)
  intro d
  induction d with
  | zero => intro i h; exact h0 i (by omega)
  | succ d ih =>
    intro i h
    by_cases c : i < n
    · exact h1 i c (ih (i + 1) (by omega))
    · exact h0 i (by omega)
theorem yInd' (n : Int) (P : Int → Prop) (h0 : ∀ i, i < n → P i) (h1 : ∀ i, n ≤ i → P (i - 1) → P i) (i : Int) : P i := by
  suffices H : ∀ d : Nat, ∀ i : Int, (i + 1 - n).toNat ≤ d → P i from H _ i (Nat.le_refl _)
  intro d
  induction d with
  | zero => intro i h; exact h0 i (by omega)
  | succ d ih =>
    intro i h
    by_cases c : n ≤ i
    · exact h1 i c (ih (i - 1) (by omega))
    · exact h0 i (by omega)
/-- the first place from i on that is no label -/
def yPsF (A : yPr) : Nat → Int → Int
  | 0, i => i
  | f + 1, i => if ySo A i = 0 then yPsF A f (i + 1) else i
def yPs (n : Int) (A : yPr) (i : Int) : Int := yPsF A (n - i).toNat i
theorem yPs_e {n : Int} {A : yPr} {i : Int} (h : n ≤ i) : yPs n A i = i := by
  unfold yPs
  rw [show (n - i).toNat = 0 by omega]; rfl
theorem yPs_s {n : Int} {A : yPr} {i : Int} (h : i < n) (h0 : ySo A i = 0) : yPs n A i = yPs n A (i + 1) := by
  unfold yPs
  rw [show (n - i).toNat = (n - (i + 1)).toNat + 1 by omega, yPsF, if_pos h0]
theorem yPs_h {n : Int} {A : yPr} {i : Int} (h : i < n) (h0 : ySo A i ≠ 0) : yPs n A i = i := by
  unfold yPs
  rw [show (n - i).toNat = (n - (i + 1)).toNat + 1 by omega, yPsF, if_neg h0]
theorem yPs_spec {n : Int} {A : yPr} : ∀ i, i ≤ n → i ≤ yPs n A i ∧ yPs n A i ≤ n ∧ (∀ k, i ≤ k → k < yPs n A i → ySo A k = 0) ∧ (yPs n A i < n → ySo A (yPs n A i) ≠ 0) := by
  refine yInd n _ (fun i h hi => ?_) (fun i h ih hi => ?_)
  · rw [yPs_e h]; exact ⟨by omega, hi, fun k h1 h2 => by omega, fun h3 => by omega⟩
  · by_cases c : ySo A i = 0
    · rw [yPs_s h c]
      obtain ⟨a1, a2, a3, a4⟩ := ih (by omega)
      refine ⟨by omega, a2, fun k h1 h2 => ?_, a4⟩
      by_cases e : k = i
      · rw [e]; exact c
      · exact a3 k (by omega) h2
    · rw [yPs_h h c]; exact ⟨by omega, hi, fun k h1 h2 => by omega, fun _ => c⟩
/-- a loop: its label at i, its end at j -/
def yIsL (n : Int) (A : yPr) (i j : Int) : Prop := ySo A i = 0 ∧ i < j ∧ j < n ∧ yJp A j ∧ yX A j = yX A i ∧ (∀ k, 0 ≤ k → k < n → yJp A k → yX A k = yX A i → k = j) ∧ (∀ k, 0 ≤ k → k < n → (k < i ∨ j < k) → yJp A k → ¬ (i < yDs n A k ∧ yDs n A k ≤ j))
noncomputable def yLe (n : Int) (A : yPr) (i : Int) : Int := @dite Int (∃ j, yIsL n A i j) (Classical.propDecidable _) (fun h => Classical.choose h) (fun _ => -1)
theorem yLe_of {n : Int} {A : yPr} {i j : Int} (hi : 0 ≤ i) (h : yIsL n A i j) : yLe n A i = j := by
  have e : ∃ j, yIsL n A i j := ⟨j, h⟩
  unfold yLe
  rw [@dif_pos _ (Classical.propDecidable _) e]
  have c := Classical.choose_spec e
  have c1 := c.2.1
  exact h.2.2.2.2.2.1 _ (by omega) c.2.2.1 c.2.2.2.1 c.2.2.2.2.1
theorem yLe_no {n : Int} {A : yPr} {i : Int} (h : ∀ j, ¬ yIsL n A i j) : yLe n A i = -1 := by
  unfold yLe
  rw [@dif_neg _ (Classical.propDecidable _) (fun ⟨j, z⟩ => h j z)]
theorem yLe_rng {n : Int} {A : yPr} {i : Int} (hi : 0 ≤ i) : yLe n A i = -1 ∨ (i < yLe n A i ∧ yLe n A i < n ∧ yIsL n A i (yLe n A i)) := by
  by_cases h : ∃ j, yIsL n A i j
  · obtain ⟨j, h⟩ := h
    rw [yLe_of hi h]
    exact .inr ⟨h.2.1, h.2.2.1, h⟩
  · exact .inl (yLe_no fun j z => h ⟨j, z⟩)
end YABS
