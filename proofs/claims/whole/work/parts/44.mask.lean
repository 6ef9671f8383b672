/-! Sets of variables as masks. -/
section YMASK
/-- the first n truth values as bits -/
noncomputable def yBv (P : Int → Prop) : (n : Nat) → BitVec n
  | 0 => 0#0
  | n + 1 => BitVec.cons (@decide (P n) (Classical.propDecidable _)) (yBv P n)
theorem yBv_bit (P : Int → Prop) : ∀ n i, (yBv P n).getLsbD i = (decide (i < n) && @decide (P i) (Classical.propDecidable _))
  | 0, i => by simp
  | n + 1, i => by
    rw [yBv, BitVec.getLsbD_cons, yBv_bit P n i]
    by_cases h : i = n
    · subst h; simp
    · rw [if_neg h]
      by_cases h2 : i < n
      · simp [h2, show i < n + 1 by omega]
      · simp [h2, show ¬ i < n + 1 by omega]
/-- the mask of a set -/
noncomputable def yMs (P : Int → Prop) : Int := ((yBv P 12).toNat : Int)
theorem yMs_rng (P : Int → Prop) : 0 ≤ yMs P ∧ yMs P ≤ 4095 := by
  have := (yBv P 12).isLt
  unfold yMs
  omega
theorem yMs_bits (P : Int → Prop) (i : Nat) : (zi (yMs P)).toBitVec.getLsbD i = (decide (i < 12) && @decide (P i) (Classical.propDecidable _)) := by
  have e : (zi (yMs P)).toBitVec = (yBv P 12).setWidth 32 := by
    unfold yMs zi
    rw [Int32.ofInt_eq_ofNat, Int32.toBitVec_ofNat']
    apply BitVec.eq_of_toNat_eq
    simp
  rw [e, BitVec.getLsbD_setWidth, yBv_bit]
  by_cases h : i < 12
  · simp [h, show i < 32 by omega]
  · simp [h]
theorem yMs_ext {x y : Int32} (h : ∀ i, i < 32 → x.toBitVec.getLsbD i = y.toBitVec.getLsbD i) : x = y := Int32.toBitVec_inj.1 (BitVec.eq_of_getLsbD_eq h)
theorem yMs_or (P Q : Int → Prop) : zi (yMs P) ||| zi (yMs Q) = zi (yMs fun v => P v ∨ Q v) := by
  refine yMs_ext fun i hi => ?_
  simp only [Int32.toBitVec_or, BitVec.getLsbD_or, yMs_bits]
  by_cases h : i < 12 <;> by_cases p : P i <;> by_cases q : Q i <;> simp [h, p, q]
theorem yMs_and (P Q : Int → Prop) : zi (yMs P) &&& zi (yMs Q) = zi (yMs fun v => P v ∧ Q v) := by
  refine yMs_ext fun i hi => ?_
  simp only [Int32.toBitVec_and, BitVec.getLsbD_and, yMs_bits]
  by_cases h : i < 12 <;> by_cases p : P i <;> by_cases q : Q i <;> simp [h, p, q]
theorem yMs_m1 (i : Nat) (hi : i < 32) : (zi (-1)).toBitVec.getLsbD i = true := by
  have : ∀ j : Nat, j < 32 → (zi (-1)).toBitVec.getLsbD j = true := by decide +kernel
  exact this i hi
theorem yMs_dif (P Q : Int → Prop) : zi (yMs P) &&& (zi (yMs Q) ^^^ zi (-1)) = zi (yMs fun v => P v ∧ ¬ Q v) := by
  refine yMs_ext fun i hi => ?_
  simp only [Int32.toBitVec_and, Int32.toBitVec_xor, BitVec.getLsbD_and, BitVec.getLsbD_xor, yMs_bits, yMs_m1 i hi]
  by_cases h : i < 12 <;> by_cases p : P i <;> by_cases q : Q i <;> simp [h, p, q]
theorem yMs_congr {P Q : Int → Prop} (h : ∀ v, 0 ≤ v → v < 12 → (P v ↔ Q v)) : yMs P = yMs Q := by
  refine yI_inj (yMs_ext fun i hi => ?_) (by have := yMs_rng P; omega) (by have := yMs_rng P; omega) (by have := yMs_rng Q; omega) (by have := yMs_rng Q; omega)
  simp only [yMs_bits]
  by_cases h12 : i < 12
  · have := h i (by omega) (by omega)
    by_cases p : P i
    · simp [h12, p, this.mp p]
    · have nq : ¬ Q i := fun z => p (this.mpr z)
      simp [h12, p, nq]
  · simp [h12]
theorem yMs_inj {P Q : Int → Prop} (h : zi (yMs P) = zi (yMs Q)) {v : Int} (h0 : 0 ≤ v) (h1 : v < 12) : P v ↔ Q v := by
  obtain ⟨n, rfl⟩ : ∃ n : Nat, v = n := ⟨v.toNat, by omega⟩
  have e1 := yMs_bits P n
  rw [h, yMs_bits] at e1
  have hn : n < 12 := by omega
  simp only [hn, decide_true, Bool.true_and, decide_eq_decide] at e1
  exact e1.symm
theorem yMs_eq (P Q : Int → Prop) : (zi (yMs P) = zi (yMs Q)) = (∀ v, 0 ≤ v → v < 12 → (P v ↔ Q v)) := propext ⟨fun h v h0 h1 => yMs_inj h h0 h1, fun h => by rw [yMs_congr h]⟩
theorem yMs_none {P : Int → Prop} (h : ∀ v, 0 ≤ v → v < 12 → ¬ P v) : yMs P = 0 := by
  refine yI_inj (yMs_ext fun i hi => ?_) (by have := yMs_rng P; omega) (by have := yMs_rng P; omega) (by decide) (by decide)
  rw [yMs_bits]
  have e : (zi 0).toBitVec = 0#32 := by decide
  rw [e]
  by_cases h12 : i < 12
  · simp [h12, h i (by omega) (by omega)]
  · simp [h12]
theorem yMs_0 : yMs (fun _ => False) = 0 := yMs_none fun _ _ _ z => z
theorem yMs_eq0 (P : Int → Prop) : (zi (yMs P) = zi 0) = (∀ v, 0 ≤ v → v < 12 → ¬ P v) := by
  rw [show zi 0 = zi (yMs fun _ => False) by rw [yMs_0], yMs_eq]
  exact propext ⟨fun h v h0 h1 p => (h v h0 h1).mp p, fun h v h0 h1 => ⟨fun p => h v h0 h1 p, fun z => z.elim⟩⟩
theorem ySh_and {x : Int} (h0 : 0 ≤ x) (h1 : x < 12) : (zi x &&& 31) = zi x := by
  have : x = 0 ∨ x = 1 ∨ x = 2 ∨ x = 3 ∨ x = 4 ∨ x = 5 ∨ x = 6 ∨ x = 7 ∨ x = 8 ∨ x = 9 ∨ x = 10 ∨ x = 11 := by omega
  rcases this with rfl | rfl | rfl | rfl | rfl | rfl | rfl | rfl | rfl | rfl | rfl | rfl <;> decide
theorem yMs_one {x : Int} (h0 : 0 ≤ x) (h1 : x < 12) : zi 1 <<< (zi x &&& 31) = zi (yMs fun v => v = x) := by
  refine yMs_ext fun i hi => ?_
  rw [yMs_bits]
  have : x = 0 ∨ x = 1 ∨ x = 2 ∨ x = 3 ∨ x = 4 ∨ x = 5 ∨ x = 6 ∨ x = 7 ∨ x = 8 ∨ x = 9 ∨ x = 10 ∨ x = 11 := by omega
  have key : ∀ k : Nat, k < 12 → ∀ j : Nat, j < 32 → (zi 1 <<< (zi (k : Int) &&& 31)).toBitVec.getLsbD j = decide (j = k) := by decide +kernel
  obtain ⟨k, rfl⟩ : ∃ n : Nat, x = n := ⟨x.toNat, by omega⟩
  rw [key k (by omega) i hi]
  by_cases h : i = k
  · subst h; simp; omega
  · have : ¬ ((i : Int) = (k : Int)) := by omega
    simp [h, this]
theorem yMs_test (P : Int → Prop) {x : Int} (h0 : 0 ≤ x) (h1 : x < 12) : (zi (yMs P) >>> (zi x &&& 31)) &&& zi 1 = zi (yD (P x)) := by
  obtain ⟨k, rfl⟩ : ∃ n : Nat, x = n := ⟨x.toNat, by omega⟩
  have hs : (zi (k : Int) &&& 31).toBitVec.smod 32 = BitVec.ofNat 32 k := by
    have : ∀ k : Nat, k < 12 → (zi (k : Int) &&& 31).toBitVec.smod 32 = BitVec.ofNat 32 k := by decide +kernel
    exact this k (by omega)
  refine yMs_ext fun i hi => ?_
  rw [Int32.toBitVec_and, Int32.toBitVec_shiftRight, BitVec.getLsbD_and]
  have e1 : (zi 1).toBitVec.getLsbD i = decide (i = 0) := by
    have : ∀ j : Nat, j < 32 → (zi 1).toBitVec.getLsbD j = decide (j = 0) := by decide +kernel
    exact this i hi
  rw [e1]
  by_cases h : i = 0
  · subst h
    rw [hs, BitVec.sshiftRight_eq', BitVec.getLsbD_sshiftRight]
    simp only [BitVec.toNat_ofNat]
    rw [Nat.mod_eq_of_lt (show k < 2 ^ 32 by omega)]
    have e2 : (k + 0 : Nat) = k := rfl
    simp only [Nat.add_zero, show k < 32 by omega, yMs_bits]
    by_cases p : P k
    · rw [yD_T p]; simp [p, show k < 12 by omega]; decide
    · rw [yD_F p]; simp [p]; decide
  · have e3 : (zi (yD (P k))).toBitVec.getLsbD i = false := by
      have : ∀ j : Nat, j < 32 → j ≠ 0 → (zi 1).toBitVec.getLsbD j = false ∧ (zi 0).toBitVec.getLsbD j = false := by decide +kernel
      rcases yD_or (P k) with z | z <;> rw [z]
      · exact (this i hi h).2
      · exact (this i hi h).1
    rw [e3]; simp [h]
end YMASK
