/-! Ints and longs written by their number; truth values; what comes back from a call. -/
section ZNUM
theorem yI_rng (x : Int32) : -2147483648 ≤ x.toInt ∧ x.toInt ≤ 2147483647 := ⟨Int32.le_toInt x, by have := Int32.toInt_lt x; omega⟩
theorem yI_of (x : Int32) : zi x.toInt = x := Int32.ofInt_toInt x
theorem yI_to {a : Int} (h1 : -2147483648 ≤ a) (h2 : a ≤ 2147483647) : (zi a).toInt = a := Int32.toInt_ofInt_of_le h1 (by show a < 2147483648; omega)
theorem yI_add (a b : Int) : zi a + zi b = zi (a + b) := (Int32.ofInt_add a b).symm
theorem yI_sub (a b : Int) : zi a - zi b = zi (a - b) := (Int32.ofInt_sub a b).symm
theorem yI_mul (a b : Int) : zi a * zi b = zi (a * b) := (Int32.ofInt_mul a b).symm
theorem yI_0 : (0 : Int32) = zi 0 := rfl
theorem yI_1 : (1 : Int32) = zi 1 := rfl
theorem yI_len (n : Nat) : n.toInt32 = zi n := (Int32.ofInt_eq_ofNat).symm
theorem yI_inj {a b : Int} (h : zi a = zi b) (a1 : -2147483648 ≤ a) (a2 : a ≤ 2147483647) (b1 : -2147483648 ≤ b) (b2 : b ≤ 2147483647) : a = b := by
  rw [← yI_to a1 a2, h, yI_to b1 b2]
theorem yI_ltT {a b : Int} (h1 : -2147483648 ≤ a) (h2 : a < b) (h3 : b ≤ 2147483647) : (zi a < zi b) = True := by
  rw [Int32.lt_iff_toInt_lt, yI_to h1 (by omega), yI_to (by omega) h3]; exact eq_true h2
theorem yI_ltF {a b : Int} (h1 : -2147483648 ≤ b) (h2 : b ≤ a) (h3 : a ≤ 2147483647) : (zi a < zi b) = False := by
  rw [Int32.lt_iff_toInt_lt, yI_to (by omega) h3, yI_to h1 (by omega)]; exact eq_false (by omega)
theorem yI_lt {a b : Int} (h1 : -2147483648 ≤ b) (h2 : -2147483648 ≤ a) (h3 : a ≤ 2147483647) (h4 : b ≤ 2147483647) : (zi a < zi b) = (a < b) := by
  rw [Int32.lt_iff_toInt_lt, yI_to h2 h3, yI_to h1 h4]
theorem yI_eqT {a b : Int} (h : a = b) : (zi a = zi b) = True := eq_true (by rw [h])
theorem yI_eqF {a b : Int} (h : a ≠ b) (a1 : -2147483648 ≤ a) (a2 : a ≤ 2147483647) (b1 : -2147483648 ≤ b) (b2 : b ≤ 2147483647) : (zi a = zi b) = False := eq_false fun q => h (yI_inj q a1 a2 b1 b2)
theorem yI_eq {a b : Int} (a1 : -2147483648 ≤ a) (a2 : a ≤ 2147483647) (b1 : -2147483648 ≤ b) (b2 : b ≤ 2147483647) : (zi a = zi b) = (a = b) := propext ⟨fun q => yI_inj q a1 a2 b1 b2, fun q => by rw [q]⟩
theorem yI_64 {a : Int} (h1 : -2147483648 ≤ a) (h2 : a ≤ 2147483647) : (zi a).toInt64 = zl a := Int32.toInt64_ofInt h1 h2
theorem yL_32 (a : Int) : (zl a).toInt32 = zi a := Int64.toInt32_ofInt
theorem yL_0 : (0 : Int64) = zl 0 := rfl
theorem yL_to {a : Int} (h1 : -9223372036854775808 ≤ a) (h2 : a ≤ 9223372036854775807) : (zl a).toInt = a := Int64.toInt_ofInt_of_le h1 (by show a < 9223372036854775808; omega)
theorem yL_inj {a b : Int} (h : zl a = zl b) (a1 : -2147483648 ≤ a) (a2 : a ≤ 2147483647) (b1 : -2147483648 ≤ b) (b2 : b ≤ 2147483647) : a = b := by
  rw [← yL_to (show _ ≤ a by omega) (by omega), h, yL_to (by omega) (by omega)]
theorem yL_eq {a b : Int} (a1 : -2147483648 ≤ a) (a2 : a ≤ 2147483647) (b1 : -2147483648 ≤ b) (b2 : b ≤ 2147483647) : (zl a = zl b) = (a = b) := propext ⟨fun q => yL_inj q a1 a2 b1 b2, fun q => by rw [q]⟩
theorem yL_add (a b : Int) : zl a + zl b = zl (a + b) := (Int64.ofInt_add a b).symm
theorem yL_sub (a b : Int) : zl a - zl b = zl (a - b) := (Int64.ofInt_sub a b).symm
theorem yL_neg (a : Int) : -zl a = zl (-a) := (Int64.ofInt_neg a).symm
/-- compares of longs -/
theorem yC_eq {x y : Int64} : (lg_cmp x y = zi 0) = (x = y) := by
  unfold lg_cmp
  refine propext ⟨fun h => ?_, fun h => ?_⟩
  · split at h
    · exact absurd h (by decide)
    · split at h
      · assumption
      · exact absurd h (by decide)
  · subst h
    rw [if_neg (by exact Int64.lt_irrefl), if_pos rfl]; rfl
theorem yC_lt {x y : Int64} : (lg_cmp x y < zi 0) = (x < y) := by
  unfold lg_cmp
  refine propext ⟨fun h => ?_, fun h => ?_⟩
  · split at h
    · exact absurd h (by decide)
    · split at h
      · exact absurd h (by decide)
      · rename_i h1 h2
        exact Int64.lt_of_le_of_ne (Int64.not_lt.mp h1) h2
  · rw [if_neg (fun q : x > y => Int64.lt_irrefl (Int64.lt_trans h q)), if_neg (fun q => by subst q; exact Int64.lt_irrefl h)]; decide
theorem yC_gt {x y : Int64} : (zi 0 < lg_cmp x y) = (y < x) := by
  unfold lg_cmp
  refine propext ⟨fun h => ?_, fun h => ?_⟩
  · split at h
    · assumption
    · split at h <;> exact absurd h (by decide)
  · rw [if_pos h]; decide
/-- truth values -/
noncomputable def yD (P : Prop) : Int := @ite Int P (Classical.propDecidable P) 1 0
theorem yD_T {P : Prop} (h : P) : yD P = 1 := by unfold yD; exact @if_pos P (Classical.propDecidable P) h Int 1 0
theorem yD_F {P : Prop} (h : ¬ P) : yD P = 0 := by unfold yD; exact @if_neg P (Classical.propDecidable P) h Int 1 0
theorem yD_or (P : Prop) : yD P = 0 ∨ yD P = 1 := by
  by_cases h : P
  · exact .inr (yD_T h)
  · exact .inl (yD_F h)
theorem yD_rng (P : Prop) : 0 ≤ yD P ∧ yD P ≤ 1 := by rcases yD_or P with h | h <;> rw [h] <;> decide
theorem yD_0 (P : Prop) : (zi (yD P) = zi 0) = ¬ P := by
  by_cases h : P
  · rw [yD_T h]; exact propext ⟨fun q => absurd q (by decide), fun q => absurd h q⟩
  · rw [yD_F h]; exact propext ⟨fun _ => h, fun _ => rfl⟩
theorem yD_congr {P Q : Prop} (h : P ↔ Q) : yD P = yD Q := by rw [propext h]
theorem yD_eq {P Q : Prop} (h : yD P = yD Q) : P ↔ Q := by
  by_cases hp : P
  · rw [yD_T hp] at h
    by_cases hq : Q
    · exact ⟨fun _ => hq, fun _ => hp⟩
    · rw [yD_F hq] at h; cases h
  · rw [yD_F hp] at h
    by_cases hq : Q
    · rw [yD_T hq] at h; cases h
    · exact ⟨fun q => absurd q hp, fun q => absurd q hq⟩
theorem yB_D (P : Prop) : zB (zi (yD P)) = some (zi (yD P)) := by rcases yD_or P with h | h <;> rw [h] <;> rfl
theorem yB_0 : zB (zi 0) = some (zi 0) := rfl
theorem yB_1 : zB (zi 1) = some (zi 1) := rfl
theorem yB_c (P : Prop) [Decidable P] : zB (zi (if P then 0 else 1)) = some (zi (if P then 0 else 1)) := by split <;> rfl
theorem yB_d (P : Prop) [Decidable P] : zB (zi (if P then 1 else 0)) = some (zi (if P then 1 else 0)) := by split <;> rfl
theorem yc_0 (a : Int) : (zi (if a = 0 then 0 else 1) = zi 0) = (a = 0) := by
  split
  · rename_i h; exact propext ⟨fun _ => h, fun _ => rfl⟩
  · rename_i h; exact propext ⟨fun q => absurd q (by decide), fun q => absurd q h⟩
/-- what comes back -/
theorem yR_I (k : Int32 → zH → Option zR) (x : Int32) (h : zH) : zRI k (.inl (some (.int x), h)) = k x h := rfl
theorem yR_L (k : Int64 → zH → Option zR) (x : Int64) (h : zH) : zRL k (.inl (some (.long x), h)) = k x h := rfl
theorem yR_D (k : UInt64 → zH → Option zR) (x : UInt64) (h : zH) : zRD k (.inl (some (.double x), h)) = k x h := rfl
theorem yR_A (k : Nat → zH → Option zR) (x : Nat) (h : zH) : zRA k (.inl (some (.ref x), h)) = k x h := rfl
theorem yR_V (k : zH → Option zR) (h : zH) : zRV k (.inl (none, h)) = k h := rfl
theorem yR_xI (k : Int32 → zH → Option zR) (e : Nat × Nat × zH) : zRI k (.inr e) = some (.inr e) := rfl
theorem yR_xL (k : Int64 → zH → Option zR) (e : Nat × Nat × zH) : zRL k (.inr e) = some (.inr e) := rfl
theorem yR_xA (k : Nat → zH → Option zR) (e : Nat × Nat × zH) : zRA k (.inr e) = some (.inr e) := rfl
theorem yR_xV (k : zH → Option zR) (e : Nat × Nat × zH) : zRV k (.inr e) = some (.inr e) := rfl
theorem yR_m (x : Nat → Nat → zH → Option zR) (k : zR → Option zR) (q : Option Value × zH) : zXm x k (.inl q) = k (.inl q) := rfl
theorem yR_mx (x : Nat → Nat → zH → Option zR) (k : zR → Option zR) (a b : Nat) (h : zH) : zXm x k (.inr (a, b, h)) = x a b h := rfl
theorem yS {α β : Type} (x : α) (f : α → Option β) : (some x).bind f = f x := rfl
theorem yI_T {α : Type} {P : Prop} [Decidable P] (h : P) (a b : α) : (if P then a else b) = a := if_pos h
end ZNUM
