/-! From the constructors' end to the whole. -/
section YPURE
/-- what is owed by the constructors -/
def yMade : Prop := ∀ (L : Nat) (xs : Nat → Int32), L ≤ 3072 → ∃ (m : zQ) (S : Int → Int), zRun zCode kLaw_law 0 (zInit 9 [.ref 0]) [] (zH0 L xs) = zRun zCode kLaw_law 16 [.ref 0, .ref 5, .ref 202, .ref 235, .ref 236, .int (zi 0), .retAddr 0, .retAddr 0, .retAddr 0] [] (zMk m) ∧ yIv 0 m ∧ yTx m ∧ yScr m L S ∧ m.2.2.2.1 ≤ 1000 ∧ m.2.2.2.2 ≤ 1000000
theorem zPure_of (h : yMade) : zPure := by
  intro L xs hL
  obtain ⟨m, S, e, I, X, H, b1, b2⟩ := h L xs hL
  obtain ⟨h', g1, g2, g3⟩ := yw_loop 512 0 0 m (by omega) (by omega) (by omega) I X H
  refine ⟨h', e.trans g1, ?_, ?_⟩
  · have : (12 - (0 : Int)).toNat = 12 := rfl
    rw [this] at g2
    omega
  · have : (12 - (0 : Int)).toNat = 12 := rfl
    rw [this] at g3
    omega
end YPURE
