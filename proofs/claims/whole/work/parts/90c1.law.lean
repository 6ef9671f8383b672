/-! The law's method passes the check, entries 0 on. -/
section ZOKL0
def zOkR (m a n : Nat) : Bool := (List.range n).all fun i => match (zCode m).2[a + i]? with
  | some en => zOk1 m (a + i) en
  | none => true
theorem zOkR_at {m a n i : Nat} (h : zOkR m a n = true) (h1 : a ≤ i) (h2 : i < a + n) {en : zE} (he : (zCode m).2[i]? = some en) : zOk1 m i en = true := by
  have := List.all_eq_true.mp h (i - a) (List.mem_range.mpr (by omega))
  rw [show a + (i - a) = i by omega, he] at this
  exact this
theorem zr_law_0 : zOkR kLaw_law 0 60 = true := by decide +kernel
theorem zr_law_1 : zOkR kLaw_law 60 60 = true := by decide +kernel
theorem zr_law_2 : zOkR kLaw_law 120 60 = true := by decide +kernel
theorem zr_law_3 : zOkR kLaw_law 180 60 = true := by decide +kernel
theorem zr_law_4 : zOkR kLaw_law 240 60 = true := by decide +kernel
end ZOKL0
