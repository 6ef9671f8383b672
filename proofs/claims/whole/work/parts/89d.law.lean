/-! The law's loop, to its end. -/
section YLAWEND
variable {m : zQ} {c x L : Int} {S : Int → Int}
theorem yw_any (I : yIv c m) (X : yTx m) (H : yScr m L S) (x0 : 0 ≤ x) (x1 : x + 6 ≤ L) : yWk c L S x m := by
  by_cases h0 : zi (S x) &&& zi 31 = zi 0
  · exact yw_feed I X H x0 x1 h0
  by_cases h1 : zi (S x) &&& zi 31 = zi 1
  · exact yw_trim I X H x0 x1 h1
  by_cases h2 : zi (S x) &&& zi 31 = zi 2
  · exact yw_compile I X H x0 x1 h2
  by_cases h3 : zi (S x) &&& zi 31 = zi 3
  · exact yw_errorAt I X H x0 x1 h3
  by_cases h4 : zi (S x) &&& zi 31 = zi 4
  · exact yw_programs I X H x0 x1 h4
  by_cases h5 : zi (S x) &&& zi 31 = zi 5
  · exact yw_count I X H x0 x1 h5
  by_cases h6 : zi (S x) &&& zi 31 = zi 6
  · exact yw_code I X H x0 x1 h6
  by_cases h7 : zi (S x) &&& zi 31 = zi 7
  · exact yw_number I H x0 x1 h7
  by_cases h8 : zi (S x) &&& zi 31 = zi 8
  · exact yw_live I X H x0 x1 h8
  by_cases h9 : zi (S x) &&& zi 31 = zi 9
  · exact yw_pass I X H x0 x1 h9
  by_cases h10 : zi (S x) &&& zi 31 = zi 10
  · exact yw_better I X H x0 x1 h10
  by_cases h11 : zi (S x) &&& zi 31 = zi 11
  · exact yw_put I H x0 x1 h11
  by_cases h12 : zi (S x) &&& zi 31 = zi 12
  · exact yw_empty I X H x0 x1 h12
  by_cases h13 : zi (S x) &&& zi 31 = zi 13
  · exact yw_run I X H x0 x1 h13
  by_cases h14 : zi (S x) &&& zi 31 = zi 14
  · exact yw_ran I X H x0 x1 h14
  by_cases h15 : zi (S x) &&& zi 31 = zi 15
  · exact yw_output I X H x0 x1 h15
  by_cases h16 : zi (S x) &&& zi 31 = zi 16
  · exact yw_variable I X H x0 x1 h16
  by_cases h17 : zi (S x) &&& zi 31 = zi 17
  · exact yw_differ I X H x0 x1 h17
  by_cases h18 : zi (S x) &&& zi 31 = zi 18
  · exact yw_share I H x0 x1 h18
  by_cases h19 : zi (S x) &&& zi 31 = zi 19
  · exact yw_digest I H x0 x1 h19
  have hL : ((L.toNat : Nat) : Int) = L := by omega
  have hH := H.2.2.1
  refine ⟨m, ?_, yRy_s (u := 0) I (yG_refl _ _) (by omega)⟩
  clear I X
  rw [zb_Law_law_16]
  ((repeat (first | (with_reducible refine yst_T ?_ ?_; focus (simp (disch := first | assumption | omega) only [yS, yR_I, yR_L, yR_D, yR_A, yR_V, yR_xI, yR_xL, yR_xA, yR_xV, yR_m, yR_mx, yB_0, yB_1, yB_D, yB_c, yD_0, yc_0, yI_add, yI_sub, yI_mul, yI_0, yI_len, yI_ltT, yI_ltF, yI_eqT, yI_eqF, yC_eq, yC_lt, yC_gt, yI_64, yL_32, ↓reduceIte, eq_self, Nat.reduceLeDiff, Nat.reduceEqDiff, Nat.le_refl, not_true_eq_false, not_false_eq_true, wI_eq, wI_ne, wL_eq, wL_ne, wI_2, wL_1, wL_2, ykx_sc, yln_sc, yix_sc, yge_sc, hL, h0, h1, h2, h3, h4, h5, h6, h7, h8, h9, h10, h11, h12, h13, h14, h15, h16, h17, h18, h19]; done)) | (with_reducible refine yst_F ?_ ?_; focus (simp (disch := first | assumption | omega) only [yS, yR_I, yR_L, yR_D, yR_A, yR_V, yR_xI, yR_xL, yR_xA, yR_xV, yR_m, yR_mx, yB_0, yB_1, yB_D, yB_c, yD_0, yc_0, yI_add, yI_sub, yI_mul, yI_0, yI_len, yI_ltT, yI_ltF, yI_eqT, yI_eqF, yC_eq, yC_lt, yC_gt, yI_64, yL_32, ↓reduceIte, eq_self, Nat.reduceLeDiff, Nat.reduceEqDiff, Nat.le_refl, not_true_eq_false, not_false_eq_true, wI_eq, wI_ne, wL_eq, wL_ne, wI_2, wL_1, wL_2, ykx_sc, yln_sc, yix_sc, yge_sc, hL, h0, h1, h2, h3, h4, h5, h6, h7, h8, h9, h10, h11, h12, h13, h14, h15, h16, h17, h18, h19]; done)) | (with_reducible apply yst_I; focus (simp (disch := first | assumption | omega) only [yS, yR_I, yR_L, yR_D, yR_A, yR_V, yR_xI, yR_xL, yR_xA, yR_xV, yR_m, yR_mx, yB_0, yB_1, yB_D, yB_c, yD_0, yc_0, yI_add, yI_sub, yI_mul, yI_0, yI_len, yI_ltT, yI_ltF, yI_eqT, yI_eqF, yC_eq, yC_lt, yC_gt, yI_64, yL_32, ↓reduceIte, eq_self, Nat.reduceLeDiff, Nat.reduceEqDiff, Nat.le_refl, not_true_eq_false, not_false_eq_true, wI_eq, wI_ne, wL_eq, wL_ne, wI_2, wL_1, wL_2, ykx_sc, yln_sc, yix_sc, yge_sc, hL, h0, h1, h2, h3, h4, h5, h6, h7, h8, h9, h10, h11, h12, h13, h14, h15, h16, h17, h18, h19] <;> with_reducible rfl)) | (with_reducible apply yst_V; focus (simp (disch := first | assumption | omega) only [yS, yR_I, yR_L, yR_D, yR_A, yR_V, yR_xI, yR_xL, yR_xA, yR_xV, yR_m, yR_mx, yB_0, yB_1, yB_D, yB_c, yD_0, yc_0, yI_add, yI_sub, yI_mul, yI_0, yI_len, yI_ltT, yI_ltF, yI_eqT, yI_eqF, yC_eq, yC_lt, yC_gt, yI_64, yL_32, ↓reduceIte, eq_self, Nat.reduceLeDiff, Nat.reduceEqDiff, Nat.le_refl, not_true_eq_false, not_false_eq_true, wI_eq, wI_ne, wL_eq, wL_ne, wI_2, wL_1, wL_2, ykx_sc, yln_sc, yix_sc, yge_sc, hL, h0, h1, h2, h3, h4, h5, h6, h7, h8, h9, h10, h11, h12, h13, h14, h15, h16, h17, h18, h19] <;> with_reducible rfl)) | (with_reducible apply yst_L; focus (simp (disch := first | assumption | omega) only [yS, yR_I, yR_L, yR_D, yR_A, yR_V, yR_xI, yR_xL, yR_xA, yR_xV, yR_m, yR_mx, yB_0, yB_1, yB_D, yB_c, yD_0, yc_0, yI_add, yI_sub, yI_mul, yI_0, yI_len, yI_ltT, yI_ltF, yI_eqT, yI_eqF, yC_eq, yC_lt, yC_gt, yI_64, yL_32, ↓reduceIte, eq_self, Nat.reduceLeDiff, Nat.reduceEqDiff, Nat.le_refl, not_true_eq_false, not_false_eq_true, wI_eq, wI_ne, wL_eq, wL_ne, wI_2, wL_1, wL_2, ykx_sc, yln_sc, yix_sc, yge_sc, hL, h0, h1, h2, h3, h4, h5, h6, h7, h8, h9, h10, h11, h12, h13, h14, h15, h16, h17, h18, h19] <;> with_reducible rfl)) | (with_reducible apply yst_A; focus (simp (disch := first | assumption | omega) only [yS, yR_I, yR_L, yR_D, yR_A, yR_V, yR_xI, yR_xL, yR_xA, yR_xV, yR_m, yR_mx, yB_0, yB_1, yB_D, yB_c, yD_0, yc_0, yI_add, yI_sub, yI_mul, yI_0, yI_len, yI_ltT, yI_ltF, yI_eqT, yI_eqF, yC_eq, yC_lt, yC_gt, yI_64, yL_32, ↓reduceIte, eq_self, Nat.reduceLeDiff, Nat.reduceEqDiff, Nat.le_refl, not_true_eq_false, not_false_eq_true, wI_eq, wI_ne, wL_eq, wL_ne, wI_2, wL_1, wL_2, ykx_sc, yln_sc, yix_sc, yge_sc, hL, h0, h1, h2, h3, h4, h5, h6, h7, h8, h9, h10, h11, h12, h13, h14, h15, h16, h17, h18, h19] <;> with_reducible rfl)) | (with_reducible apply yst_b; focus (simp (disch := first | assumption | omega) only [yS, yR_I, yR_L, yR_D, yR_A, yR_V, yR_xI, yR_xL, yR_xA, yR_xV, yR_m, yR_mx, yB_0, yB_1, yB_D, yB_c, yD_0, yc_0, yI_add, yI_sub, yI_mul, yI_0, yI_len, yI_ltT, yI_ltF, yI_eqT, yI_eqF, yC_eq, yC_lt, yC_gt, yI_64, yL_32, ↓reduceIte, eq_self, Nat.reduceLeDiff, Nat.reduceEqDiff, Nat.le_refl, not_true_eq_false, not_false_eq_true, wI_eq, wI_ne, wL_eq, wL_ne, wI_2, wL_1, wL_2, ykx_sc, yln_sc, yix_sc, yge_sc, hL, h0, h1, h2, h3, h4, h5, h6, h7, h8, h9, h10, h11, h12, h13, h14, h15, h16, h17, h18, h19] <;> with_reducible rfl)))); (first | with_reducible rfl | simp (disch := first | assumption | omega) only [yS, yR_I, yR_L, yR_D, yR_A, yR_V, yR_xI, yR_xL, yR_xA, yR_xV, yR_m, yR_mx, yB_0, yB_1, yB_D, yB_c, yD_0, yc_0, yI_add, yI_sub, yI_mul, yI_0, yI_len, yI_ltT, yI_ltF, yI_eqT, yI_eqF, yC_eq, yC_lt, yC_gt, yI_64, yL_32, ↓reduceIte, eq_self, Nat.reduceLeDiff, Nat.reduceEqDiff, Nat.le_refl, not_true_eq_false, not_false_eq_true, wI_eq, wI_ne, wL_eq, wL_ne, wI_2, wL_1, wL_2, ykx_sc, yln_sc, yix_sc, yge_sc, hL, h0, h1, h2, h3, h4, h5, h6, h7, h8, h9, h10, h11, h12, h13, h14, h15, h16, h17, h18, h19] | skip))
theorem yw_end (H : yScr m L S) (x0 : 0 ≤ x) (x2 : x ≤ L) (x1 : L < x + 6) : zRun zCode kLaw_law 16 [.ref 0, .ref 5, .ref 202, .ref 235, .ref 236, .int (zi x), .retAddr 0, .retAddr 0, .retAddr 0] [] (zMk m) = some (.inl (some (.int (zi (1))), zMk m)) := by
  have hL : ((L.toNat : Nat) : Int) = L := by omega
  have hH := H.2.2.1
  rw [zb_Law_law_16]
  ((repeat (first | (with_reducible refine yst_T ?_ ?_; focus (simp (disch := first | assumption | omega) only [yS, yR_I, yR_L, yR_D, yR_A, yR_V, yR_xI, yR_xL, yR_xA, yR_xV, yR_m, yR_mx, yB_0, yB_1, yB_D, yB_c, yD_0, yc_0, yI_add, yI_sub, yI_mul, yI_0, yI_len, yI_ltT, yI_ltF, yI_eqT, yI_eqF, yC_eq, yC_lt, yC_gt, yI_64, yL_32, ↓reduceIte, eq_self, Nat.reduceLeDiff, Nat.reduceEqDiff, Nat.le_refl, not_true_eq_false, not_false_eq_true, wI_eq, wI_ne, wL_eq, wL_ne, wI_2, wL_1, wL_2, ykx_sc, yln_sc, hL]; done)) | (with_reducible refine yst_F ?_ ?_; focus (simp (disch := first | assumption | omega) only [yS, yR_I, yR_L, yR_D, yR_A, yR_V, yR_xI, yR_xL, yR_xA, yR_xV, yR_m, yR_mx, yB_0, yB_1, yB_D, yB_c, yD_0, yc_0, yI_add, yI_sub, yI_mul, yI_0, yI_len, yI_ltT, yI_ltF, yI_eqT, yI_eqF, yC_eq, yC_lt, yC_gt, yI_64, yL_32, ↓reduceIte, eq_self, Nat.reduceLeDiff, Nat.reduceEqDiff, Nat.le_refl, not_true_eq_false, not_false_eq_true, wI_eq, wI_ne, wL_eq, wL_ne, wI_2, wL_1, wL_2, ykx_sc, yln_sc, hL]; done)) | (with_reducible apply yst_I; focus (simp (disch := first | assumption | omega) only [yS, yR_I, yR_L, yR_D, yR_A, yR_V, yR_xI, yR_xL, yR_xA, yR_xV, yR_m, yR_mx, yB_0, yB_1, yB_D, yB_c, yD_0, yc_0, yI_add, yI_sub, yI_mul, yI_0, yI_len, yI_ltT, yI_ltF, yI_eqT, yI_eqF, yC_eq, yC_lt, yC_gt, yI_64, yL_32, ↓reduceIte, eq_self, Nat.reduceLeDiff, Nat.reduceEqDiff, Nat.le_refl, not_true_eq_false, not_false_eq_true, wI_eq, wI_ne, wL_eq, wL_ne, wI_2, wL_1, wL_2, ykx_sc, yln_sc, hL] <;> with_reducible rfl)) | (with_reducible apply yst_V; focus (simp (disch := first | assumption | omega) only [yS, yR_I, yR_L, yR_D, yR_A, yR_V, yR_xI, yR_xL, yR_xA, yR_xV, yR_m, yR_mx, yB_0, yB_1, yB_D, yB_c, yD_0, yc_0, yI_add, yI_sub, yI_mul, yI_0, yI_len, yI_ltT, yI_ltF, yI_eqT, yI_eqF, yC_eq, yC_lt, yC_gt, yI_64, yL_32, ↓reduceIte, eq_self, Nat.reduceLeDiff, Nat.reduceEqDiff, Nat.le_refl, not_true_eq_false, not_false_eq_true, wI_eq, wI_ne, wL_eq, wL_ne, wI_2, wL_1, wL_2, ykx_sc, yln_sc, hL] <;> with_reducible rfl)) | (with_reducible apply yst_L; focus (simp (disch := first | assumption | omega) only [yS, yR_I, yR_L, yR_D, yR_A, yR_V, yR_xI, yR_xL, yR_xA, yR_xV, yR_m, yR_mx, yB_0, yB_1, yB_D, yB_c, yD_0, yc_0, yI_add, yI_sub, yI_mul, yI_0, yI_len, yI_ltT, yI_ltF, yI_eqT, yI_eqF, yC_eq, yC_lt, yC_gt, yI_64, yL_32, ↓reduceIte, eq_self, Nat.reduceLeDiff, Nat.reduceEqDiff, Nat.le_refl, not_true_eq_false, not_false_eq_true, wI_eq, wI_ne, wL_eq, wL_ne, wI_2, wL_1, wL_2, ykx_sc, yln_sc, hL] <;> with_reducible rfl)) | (with_reducible apply yst_A; focus (simp (disch := first | assumption | omega) only [yS, yR_I, yR_L, yR_D, yR_A, yR_V, yR_xI, yR_xL, yR_xA, yR_xV, yR_m, yR_mx, yB_0, yB_1, yB_D, yB_c, yD_0, yc_0, yI_add, yI_sub, yI_mul, yI_0, yI_len, yI_ltT, yI_ltF, yI_eqT, yI_eqF, yC_eq, yC_lt, yC_gt, yI_64, yL_32, ↓reduceIte, eq_self, Nat.reduceLeDiff, Nat.reduceEqDiff, Nat.le_refl, not_true_eq_false, not_false_eq_true, wI_eq, wI_ne, wL_eq, wL_ne, wI_2, wL_1, wL_2, ykx_sc, yln_sc, hL] <;> with_reducible rfl)) | (with_reducible apply yst_b; focus (simp (disch := first | assumption | omega) only [yS, yR_I, yR_L, yR_D, yR_A, yR_V, yR_xI, yR_xL, yR_xA, yR_xV, yR_m, yR_mx, yB_0, yB_1, yB_D, yB_c, yD_0, yc_0, yI_add, yI_sub, yI_mul, yI_0, yI_len, yI_ltT, yI_ltF, yI_eqT, yI_eqF, yC_eq, yC_lt, yC_gt, yI_64, yL_32, ↓reduceIte, eq_self, Nat.reduceLeDiff, Nat.reduceEqDiff, Nat.le_refl, not_true_eq_false, not_false_eq_true, wI_eq, wI_ne, wL_eq, wL_ne, wI_2, wL_1, wL_2, ykx_sc, yln_sc, hL] <;> with_reducible rfl)))); (first | with_reducible rfl | simp (disch := first | assumption | omega) only [yS, yR_I, yR_L, yR_D, yR_A, yR_V, yR_xI, yR_xL, yR_xA, yR_xV, yR_m, yR_mx, yB_0, yB_1, yB_D, yB_c, yD_0, yc_0, yI_add, yI_sub, yI_mul, yI_0, yI_len, yI_ltT, yI_ltF, yI_eqT, yI_eqF, yC_eq, yC_lt, yC_gt, yI_64, yL_32, ↓reduceIte, eq_self, Nat.reduceLeDiff, Nat.reduceEqDiff, Nat.le_refl, not_true_eq_false, not_false_eq_true, wI_eq, wI_ne, wL_eq, wL_ne, wI_2, wL_1, wL_2, ykx_sc, yln_sc, hL] | skip))
def yEnd (c : Int) (g : Nat) (m : zQ) (R : Option zR) : Prop := ∃ h', R = some (.inl (some (.int (zi 1)), h')) ∧ h'.1 ≤ 237 + m.2.2.2.1 + (28800 * (12 - c).toNat + 400 * g) ∧ h'.2.1 ≤ m.2.2.2.2 + 8 * (28800 * (12 - c).toNat + 400 * g)
theorem yEnd_step {c c' : Int} {g : Nat} {m m2 : zQ} {R : Option zR} (h : yEnd c' g m2 R) (hc : c ≤ c') (hc' : c' ≤ 12) (b : yBu c c' m m2) : yEnd c (g + 1) m R := by
  obtain ⟨h', h1, h2, h3⟩ := h
  obtain ⟨b1, b2⟩ := b
  have e : (12 - c).toNat = (12 - c').toNat + (c' - c).toNat := by omega
  refine ⟨h', h1, ?_, ?_⟩ <;> rw [e]
  · generalize (12 - c').toNat = u at *
    generalize (c' - c).toNat = v at *
    clear e h3 b2 h1 hc hc'
    omega
  · generalize (12 - c').toNat = u at *
    generalize (c' - c).toNat = v at *
    clear e h2 b1 h1 hc hc'
    omega
theorem yw_loop : ∀ g : Nat, ∀ (x c : Int) (m : zQ), L - x < 6 * (g : Int) + 6 → 0 ≤ x → x ≤ L → yIv c m → yTx m → yScr m L S → yEnd c g m (zRun zCode kLaw_law 16 [.ref 0, .ref 5, .ref 202, .ref 235, .ref 236, .int (zi x), .retAddr 0, .retAddr 0, .retAddr 0] [] (zMk m)) := by
  intro g
  induction g with
  | zero =>
    intro x c m hg x0 x2 I X H
    refine ⟨zMk m, yw_end H x0 x2 (by omega), ?_, ?_⟩
    · rw [zMk_n]; exact Nat.le_add_right _ _
    · exact Nat.le_add_right _ _
  | succ g ih =>
    intro x c m hg x0 x2 I X H
    by_cases z : x + 6 ≤ L
    · obtain ⟨m2, e1, c', cc, I', B, T⟩ := yw_any I X H x0 z
      rw [e1]
      exact yEnd_step (ih (x + 6) c' m2 (by omega) (by omega) z I' (yTx_of X T) (yScr_of H fun j => T 0 j (by omega))) cc I'.1.2 B
    · refine ⟨zMk m, yw_end H x0 x2 (by omega), ?_, ?_⟩
      · rw [zMk_n]; exact Nat.le_add_right _ _
      · exact Nat.le_add_right _ _
end YLAWEND
