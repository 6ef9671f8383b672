/-! The pass fold: both sides make the same. -/
section YZFOLD
variable {a t : Nat} {n : Int} {A0 : yPr}
/-- what the class's passes write; what the model's do -/
def ySp (a : Nat) : Nat → Int → Prop := fun b k => (b = a ∧ k = 12) ∨ (a + 1 ≤ b ∧ b ≤ a + 8) ∨ (a + 10 ≤ b ∧ b ≤ a + 12) ∨ (183 ≤ b ∧ b ≤ 185) ∨ (188 ≤ b ∧ b ≤ 190)
def ySm (t : Nat) : Nat → Int → Prop := fun b k => yFT t b k ∨ (222 ≤ b ∧ b ≤ 226)
/-- the class's program at a is the model's in the row t -/
def yTw (mc : zQ) (a : Nat) (md : zQ) (t : Nat) (n : Int) : Prop := mc.1 a 12 = n ∧ yOk n (yA mc a) ∧ (∀ j, 0 ≤ j → j < 80 → mc.1 (a + 8) j = 0) ∧ ∃ B, yMn md t n B ∧ ∀ j, 0 ≤ j → j < n → B j = yA mc a j
/-- an instruction made of another one -/
def yDv (A0 A : yPr) (j : Int) : Prop := yIk A j ∧ (ySo A j = 0 ↔ ySo A0 j = 0) ∧ yX A j = yX A0 j ∧ (yJp A j → yJp A0 j)
theorem yFi_f (C : yIns) : ((yFi C).1 = 0 ↔ C.1 = 0) ∧ (yFi C).2.1 = C.2.1 ∧ (((yFi C).1 = 3 ∨ (yFi C).1 = 4) ↔ (C.1 = 3 ∨ C.1 = 4)) ∧ ((yFi C).1 = 7 ↔ C.1 = 7) := by
  by_cases c2 : yF2 C
  · rw [yFi_2 c2]
    have := c2.1
    exact ⟨⟨fun z => absurd z (show ¬ ((1 : Int) = 0) by decide), fun z => by omega⟩, rfl, ⟨fun z => absurd z (show ¬ ((1 : Int) = 3 ∨ (1 : Int) = 4) by decide), fun z => by omega⟩, ⟨fun z => absurd z (show ¬ ((1 : Int) = 7) by decide), fun z => by omega⟩⟩
  · by_cases c4 : yF4 C ∧ ¬ yFd C
    · rw [yFi_4 c4.1 c4.2]
      have := c4.1.1
      exact ⟨⟨fun z => absurd z (show ¬ ((3 : Int) = 0) by decide), fun z => by omega⟩, rfl, ⟨fun z => .inr this, fun z => .inl rfl⟩, ⟨fun z => absurd z (show ¬ ((3 : Int) = 7) by decide), fun z => by omega⟩⟩
    · rw [yFi_n c2 (by by_cases d : yF4 C; exact .inr (Classical.byContradiction fun e => c4 ⟨d, e⟩); exact .inl d)]
      exact ⟨Iff.rfl, rfl, Iff.rfl, Iff.rfl⟩
theorem yPc_rng (K : yKn) (c : yIns) : 0 ≤ yPc K c ∧ yPc K c ≤ 2 := by
  unfold yPc
  split <;> split <;> omega
/-- the row's own ends -/
theorem ym_fold_end {m : zQ} {B : yPr} {ch nw k : Int} (h : yMn m t n B) (hn : n ≤ 80) (k0 : 0 ≤ k) (hk : k = n) : zRun zCode kModel_fold 6 [.ref 202, .int (zi ch), .int (zi nw), .int (zi k), .retAddr 0, .retAddr 0] [] (zMk m) = some (.inl (some (.int (zi (ch))), zMk m)) := by
  have hm := ym_many h.2.1.1 h.2.1.2 h.2.2.1
  have hT := h.1
  rw [zb_Model_fold_6]
  ((repeat (first | (refine yst_T ?_ ?_; focus (simp (disch := first | assumption | omega) only [yS, yR_I, yR_L, yR_D, yR_A, yR_V, yR_xI, yR_xL, yR_xA, yR_xV, yR_m, yR_mx, yB_0, yB_1, yB_D, yB_c, yD_0, yc_0, yI_add, yI_sub, yI_mul, yI_0, yI_len, yI_ltT, yI_ltF, yI_eqT, yI_eqF, yC_eq, yC_lt, yC_gt, yI_64, yL_32, ↓reduceIte, eq_self, Nat.reduceLeDiff, Nat.le_refl, not_true_eq_false, not_false_eq_true, wI_eq, wI_ne, wL_eq, wL_ne, wI_2, wL_1, wL_2, yk_Md, yg_Md0, yp_Md0, yg_Md1, yp_Md1, yg_Md2, yg_Md3, yp_Md3, yg_Md4, ykx_Md4, yln_Md4, yix_Md4, yge_Md4, ype_Md4, yg_Md5, yp_Md5, yg_Md6, yp_Md6, yg_Md7, yp_Md7, yg_Md8, yp_Md8, yg_Md9, yp_Md9, yg_Md10, ykx_Md10, yln_Md10, yix_Md10, yge_Md10, ype_Md10, yg_Md11, ykx_Md11, yln_Md11, yix_Md11, yge_Md11, ype_Md11, yg_Md12, ykx_Md12, yln_Md12, yix_Md12, yge_Md12, ype_Md12, yg_Md13, ykx_Md13, yln_Md13, yix_Md13, yge_Md13, ype_Md13, yg_Md14, yp_Md14, yg_Md15, ykx_Md15, yln_Md15, yix_Md15, yge_Md15, ype_Md15, yg_Md16, ykx_Md16, yln_Md16, yix_Md16, yge_Md16, ype_Md16, yg_Md17, ykx_Md17, yln_Md17, yix_Md17, yge_Md17, ype_Md17, yg_Md18, ykx_Md18, yln_Md18, yix_Md18, yge_Md18, ype_Md18, yg_Md19, ykx_Md19, yln_Md19, yix_Md19, yge_Md19, ype_Md19, yg_Md20, yp_Md20, yg_Md21, ykx_Md21, yln_Md21, yix_Md21, yge_Md21, ype_Md21, yg_Md22, ykx_Md22, yln_Md22, yix_Md22, yge_Md22, ype_Md22, yg_Md23, ykx_Md23, yln_Md23, yix_Md23, yge_Md23, ype_Md23, yg_Md24, yp_Md24, yg_Md25, yp_Md25, yg_Md26, yp_Md26, yg_Md27, ykx_Md27, yln_Md27, yix_Md27, yge_Md27, ype_Md27, yg_Md28, ykx_Md28, yln_Md28, yix_Md28, yge_Md28, ype_Md28, yg_Md29, ykx_Md29, yln_Md29, yix_Md29, yge_Md29, ype_Md29, yg_Md30, ykx_Md30, yln_Md30, yix_Md30, yge_Md30, ype_Md30, yg_Md31, ykx_Md31, yln_Md31, yix_Md31, yge_Md31, ype_Md31, hT, hm]; done)) | (refine yst_F ?_ ?_; focus (simp (disch := first | assumption | omega) only [yS, yR_I, yR_L, yR_D, yR_A, yR_V, yR_xI, yR_xL, yR_xA, yR_xV, yR_m, yR_mx, yB_0, yB_1, yB_D, yB_c, yD_0, yc_0, yI_add, yI_sub, yI_mul, yI_0, yI_len, yI_ltT, yI_ltF, yI_eqT, yI_eqF, yC_eq, yC_lt, yC_gt, yI_64, yL_32, ↓reduceIte, eq_self, Nat.reduceLeDiff, Nat.le_refl, not_true_eq_false, not_false_eq_true, wI_eq, wI_ne, wL_eq, wL_ne, wI_2, wL_1, wL_2, yk_Md, yg_Md0, yp_Md0, yg_Md1, yp_Md1, yg_Md2, yg_Md3, yp_Md3, yg_Md4, ykx_Md4, yln_Md4, yix_Md4, yge_Md4, ype_Md4, yg_Md5, yp_Md5, yg_Md6, yp_Md6, yg_Md7, yp_Md7, yg_Md8, yp_Md8, yg_Md9, yp_Md9, yg_Md10, ykx_Md10, yln_Md10, yix_Md10, yge_Md10, ype_Md10, yg_Md11, ykx_Md11, yln_Md11, yix_Md11, yge_Md11, ype_Md11, yg_Md12, ykx_Md12, yln_Md12, yix_Md12, yge_Md12, ype_Md12, yg_Md13, ykx_Md13, yln_Md13, yix_Md13, yge_Md13, ype_Md13, yg_Md14, yp_Md14, yg_Md15, ykx_Md15, yln_Md15, yix_Md15, yge_Md15, ype_Md15, yg_Md16, ykx_Md16, yln_Md16, yix_Md16, yge_Md16, ype_Md16, yg_Md17, ykx_Md17, yln_Md17, yix_Md17, yge_Md17, ype_Md17, yg_Md18, ykx_Md18, yln_Md18, yix_Md18, yge_Md18, ype_Md18, yg_Md19, ykx_Md19, yln_Md19, yix_Md19, yge_Md19, ype_Md19, yg_Md20, yp_Md20, yg_Md21, ykx_Md21, yln_Md21, yix_Md21, yge_Md21, ype_Md21, yg_Md22, ykx_Md22, yln_Md22, yix_Md22, yge_Md22, ype_Md22, yg_Md23, ykx_Md23, yln_Md23, yix_Md23, yge_Md23, ype_Md23, yg_Md24, yp_Md24, yg_Md25, yp_Md25, yg_Md26, yp_Md26, yg_Md27, ykx_Md27, yln_Md27, yix_Md27, yge_Md27, ype_Md27, yg_Md28, ykx_Md28, yln_Md28, yix_Md28, yge_Md28, ype_Md28, yg_Md29, ykx_Md29, yln_Md29, yix_Md29, yge_Md29, ype_Md29, yg_Md30, ykx_Md30, yln_Md30, yix_Md30, yge_Md30, ype_Md30, yg_Md31, ykx_Md31, yln_Md31, yix_Md31, yge_Md31, ype_Md31, hT, hm]; done)) | (apply yst_I; focus (simp (disch := first | assumption | omega) only [yS, yR_I, yR_L, yR_D, yR_A, yR_V, yR_xI, yR_xL, yR_xA, yR_xV, yR_m, yR_mx, yB_0, yB_1, yB_D, yB_c, yD_0, yc_0, yI_add, yI_sub, yI_mul, yI_0, yI_len, yI_ltT, yI_ltF, yI_eqT, yI_eqF, yC_eq, yC_lt, yC_gt, yI_64, yL_32, ↓reduceIte, eq_self, Nat.reduceLeDiff, Nat.le_refl, not_true_eq_false, not_false_eq_true, wI_eq, wI_ne, wL_eq, wL_ne, wI_2, wL_1, wL_2, yk_Md, yg_Md0, yp_Md0, yg_Md1, yp_Md1, yg_Md2, yg_Md3, yp_Md3, yg_Md4, ykx_Md4, yln_Md4, yix_Md4, yge_Md4, ype_Md4, yg_Md5, yp_Md5, yg_Md6, yp_Md6, yg_Md7, yp_Md7, yg_Md8, yp_Md8, yg_Md9, yp_Md9, yg_Md10, ykx_Md10, yln_Md10, yix_Md10, yge_Md10, ype_Md10, yg_Md11, ykx_Md11, yln_Md11, yix_Md11, yge_Md11, ype_Md11, yg_Md12, ykx_Md12, yln_Md12, yix_Md12, yge_Md12, ype_Md12, yg_Md13, ykx_Md13, yln_Md13, yix_Md13, yge_Md13, ype_Md13, yg_Md14, yp_Md14, yg_Md15, ykx_Md15, yln_Md15, yix_Md15, yge_Md15, ype_Md15, yg_Md16, ykx_Md16, yln_Md16, yix_Md16, yge_Md16, ype_Md16, yg_Md17, ykx_Md17, yln_Md17, yix_Md17, yge_Md17, ype_Md17, yg_Md18, ykx_Md18, yln_Md18, yix_Md18, yge_Md18, ype_Md18, yg_Md19, ykx_Md19, yln_Md19, yix_Md19, yge_Md19, ype_Md19, yg_Md20, yp_Md20, yg_Md21, ykx_Md21, yln_Md21, yix_Md21, yge_Md21, ype_Md21, yg_Md22, ykx_Md22, yln_Md22, yix_Md22, yge_Md22, ype_Md22, yg_Md23, ykx_Md23, yln_Md23, yix_Md23, yge_Md23, ype_Md23, yg_Md24, yp_Md24, yg_Md25, yp_Md25, yg_Md26, yp_Md26, yg_Md27, ykx_Md27, yln_Md27, yix_Md27, yge_Md27, ype_Md27, yg_Md28, ykx_Md28, yln_Md28, yix_Md28, yge_Md28, ype_Md28, yg_Md29, ykx_Md29, yln_Md29, yix_Md29, yge_Md29, ype_Md29, yg_Md30, ykx_Md30, yln_Md30, yix_Md30, yge_Md30, ype_Md30, yg_Md31, ykx_Md31, yln_Md31, yix_Md31, yge_Md31, ype_Md31, hT, hm] <;> rfl)) | (apply yst_V; focus (simp (disch := first | assumption | omega) only [yS, yR_I, yR_L, yR_D, yR_A, yR_V, yR_xI, yR_xL, yR_xA, yR_xV, yR_m, yR_mx, yB_0, yB_1, yB_D, yB_c, yD_0, yc_0, yI_add, yI_sub, yI_mul, yI_0, yI_len, yI_ltT, yI_ltF, yI_eqT, yI_eqF, yC_eq, yC_lt, yC_gt, yI_64, yL_32, ↓reduceIte, eq_self, Nat.reduceLeDiff, Nat.le_refl, not_true_eq_false, not_false_eq_true, wI_eq, wI_ne, wL_eq, wL_ne, wI_2, wL_1, wL_2, yk_Md, yg_Md0, yp_Md0, yg_Md1, yp_Md1, yg_Md2, yg_Md3, yp_Md3, yg_Md4, ykx_Md4, yln_Md4, yix_Md4, yge_Md4, ype_Md4, yg_Md5, yp_Md5, yg_Md6, yp_Md6, yg_Md7, yp_Md7, yg_Md8, yp_Md8, yg_Md9, yp_Md9, yg_Md10, ykx_Md10, yln_Md10, yix_Md10, yge_Md10, ype_Md10, yg_Md11, ykx_Md11, yln_Md11, yix_Md11, yge_Md11, ype_Md11, yg_Md12, ykx_Md12, yln_Md12, yix_Md12, yge_Md12, ype_Md12, yg_Md13, ykx_Md13, yln_Md13, yix_Md13, yge_Md13, ype_Md13, yg_Md14, yp_Md14, yg_Md15, ykx_Md15, yln_Md15, yix_Md15, yge_Md15, ype_Md15, yg_Md16, ykx_Md16, yln_Md16, yix_Md16, yge_Md16, ype_Md16, yg_Md17, ykx_Md17, yln_Md17, yix_Md17, yge_Md17, ype_Md17, yg_Md18, ykx_Md18, yln_Md18, yix_Md18, yge_Md18, ype_Md18, yg_Md19, ykx_Md19, yln_Md19, yix_Md19, yge_Md19, ype_Md19, yg_Md20, yp_Md20, yg_Md21, ykx_Md21, yln_Md21, yix_Md21, yge_Md21, ype_Md21, yg_Md22, ykx_Md22, yln_Md22, yix_Md22, yge_Md22, ype_Md22, yg_Md23, ykx_Md23, yln_Md23, yix_Md23, yge_Md23, ype_Md23, yg_Md24, yp_Md24, yg_Md25, yp_Md25, yg_Md26, yp_Md26, yg_Md27, ykx_Md27, yln_Md27, yix_Md27, yge_Md27, ype_Md27, yg_Md28, ykx_Md28, yln_Md28, yix_Md28, yge_Md28, ype_Md28, yg_Md29, ykx_Md29, yln_Md29, yix_Md29, yge_Md29, ype_Md29, yg_Md30, ykx_Md30, yln_Md30, yix_Md30, yge_Md30, ype_Md30, yg_Md31, ykx_Md31, yln_Md31, yix_Md31, yge_Md31, ype_Md31, hT, hm] <;> rfl)) | (apply yst_L; focus (simp (disch := first | assumption | omega) only [yS, yR_I, yR_L, yR_D, yR_A, yR_V, yR_xI, yR_xL, yR_xA, yR_xV, yR_m, yR_mx, yB_0, yB_1, yB_D, yB_c, yD_0, yc_0, yI_add, yI_sub, yI_mul, yI_0, yI_len, yI_ltT, yI_ltF, yI_eqT, yI_eqF, yC_eq, yC_lt, yC_gt, yI_64, yL_32, ↓reduceIte, eq_self, Nat.reduceLeDiff, Nat.le_refl, not_true_eq_false, not_false_eq_true, wI_eq, wI_ne, wL_eq, wL_ne, wI_2, wL_1, wL_2, yk_Md, yg_Md0, yp_Md0, yg_Md1, yp_Md1, yg_Md2, yg_Md3, yp_Md3, yg_Md4, ykx_Md4, yln_Md4, yix_Md4, yge_Md4, ype_Md4, yg_Md5, yp_Md5, yg_Md6, yp_Md6, yg_Md7, yp_Md7, yg_Md8, yp_Md8, yg_Md9, yp_Md9, yg_Md10, ykx_Md10, yln_Md10, yix_Md10, yge_Md10, ype_Md10, yg_Md11, ykx_Md11, yln_Md11, yix_Md11, yge_Md11, ype_Md11, yg_Md12, ykx_Md12, yln_Md12, yix_Md12, yge_Md12, ype_Md12, yg_Md13, ykx_Md13, yln_Md13, yix_Md13, yge_Md13, ype_Md13, yg_Md14, yp_Md14, yg_Md15, ykx_Md15, yln_Md15, yix_Md15, yge_Md15, ype_Md15, yg_Md16, ykx_Md16, yln_Md16, yix_Md16, yge_Md16, ype_Md16, yg_Md17, ykx_Md17, yln_Md17, yix_Md17, yge_Md17, ype_Md17, yg_Md18, ykx_Md18, yln_Md18, yix_Md18, yge_Md18, ype_Md18, yg_Md19, ykx_Md19, yln_Md19, yix_Md19, yge_Md19, ype_Md19, yg_Md20, yp_Md20, yg_Md21, ykx_Md21, yln_Md21, yix_Md21, yge_Md21, ype_Md21, yg_Md22, ykx_Md22, yln_Md22, yix_Md22, yge_Md22, ype_Md22, yg_Md23, ykx_Md23, yln_Md23, yix_Md23, yge_Md23, ype_Md23, yg_Md24, yp_Md24, yg_Md25, yp_Md25, yg_Md26, yp_Md26, yg_Md27, ykx_Md27, yln_Md27, yix_Md27, yge_Md27, ype_Md27, yg_Md28, ykx_Md28, yln_Md28, yix_Md28, yge_Md28, ype_Md28, yg_Md29, ykx_Md29, yln_Md29, yix_Md29, yge_Md29, ype_Md29, yg_Md30, ykx_Md30, yln_Md30, yix_Md30, yge_Md30, ype_Md30, yg_Md31, ykx_Md31, yln_Md31, yix_Md31, yge_Md31, ype_Md31, hT, hm] <;> rfl)) | (apply yst_A; focus (simp (disch := first | assumption | omega) only [yS, yR_I, yR_L, yR_D, yR_A, yR_V, yR_xI, yR_xL, yR_xA, yR_xV, yR_m, yR_mx, yB_0, yB_1, yB_D, yB_c, yD_0, yc_0, yI_add, yI_sub, yI_mul, yI_0, yI_len, yI_ltT, yI_ltF, yI_eqT, yI_eqF, yC_eq, yC_lt, yC_gt, yI_64, yL_32, ↓reduceIte, eq_self, Nat.reduceLeDiff, Nat.le_refl, not_true_eq_false, not_false_eq_true, wI_eq, wI_ne, wL_eq, wL_ne, wI_2, wL_1, wL_2, yk_Md, yg_Md0, yp_Md0, yg_Md1, yp_Md1, yg_Md2, yg_Md3, yp_Md3, yg_Md4, ykx_Md4, yln_Md4, yix_Md4, yge_Md4, ype_Md4, yg_Md5, yp_Md5, yg_Md6, yp_Md6, yg_Md7, yp_Md7, yg_Md8, yp_Md8, yg_Md9, yp_Md9, yg_Md10, ykx_Md10, yln_Md10, yix_Md10, yge_Md10, ype_Md10, yg_Md11, ykx_Md11, yln_Md11, yix_Md11, yge_Md11, ype_Md11, yg_Md12, ykx_Md12, yln_Md12, yix_Md12, yge_Md12, ype_Md12, yg_Md13, ykx_Md13, yln_Md13, yix_Md13, yge_Md13, ype_Md13, yg_Md14, yp_Md14, yg_Md15, ykx_Md15, yln_Md15, yix_Md15, yge_Md15, ype_Md15, yg_Md16, ykx_Md16, yln_Md16, yix_Md16, yge_Md16, ype_Md16, yg_Md17, ykx_Md17, yln_Md17, yix_Md17, yge_Md17, ype_Md17, yg_Md18, ykx_Md18, yln_Md18, yix_Md18, yge_Md18, ype_Md18, yg_Md19, ykx_Md19, yln_Md19, yix_Md19, yge_Md19, ype_Md19, yg_Md20, yp_Md20, yg_Md21, ykx_Md21, yln_Md21, yix_Md21, yge_Md21, ype_Md21, yg_Md22, ykx_Md22, yln_Md22, yix_Md22, yge_Md22, ype_Md22, yg_Md23, ykx_Md23, yln_Md23, yix_Md23, yge_Md23, ype_Md23, yg_Md24, yp_Md24, yg_Md25, yp_Md25, yg_Md26, yp_Md26, yg_Md27, ykx_Md27, yln_Md27, yix_Md27, yge_Md27, ype_Md27, yg_Md28, ykx_Md28, yln_Md28, yix_Md28, yge_Md28, ype_Md28, yg_Md29, ykx_Md29, yln_Md29, yix_Md29, yge_Md29, ype_Md29, yg_Md30, ykx_Md30, yln_Md30, yix_Md30, yge_Md30, ype_Md30, yg_Md31, ykx_Md31, yln_Md31, yix_Md31, yge_Md31, ype_Md31, hT, hm] <;> rfl)) | (apply yst_b; focus (simp (disch := first | assumption | omega) only [yS, yR_I, yR_L, yR_D, yR_A, yR_V, yR_xI, yR_xL, yR_xA, yR_xV, yR_m, yR_mx, yB_0, yB_1, yB_D, yB_c, yD_0, yc_0, yI_add, yI_sub, yI_mul, yI_0, yI_len, yI_ltT, yI_ltF, yI_eqT, yI_eqF, yC_eq, yC_lt, yC_gt, yI_64, yL_32, ↓reduceIte, eq_self, Nat.reduceLeDiff, Nat.le_refl, not_true_eq_false, not_false_eq_true, wI_eq, wI_ne, wL_eq, wL_ne, wI_2, wL_1, wL_2, yk_Md, yg_Md0, yp_Md0, yg_Md1, yp_Md1, yg_Md2, yg_Md3, yp_Md3, yg_Md4, ykx_Md4, yln_Md4, yix_Md4, yge_Md4, ype_Md4, yg_Md5, yp_Md5, yg_Md6, yp_Md6, yg_Md7, yp_Md7, yg_Md8, yp_Md8, yg_Md9, yp_Md9, yg_Md10, ykx_Md10, yln_Md10, yix_Md10, yge_Md10, ype_Md10, yg_Md11, ykx_Md11, yln_Md11, yix_Md11, yge_Md11, ype_Md11, yg_Md12, ykx_Md12, yln_Md12, yix_Md12, yge_Md12, ype_Md12, yg_Md13, ykx_Md13, yln_Md13, yix_Md13, yge_Md13, ype_Md13, yg_Md14, yp_Md14, yg_Md15, ykx_Md15, yln_Md15, yix_Md15, yge_Md15, ype_Md15, yg_Md16, ykx_Md16, yln_Md16, yix_Md16, yge_Md16, ype_Md16, yg_Md17, ykx_Md17, yln_Md17, yix_Md17, yge_Md17, ype_Md17, yg_Md18, ykx_Md18, yln_Md18, yix_Md18, yge_Md18, ype_Md18, yg_Md19, ykx_Md19, yln_Md19, yix_Md19, yge_Md19, ype_Md19, yg_Md20, yp_Md20, yg_Md21, ykx_Md21, yln_Md21, yix_Md21, yge_Md21, ype_Md21, yg_Md22, ykx_Md22, yln_Md22, yix_Md22, yge_Md22, ype_Md22, yg_Md23, ykx_Md23, yln_Md23, yix_Md23, yge_Md23, ype_Md23, yg_Md24, yp_Md24, yg_Md25, yp_Md25, yg_Md26, yp_Md26, yg_Md27, ykx_Md27, yln_Md27, yix_Md27, yge_Md27, ype_Md27, yg_Md28, ykx_Md28, yln_Md28, yix_Md28, yge_Md28, ype_Md28, yg_Md29, ykx_Md29, yln_Md29, yix_Md29, yge_Md29, ype_Md29, yg_Md30, ykx_Md30, yln_Md30, yix_Md30, yge_Md30, ype_Md30, yg_Md31, ykx_Md31, yln_Md31, yix_Md31, yge_Md31, ype_Md31, hT, hm] <;> rfl)))); (first | with_reducible rfl | simp (disch := first | assumption | omega) only [yS, yR_I, yR_L, yR_D, yR_A, yR_V, yR_xI, yR_xL, yR_xA, yR_xV, yR_m, yR_mx, yB_0, yB_1, yB_D, yB_c, yD_0, yc_0, yI_add, yI_sub, yI_mul, yI_0, yI_len, yI_ltT, yI_ltF, yI_eqT, yI_eqF, yC_eq, yC_lt, yC_gt, yI_64, yL_32, ↓reduceIte, eq_self, Nat.reduceLeDiff, Nat.le_refl, not_true_eq_false, not_false_eq_true, wI_eq, wI_ne, wL_eq, wL_ne, wI_2, wL_1, wL_2, yk_Md, yg_Md0, yp_Md0, yg_Md1, yp_Md1, yg_Md2, yg_Md3, yp_Md3, yg_Md4, ykx_Md4, yln_Md4, yix_Md4, yge_Md4, ype_Md4, yg_Md5, yp_Md5, yg_Md6, yp_Md6, yg_Md7, yp_Md7, yg_Md8, yp_Md8, yg_Md9, yp_Md9, yg_Md10, ykx_Md10, yln_Md10, yix_Md10, yge_Md10, ype_Md10, yg_Md11, ykx_Md11, yln_Md11, yix_Md11, yge_Md11, ype_Md11, yg_Md12, ykx_Md12, yln_Md12, yix_Md12, yge_Md12, ype_Md12, yg_Md13, ykx_Md13, yln_Md13, yix_Md13, yge_Md13, ype_Md13, yg_Md14, yp_Md14, yg_Md15, ykx_Md15, yln_Md15, yix_Md15, yge_Md15, ype_Md15, yg_Md16, ykx_Md16, yln_Md16, yix_Md16, yge_Md16, ype_Md16, yg_Md17, ykx_Md17, yln_Md17, yix_Md17, yge_Md17, ype_Md17, yg_Md18, ykx_Md18, yln_Md18, yix_Md18, yge_Md18, ype_Md18, yg_Md19, ykx_Md19, yln_Md19, yix_Md19, yge_Md19, ype_Md19, yg_Md20, yp_Md20, yg_Md21, ykx_Md21, yln_Md21, yix_Md21, yge_Md21, ype_Md21, yg_Md22, ykx_Md22, yln_Md22, yix_Md22, yge_Md22, ype_Md22, yg_Md23, ykx_Md23, yln_Md23, yix_Md23, yge_Md23, ype_Md23, yg_Md24, yp_Md24, yg_Md25, yp_Md25, yg_Md26, yp_Md26, yg_Md27, ykx_Md27, yln_Md27, yix_Md27, yge_Md27, ype_Md27, yg_Md28, ykx_Md28, yln_Md28, yix_Md28, yge_Md28, ype_Md28, yg_Md29, ykx_Md29, yln_Md29, yix_Md29, yge_Md29, ype_Md29, yg_Md30, ykx_Md30, yln_Md30, yix_Md30, yge_Md30, ype_Md30, yg_Md31, ykx_Md31, yln_Md31, yix_Md31, yge_Md31, ype_Md31, hT, hm] | skip))
theorem yz_fold_ind (q : yP a) (ho : yOk n A0) : ∀ i, 0 ≤ i → i ≤ n → ∀ (mc md : zQ) (g : Int → Prop) (B : yPr) (nw ch : Int), mc.1 a 12 = n → (∀ j, 0 ≤ j → j < n → yDv A0 (yA mc a) j) → (∀ j, 0 ≤ j → j < n → (mc.1 (a + 8) j ≠ 0 ↔ g j)) → (∀ j, n ≤ j → j < 80 → mc.1 (a + 8) j = 0) → (∀ j, i ≤ j → ¬ g j) → (∀ j, 0 ≤ j → j < n → g j → ySo A0 j ≠ 0) → yMn md t (yKp g i + (n - i)) B → (∀ j, 0 ≤ j → j < i → ¬ g j → B (yKp g j) = yA mc a j) → (∀ j, i ≤ j → j < n → B (yKp g i + (j - i)) = yA mc a j) → (nw = 0 ∨ nw = 1) → (nw = 1 ↔ i = 0 ∨ yJp (yA mc a) (i - 1) ∨ ySo (yA mc a) (i - 1) = 7) → (i = 0 ∨ yKc mc = yKm md) → 0 ≤ ch → ch ≤ 3 * i → ∃ mc' md' n' ch', zRun zCode kBlockPasses_fold 4 [.ref 182, .ref a, .int (zi ch), .int (zi i)] [] (zMk mc) = some (.inl (some (.int (zi (ch'))), zMk mc')) ∧ zRun zCode kModel_fold 6 [.ref 202, .int (zi ch), .int (zi nw), .int (zi ((yKp g i))), .retAddr 0, .retAddr 0] [] (zMk md) = some (.inl (some (.int (zi (ch'))), zMk md')) ∧ yTw mc' a md' t n' ∧ n' ≤ n ∧ 0 ≤ ch' ∧ ch' ≤ 3 * n ∧ yF (ySp a) mc mc' ∧ yG (ySm t) (n - i).toNat md md' := by
  have hn := ho.1.2
  have h00 := ho.1.1
  have ar := yP_rng q
  refine yInd n _ (fun i h h0 h2 mc md g B nw ch c1 c2 c3 c4 c5 c6 d1 d2 d3 nw1 nw2 k1 s1 s2 => ?_) (fun i h ih h0 h2 mc md g B nw ch c1 c2 c3 c4 c5 c6 d1 d2 d3 nw1 nw2 k1 s1 s2 => ?_)
  · have e : i = n := by omega
    subst e
    have kr := yKp_rng g h0
    obtain ⟨mc', e1, e2, e3, e4, e5⟩ := ys_fold_end (m := mc) (a := a) (g := g) (ch := ch) q (by omega) (by omega) (by rw [c1]; exact c3)
    rw [c1] at e1 e2 e3 e4 e5
    have em := ym_fold_end (ch := ch) (nw := nw) (k := yKp g i) d1 (by omega) kr.1 (by omega)
    refine ⟨mc', md, yKp g i, ch, e1, em, ⟨e3, yOk_kp ho c2 c6 e4, fun j j0 j1 => ?_, B, ?_, fun p p0 p1 => ?_⟩, kr.2, s1, s2, yF_mono e2 (by unfold ySp yFA; omega), yG_mono (yG_refl (ySm t) md) (fun _ _ z => z) (Nat.zero_le _)⟩
    · by_cases cj : j < i
      · exact e5 j j0 cj
      · rw [(e2.1 (a + 8) j (by unfold yFA; omega)).1]; exact c4 j (by omega) j1
    · have : yKp g i + (i - i) = yKp g i := by omega
      rw [this] at d1
      exact d1
    · have e : ((i.toNat : Nat) : Int) = i := by omega
      obtain ⟨j, j0, j1, j2, j3⟩ := yKp_surj i.toNat p p0 (by rw [e]; exact p1)
      rw [e] at j1
      rw [← j3, d2 j j0 j1 j2, e4 j j0 j1 j2]
  · have kr := yKp_rng g h0
    have Bk : B (yKp g i) = yA mc a i := by
      have := d3 i (by omega) h
      rw [show yKp g i + (i - i) = yKp g i by omega] at this
      exact this
    have dvi := c2 i h0 h
    have vk : yIk B (yKp g i) := yIk_of (by rw [Bk]; exact yIc_of dvi.1)
    have sB : ySo B (yKp g i) = ySo (yA mc a) i := by unfold ySo; rw [Bk]
    have jB : yJp B (yKp g i) ↔ yJp (yA mc a) i := by unfold yJp; rw [sB]
    have bb : yBb (yA mc a) i ↔ (nw = 1 ∨ ySo B (yKp g i) = 0) := by
      rw [sB]
      constructor
      · intro z
        rcases z with z | z | z | z
        · exact .inl (nw2.mpr (.inl z))
        · exact .inr z
        · exact .inl (nw2.mpr (.inr (.inl z)))
        · exact .inl (nw2.mpr (.inr (.inr z)))
      · intro z
        rcases z with z | z
        · rcases nw2.mp z with z | z | z
          · exact .inl z
          · exact .inr (.inr (.inl z))
          · exact .inr (.inr (.inr z))
        · exact .inr (.inl z)
    obtain ⟨K, hKc, hKm⟩ : ∃ K : yKn, ((yBb (yA mc a) i ∧ K = yK0) ∨ (¬ yBb (yA mc a) i ∧ K = yKc mc)) ∧ (((nw = 1 ∨ ySo B (yKp g i) = 0) ∧ K = yK0) ∨ (¬ (nw = 1 ∨ ySo B (yKp g i) = 0) ∧ K = yKm md)) := by
      by_cases z : yBb (yA mc a) i
      · exact ⟨yK0, .inl ⟨z, rfl⟩, .inl ⟨bb.mp z, rfl⟩⟩
      · have i0 : ¬ i = 0 := fun y => z (.inl y)
        have ke := k1.resolve_left i0
        exact ⟨yKc mc, .inr ⟨z, rfl⟩, .inr ⟨fun y => z (bb.mpr y), ke⟩⟩
    obtain ⟨mc1, r1, f1, K1, A1, u1, u2⟩ := ys_fold_step (m := mc) (a := a) (i := i) (K := K) (ch := ch) q (by omega) h0 (by omega) (fun k k0 k1 => (c2 k k0 (by omega)).1) hKc
    obtain ⟨md1, nw', r2, nw1', nw2', f2, K2, v1, v2⟩ := ym_fold_step (m := md) (t := t) (B := B) (k := yKp g i) (K := K) (ch := ch) (nw := nw) d1 (by omega) kr.1 (by omega) vk nw1 hKm
    rw [Bk] at r2 K2 v1 v2
    have ff := yFi_f (yPn K (yA mc a i))
    have pr := yPc_rng K (yA mc a i)
    have fr := yD_rng (yF2 (yPn K (yA mc a i)) ∨ yF4 (yPn K (yA mc a i)))
    have fr : 0 ≤ yFn (yPn K (yA mc a i)) ∧ yFn (yPn K (yA mc a i)) ≤ 1 := fr
    have n1 : mc1.1 a 12 = n := ((f1.1 a 12 (by unfold yFI; omega)).1).trans c1
    have Ai : yA mc1 a i = yFi (yPn K (yA mc a i)) := by rw [A1, yUpA_eq]
    have Ao : ∀ j, j ≠ i → yA mc1 a j = yA mc a j := fun j hj => by rw [A1, yUpA_ne hj]
    have ok1 : yIc (yFi (yPn K (yA mc a i))) := yFi_ok (yPn_ok (yIc_of dvi.1) (by
      rcases hKc with ⟨-, rfl⟩ | ⟨-, rfl⟩
      · rfl
      · exact yKc_m1))
    have sC : (yPn K (yA mc a i)).1 = (yA mc a i).1 := rfl
    have xC : (yPn K (yA mc a i)).2.1 = (yA mc a i).2.1 := rfl
    have dv1 : ∀ j, 0 ≤ j → j < n → yDv A0 (yA mc1 a) j := fun j j0 j1 => by
      by_cases e : j = i
      · subst e
        refine ⟨yIk_of (by rw [Ai]; exact ok1), ?_, ?_, fun z => ?_⟩
        · unfold ySo; rw [Ai, ff.1, sC]; exact dvi.2.1
        · unfold yX; rw [Ai, ff.2.1, xC]; exact dvi.2.2.1
        · refine dvi.2.2.2 ?_
          unfold yJp ySo at z ⊢
          rw [Ai] at z
          rw [← sC]
          exact ff.2.2.1.mp z
      · have d := c2 j j0 j1
        have e1 := Ao j e
        refine ⟨yIk_of (by rw [e1]; exact yIc_of d.1), ?_, ?_, fun z => ?_⟩
        · unfold ySo; rw [e1]; exact d.2.1
        · unfold yX; rw [e1]; exact d.2.2.1
        · refine d.2.2.2 ?_
          unfold yJp ySo at z ⊢
          rw [e1] at z
          exact z
    have nwi : nw' = 1 ↔ i + 1 = 0 ∨ yJp (yA mc1 a) (i + 1 - 1) ∨ ySo (yA mc1 a) (i + 1 - 1) = 7 := by
      rw [show i + 1 - 1 = i by omega, nw2', jB, sB]
      unfold yJp ySo
      rw [Ai, ff.2.2.1, ff.2.2.2, sC]
      exact ⟨fun z => .inr z, fun z => z.resolve_left (by omega)⟩
    by_cases fd : yFd (yPn K (yA mc a i))
    · -- dropped
      have s4 : (yA mc a i).1 = 4 := fd.1.1
      obtain ⟨B', M', b'⟩ := v2 fd
      rw [@if_pos _ (Classical.propDecidable _) fd] at r2
      have g' : ∀ j, 0 ≤ j → j < i → (g j ↔ (g j ∨ j = i)) := fun j j0 j1 => ⟨.inl, fun z => z.resolve_right (by omega)⟩
      have kp : yKp (fun j => g j ∨ j = i) (i + 1) = yKp g i := by
        rw [yKp_suc h0, yD_F (fun z => z (.inr rfl)), ← yKp_congr g']; omega
      have kpj : ∀ j, 0 ≤ j → j < i → yKp (fun j => g j ∨ j = i) j = yKp g j := fun j j0 j1 => (yKp_congr fun l l0 l1 => g' l l0 (by omega)).symm
      obtain ⟨mc', md', n', ch', e1, e2, e3, e4, e5, e6, e7, e8⟩ := ih (by omega) (by omega) mc1 md1 (fun j => g j ∨ j = i) B' nw' (ch + (yPc K (yA mc a i) + yFn (yPn K (yA mc a i)))) n1 dv1 (fun j j0 j1 => by
          by_cases e : j = i
          · subst e; rw [u2 fd]; exact ⟨fun _ => .inr rfl, fun _ => by decide⟩
          · rw [(f1.1 (a + 8) j (by unfold yFI; omega)).1, c3 j j0 j1]
            exact ⟨.inl, fun z => z.resolve_right e⟩) (fun j j0 j1 => by rw [(f1.1 (a + 8) j (by unfold yFI; omega)).1]; exact c4 j j0 j1) (fun j j0 z => z.elim (c5 j (by omega)) (by omega)) (fun j j0 j1 z => by
          rcases z with z | z
          · exact c6 j j0 j1 z
          · subst z
            intro y
            have y2 := dvi.2.1.mpr y
            unfold ySo at y2
            omega) (by
          rw [kp, show yKp g i + (n - (i + 1)) = yKp g i + (n - i) - 1 by omega]; exact M') (fun j j0 j1 gj => by
          have ji : j ≠ i := fun z => gj (.inr z)
          have gj' : ¬ g j := fun z => gj (.inl z)
          have lt := yKp_lt j0 gj' i (by omega)
          rw [kpj j j0 (by omega), b' _ (yKp_rng g j0).1 (by omega), if_pos lt, Ao j ji]
          exact d2 j j0 (by omega) gj') (fun j j0 j1 => by
          rw [kp, b' _ (by omega) (by omega), if_neg (by omega), Ao j (by omega), show yKp g i + (j - (i + 1)) + 1 = yKp g i + (j - i) by omega]
          exact d3 j (by omega) j1) nw1' nwi (.inr (by rw [K1, K2])) (by omega) (by omega)
      rw [kp] at e2
      refine ⟨mc', md', n', ch', r1.trans e1, r2.trans e2, e3, e4, e5, e6, yF_trans (yF_mono f1 (by unfold yFI ySp; omega)) e7, yG_mono (yG_trans (yG_mono f2 (fun b j z => z.elim .inl fun y => .inr (by omega)) (Nat.le_refl 1)) e8) (fun _ _ z => z) (by omega)⟩
    · rw [@if_neg _ (Classical.propDecidable _) fd] at r2
      have kp : yKp g (i + 1) = yKp g i + 1 := by
        rw [yKp_suc h0, yD_T (c5 i (by omega))]
      have M' := v1 fd
      obtain ⟨mc', md', n', ch', e1, e2, e3, e4, e5, e6, e7, e8⟩ := ih (by omega) (by omega) mc1 md1 g (yUpA B (yKp g i) (yFi (yPn K (yA mc a i)))) nw' (ch + (yPc K (yA mc a i) + yFn (yPn K (yA mc a i)))) n1 dv1 (fun j j0 j1 => by rw [u1 fd]; exact c3 j j0 j1) (fun j j0 j1 => by rw [u1 fd]; exact c4 j j0 j1) (fun j j0 => c5 j (by omega)) c6 (by
          rw [kp, show yKp g i + 1 + (n - (i + 1)) = yKp g i + (n - i) by omega]; exact M') (fun j j0 j1 gj => by
          by_cases e : j = i
          · subst e; rw [yUpA_eq, Ai]
          · have lt := yKp_lt j0 gj i (by omega)
            rw [yUpA_ne (by omega), Ao j e]
            exact d2 j j0 (by omega) gj) (fun j j0 j1 => by
          rw [kp, yUpA_ne (by omega), Ao j (by omega), show yKp g i + 1 + (j - (i + 1)) = yKp g i + (j - i) by omega]
          exact d3 j (by omega) j1) nw1' nwi (.inr (by rw [K1, K2])) (by omega) (by omega)
      rw [kp] at e2
      refine ⟨mc', md', n', ch', r1.trans e1, r2.trans e2, e3, e4, e5, e6, yF_trans (yF_mono f1 (by unfold yFI ySp; omega)) e7, yG_mono (yG_trans (yG_mono f2 (fun b j z => z.elim .inl fun y => .inr (by omega)) (Nat.le_refl 1)) e8) (fun _ _ z => z) (by omega)⟩
theorem yz_fold {mc md : zQ} (q : yP a) (T : yTw mc a md t n) : ∃ mc' md' n' ch, zCall zCode kBlockPasses_fold [.ref 182, .ref a] (zMk mc) = some (.inl (some (.int (zi (ch))), zMk mc')) ∧ zCall zCode kModel_fold [.ref 202] (zMk md) = some (.inl (some (.int (zi (ch))), zMk md')) ∧ yTw mc' a md' t n' ∧ n' ≤ n ∧ 0 ≤ ch ∧ ch ≤ 7000 ∧ yF (ySp a) mc mc' ∧ yG (ySm t) 100 md md' := by
  obtain ⟨t1, t2, t3, B, t4, t5⟩ := T
  have hn := t2.1.2
  obtain ⟨mc', md', n', ch, e1, e2, e3, e4, e5, e6, e7, e8⟩ := yz_fold_ind q t2 0 (by omega) t2.1.1 mc md (fun _ => False) B 1 0 t1 (fun j j0 j1 => ⟨t2.2.1 j j0 j1, Iff.rfl, rfl, id⟩) (fun j j0 j1 => ⟨fun z => z (t3 j j0 (by omega)), False.elim⟩) (fun j j0 j1 => t3 j (by have := t2.1.1; omega) j1) (fun _ _ z => z) (fun _ _ _ z => z.elim) (by
    have e : yKp (fun _ => False) 0 + (n - 0) = n := by
      have : yKp (fun _ => False) 0 = 0 := rfl
      omega
    rw [e]; exact t4) (fun j j0 j1 => by omega) (fun j j0 j1 => by
    have e : yKp (fun _ => False) 0 + (j - 0) = j := by
      have : yKp (fun _ => False) 0 = 0 := rfl
      omega
    rw [e]; exact t5 j j0 j1) (.inr rfl) ⟨fun _ => .inl rfl, fun _ => rfl⟩ (.inl rfl) (by omega) (by omega)
  refine ⟨mc', md', n', ch, ?_, ?_, e3, e4, e5, by omega, e7, yG_mono e8 (fun _ _ z => z) (by omega)⟩
  · rw [za_BlockPasses_fold, zb_BlockPasses_fold_0]; exact e1
  · rw [za_Model_fold, zb_Model_fold_0]; exact e2
end YZFOLD
