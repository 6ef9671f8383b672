/-! A line: what ends it, and the lines that begin with a keyword. -/
section YLINE
variable {mc md mc' md' : zQ} {a t : Nat} {n T k s p bd x e r so : Int} {w : Int64} {f : Int → Int} {B : yPr}
/-- the class's rows so far, as they may be -/
def yqO (a : Nat) (k : Int) (B : yPr) (mc : zQ) : Prop := mc.1 a 12 = k ∧ (∀ j, 0 ≤ j → j < k → yA mc a j = B j) ∧ (∀ j, 0 ≤ j → j < k → yIk B j) ∧ (∀ i j, 0 ≤ i → i < k → 0 ≤ j → j < k → ySo B i = 0 → ySo B j = 0 → yX B i = yX B j → i = j) ∧ (∀ j, 0 ≤ j → j < k → ySo B j = 0 → yX B j < mc.1 174 3 ∧ mc.1 177 (yX B j) = 1) ∧ (∀ j, 0 ≤ j → j < k → yJp B j → yX B j < mc.1 174 3) ∧ ∀ x, 0 ≤ x → x < mc.1 174 3 → mc.1 177 x ≠ 0 → ∃ j, 0 ≤ j ∧ j < k ∧ yLb B j x
/-- the instruction that the reader holds -/
def yqI (mc : zQ) (so : Int) : yIns := (so, mc.1 165 5, mc.1 165 6, mc.1 165 7, mc.1 165 9, mc.2.1 165 8, mc.2.1 165 10)
def yqSp (a : Nat) : Nat → Int → Prop := fun b k => (b = a ∧ k = 12) ∨ (a + 1 ≤ b ∧ b ≤ a + 7)
theorem ys_radd (q : yP a) (h : mc.1 a 12 = k) (k0 : 0 ≤ k) (k1 : k < 80) : ∃ mc', zCall zCode kReader_add [.ref 165, .ref a, .int (zi so)] (zMk mc) = some (.inl (some (.int (zi (1))), zMk mc')) ∧ yF (yqSp a) mc mc' ∧ mc'.1 a 12 = k + 1 ∧ (∀ j, 0 ≤ j → j < k → yA mc' a j = yA mc a j) ∧ yA mc' a k = yqI mc so := by
  have ar := yP_rng q
  obtain ⟨c, hc⟩ : ∃ c, c = yqI mc so := ⟨_, rfl⟩
  have ad := ys_add (m := mc) (s := so) (t := mc.1 165 5) (o := mc.1 165 6) q (by omega) (by omega)
  rw [h] at ad
  obtain ⟨m1, hm1⟩ : ∃ m1, m1 = wI (wI (wI (wI mc (a + 1) k so) (a + 2) k (mc.1 165 5)) (a + 3) k (mc.1 165 6)) a 12 (k + 1) := ⟨_, rfl⟩
  rw [← hm1] at ad
  have F1' : yF (fun b i => (b = a ∧ i = 12) ∨ ((a + 1 ≤ b ∧ b ≤ a + 7) ∧ i = k)) mc m1 := by
    rw [hm1]
    exact yF_trans (yF_trans (yF_trans (yF_wI (by omega)) (yF_wI (by omega))) (yF_wI (by omega))) (yF_wI (by omega))
  have s1 : m1.1 a 12 = k + 1 := by rw [hm1, wI_eq]
  have s2 := ys_size (m := m1) q
  rw [s1] at s2
  have ek : k + 1 - 1 = k := by omega
  obtain ⟨m2, hm2⟩ : ∃ m2, m2 = wL (wI m1 (a + 4) k (mc.1 165 7)) (a + 6) k (mc.2.1 165 8) := ⟨_, rfl⟩
  have sf := ys_setFirst (m := m1) (i := k) (v := mc.1 165 7) (y := mc.2.1 165 8) q (by omega) k0 (by omega)
  rw [← hm2] at sf
  have F2' : yF (fun b i => (b = a ∧ i = 12) ∨ ((a + 1 ≤ b ∧ b ≤ a + 7) ∧ i = k)) m1 m2 := by
    rw [hm2]; exact yF_trans (yF_wI (by omega)) (yF_wL (by omega))
  have s3 : m2.1 a 12 = k + 1 := by rw [hm2, wL_1, wI_ne (by omega)]; exact s1
  have s4 := ys_size (m := m2) q
  rw [s3] at s4
  obtain ⟨m3, hm3⟩ : ∃ m3, m3 = wL (wI m2 (a + 5) k (mc.1 165 9)) (a + 7) k (mc.2.1 165 10) := ⟨_, rfl⟩
  have ss := ys_setSecond (m := m2) (i := k) (v := mc.1 165 9) (y := mc.2.1 165 10) q (by omega) k0 (by omega)
  rw [← hm3] at ss
  have F3' : yF (fun b i => (b = a ∧ i = 12) ∨ ((a + 1 ≤ b ∧ b ≤ a + 7) ∧ i = k)) m2 m3 := by
    rw [hm3]; exact yF_trans (yF_wI (by omega)) (yF_wL (by omega))
  have F1 : yF (yqSp a) mc m1 := yF_mono F1' (by intro b i; unfold yqSp; omega)
  have F2 : yF (yqSp a) m1 m2 := yF_mono F2' (by intro b i; unfold yqSp; omega)
  have F3 : yF (yqSp a) m2 m3 := yF_mono F3' (by intro b i; unfold yqSp; omega)
  have F := yF_trans (yF_trans F1' F2') F3'
  have g7 : m1.1 165 7 = mc.1 165 7 := (F1.1 165 7 (by unfold yqSp; omega)).1
  have g8 : m1.2.1 165 8 = mc.2.1 165 8 := (F1.1 165 8 (by unfold yqSp; omega)).2
  have g9 : m2.1 165 9 = mc.1 165 9 := ((yF_trans F1 F2).1 165 9 (by unfold yqSp; omega)).1
  have g10 : m2.2.1 165 10 = mc.2.1 165 10 := ((yF_trans F1 F2).1 165 10 (by unfold yqSp; omega)).2
  refine ⟨m3, ?_, yF_trans (yF_trans F1 F2) F3, ?_, fun j j0 j1 => ?_, ?_⟩
  · clear hm1 hm2 hm3 F1 F2 F3 F1' F2' F3' F hc
    rw [za_Reader_add, zb_Reader_add_0]
    ((repeat (first | (with_reducible refine yst_T ?_ ?_; focus (simp (disch := first | assumption | omega) only [yS, yR_I, yR_L, yR_D, yR_A, yR_V, yR_xI, yR_xL, yR_xA, yR_xV, yR_m, yR_mx, yB_0, yB_1, yB_D, yB_c, yD_0, yc_0, yI_add, yI_sub, yI_mul, yI_0, yI_len, yI_ltT, yI_ltF, yI_eqT, yI_eqF, yC_eq, yC_lt, yC_gt, yI_64, yL_32, ↓reduceIte, eq_self, Nat.reduceLeDiff, Nat.reduceEqDiff, Nat.le_refl, not_true_eq_false, not_false_eq_true, wI_eq, wI_ne, wL_eq, wL_ne, wI_2, wL_1, wL_2, yk_Rd, yg_Rd0, yg_Rd1, yg_Rd2, yg_Rd3, yp_Rd3, yg_Rd4, yp_Rd4, yg_Rd5, yp_Rd5, yg_Rd6, yp_Rd6, yg_Rd7, yp_Rd7, yg_Rd8, yp_Rd8, yg_Rd9, yp_Rd9, yg_Rd10, yp_Rd10, yg_Rd11, yp_Rd11, yg_Rd12, yp_Rd12, yk_P, ad, s2, g7, g8, ek, sf, s4, g9, g10, ss]; done)) | (with_reducible refine yst_F ?_ ?_; focus (simp (disch := first | assumption | omega) only [yS, yR_I, yR_L, yR_D, yR_A, yR_V, yR_xI, yR_xL, yR_xA, yR_xV, yR_m, yR_mx, yB_0, yB_1, yB_D, yB_c, yD_0, yc_0, yI_add, yI_sub, yI_mul, yI_0, yI_len, yI_ltT, yI_ltF, yI_eqT, yI_eqF, yC_eq, yC_lt, yC_gt, yI_64, yL_32, ↓reduceIte, eq_self, Nat.reduceLeDiff, Nat.reduceEqDiff, Nat.le_refl, not_true_eq_false, not_false_eq_true, wI_eq, wI_ne, wL_eq, wL_ne, wI_2, wL_1, wL_2, yk_Rd, yg_Rd0, yg_Rd1, yg_Rd2, yg_Rd3, yp_Rd3, yg_Rd4, yp_Rd4, yg_Rd5, yp_Rd5, yg_Rd6, yp_Rd6, yg_Rd7, yp_Rd7, yg_Rd8, yp_Rd8, yg_Rd9, yp_Rd9, yg_Rd10, yp_Rd10, yg_Rd11, yp_Rd11, yg_Rd12, yp_Rd12, yk_P, ad, s2, g7, g8, ek, sf, s4, g9, g10, ss]; done)) | (with_reducible apply yst_I; focus (simp (disch := first | assumption | omega) only [yS, yR_I, yR_L, yR_D, yR_A, yR_V, yR_xI, yR_xL, yR_xA, yR_xV, yR_m, yR_mx, yB_0, yB_1, yB_D, yB_c, yD_0, yc_0, yI_add, yI_sub, yI_mul, yI_0, yI_len, yI_ltT, yI_ltF, yI_eqT, yI_eqF, yC_eq, yC_lt, yC_gt, yI_64, yL_32, ↓reduceIte, eq_self, Nat.reduceLeDiff, Nat.reduceEqDiff, Nat.le_refl, not_true_eq_false, not_false_eq_true, wI_eq, wI_ne, wL_eq, wL_ne, wI_2, wL_1, wL_2, yk_Rd, yg_Rd0, yg_Rd1, yg_Rd2, yg_Rd3, yp_Rd3, yg_Rd4, yp_Rd4, yg_Rd5, yp_Rd5, yg_Rd6, yp_Rd6, yg_Rd7, yp_Rd7, yg_Rd8, yp_Rd8, yg_Rd9, yp_Rd9, yg_Rd10, yp_Rd10, yg_Rd11, yp_Rd11, yg_Rd12, yp_Rd12, yk_P, ad, s2, g7, g8, ek, sf, s4, g9, g10, ss] <;> with_reducible rfl)) | (with_reducible apply yst_V; focus (simp (disch := first | assumption | omega) only [yS, yR_I, yR_L, yR_D, yR_A, yR_V, yR_xI, yR_xL, yR_xA, yR_xV, yR_m, yR_mx, yB_0, yB_1, yB_D, yB_c, yD_0, yc_0, yI_add, yI_sub, yI_mul, yI_0, yI_len, yI_ltT, yI_ltF, yI_eqT, yI_eqF, yC_eq, yC_lt, yC_gt, yI_64, yL_32, ↓reduceIte, eq_self, Nat.reduceLeDiff, Nat.reduceEqDiff, Nat.le_refl, not_true_eq_false, not_false_eq_true, wI_eq, wI_ne, wL_eq, wL_ne, wI_2, wL_1, wL_2, yk_Rd, yg_Rd0, yg_Rd1, yg_Rd2, yg_Rd3, yp_Rd3, yg_Rd4, yp_Rd4, yg_Rd5, yp_Rd5, yg_Rd6, yp_Rd6, yg_Rd7, yp_Rd7, yg_Rd8, yp_Rd8, yg_Rd9, yp_Rd9, yg_Rd10, yp_Rd10, yg_Rd11, yp_Rd11, yg_Rd12, yp_Rd12, yk_P, ad, s2, g7, g8, ek, sf, s4, g9, g10, ss] <;> with_reducible rfl)) | (with_reducible apply yst_L; focus (simp (disch := first | assumption | omega) only [yS, yR_I, yR_L, yR_D, yR_A, yR_V, yR_xI, yR_xL, yR_xA, yR_xV, yR_m, yR_mx, yB_0, yB_1, yB_D, yB_c, yD_0, yc_0, yI_add, yI_sub, yI_mul, yI_0, yI_len, yI_ltT, yI_ltF, yI_eqT, yI_eqF, yC_eq, yC_lt, yC_gt, yI_64, yL_32, ↓reduceIte, eq_self, Nat.reduceLeDiff, Nat.reduceEqDiff, Nat.le_refl, not_true_eq_false, not_false_eq_true, wI_eq, wI_ne, wL_eq, wL_ne, wI_2, wL_1, wL_2, yk_Rd, yg_Rd0, yg_Rd1, yg_Rd2, yg_Rd3, yp_Rd3, yg_Rd4, yp_Rd4, yg_Rd5, yp_Rd5, yg_Rd6, yp_Rd6, yg_Rd7, yp_Rd7, yg_Rd8, yp_Rd8, yg_Rd9, yp_Rd9, yg_Rd10, yp_Rd10, yg_Rd11, yp_Rd11, yg_Rd12, yp_Rd12, yk_P, ad, s2, g7, g8, ek, sf, s4, g9, g10, ss] <;> with_reducible rfl)) | (with_reducible apply yst_A; focus (simp (disch := first | assumption | omega) only [yS, yR_I, yR_L, yR_D, yR_A, yR_V, yR_xI, yR_xL, yR_xA, yR_xV, yR_m, yR_mx, yB_0, yB_1, yB_D, yB_c, yD_0, yc_0, yI_add, yI_sub, yI_mul, yI_0, yI_len, yI_ltT, yI_ltF, yI_eqT, yI_eqF, yC_eq, yC_lt, yC_gt, yI_64, yL_32, ↓reduceIte, eq_self, Nat.reduceLeDiff, Nat.reduceEqDiff, Nat.le_refl, not_true_eq_false, not_false_eq_true, wI_eq, wI_ne, wL_eq, wL_ne, wI_2, wL_1, wL_2, yk_Rd, yg_Rd0, yg_Rd1, yg_Rd2, yg_Rd3, yp_Rd3, yg_Rd4, yp_Rd4, yg_Rd5, yp_Rd5, yg_Rd6, yp_Rd6, yg_Rd7, yp_Rd7, yg_Rd8, yp_Rd8, yg_Rd9, yp_Rd9, yg_Rd10, yp_Rd10, yg_Rd11, yp_Rd11, yg_Rd12, yp_Rd12, yk_P, ad, s2, g7, g8, ek, sf, s4, g9, g10, ss] <;> with_reducible rfl)) | (with_reducible apply yst_b; focus (simp (disch := first | assumption | omega) only [yS, yR_I, yR_L, yR_D, yR_A, yR_V, yR_xI, yR_xL, yR_xA, yR_xV, yR_m, yR_mx, yB_0, yB_1, yB_D, yB_c, yD_0, yc_0, yI_add, yI_sub, yI_mul, yI_0, yI_len, yI_ltT, yI_ltF, yI_eqT, yI_eqF, yC_eq, yC_lt, yC_gt, yI_64, yL_32, ↓reduceIte, eq_self, Nat.reduceLeDiff, Nat.reduceEqDiff, Nat.le_refl, not_true_eq_false, not_false_eq_true, wI_eq, wI_ne, wL_eq, wL_ne, wI_2, wL_1, wL_2, yk_Rd, yg_Rd0, yg_Rd1, yg_Rd2, yg_Rd3, yp_Rd3, yg_Rd4, yp_Rd4, yg_Rd5, yp_Rd5, yg_Rd6, yp_Rd6, yg_Rd7, yp_Rd7, yg_Rd8, yp_Rd8, yg_Rd9, yp_Rd9, yg_Rd10, yp_Rd10, yg_Rd11, yp_Rd11, yg_Rd12, yp_Rd12, yk_P, ad, s2, g7, g8, ek, sf, s4, g9, g10, ss] <;> with_reducible rfl)))); (first | with_reducible rfl | simp (disch := first | assumption | omega) only [yS, yR_I, yR_L, yR_D, yR_A, yR_V, yR_xI, yR_xL, yR_xA, yR_xV, yR_m, yR_mx, yB_0, yB_1, yB_D, yB_c, yD_0, yc_0, yI_add, yI_sub, yI_mul, yI_0, yI_len, yI_ltT, yI_ltF, yI_eqT, yI_eqF, yC_eq, yC_lt, yC_gt, yI_64, yL_32, ↓reduceIte, eq_self, Nat.reduceLeDiff, Nat.reduceEqDiff, Nat.le_refl, not_true_eq_false, not_false_eq_true, wI_eq, wI_ne, wL_eq, wL_ne, wI_2, wL_1, wL_2, yk_Rd, yg_Rd0, yg_Rd1, yg_Rd2, yg_Rd3, yp_Rd3, yg_Rd4, yp_Rd4, yg_Rd5, yp_Rd5, yg_Rd6, yp_Rd6, yg_Rd7, yp_Rd7, yg_Rd8, yp_Rd8, yg_Rd9, yp_Rd9, yg_Rd10, yp_Rd10, yg_Rd11, yp_Rd11, yg_Rd12, yp_Rd12, yk_P, ad, s2, g7, g8, ek, sf, s4, g9, g10, ss] | skip))
  · rw [hm3, wL_1, wI_ne (by omega)]; exact s3
  · unfold yA
    rw [(F.1 (a + 1) j (by omega)).1, (F.1 (a + 2) j (by omega)).1, (F.1 (a + 3) j (by omega)).1, (F.1 (a + 4) j (by omega)).1, (F.1 (a + 5) j (by omega)).1, (F.1 (a + 6) j (by omega)).2, (F.1 (a + 7) j (by omega)).2]
  · unfold yA yqI
    have o1 : m3.1 (a + 1) k = so := by
      rw [hm3, wL_1, wI_ne (by omega), hm2, wL_1, wI_ne (by omega), hm1, wI_ne (by omega), wI_ne (by omega), wI_ne (by omega), wI_eq]
    have o2 : m3.1 (a + 2) k = mc.1 165 5 := by
      rw [hm3, wL_1, wI_ne (by omega), hm2, wL_1, wI_ne (by omega), hm1, wI_ne (by omega), wI_ne (by omega), wI_eq]
    have o3 : m3.1 (a + 3) k = mc.1 165 6 := by
      rw [hm3, wL_1, wI_ne (by omega), hm2, wL_1, wI_ne (by omega), hm1, wI_ne (by omega), wI_eq]
    have o4 : m3.1 (a + 4) k = mc.1 165 7 := by
      rw [hm3, wL_1, wI_ne (by omega), hm2, wL_1, wI_eq]
    have o5 : m3.1 (a + 5) k = mc.1 165 9 := by
      rw [hm3, wL_1, wI_eq]
    have o6 : m3.2.1 (a + 6) k = mc.2.1 165 8 := by
      rw [hm3, wL_ne (by omega), wI_2, hm2, wL_eq]
    have o7 : m3.2.1 (a + 7) k = mc.2.1 165 10 := by
      rw [hm3, wL_eq]
    rw [o1, o2, o3, o4, o5, o6, o7]
theorem yqR_rowG {B' : yPr} {u : Nat} (R : yqR t n f T k bd B mc md) (H : yqH t k B' md') (G : yG (fun b j => b = t ∧ 3 ≤ j) u md md') : yqR t n f T k bd B' mc md' := by
  have F : yF (fun b j => b = t ∧ 3 ≤ j) md (md'.1, md'.2.1, md.2.2) := ⟨G.1, rfl⟩
  exact yqR_row (md' := (md'.1, md'.2.1, md.2.2)) R H F
theorem yq_lay {sn xn : Int} (H : yqH t k B md) (k0 : 0 ≤ k) (k1 : k < 80) (s0 : -100 ≤ sn) (s1 : sn ≤ 100) (x0 : -100 ≤ xn) (x1 : xn ≤ 100) : ∃ md', zCall zCode kModel_lay [.ref 202, .int (zi k), .int (zi sn), .int (zi xn), .int (zi (-1))] (zMk md) = some (.inl (none, zMk md')) ∧ yqH t k (yUpA B k (sn, xn, -1, -1, -1, zl 0, zl 0)) md' ∧ yG (fun b j => b = t ∧ 3 ≤ j) 1 md md' ∧ md'.1 = md.1 := by
  obtain ⟨md', a1, a2, a3, a4⟩ := ym_lay (s := sn) (x := xn) (o := -1) (yqH_n H) k0 (by omega) (by omega) (by omega) (by omega) (by omega) (by omega) (by omega)
  refine ⟨md', a1, ⟨a2.1, a2.2.1, a2.2.2.1, fun j j0 => ?_⟩, a3, a4⟩
  rw [a2.2.2.2]
  by_cases z : j = k
  · rw [z, yUpA_eq, yUpA_eq]
  · rw [yUpA_ne z, yUpA_ne z]; exact H.2.2.2 j j0
/-- the end of a line: the class adds the instruction, both take the semicolon -/
theorem yq_tail (q : yP a) (R : yqR t n f T k bd B mc md) (h : mc.1 a 12 = k) (k0 : 0 ≤ k) (k1 : k < 80) (hB : yqI mc so = B k) : ∃ ma, zCall zCode kReader_add [.ref 165, .ref a, .int (zi so)] (zMk mc) = some (.inl (some (.int (zi (1))), zMk ma)) ∧ ((∃ mc' md2, zCall zCode kReader_take [.ref 165, .int (zi 59)] (zMk ma) = some (.inl (some (.int (zi (1))), zMk mc')) ∧ zCall zCode kModel_take [.ref 202, .int (zi 59)] (zMk md) = some (.inl (none, zMk md2)) ∧ (md2.1 202 3).toNat = t ∧ md2.2.1 t 0 = zl k ∧ yqR t n f T (k + 1) bd B mc' (wL md2 t 0 (zl (k + 1))) ∧ (yqc mc n f).2.1 < (yqc mc' n f).2.1 ∧ yF (fun b j => yqSp a b j ∨ (b = 166 ∧ j = 4)) mc mc' ∧ yF (yqSm t) md (wL md2 t 0 (zl (k + 1))) ∧ mc'.1 a 12 = k + 1 ∧ (∀ j, 0 ≤ j → j < k → yA mc' a j = yA mc a j) ∧ yA mc' a k = B k) ∨ (∃ mx, zCall zCode kReader_take [.ref 165, .int (zi 59)] (zMk ma) = some (.inl (some (.int (zi (0))), zMk mx)) ∧ zCall zCode kModel_take [.ref 202, .int (zi 59)] (zMk md) = yqTh md 1 (yqc mc n f).2.1 ∧ mx.1 165 3 = 1 ∧ mx.1 165 4 = (yqc mc n f).2.1 ∧ (0 ≤ (yqc mc n f).2.1 ∧ (yqc mc n f).2.1 ≤ 1600) ∧ yF (fun b j => yqSp a b j ∨ (b = 165 ∧ (j = 3 ∨ j = 4))) mc mx)) := by
  have ar := yP_rng q
  obtain ⟨ma, a1, a2, a3, a4, a5⟩ := ys_radd (so := so) q h k0 k1
  have Ra := yqR_C R a2 (by intro b j; unfold yqSp; omega)
  have ec : yqc ma n f = yqc mc n f := by unfold yqc; rw [(a2.1 166 4 (by unfold yqSp; omega)).1]
  have j59 : yqJ 59 = 59 := by decide
  have rg := yqc_rng R
  have nr := R.2.2.2.1.2.2.1
  refine ⟨ma, a1, ?_⟩
  rcases yq_take Ra (s := 59) ⟨by omega, by omega, .inr (by omega)⟩ (by omega) with ⟨-, mc', md2, b1, b2, b3, b4, b5, b6⟩ | ⟨b1, b2⟩
  · left
    rw [j59] at b2
    rw [ec] at b6
    obtain ⟨E, C, M, G, TX, N, V, L⟩ := b3
    have tt := N.2.1
    have F3 : yF (fun b j => b = t ∧ j = 0) md2 (wL md2 t 0 (zl (k + 1))) := yF_wL ⟨rfl, rfl⟩
    refine ⟨mc', md2, b1, b2, N.1, N.2.2.1, ⟨E, C, ⟨M.1, M.2.1, M.2.2.1, fun z => ?_⟩, yqG_F G F3 (by omega), yTx_F TX F3 (by omega), ⟨N.1, N.2.1, wL_eq _ _ _ _, fun j j0 => ?_⟩, yqRv_F V (yF_refl (fun _ _ => False) mc') (yG_of F3) (fun _ _ _ z => z) (by omega), yqRl_F L (yF_refl (fun _ _ => False) mc') (yG_of F3) (fun _ _ _ z => z) (by omega)⟩, b6, yF_trans (yF_mono a2 fun b j z => .inl z) (yF_mono b4 fun b j z => .inr z), yF_trans (yF_mono b5 (by intro b j; unfold yqSn yqSm; omega)) (yF_mono F3 (by intro b j; unfold yqSm; omega)), ?_, fun j j0 j1 => ?_, ?_⟩
    · rw [wL_ne (by omega)]; exact M.2.2.2 z
    · rw [← N.2.2.2 j j0]
      unfold yM
      rw [wL_ne (by omega), wL_ne (by omega), wL_ne (by omega), wL_ne (by omega), wL_ne (by omega), wL_ne (by omega), wL_ne (by omega)]
    · rw [(b4.1 a 12 (by omega)).1]; exact a3
    · rw [yF_A b4 (by omega)]; exact a4 j j0 j1
    · rw [yF_A b4 (by omega), a5]; exact hB
  · right
    rw [j59, ec] at b2
    rw [ec] at b1
    refine ⟨_, b1, b2, ?_, wI_eq _ _ _ _, by omega, yF_trans (yF_mono a2 fun b j z => .inl z) (yF_trans (yF_wI (by omega)) (yF_wI (by omega)))⟩
    rw [wI_ne (by omega), wI_eq]
/-- the rows with one more -/
theorem yqO_step {B' : yPr} (O : yqO a k B mc) (k0 : 0 ≤ k) (hk : mc'.1 a 12 = k + 1) (old : ∀ j, 0 ≤ j → j < k → yA mc' a j = yA mc a j) (new : yA mc' a k = B' k) (hB : ∀ j, 0 ≤ j → j < k → B' j = B j) (ok : yIk B' k) (L0 : 0 ≤ mc.1 174 3) (nl : mc.1 174 3 ≤ mc'.1 174 3) (fl : ∀ j, 0 ≤ j → j < mc.1 174 3 → mc.1 177 j = 1 → mc'.1 177 j = 1) (hl : ySo B' k = 0 → yX B' k < mc'.1 174 3 ∧ mc'.1 177 (yX B' k) = 1 ∧ (yX B' k < mc.1 174 3 → mc.1 177 (yX B' k) ≠ 1)) (hj : yJp B' k → yX B' k < mc'.1 174 3) (set : ∀ x, 0 ≤ x → x < mc'.1 174 3 → mc'.1 177 x ≠ 0 → (x < mc.1 174 3 ∧ mc.1 177 x ≠ 0) ∨ yLb B' k x) : yqO a (k + 1) B' mc' := by
  obtain ⟨o1, o2, o3, o4, o5, o6, o7⟩ := O
  have so : ∀ j, 0 ≤ j → j < k → ySo B' j = ySo B j := fun j j0 j1 => by unfold ySo; rw [hB j j0 j1]
  have xo : ∀ j, 0 ≤ j → j < k → yX B' j = yX B j := fun j j0 j1 => by unfold yX; rw [hB j j0 j1]
  have ik : ∀ j, 0 ≤ j → j < k → yIk B' j := fun j j0 j1 => by
    have h := o3 j j0 j1
    unfold yIk ySo yX yOp yV yW yNv yNw at h ⊢
    rw [hB j j0 j1]; exact h
  refine ⟨hk, fun j j0 j1 => ?_, fun j j0 j1 => ?_, fun i j i0 i1 j0 j1 hi hj2 he => ?_, fun j j0 j1 hz => ?_, fun j j0 j1 hz => ?_, fun x x0 x1 hx => ?_⟩
  · by_cases z : j = k
    · rw [z]; exact new
    · rw [old j j0 (by omega), o2 j j0 (by omega), hB j j0 (by omega)]
  · by_cases z : j = k
    · rw [z]; exact ok
    · exact ik j j0 (by omega)
  · by_cases zi : i = k
    · by_cases zj : j = k
      · omega
      · rw [zi] at hi he
        rw [so j j0 (by omega)] at hj2
        rw [xo j j0 (by omega)] at he
        have h5 := o5 j j0 (by omega) hj2
        have h6 := (hl hi).2.2
        rw [he] at h6
        exact absurd h5.2 (h6 h5.1)
    · by_cases zj : j = k
      · rw [zj] at hj2 he
        rw [so i i0 (by omega)] at hi
        rw [xo i i0 (by omega)] at he
        have h5 := o5 i i0 (by omega) hi
        have h6 := (hl hj2).2.2
        rw [← he] at h6
        exact absurd h5.2 (h6 h5.1)
      · rw [so i i0 (by omega)] at hi
        rw [so j j0 (by omega)] at hj2
        rw [xo i i0 (by omega), xo j j0 (by omega)] at he
        exact o4 i j i0 (by omega) j0 (by omega) hi hj2 he
  · by_cases z : j = k
    · rw [z] at hz ⊢
      exact ⟨(hl hz).1, (hl hz).2.1⟩
    · rw [so j j0 (by omega)] at hz
      rw [xo j j0 (by omega)]
      have h5 := o5 j j0 (by omega) hz
      have ir := (o3 j j0 (by omega)).2.1 (by omega)
      exact ⟨by omega, fl _ ir.1 h5.1 h5.2⟩
  · by_cases z : j = k
    · rw [z] at hz ⊢; exact hj hz
    · have hz2 : yJp B j := by unfold yJp at hz ⊢; rw [so j j0 (by omega)] at hz; exact hz
      rw [xo j j0 (by omega)]
      have := o6 j j0 (by omega) hz2
      omega
  · rcases set x x0 x1 hx with ⟨h1, h2⟩ | h1
    · obtain ⟨j, j0, j1, j2⟩ := o7 x x0 h1 h2
      refine ⟨j, j0, by omega, ?_⟩
      unfold yLb at j2 ⊢
      rw [so j j0 j1, xo j j0 j1]; exact j2
    · exact ⟨k, k0, by omega, h1⟩
end YLINE
