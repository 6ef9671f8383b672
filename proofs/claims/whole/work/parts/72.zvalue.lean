/-! The pass value: both sides make the same. -/
section YZVALUE
variable {a t : Nat} {n : Int} {A0 : yPr}
theorem yIk_congr {A B : yPr} {k : Int} (h : A k = B k) (c : yIk A k) : yIk B k := yIk_of (by rw [← h]; exact yIc_of c)
theorem yz_value_ind (q : yP a) (ho : yOk n A0) : ∀ i, 0 ≤ i → i ≤ n → ∀ (mc md : zQ) (B : yPr) (st ch : Int), mc.1 a 12 = n → (∀ j, 0 ≤ j → j < n → yDv A0 (yA mc a) j) → (∀ j, 0 ≤ j → j < 80 → mc.1 (a + 8) j = 0) → yMn md t n B → (∀ j, 0 ≤ j → j < n → B j = yA mc a j) → 0 ≤ st → st ≤ i → 0 ≤ ch → ch ≤ i → ∃ mc' md' ch', zRun zCode kBlockPasses_takeValues 6 [.retAddr 0, .ref a, .int (zi ch), .int (zi st), .int (zi i), .retAddr 0] [] (zMk mc) = some (.inl (some (.int (zi (ch'))), zMk mc')) ∧ zRun zCode kModel_value2 6 [.ref 202, .int (zi ch), .int (zi st), .int (zi i), .retAddr 0] [] (zMk md) = some (.inl (some (.int (zi (ch'))), zMk md')) ∧ yTw mc' a md' t n ∧ 0 ≤ ch' ∧ ch' ≤ n ∧ yF (ySp a) mc mc' ∧ yG (ySm t) (n - i).toNat md md' := by
  have hn := ho.1.2
  have h00 := ho.1.1
  have ar := yP_rng q
  refine yInd n _ (fun i h h0 h2 mc md B st ch c1 c2 c3 d1 d2 s0 s1 r0 r1 => ?_) (fun i h ih h0 h2 mc md B st ch c1 c2 c3 d1 d2 s0 s1 r0 r1 => ?_)
  · have e : i = n := by omega
    subst e
    have em := ym_value_end (ch := ch) (st := st) (k := i) d1 (by omega) h0 rfl
    refine ⟨mc, md, ch, ?_, em, ⟨c1, ?_, c3, B, d1, d2⟩, r0, r1, yF_refl _ _, yG_mono (yG_refl (ySm t) md) (fun _ _ z => z) (Nat.zero_le _)⟩
    · rw [zb_BlockPasses_takeValues_6]; ((repeat (first | (refine yst_T ?_ ?_; focus (simp (disch := first | assumption | omega) only [yS, yR_I, yR_L, yR_D, yR_A, yR_V, yR_xI, yR_xL, yR_xA, yR_xV, yR_m, yR_mx, yB_0, yB_1, yB_D, yB_c, yD_0, yc_0, yI_add, yI_sub, yI_mul, yI_0, yI_len, yI_ltT, yI_ltF, yI_eqT, yI_eqF, yC_eq, yC_lt, yC_gt, yI_64, yL_32, ↓reduceIte, eq_self, Nat.reduceLeDiff, Nat.le_refl, not_true_eq_false, not_false_eq_true, wI_eq, wI_ne, wL_eq, wL_ne, wI_2, wL_1, wL_2, yk_P, yg_P0, ykx_P0, yln_P0, yix_P0, yge_P0, ype_P0, yg_P1, ykx_P1, yln_P1, yix_P1, yge_P1, ype_P1, yg_P2, ykx_P2, yln_P2, yix_P2, yge_P2, ype_P2, yg_P3, ykx_P3, yln_P3, yix_P3, yge_P3, ype_P3, yg_P4, ykx_P4, yln_P4, yix_P4, yge_P4, ype_P4, yg_P5, ykx_P5, yln_P5, yix_P5, yge_P5, ype_P5, yg_P6, ykx_P6, yln_P6, yix_P6, yge_P6, ype_P6, yg_P7, ykx_P7, yln_P7, yix_P7, yge_P7, ype_P7, yg_P8, ykx_P8, yln_P8, yix_P8, yge_P8, ype_P8, yg_P9, ykx_P9, yln_P9, yix_P9, yge_P9, ype_P9, yg_P10, ykx_P10, yln_P10, yix_P10, yge_P10, ype_P10, yg_P11, ykx_P11, yln_P11, yix_P11, yge_P11, ype_P11, yg_P12, yp_P12, yg_P13, yp_P13, yg_P14, yp_P14, yg_P15, yp_P15, yg_P16, yp_P16, yg_P17, yp_P17, ys_size, c1]; done)) | (refine yst_F ?_ ?_; focus (simp (disch := first | assumption | omega) only [yS, yR_I, yR_L, yR_D, yR_A, yR_V, yR_xI, yR_xL, yR_xA, yR_xV, yR_m, yR_mx, yB_0, yB_1, yB_D, yB_c, yD_0, yc_0, yI_add, yI_sub, yI_mul, yI_0, yI_len, yI_ltT, yI_ltF, yI_eqT, yI_eqF, yC_eq, yC_lt, yC_gt, yI_64, yL_32, ↓reduceIte, eq_self, Nat.reduceLeDiff, Nat.le_refl, not_true_eq_false, not_false_eq_true, wI_eq, wI_ne, wL_eq, wL_ne, wI_2, wL_1, wL_2, yk_P, yg_P0, ykx_P0, yln_P0, yix_P0, yge_P0, ype_P0, yg_P1, ykx_P1, yln_P1, yix_P1, yge_P1, ype_P1, yg_P2, ykx_P2, yln_P2, yix_P2, yge_P2, ype_P2, yg_P3, ykx_P3, yln_P3, yix_P3, yge_P3, ype_P3, yg_P4, ykx_P4, yln_P4, yix_P4, yge_P4, ype_P4, yg_P5, ykx_P5, yln_P5, yix_P5, yge_P5, ype_P5, yg_P6, ykx_P6, yln_P6, yix_P6, yge_P6, ype_P6, yg_P7, ykx_P7, yln_P7, yix_P7, yge_P7, ype_P7, yg_P8, ykx_P8, yln_P8, yix_P8, yge_P8, ype_P8, yg_P9, ykx_P9, yln_P9, yix_P9, yge_P9, ype_P9, yg_P10, ykx_P10, yln_P10, yix_P10, yge_P10, ype_P10, yg_P11, ykx_P11, yln_P11, yix_P11, yge_P11, ype_P11, yg_P12, yp_P12, yg_P13, yp_P13, yg_P14, yp_P14, yg_P15, yp_P15, yg_P16, yp_P16, yg_P17, yp_P17, ys_size, c1]; done)) | (apply yst_I; focus (simp (disch := first | assumption | omega) only [yS, yR_I, yR_L, yR_D, yR_A, yR_V, yR_xI, yR_xL, yR_xA, yR_xV, yR_m, yR_mx, yB_0, yB_1, yB_D, yB_c, yD_0, yc_0, yI_add, yI_sub, yI_mul, yI_0, yI_len, yI_ltT, yI_ltF, yI_eqT, yI_eqF, yC_eq, yC_lt, yC_gt, yI_64, yL_32, ↓reduceIte, eq_self, Nat.reduceLeDiff, Nat.le_refl, not_true_eq_false, not_false_eq_true, wI_eq, wI_ne, wL_eq, wL_ne, wI_2, wL_1, wL_2, yk_P, yg_P0, ykx_P0, yln_P0, yix_P0, yge_P0, ype_P0, yg_P1, ykx_P1, yln_P1, yix_P1, yge_P1, ype_P1, yg_P2, ykx_P2, yln_P2, yix_P2, yge_P2, ype_P2, yg_P3, ykx_P3, yln_P3, yix_P3, yge_P3, ype_P3, yg_P4, ykx_P4, yln_P4, yix_P4, yge_P4, ype_P4, yg_P5, ykx_P5, yln_P5, yix_P5, yge_P5, ype_P5, yg_P6, ykx_P6, yln_P6, yix_P6, yge_P6, ype_P6, yg_P7, ykx_P7, yln_P7, yix_P7, yge_P7, ype_P7, yg_P8, ykx_P8, yln_P8, yix_P8, yge_P8, ype_P8, yg_P9, ykx_P9, yln_P9, yix_P9, yge_P9, ype_P9, yg_P10, ykx_P10, yln_P10, yix_P10, yge_P10, ype_P10, yg_P11, ykx_P11, yln_P11, yix_P11, yge_P11, ype_P11, yg_P12, yp_P12, yg_P13, yp_P13, yg_P14, yp_P14, yg_P15, yp_P15, yg_P16, yp_P16, yg_P17, yp_P17, ys_size, c1] <;> rfl)) | (apply yst_V; focus (simp (disch := first | assumption | omega) only [yS, yR_I, yR_L, yR_D, yR_A, yR_V, yR_xI, yR_xL, yR_xA, yR_xV, yR_m, yR_mx, yB_0, yB_1, yB_D, yB_c, yD_0, yc_0, yI_add, yI_sub, yI_mul, yI_0, yI_len, yI_ltT, yI_ltF, yI_eqT, yI_eqF, yC_eq, yC_lt, yC_gt, yI_64, yL_32, ↓reduceIte, eq_self, Nat.reduceLeDiff, Nat.le_refl, not_true_eq_false, not_false_eq_true, wI_eq, wI_ne, wL_eq, wL_ne, wI_2, wL_1, wL_2, yk_P, yg_P0, ykx_P0, yln_P0, yix_P0, yge_P0, ype_P0, yg_P1, ykx_P1, yln_P1, yix_P1, yge_P1, ype_P1, yg_P2, ykx_P2, yln_P2, yix_P2, yge_P2, ype_P2, yg_P3, ykx_P3, yln_P3, yix_P3, yge_P3, ype_P3, yg_P4, ykx_P4, yln_P4, yix_P4, yge_P4, ype_P4, yg_P5, ykx_P5, yln_P5, yix_P5, yge_P5, ype_P5, yg_P6, ykx_P6, yln_P6, yix_P6, yge_P6, ype_P6, yg_P7, ykx_P7, yln_P7, yix_P7, yge_P7, ype_P7, yg_P8, ykx_P8, yln_P8, yix_P8, yge_P8, ype_P8, yg_P9, ykx_P9, yln_P9, yix_P9, yge_P9, ype_P9, yg_P10, ykx_P10, yln_P10, yix_P10, yge_P10, ype_P10, yg_P11, ykx_P11, yln_P11, yix_P11, yge_P11, ype_P11, yg_P12, yp_P12, yg_P13, yp_P13, yg_P14, yp_P14, yg_P15, yp_P15, yg_P16, yp_P16, yg_P17, yp_P17, ys_size, c1] <;> rfl)) | (apply yst_L; focus (simp (disch := first | assumption | omega) only [yS, yR_I, yR_L, yR_D, yR_A, yR_V, yR_xI, yR_xL, yR_xA, yR_xV, yR_m, yR_mx, yB_0, yB_1, yB_D, yB_c, yD_0, yc_0, yI_add, yI_sub, yI_mul, yI_0, yI_len, yI_ltT, yI_ltF, yI_eqT, yI_eqF, yC_eq, yC_lt, yC_gt, yI_64, yL_32, ↓reduceIte, eq_self, Nat.reduceLeDiff, Nat.le_refl, not_true_eq_false, not_false_eq_true, wI_eq, wI_ne, wL_eq, wL_ne, wI_2, wL_1, wL_2, yk_P, yg_P0, ykx_P0, yln_P0, yix_P0, yge_P0, ype_P0, yg_P1, ykx_P1, yln_P1, yix_P1, yge_P1, ype_P1, yg_P2, ykx_P2, yln_P2, yix_P2, yge_P2, ype_P2, yg_P3, ykx_P3, yln_P3, yix_P3, yge_P3, ype_P3, yg_P4, ykx_P4, yln_P4, yix_P4, yge_P4, ype_P4, yg_P5, ykx_P5, yln_P5, yix_P5, yge_P5, ype_P5, yg_P6, ykx_P6, yln_P6, yix_P6, yge_P6, ype_P6, yg_P7, ykx_P7, yln_P7, yix_P7, yge_P7, ype_P7, yg_P8, ykx_P8, yln_P8, yix_P8, yge_P8, ype_P8, yg_P9, ykx_P9, yln_P9, yix_P9, yge_P9, ype_P9, yg_P10, ykx_P10, yln_P10, yix_P10, yge_P10, ype_P10, yg_P11, ykx_P11, yln_P11, yix_P11, yge_P11, ype_P11, yg_P12, yp_P12, yg_P13, yp_P13, yg_P14, yp_P14, yg_P15, yp_P15, yg_P16, yp_P16, yg_P17, yp_P17, ys_size, c1] <;> rfl)) | (apply yst_A; focus (simp (disch := first | assumption | omega) only [yS, yR_I, yR_L, yR_D, yR_A, yR_V, yR_xI, yR_xL, yR_xA, yR_xV, yR_m, yR_mx, yB_0, yB_1, yB_D, yB_c, yD_0, yc_0, yI_add, yI_sub, yI_mul, yI_0, yI_len, yI_ltT, yI_ltF, yI_eqT, yI_eqF, yC_eq, yC_lt, yC_gt, yI_64, yL_32, ↓reduceIte, eq_self, Nat.reduceLeDiff, Nat.le_refl, not_true_eq_false, not_false_eq_true, wI_eq, wI_ne, wL_eq, wL_ne, wI_2, wL_1, wL_2, yk_P, yg_P0, ykx_P0, yln_P0, yix_P0, yge_P0, ype_P0, yg_P1, ykx_P1, yln_P1, yix_P1, yge_P1, ype_P1, yg_P2, ykx_P2, yln_P2, yix_P2, yge_P2, ype_P2, yg_P3, ykx_P3, yln_P3, yix_P3, yge_P3, ype_P3, yg_P4, ykx_P4, yln_P4, yix_P4, yge_P4, ype_P4, yg_P5, ykx_P5, yln_P5, yix_P5, yge_P5, ype_P5, yg_P6, ykx_P6, yln_P6, yix_P6, yge_P6, ype_P6, yg_P7, ykx_P7, yln_P7, yix_P7, yge_P7, ype_P7, yg_P8, ykx_P8, yln_P8, yix_P8, yge_P8, ype_P8, yg_P9, ykx_P9, yln_P9, yix_P9, yge_P9, ype_P9, yg_P10, ykx_P10, yln_P10, yix_P10, yge_P10, ype_P10, yg_P11, ykx_P11, yln_P11, yix_P11, yge_P11, ype_P11, yg_P12, yp_P12, yg_P13, yp_P13, yg_P14, yp_P14, yg_P15, yp_P15, yg_P16, yp_P16, yg_P17, yp_P17, ys_size, c1] <;> rfl)) | (apply yst_b; focus (simp (disch := first | assumption | omega) only [yS, yR_I, yR_L, yR_D, yR_A, yR_V, yR_xI, yR_xL, yR_xA, yR_xV, yR_m, yR_mx, yB_0, yB_1, yB_D, yB_c, yD_0, yc_0, yI_add, yI_sub, yI_mul, yI_0, yI_len, yI_ltT, yI_ltF, yI_eqT, yI_eqF, yC_eq, yC_lt, yC_gt, yI_64, yL_32, ↓reduceIte, eq_self, Nat.reduceLeDiff, Nat.le_refl, not_true_eq_false, not_false_eq_true, wI_eq, wI_ne, wL_eq, wL_ne, wI_2, wL_1, wL_2, yk_P, yg_P0, ykx_P0, yln_P0, yix_P0, yge_P0, ype_P0, yg_P1, ykx_P1, yln_P1, yix_P1, yge_P1, ype_P1, yg_P2, ykx_P2, yln_P2, yix_P2, yge_P2, ype_P2, yg_P3, ykx_P3, yln_P3, yix_P3, yge_P3, ype_P3, yg_P4, ykx_P4, yln_P4, yix_P4, yge_P4, ype_P4, yg_P5, ykx_P5, yln_P5, yix_P5, yge_P5, ype_P5, yg_P6, ykx_P6, yln_P6, yix_P6, yge_P6, ype_P6, yg_P7, ykx_P7, yln_P7, yix_P7, yge_P7, ype_P7, yg_P8, ykx_P8, yln_P8, yix_P8, yge_P8, ype_P8, yg_P9, ykx_P9, yln_P9, yix_P9, yge_P9, ype_P9, yg_P10, ykx_P10, yln_P10, yix_P10, yge_P10, ype_P10, yg_P11, ykx_P11, yln_P11, yix_P11, yge_P11, ype_P11, yg_P12, yp_P12, yg_P13, yp_P13, yg_P14, yp_P14, yg_P15, yp_P15, yg_P16, yp_P16, yg_P17, yp_P17, ys_size, c1] <;> rfl)))); (first | with_reducible rfl | simp (disch := first | assumption | omega) only [yS, yR_I, yR_L, yR_D, yR_A, yR_V, yR_xI, yR_xL, yR_xA, yR_xV, yR_m, yR_mx, yB_0, yB_1, yB_D, yB_c, yD_0, yc_0, yI_add, yI_sub, yI_mul, yI_0, yI_len, yI_ltT, yI_ltF, yI_eqT, yI_eqF, yC_eq, yC_lt, yC_gt, yI_64, yL_32, ↓reduceIte, eq_self, Nat.reduceLeDiff, Nat.le_refl, not_true_eq_false, not_false_eq_true, wI_eq, wI_ne, wL_eq, wL_ne, wI_2, wL_1, wL_2, yk_P, yg_P0, ykx_P0, yln_P0, yix_P0, yge_P0, ype_P0, yg_P1, ykx_P1, yln_P1, yix_P1, yge_P1, ype_P1, yg_P2, ykx_P2, yln_P2, yix_P2, yge_P2, ype_P2, yg_P3, ykx_P3, yln_P3, yix_P3, yge_P3, ype_P3, yg_P4, ykx_P4, yln_P4, yix_P4, yge_P4, ype_P4, yg_P5, ykx_P5, yln_P5, yix_P5, yge_P5, ype_P5, yg_P6, ykx_P6, yln_P6, yix_P6, yge_P6, ype_P6, yg_P7, ykx_P7, yln_P7, yix_P7, yge_P7, ype_P7, yg_P8, ykx_P8, yln_P8, yix_P8, yge_P8, ype_P8, yg_P9, ykx_P9, yln_P9, yix_P9, yge_P9, ype_P9, yg_P10, ykx_P10, yln_P10, yix_P10, yge_P10, ype_P10, yg_P11, ykx_P11, yln_P11, yix_P11, yge_P11, ype_P11, yg_P12, yp_P12, yg_P13, yp_P13, yg_P14, yp_P14, yg_P15, yp_P15, yg_P16, yp_P16, yg_P17, yp_P17, ys_size, c1] | skip))
    · refine ⟨ho.1, fun k k0 k1 => (c2 k k0 k1).1, fun j k j0 j1 k0 k1 z1 z2 z3 => ?_, fun k k0 k1 kj => ?_⟩
      · have dj := c2 j j0 j1
        have dk := c2 k k0 k1
        exact ho.2.2.1 j k j0 j1 k0 k1 (dj.2.1.mp z1) (dk.2.1.mp z2) (by rw [← dj.2.2.1, ← dk.2.2.1]; exact z3)
      · have dk := c2 k k0 k1
        obtain ⟨l, l0, l1, l2, l3⟩ := ho.2.2.2 k k0 k1 (dk.2.2.2 kj)
        have dl := c2 l l0 l1
        exact ⟨l, l0, l1, dl.2.1.mpr l2, by rw [dl.2.2.1, dk.2.2.1]; exact l3⟩
  · have dvi := c2 i h0 h
    have Bi := d2 i h0 h
    have sB : ySo B i = ySo (yA mc a) i := by unfold ySo; rw [Bi]
    have xB : yX B i = yX (yA mc a) i := by unfold yX; rw [Bi]
    have bb : yBb B i ↔ yBb (yA mc a) i := by
      unfold yBb
      rw [sB]
      by_cases e : i = 0
      · exact ⟨fun _ => .inl e, fun _ => .inl e⟩
      · have B1 := d2 (i - 1) (by omega) (by omega)
        unfold yJp ySo
        rw [B1]
    obtain ⟨st', hst⟩ : ∃ st', (yBb (yA mc a) i ∧ st' = i) ∨ (¬ yBb (yA mc a) i ∧ st' = st) := by
      by_cases z : yBb (yA mc a) i
      · exact ⟨i, .inl ⟨z, rfl⟩⟩
      · exact ⟨st, .inr ⟨z, rfl⟩⟩
    have hst2 : (yBb B i ∧ st' = i) ∨ (¬ yBb B i ∧ st' = st) := by rw [bb]; exact hst
    have s2 : 0 ≤ st' ∧ st' ≤ i := by rcases hst with z | z <;> omega
    obtain ⟨f, hf⟩ : ∃ f, f = if ySo (yA mc a) i = 2 then yFs (yA mc a) st' i else -1 := ⟨_, rfl⟩
    have hf2 : f = if ySo B i = 2 then yFs B st' i else -1 := by
      rw [hf, sB, yFs_congr (A := yA mc a) (B := B) st' s2.1 fun j j0 j1 => (d2 j (by omega) (by omega)).symm]
    obtain ⟨mc1, r2, f1, A1⟩ := ys_value_step (m := mc) (a := a) (i := i) (ch := ch) (st := st) q (by omega) h0 (by omega) (fun k k0 k1 => (c2 k k0 (by omega)).1) s0 s1 f st' hst (by rw [hf])
    obtain ⟨md1, r3, f2, M1⟩ := ym_value_step (i := i) (ch := ch) (st := st) d1 (by omega) (fun k k0 k1 => yIk_congr (d2 k k0 k1).symm (c2 k k0 k1).1) h0 h s0 s1 f st' hst2 hf2
    have n1 : mc1.1 a 12 = n := ((f1.1 a 12 (by unfold yFA; omega)).1).trans c1
    have g1 : ∀ j, mc1.1 (a + 8) j = mc.1 (a + 8) j := fun j => (f1.1 _ _ (by unfold yFA; omega)).1
    have fr : f < 0 ∨ (ySo (yA mc a) i = 2 ∧ 0 ≤ f ∧ f < i ∧ ySo (yA mc a) f = 2) := by
      by_cases z : ySo (yA mc a) i = 2
      · rw [if_pos z] at hf
        rcases yFs_rng (A := yA mc a) (i := i) st' s2.1 with y | ⟨y1, y2, y3⟩
        · exact .inl (by omega)
        · rw [← hf] at y1 y2 y3
          exact .inr ⟨z, by omega, y2, y3.1.1⟩
      · rw [if_neg z] at hf
        exact .inl (by omega)
    obtain ⟨B1, hB1⟩ : ∃ B1, B1 = if f < 0 then B else yUpA B i (1, yX B i, -1, yX B f, -1, zl 0, zl 0) := ⟨_, rfl⟩
    rw [← hB1] at M1
    have dv1 : ∀ j, 0 ≤ j → j < n → yDv A0 (yA mc1 a) j ∧ B1 j = yA mc1 a j := fun j j0 j1 => by
      rcases fr with z | ⟨z1, z2, z3, z4⟩
      · rw [A1, hB1, if_pos z, if_pos z]
        exact ⟨c2 j j0 j1, d2 j j0 j1⟩
      · have nf : ¬ f < 0 := by omega
        rw [A1, hB1, if_neg nf, if_neg nf]
        by_cases e : j = i
        · subst e
          have hx := dvi.1.2.1 (by omega)
          have hy := (c2 f z2 (by omega)).1.2.1 (by omega)
          have xf : yX B f = yX (yA mc a) f := by unfold yX; rw [d2 f z2 (by omega)]
          refine ⟨⟨yIk_of (by rw [yUpA_eq]; exact yIc_cp hx.1 hx.2 hy.1 hy.2), ?_, ?_, fun y => ?_⟩, by rw [yUpA_eq, yUpA_eq, xB, xf]⟩
          · have e2 : ySo (yUpA (yA mc a) j (1, yX (yA mc a) j, -1, yX (yA mc a) f, -1, zl 0, zl 0)) j = 1 := by unfold ySo; rw [yUpA_eq]
            rw [e2, ← dvi.2.1]
            exact ⟨fun y => by omega, fun y => by omega⟩
          · rw [← dvi.2.2.1]; unfold yX; rw [yUpA_eq]
          · unfold yJp ySo at y
            rw [yUpA_eq] at y
            exact absurd y (show ¬ ((1 : Int) = 3 ∨ (1 : Int) = 4) by decide)
        · have d := c2 j j0 j1
          refine ⟨⟨yIk_of (by rw [yUpA_ne e]; exact yIc_of d.1), ?_, ?_, fun y => ?_⟩, by rw [yUpA_ne e, yUpA_ne e]; exact d2 j j0 j1⟩
          · unfold ySo; rw [yUpA_ne e]; exact d.2.1
          · unfold yX; rw [yUpA_ne e]; exact d.2.2.1
          · refine d.2.2.2 ?_
            unfold yJp ySo at y ⊢
            rw [yUpA_ne e] at y
            exact y
    obtain ⟨mc', md', ch', e1, e2, e3, e4, e5, e6, e7⟩ := ih (by omega) (by omega) mc1 md1 B1 st' (ch + (if f < 0 then 0 else 1)) n1 (fun j j0 j1 => (dv1 j j0 j1).1) (fun j j0 j1 => by rw [g1]; exact c3 j j0 j1) M1 (fun j j0 j1 => (dv1 j j0 j1).2) s2.1 (by omega) (by split <;> omega) (by split <;> omega)
    refine ⟨mc', md', ch', r2.trans e1, r3.trans e2, e3, e4, e5, yF_trans (yF_mono f1 (by unfold yFA ySp; omega)) e6, yG_mono (yG_trans (yG_mono f2 (fun b j z => .inl z) (Nat.le_refl 1)) e7) (fun _ _ z => z) (by omega)⟩
theorem yz_value {mc md : zQ} (q : yP a) (T : yTw mc a md t n) : ∃ mc' md' n' ch, zCall zCode kBlockPasses_takeValues [.ref 182, .ref a] (zMk mc) = some (.inl (some (.int (zi (ch))), zMk mc')) ∧ zCall zCode kModel_value2 [.ref 202] (zMk md) = some (.inl (some (.int (zi (ch))), zMk md')) ∧ yTw mc' a md' t n' ∧ n' ≤ n ∧ 0 ≤ ch ∧ ch ≤ 7000 ∧ yF (ySp a) mc mc' ∧ yG (ySm t) 100 md md' := by
  obtain ⟨t1, t2, t3, B, t4, t5⟩ := T
  have hn := t2.1.2
  obtain ⟨mc', md', ch, e1, e2, e3, e4, e5, e6, e7⟩ := yz_value_ind q t2 0 (by omega) t2.1.1 mc md B 0 0 t1 (fun j j0 j1 => ⟨t2.2.1 j j0 j1, Iff.rfl, rfl, id⟩) t3 t4 t5 (by omega) (by omega) (by omega) (by omega)
  refine ⟨mc', md', n, ch, ?_, ?_, e3, Int.le_refl _, e4, by omega, e6, yG_mono e7 (fun _ _ z => z) (by omega)⟩
  · rw [za_BlockPasses_takeValues, zb_BlockPasses_takeValues_0]; exact e1
  · rw [za_Model_value2, zb_Model_value2_0]; exact e2
end YZVALUE
