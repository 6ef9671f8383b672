/-! The class's program: loops, links, what changes it. -/
section YPROGW
variable {m : zQ} {a : Nat} {i x : Int}
theorem ys_loopEnd (q : yP a) (ho : yOk (m.1 a 12) (yA m a)) (hl : yLk m a) (hi : 0 ≤ i) (hn : i < m.1 a 12) : zCall zCode kProgram_loopEnd [.ref a, .int (zi i)] (zMk m) = some (.inl (some (.int (zi (yLe (m.1 a 12) (yA m a) i))), zMk m)) := by
  have h1 := ho.1.2
  have h00 := ho.1.1
  have hk := ho.2.1 i hi hn
  rw [za_Program_loopEnd, zb_Program_loopEnd_0]
  by_cases c : ySo (yA m a) i = 0
  · have hx := hk.2.1 (by omega)
    have hct := hl.2 (yX (yA m a) i) hx.1 hx.2
    have hcr := yCn_rng (fun k => yJp (yA m a) k ∧ yX (yA m a) k = yX (yA m a) i) (m.1 a 12).toNat
    have hc1 := yCn_1 (P := fun k => yJp (yA m a) k ∧ yX (yA m a) k = yX (yA m a) i) (m.1 a 12).toNat
    unfold yCt at hct
    by_cases cc : yCn (fun k => yJp (yA m a) k ∧ yX (yA m a) k = yX (yA m a) i) (m.1 a 12).toNat = 1
    · obtain ⟨j0, z0, z1, z2, z3⟩ := hc1.mp cc
      have z3' : ∀ k, 0 ≤ k → k < m.1 a 12 → (yJp (yA m a) k ∧ yX (yA m a) k = yX (yA m a) i) → k = j0 := fun k k0 k1 => z3 k k0 (by omega)
      have hds : ∀ k, 0 ≤ k → k < m.1 a 12 → (yDs (m.1 a 12) (yA m a) k = i ↔ k = j0) := fun k k0 k1 => by
        rw [yDs_iff ho k0 k1 hi hn]
        constructor
        · intro ⟨u1, u2⟩
          exact z3 k k0 (by omega) ⟨u1, u2.2.symm⟩
        · intro u
          subst u
          exact ⟨z2.1, c, z2.2.symm⟩
      have hne : j0 ≠ i := fun e => by
        have := z2.1
        rw [e] at this
        rcases this with u | u <;> omega
      rw [cc] at hct
      simp (disch := first | assumption | omega) only [yS, yR_I, yR_L, yR_D, yR_A, yR_V, yR_xI, yR_xL, yR_xA, yR_xV, yR_m, yR_mx, yB_0, yB_1, yB_D, yB_c, yD_0, yc_0, yI_add, yI_sub, yI_mul, yI_0, yI_len, yI_ltT, yI_ltF, yI_eqT, yI_eqF, yC_eq, yC_lt, yC_gt, yI_64, yL_32, ↓reduceIte, eq_self, Nat.reduceLeDiff, Nat.le_refl, not_true_eq_false, not_false_eq_true, wI_eq, wI_ne, wL_eq, wL_ne, wI_2, wL_1, wL_2, yk_P, yg_P0, ykx_P0, yln_P0, yix_P0, yge_P0, ype_P0, yg_P1, ykx_P1, yln_P1, yix_P1, yge_P1, ype_P1, yg_P2, ykx_P2, yln_P2, yix_P2, yge_P2, ype_P2, yg_P3, ykx_P3, yln_P3, yix_P3, yge_P3, ype_P3, yg_P4, ykx_P4, yln_P4, yix_P4, yge_P4, ype_P4, yg_P5, ykx_P5, yln_P5, yix_P5, yge_P5, ype_P5, yg_P6, ykx_P6, yln_P6, yix_P6, yge_P6, ype_P6, yg_P7, ykx_P7, yln_P7, yix_P7, yge_P7, ype_P7, yg_P8, ykx_P8, yln_P8, yix_P8, yge_P8, ype_P8, yg_P9, ykx_P9, yln_P9, yix_P9, yge_P9, ype_P9, yg_P10, ykx_P10, yln_P10, yix_P10, yge_P10, ype_P10, yg_P11, ykx_P11, yln_P11, yix_P11, yge_P11, ype_P11, yg_P12, yp_P12, yg_P13, yp_P13, yg_P14, yp_P14, yg_P15, yp_P15, yg_P16, yp_P16, yg_P17, yp_P17, ys_isLabel, ys_targetAt, ys_jumpsTo, hct, c]
      rw [ys_loopEnd_19 q ho hl hi hn z0 (by omega) hds (i + 1) (-1) (by omega) (by omega) (by omega) (by omega), zb_Program_loopEnd_19]
      by_cases cj : i + 1 ≤ j0
      · rw [if_pos cj]
        have hE := ys_isEntered_2 (m := m) (a := a) (i := i) (e := j0) q ho hl hi (by omega) (by omega) hn 0 (by omega) h00
        by_cases ce : ∃ j, 0 ≤ j ∧ j < m.1 a 12 ∧ (j < i ∨ j0 < j) ∧ i < yDs (m.1 a 12) (yA m a) j ∧ yDs (m.1 a 12) (yA m a) j ≤ j0
        · rw [yLe_no (n := m.1 a 12) (A := yA m a)]
          · rw [yD_T ce] at hE
            simp (disch := first | assumption | omega) only [yS, yR_I, yR_L, yR_D, yR_A, yR_V, yR_xI, yR_xL, yR_xA, yR_xV, yR_m, yR_mx, yB_0, yB_1, yB_D, yB_c, yD_0, yc_0, yI_add, yI_sub, yI_mul, yI_0, yI_len, yI_ltT, yI_ltF, yI_eqT, yI_eqF, yC_eq, yC_lt, yC_gt, yI_64, yL_32, ↓reduceIte, eq_self, Nat.reduceLeDiff, Nat.le_refl, not_true_eq_false, not_false_eq_true, wI_eq, wI_ne, wL_eq, wL_ne, wI_2, wL_1, wL_2, yk_P, yg_P0, ykx_P0, yln_P0, yix_P0, yge_P0, ype_P0, yg_P1, ykx_P1, yln_P1, yix_P1, yge_P1, ype_P1, yg_P2, ykx_P2, yln_P2, yix_P2, yge_P2, ype_P2, yg_P3, ykx_P3, yln_P3, yix_P3, yge_P3, ype_P3, yg_P4, ykx_P4, yln_P4, yix_P4, yge_P4, ype_P4, yg_P5, ykx_P5, yln_P5, yix_P5, yge_P5, ype_P5, yg_P6, ykx_P6, yln_P6, yix_P6, yge_P6, ype_P6, yg_P7, ykx_P7, yln_P7, yix_P7, yge_P7, ype_P7, yg_P8, ykx_P8, yln_P8, yix_P8, yge_P8, ype_P8, yg_P9, ykx_P9, yln_P9, yix_P9, yge_P9, ype_P9, yg_P10, ykx_P10, yln_P10, yix_P10, yge_P10, ype_P10, yg_P11, ykx_P11, yln_P11, yix_P11, yge_P11, ype_P11, yg_P12, yp_P12, yg_P13, yp_P13, yg_P14, yp_P14, yg_P15, yp_P15, yg_P16, yp_P16, yg_P17, yp_P17, za_Program_isEnteredBehind, zb_Program_isEnteredBehind_0, hE]
          · intro j hj
            obtain ⟨k, k0, k1, k2, k3, k4⟩ := ce
            have e : j = j0 := z3' j (Int.le_of_lt (Int.lt_of_le_of_lt hi hj.2.1)) hj.2.2.1 ⟨hj.2.2.2.1, hj.2.2.2.2.1⟩
            subst e
            have kj : yJp (yA m a) k := by
              by_cases kj : yJp (yA m a) k
              · exact kj
              · rw [yDs_n kj] at k4; omega
            exact hj.2.2.2.2.2.2 k k0 k1 k2 kj ⟨k3, k4⟩
        · rw [yLe_of (n := m.1 a 12) (A := yA m a) (j := j0) hi ⟨c, by omega, by omega, z2.1, z2.2, fun k k0 k1 k2 k3 => z3 k k0 (by omega) ⟨k2, k3⟩, fun k k0 k1 k2 kj k3 => ce ⟨k, k0, k1, k2, k3.1, k3.2⟩⟩]
          rw [yD_F ce] at hE
          simp (disch := first | assumption | omega) only [yS, yR_I, yR_L, yR_D, yR_A, yR_V, yR_xI, yR_xL, yR_xA, yR_xV, yR_m, yR_mx, yB_0, yB_1, yB_D, yB_c, yD_0, yc_0, yI_add, yI_sub, yI_mul, yI_0, yI_len, yI_ltT, yI_ltF, yI_eqT, yI_eqF, yC_eq, yC_lt, yC_gt, yI_64, yL_32, ↓reduceIte, eq_self, Nat.reduceLeDiff, Nat.le_refl, not_true_eq_false, not_false_eq_true, wI_eq, wI_ne, wL_eq, wL_ne, wI_2, wL_1, wL_2, yk_P, yg_P0, ykx_P0, yln_P0, yix_P0, yge_P0, ype_P0, yg_P1, ykx_P1, yln_P1, yix_P1, yge_P1, ype_P1, yg_P2, ykx_P2, yln_P2, yix_P2, yge_P2, ype_P2, yg_P3, ykx_P3, yln_P3, yix_P3, yge_P3, ype_P3, yg_P4, ykx_P4, yln_P4, yix_P4, yge_P4, ype_P4, yg_P5, ykx_P5, yln_P5, yix_P5, yge_P5, ype_P5, yg_P6, ykx_P6, yln_P6, yix_P6, yge_P6, ype_P6, yg_P7, ykx_P7, yln_P7, yix_P7, yge_P7, ype_P7, yg_P8, ykx_P8, yln_P8, yix_P8, yge_P8, ype_P8, yg_P9, ykx_P9, yln_P9, yix_P9, yge_P9, ype_P9, yg_P10, ykx_P10, yln_P10, yix_P10, yge_P10, ype_P10, yg_P11, ykx_P11, yln_P11, yix_P11, yge_P11, ype_P11, yg_P12, yp_P12, yg_P13, yp_P13, yg_P14, yp_P14, yg_P15, yp_P15, yg_P16, yp_P16, yg_P17, yp_P17, za_Program_isEnteredBehind, zb_Program_isEnteredBehind_0, hE]
      · rw [if_neg cj]
        have hE := ys_isEntered_2 (m := m) (a := a) (i := i) (e := -1) q ho hl hi (by omega) (by omega) hn 0 (by omega) h00
        rw [yD_F (by intro ⟨j, u0, u1, u2, u3, u4⟩; omega)] at hE
        rw [yLe_no (n := m.1 a 12) (A := yA m a)]
        · simp (disch := first | assumption | omega) only [yS, yR_I, yR_L, yR_D, yR_A, yR_V, yR_xI, yR_xL, yR_xA, yR_xV, yR_m, yR_mx, yB_0, yB_1, yB_D, yB_c, yD_0, yc_0, yI_add, yI_sub, yI_mul, yI_0, yI_len, yI_ltT, yI_ltF, yI_eqT, yI_eqF, yC_eq, yC_lt, yC_gt, yI_64, yL_32, ↓reduceIte, eq_self, Nat.reduceLeDiff, Nat.le_refl, not_true_eq_false, not_false_eq_true, wI_eq, wI_ne, wL_eq, wL_ne, wI_2, wL_1, wL_2, yk_P, yg_P0, ykx_P0, yln_P0, yix_P0, yge_P0, ype_P0, yg_P1, ykx_P1, yln_P1, yix_P1, yge_P1, ype_P1, yg_P2, ykx_P2, yln_P2, yix_P2, yge_P2, ype_P2, yg_P3, ykx_P3, yln_P3, yix_P3, yge_P3, ype_P3, yg_P4, ykx_P4, yln_P4, yix_P4, yge_P4, ype_P4, yg_P5, ykx_P5, yln_P5, yix_P5, yge_P5, ype_P5, yg_P6, ykx_P6, yln_P6, yix_P6, yge_P6, ype_P6, yg_P7, ykx_P7, yln_P7, yix_P7, yge_P7, ype_P7, yg_P8, ykx_P8, yln_P8, yix_P8, yge_P8, ype_P8, yg_P9, ykx_P9, yln_P9, yix_P9, yge_P9, ype_P9, yg_P10, ykx_P10, yln_P10, yix_P10, yge_P10, ype_P10, yg_P11, ykx_P11, yln_P11, yix_P11, yge_P11, ype_P11, yg_P12, yp_P12, yg_P13, yp_P13, yg_P14, yp_P14, yg_P15, yp_P15, yg_P16, yp_P16, yg_P17, yp_P17, za_Program_isEnteredBehind, zb_Program_isEnteredBehind_0, hE]
        · intro j hj
          have e : j = j0 := z3' j (Int.le_of_lt (Int.lt_of_le_of_lt hi hj.2.1)) hj.2.2.1 ⟨hj.2.2.2.1, hj.2.2.2.2.1⟩
          have := hj.2.1
          omega
    · rw [yLe_no (n := m.1 a 12) (A := yA m a)]
      · simp (disch := first | assumption | omega) only [yS, yR_I, yR_L, yR_D, yR_A, yR_V, yR_xI, yR_xL, yR_xA, yR_xV, yR_m, yR_mx, yB_0, yB_1, yB_D, yB_c, yD_0, yc_0, yI_add, yI_sub, yI_mul, yI_0, yI_len, yI_ltT, yI_ltF, yI_eqT, yI_eqF, yC_eq, yC_lt, yC_gt, yI_64, yL_32, ↓reduceIte, eq_self, Nat.reduceLeDiff, Nat.le_refl, not_true_eq_false, not_false_eq_true, wI_eq, wI_ne, wL_eq, wL_ne, wI_2, wL_1, wL_2, yk_P, yg_P0, ykx_P0, yln_P0, yix_P0, yge_P0, ype_P0, yg_P1, ykx_P1, yln_P1, yix_P1, yge_P1, ype_P1, yg_P2, ykx_P2, yln_P2, yix_P2, yge_P2, ype_P2, yg_P3, ykx_P3, yln_P3, yix_P3, yge_P3, ype_P3, yg_P4, ykx_P4, yln_P4, yix_P4, yge_P4, ype_P4, yg_P5, ykx_P5, yln_P5, yix_P5, yge_P5, ype_P5, yg_P6, ykx_P6, yln_P6, yix_P6, yge_P6, ype_P6, yg_P7, ykx_P7, yln_P7, yix_P7, yge_P7, ype_P7, yg_P8, ykx_P8, yln_P8, yix_P8, yge_P8, ype_P8, yg_P9, ykx_P9, yln_P9, yix_P9, yge_P9, ype_P9, yg_P10, ykx_P10, yln_P10, yix_P10, yge_P10, ype_P10, yg_P11, ykx_P11, yln_P11, yix_P11, yge_P11, ype_P11, yg_P12, yp_P12, yg_P13, yp_P13, yg_P14, yp_P14, yg_P15, yp_P15, yg_P16, yp_P16, yg_P17, yp_P17, ys_isLabel, ys_targetAt, ys_jumpsTo, hct, c]
      · intro j hj
        exact cc (hc1.mpr ⟨j, by have := hj.2.1; omega, by have := hj.2.2.1; omega, ⟨hj.2.2.2.1, hj.2.2.2.2.1⟩, fun k k0 k1 k2 => hj.2.2.2.2.2.1 k k0 (by omega) k2.1 k2.2⟩)
  · rw [yLe_no (n := m.1 a 12) (A := yA m a) fun j z => c z.1]
    simp (disch := first | assumption | omega) only [yS, yR_I, yR_L, yR_D, yR_A, yR_V, yR_xI, yR_xL, yR_xA, yR_xV, yR_m, yR_mx, yB_0, yB_1, yB_D, yB_c, yD_0, yc_0, yI_add, yI_sub, yI_mul, yI_0, yI_len, yI_ltT, yI_ltF, yI_eqT, yI_eqF, yC_eq, yC_lt, yC_gt, yI_64, yL_32, ↓reduceIte, eq_self, Nat.reduceLeDiff, Nat.le_refl, not_true_eq_false, not_false_eq_true, wI_eq, wI_ne, wL_eq, wL_ne, wI_2, wL_1, wL_2, yk_P, yg_P0, ykx_P0, yln_P0, yix_P0, yge_P0, ype_P0, yg_P1, ykx_P1, yln_P1, yix_P1, yge_P1, ype_P1, yg_P2, ykx_P2, yln_P2, yix_P2, yge_P2, ype_P2, yg_P3, ykx_P3, yln_P3, yix_P3, yge_P3, ype_P3, yg_P4, ykx_P4, yln_P4, yix_P4, yge_P4, ype_P4, yg_P5, ykx_P5, yln_P5, yix_P5, yge_P5, ype_P5, yg_P6, ykx_P6, yln_P6, yix_P6, yge_P6, ype_P6, yg_P7, ykx_P7, yln_P7, yix_P7, yge_P7, ype_P7, yg_P8, ykx_P8, yln_P8, yix_P8, yge_P8, ype_P8, yg_P9, ykx_P9, yln_P9, yix_P9, yge_P9, ype_P9, yg_P10, ykx_P10, yln_P10, yix_P10, yge_P10, ype_P10, yg_P11, ykx_P11, yln_P11, yix_P11, yge_P11, ype_P11, yg_P12, yp_P12, yg_P13, yp_P13, yg_P14, yp_P14, yg_P15, yp_P15, yg_P16, yp_P16, yg_P17, yp_P17, ys_isLabel, c]
/-- what changed lies in S -/
def yF (S : Nat → Int → Prop) (m m' : zQ) : Prop := (∀ b k, ¬ S b k → m'.1 b k = m.1 b k ∧ m'.2.1 b k = m.2.1 b k) ∧ m'.2.2 = m.2.2
theorem yF_refl (S : Nat → Int → Prop) (m : zQ) : yF S m m := ⟨fun _ _ _ => ⟨rfl, rfl⟩, rfl⟩
theorem yF_trans {S : Nat → Int → Prop} {m m' m'' : zQ} (h1 : yF S m m') (h2 : yF S m' m'') : yF S m m'' :=
  ⟨fun b k z => ⟨(h2.1 b k z).1.trans (h1.1 b k z).1, (h2.1 b k z).2.trans (h1.1 b k z).2⟩, h2.2.trans h1.2⟩
theorem yF_mono {S T : Nat → Int → Prop} {m m' : zQ} (h1 : yF S m m') (h : ∀ b k, S b k → T b k) : yF T m m' := ⟨fun b k z => h1.1 b k fun y => z (h b k y), h1.2⟩
theorem yF_wI {S : Nat → Int → Prop} {b : Nat} {k v : Int} (h : S b k) : yF S m (wI m b k v) := ⟨fun c j z => ⟨wI_ne (by intro ⟨e1, e2⟩; subst e1; subst e2; exact z h), rfl⟩, rfl⟩
theorem yF_wL {S : Nat → Int → Prop} {b : Nat} {k : Int} {v : Int64} (h : S b k) : yF S m (wL m b k v) := ⟨fun c j z => ⟨rfl, wL_ne (by intro ⟨e1, e2⟩; subst e1; subst e2; exact z h)⟩, rfl⟩
theorem yF_A {S : Nat → Int → Prop} {m' : zQ} (h : yF S m m') (hS : ∀ b k, a + 1 ≤ b → b ≤ a + 7 → ¬ S b k) : yA m' a = yA m a := by
  funext k
  unfold yA
  rw [(h.1 (a + 1) k (hS _ _ (by omega) (by omega))).1, (h.1 (a + 2) k (hS _ _ (by omega) (by omega))).1, (h.1 (a + 3) k (hS _ _ (by omega) (by omega))).1, (h.1 (a + 4) k (hS _ _ (by omega) (by omega))).1, (h.1 (a + 5) k (hS _ _ (by omega) (by omega))).1, (h.1 (a + 6) k (hS _ _ (by omega) (by omega))).2, (h.1 (a + 7) k (hS _ _ (by omega) (by omega))).2]
theorem yA_wI {b : Nat} {k v : Int} (h : b < a + 1 ∨ a + 5 < b) : yA (wI m b k v) a = yA m a := by
  funext j
  unfold yA
  rw [wI_ne (by omega), wI_ne (by omega), wI_ne (by omega), wI_ne (by omega), wI_ne (by omega)]
  rfl
/-! links -/
def yFL (a : Nat) : Nat → Int → Prop := fun b _ => a + 10 ≤ b ∧ b ≤ a + 12
theorem ys_link_2 (q : yP a) : ∀ k, 0 ≤ k → k ≤ 12 → ∀ m : zQ, (∀ y, 0 ≤ y → y < k → m.1 (a + 10) y = m.1 a 12 ∧ m.1 (a + 11) y = 0) → ∃ m', zRun zCode kProgram_link 2 [.ref a, .int (zi k), .retAddr 0, .retAddr 0] [] (zMk m) = zRun zCode kProgram_link 20 [.ref a, .int (zi 0), .retAddr 0, .retAddr 0] [] (zMk m') ∧ yF (yFL a) m m' ∧ (∀ y, 0 ≤ y → y < 12 → m'.1 (a + 10) y = m'.1 a 12 ∧ m'.1 (a + 11) y = 0) := by
  refine yInd 12 _ (fun k h h0 h2 m hm => ?_) (fun k h ih h0 h2 m hm => ?_)
  · refine ⟨m, ?_, yF_refl _ _, fun y y0 y1 => hm y y0 (by omega)⟩
    rw [zb_Program_link_2]; simp (disch := first | assumption | omega) only [yS, yR_I, yR_L, yR_D, yR_A, yR_V, yR_xI, yR_xL, yR_xA, yR_xV, yR_m, yR_mx, yB_0, yB_1, yB_D, yB_c, yD_0, yc_0, yI_add, yI_sub, yI_mul, yI_0, yI_len, yI_ltT, yI_ltF, yI_eqT, yI_eqF, yC_eq, yC_lt, yC_gt, yI_64, yL_32, ↓reduceIte, eq_self, Nat.reduceLeDiff, Nat.le_refl, not_true_eq_false, not_false_eq_true, wI_eq, wI_ne, wL_eq, wL_ne, wI_2, wL_1, wL_2, yk_P, yg_P0, ykx_P0, yln_P0, yix_P0, yge_P0, ype_P0, yg_P1, ykx_P1, yln_P1, yix_P1, yge_P1, ype_P1, yg_P2, ykx_P2, yln_P2, yix_P2, yge_P2, ype_P2, yg_P3, ykx_P3, yln_P3, yix_P3, yge_P3, ype_P3, yg_P4, ykx_P4, yln_P4, yix_P4, yge_P4, ype_P4, yg_P5, ykx_P5, yln_P5, yix_P5, yge_P5, ype_P5, yg_P6, ykx_P6, yln_P6, yix_P6, yge_P6, ype_P6, yg_P7, ykx_P7, yln_P7, yix_P7, yge_P7, ype_P7, yg_P8, ykx_P8, yln_P8, yix_P8, yge_P8, ype_P8, yg_P9, ykx_P9, yln_P9, yix_P9, yge_P9, ype_P9, yg_P10, ykx_P10, yln_P10, yix_P10, yge_P10, ype_P10, yg_P11, ykx_P11, yln_P11, yix_P11, yge_P11, ype_P11, yg_P12, yp_P12, yg_P13, yp_P13, yg_P14, yp_P14, yg_P15, yp_P15, yg_P16, yp_P16, yg_P17, yp_P17]
  · obtain ⟨m', e1, e2, e3⟩ := ih (by omega) (by omega) (wI (wI m (a + 10) k (m.1 a 12)) (a + 11) k 0) (fun y y0 y1 => by
      by_cases c : y = k
      · subst c
        rw [wI_ne (by omega), wI_eq, wI_eq, wI_ne (by omega), wI_ne (by omega)]
        exact ⟨rfl, rfl⟩
      · rw [wI_ne (by omega), wI_ne (by omega), wI_ne (by omega), wI_ne (by omega), wI_ne (by omega), wI_ne (by omega)]
        exact hm y y0 (by omega))
    refine ⟨m', ?_, yF_trans (yF_trans (yF_wI (by unfold yFL; omega)) (yF_wI (by unfold yFL; omega))) e2, e3⟩
    rw [zb_Program_link_2, ← e1]; simp (disch := first | assumption | omega) only [yS, yR_I, yR_L, yR_D, yR_A, yR_V, yR_xI, yR_xL, yR_xA, yR_xV, yR_m, yR_mx, yB_0, yB_1, yB_D, yB_c, yD_0, yc_0, yI_add, yI_sub, yI_mul, yI_0, yI_len, yI_ltT, yI_ltF, yI_eqT, yI_eqF, yC_eq, yC_lt, yC_gt, yI_64, yL_32, ↓reduceIte, eq_self, Nat.reduceLeDiff, Nat.le_refl, not_true_eq_false, not_false_eq_true, wI_eq, wI_ne, wL_eq, wL_ne, wI_2, wL_1, wL_2, yk_P, yg_P0, ykx_P0, yln_P0, yix_P0, yge_P0, ype_P0, yg_P1, ykx_P1, yln_P1, yix_P1, yge_P1, ype_P1, yg_P2, ykx_P2, yln_P2, yix_P2, yge_P2, ype_P2, yg_P3, ykx_P3, yln_P3, yix_P3, yge_P3, ype_P3, yg_P4, ykx_P4, yln_P4, yix_P4, yge_P4, ype_P4, yg_P5, ykx_P5, yln_P5, yix_P5, yge_P5, ype_P5, yg_P6, ykx_P6, yln_P6, yix_P6, yge_P6, ype_P6, yg_P7, ykx_P7, yln_P7, yix_P7, yge_P7, ype_P7, yg_P8, ykx_P8, yln_P8, yix_P8, yge_P8, ype_P8, yg_P9, ykx_P9, yln_P9, yix_P9, yge_P9, ype_P9, yg_P10, ykx_P10, yln_P10, yix_P10, yge_P10, ype_P10, yg_P11, ykx_P11, yln_P11, yix_P11, yge_P11, ype_P11, yg_P12, yp_P12, yg_P13, yp_P13, yg_P14, yp_P14, yg_P15, yp_P15, yg_P16, yp_P16, yg_P17, yp_P17]
theorem ys_link_20 {n : Int} {A : yPr} (q : yP a) (ho : yOk n A) : ∀ k, 0 ≤ k → k ≤ n → ∀ m : zQ, m.1 a 12 = n → yA m a = A → (∀ x, 0 ≤ x → x < 12 → (∀ j, 0 ≤ j → j < k → yLb A j x → m.1 (a + 10) x = j) ∧ ((∀ j, 0 ≤ j → j < k → ¬ yLb A j x) → m.1 (a + 10) x = n)) → ∃ m', zRun zCode kProgram_link 20 [.ref a, .int (zi k), .retAddr 0, .retAddr 0] [] (zMk m) = zRun zCode kProgram_link 46 [.ref a, .int (zi 0), .retAddr 0, .retAddr 0] [] (zMk m') ∧ yF (fun b _ => b = a + 10) m m' ∧ (∀ x, 0 ≤ x → x < 12 → m'.1 (a + 10) x = yPl n A x) := by
  have h1 := ho.1.2
  have h00 := ho.1.1
  refine yInd n _ (fun k h h0 h2 m hn hA hm => ?_) (fun k h ih h0 h2 m hn hA hm => ?_)
  · refine ⟨m, ?_, yF_refl _ _, fun x x0 x1 => ?_⟩
    · rw [zb_Program_link_20]; simp (disch := first | assumption | omega) only [yS, yR_I, yR_L, yR_D, yR_A, yR_V, yR_xI, yR_xL, yR_xA, yR_xV, yR_m, yR_mx, yB_0, yB_1, yB_D, yB_c, yD_0, yc_0, yI_add, yI_sub, yI_mul, yI_0, yI_len, yI_ltT, yI_ltF, yI_eqT, yI_eqF, yC_eq, yC_lt, yC_gt, yI_64, yL_32, ↓reduceIte, eq_self, Nat.reduceLeDiff, Nat.le_refl, not_true_eq_false, not_false_eq_true, wI_eq, wI_ne, wL_eq, wL_ne, wI_2, wL_1, wL_2, yk_P, yg_P0, ykx_P0, yln_P0, yix_P0, yge_P0, ype_P0, yg_P1, ykx_P1, yln_P1, yix_P1, yge_P1, ype_P1, yg_P2, ykx_P2, yln_P2, yix_P2, yge_P2, ype_P2, yg_P3, ykx_P3, yln_P3, yix_P3, yge_P3, ype_P3, yg_P4, ykx_P4, yln_P4, yix_P4, yge_P4, ype_P4, yg_P5, ykx_P5, yln_P5, yix_P5, yge_P5, ype_P5, yg_P6, ykx_P6, yln_P6, yix_P6, yge_P6, ype_P6, yg_P7, ykx_P7, yln_P7, yix_P7, yge_P7, ype_P7, yg_P8, ykx_P8, yln_P8, yix_P8, yge_P8, ype_P8, yg_P9, ykx_P9, yln_P9, yix_P9, yge_P9, ype_P9, yg_P10, ykx_P10, yln_P10, yix_P10, yge_P10, ype_P10, yg_P11, ykx_P11, yln_P11, yix_P11, yge_P11, ype_P11, yg_P12, yp_P12, yg_P13, yp_P13, yg_P14, yp_P14, yg_P15, yp_P15, yg_P16, yp_P16, yg_P17, yp_P17]
    · by_cases c : ∃ k, 0 ≤ k ∧ k < n ∧ yLb A k x
      · have := yPl_ex c
        exact (hm x x0 x1).1 _ this.1 (by omega) this.2.2
      · rw [yPl_no c]
        exact (hm x x0 x1).2 fun j j0 j1 z => c ⟨j, j0, by omega, z⟩
  · have hk := ho.2.1 k h0 h
    have hk' : yIk (yA m a) k := hA ▸ hk
    rw [zb_Program_link_20]
    by_cases c : ySo A k = 0
    · have hx := hk.2.1 (by omega)
      obtain ⟨m', e1, e2, e3⟩ := ih (by omega) (by omega) (wI m (a + 10) (yX A k) k) (by rw [wI_ne (by omega)]; exact hn) (by rw [yA_wI (by omega)]; exact hA) (fun x x0 x1 => by
        by_cases cx : x = yX A k
        · subst cx
          rw [wI_eq]
          exact ⟨fun j j0 j1 z => by
            by_cases e : j = k
            · exact e.symm
            · exact (ho.2.2.1 j k j0 (by omega) h0 h z.1 c z.2).symm, fun z => absurd ⟨c, rfl⟩ (z k h0 (by omega))⟩
        · rw [wI_ne (by omega)]
          exact ⟨fun j j0 j1 z => (hm x x0 x1).1 j j0 (by
            have : j ≠ k := fun e => by subst e; exact cx z.2.symm
            omega) z, fun z => (hm x x0 x1).2 fun j j0 j1 => z j j0 (by omega)⟩)
      refine ⟨m', ?_, yF_trans (yF_wI rfl) e2, e3⟩
      rw [← e1]
      simp (disch := first | assumption | omega) only [yS, yR_I, yR_L, yR_D, yR_A, yR_V, yR_xI, yR_xL, yR_xA, yR_xV, yR_m, yR_mx, yB_0, yB_1, yB_D, yB_c, yD_0, yc_0, yI_add, yI_sub, yI_mul, yI_0, yI_len, yI_ltT, yI_ltF, yI_eqT, yI_eqF, yC_eq, yC_lt, yC_gt, yI_64, yL_32, ↓reduceIte, eq_self, Nat.reduceLeDiff, Nat.le_refl, not_true_eq_false, not_false_eq_true, wI_eq, wI_ne, wL_eq, wL_ne, wI_2, wL_1, wL_2, yk_P, yg_P0, ykx_P0, yln_P0, yix_P0, yge_P0, ype_P0, yg_P1, ykx_P1, yln_P1, yix_P1, yge_P1, ype_P1, yg_P2, ykx_P2, yln_P2, yix_P2, yge_P2, ype_P2, yg_P3, ykx_P3, yln_P3, yix_P3, yge_P3, ype_P3, yg_P4, ykx_P4, yln_P4, yix_P4, yge_P4, ype_P4, yg_P5, ykx_P5, yln_P5, yix_P5, yge_P5, ype_P5, yg_P6, ykx_P6, yln_P6, yix_P6, yge_P6, ype_P6, yg_P7, ykx_P7, yln_P7, yix_P7, yge_P7, ype_P7, yg_P8, ykx_P8, yln_P8, yix_P8, yge_P8, ype_P8, yg_P9, ykx_P9, yln_P9, yix_P9, yge_P9, ype_P9, yg_P10, ykx_P10, yln_P10, yix_P10, yge_P10, ype_P10, yg_P11, ykx_P11, yln_P11, yix_P11, yge_P11, ype_P11, yg_P12, yp_P12, yg_P13, yp_P13, yg_P14, yp_P14, yg_P15, yp_P15, yg_P16, yp_P16, yg_P17, yp_P17, ys_targetAt, ys_isLabel, hA, hn, c]
    · obtain ⟨m', e1, e2, e3⟩ := ih (by omega) (by omega) m hn hA (fun x x0 x1 => ⟨fun j j0 j1 z => (hm x x0 x1).1 j j0 (by
            have : j ≠ k := fun e => by subst e; exact c z.1
            omega) z, fun z => (hm x x0 x1).2 fun j j0 j1 => z j j0 (by omega)⟩)
      refine ⟨m', ?_, e2, e3⟩
      rw [← e1]
      simp (disch := first | assumption | omega) only [yS, yR_I, yR_L, yR_D, yR_A, yR_V, yR_xI, yR_xL, yR_xA, yR_xV, yR_m, yR_mx, yB_0, yB_1, yB_D, yB_c, yD_0, yc_0, yI_add, yI_sub, yI_mul, yI_0, yI_len, yI_ltT, yI_ltF, yI_eqT, yI_eqF, yC_eq, yC_lt, yC_gt, yI_64, yL_32, ↓reduceIte, eq_self, Nat.reduceLeDiff, Nat.le_refl, not_true_eq_false, not_false_eq_true, wI_eq, wI_ne, wL_eq, wL_ne, wI_2, wL_1, wL_2, yk_P, yg_P0, ykx_P0, yln_P0, yix_P0, yge_P0, ype_P0, yg_P1, ykx_P1, yln_P1, yix_P1, yge_P1, ype_P1, yg_P2, ykx_P2, yln_P2, yix_P2, yge_P2, ype_P2, yg_P3, ykx_P3, yln_P3, yix_P3, yge_P3, ype_P3, yg_P4, ykx_P4, yln_P4, yix_P4, yge_P4, ype_P4, yg_P5, ykx_P5, yln_P5, yix_P5, yge_P5, ype_P5, yg_P6, ykx_P6, yln_P6, yix_P6, yge_P6, ype_P6, yg_P7, ykx_P7, yln_P7, yix_P7, yge_P7, ype_P7, yg_P8, ykx_P8, yln_P8, yix_P8, yge_P8, ype_P8, yg_P9, ykx_P9, yln_P9, yix_P9, yge_P9, ype_P9, yg_P10, ykx_P10, yln_P10, yix_P10, yge_P10, ype_P10, yg_P11, ykx_P11, yln_P11, yix_P11, yge_P11, ype_P11, yg_P12, yp_P12, yg_P13, yp_P13, yg_P14, yp_P14, yg_P15, yp_P15, yg_P16, yp_P16, yg_P17, yp_P17, ys_targetAt, ys_isLabel, hA, hn, c]
theorem ys_link_46 {n : Int} {A : yPr} (q : yP a) (ho : yOk n A) : ∀ k, 0 ≤ k → k ≤ n → ∀ m : zQ, m.1 a 12 = n → yA m a = A → (∀ x, 0 ≤ x → x < 12 → m.1 (a + 10) x = yPl n A x) → (∀ j, 0 ≤ j → j < k → m.1 (a + 12) j = yDs n A j) → (∀ x, 0 ≤ x → x < 12 → m.1 (a + 11) x = yCn (fun j => yJp A j ∧ yX A j = x) k.toNat) → ∃ m', zRun zCode kProgram_link 46 [.ref a, .int (zi k), .retAddr 0, .retAddr 0] [] (zMk m) = some (.inl (none, zMk m')) ∧ yF (fun b _ => b = a + 11 ∨ b = a + 12) m m' ∧ yLk m' a := by
  have h1 := ho.1.2
  have h00 := ho.1.1
  refine yInd n _ (fun k h h0 h2 m hn hA hp hd hc => ?_) (fun k h ih h0 h2 m hn hA hp hd hc => ?_)
  · have e : k = n := by omega
    subst e
    refine ⟨m, ?_, yF_refl _ _, ?_, ?_⟩
    · rw [zb_Program_link_46]; simp (disch := first | assumption | omega) only [yS, yR_I, yR_L, yR_D, yR_A, yR_V, yR_xI, yR_xL, yR_xA, yR_xV, yR_m, yR_mx, yB_0, yB_1, yB_D, yB_c, yD_0, yc_0, yI_add, yI_sub, yI_mul, yI_0, yI_len, yI_ltT, yI_ltF, yI_eqT, yI_eqF, yC_eq, yC_lt, yC_gt, yI_64, yL_32, ↓reduceIte, eq_self, Nat.reduceLeDiff, Nat.le_refl, not_true_eq_false, not_false_eq_true, wI_eq, wI_ne, wL_eq, wL_ne, wI_2, wL_1, wL_2, yk_P, yg_P0, ykx_P0, yln_P0, yix_P0, yge_P0, ype_P0, yg_P1, ykx_P1, yln_P1, yix_P1, yge_P1, ype_P1, yg_P2, ykx_P2, yln_P2, yix_P2, yge_P2, ype_P2, yg_P3, ykx_P3, yln_P3, yix_P3, yge_P3, ype_P3, yg_P4, ykx_P4, yln_P4, yix_P4, yge_P4, ype_P4, yg_P5, ykx_P5, yln_P5, yix_P5, yge_P5, ype_P5, yg_P6, ykx_P6, yln_P6, yix_P6, yge_P6, ype_P6, yg_P7, ykx_P7, yln_P7, yix_P7, yge_P7, ype_P7, yg_P8, ykx_P8, yln_P8, yix_P8, yge_P8, ype_P8, yg_P9, ykx_P9, yln_P9, yix_P9, yge_P9, ype_P9, yg_P10, ykx_P10, yln_P10, yix_P10, yge_P10, ype_P10, yg_P11, ykx_P11, yln_P11, yix_P11, yge_P11, ype_P11, yg_P12, yp_P12, yg_P13, yp_P13, yg_P14, yp_P14, yg_P15, yp_P15, yg_P16, yp_P16, yg_P17, yp_P17]
    · intro j j0 j1; rw [hn, hA]; exact hd j j0 (by omega)
    · intro x x0 x1; rw [hn, hA]; exact hc x x0 x1
  · have hk := ho.2.1 k h0 h
    have hk' : yIk (yA m a) k := hA ▸ hk
    rw [zb_Program_link_46]
    by_cases c : yJp A k
    · have hx := hk.2.1 (by rcases c with c | c <;> omega)
      have hpx := hp _ hx.1 hx.2
      have hpl := yPl_rng (n := n) (A := A) (x := yX A k) h00
      have hcr := yCn_rng (fun j => yJp A j ∧ yX A j = yX A k) k.toNat
      obtain ⟨m', e1, e2, e3⟩ := ih (by omega) (by omega) (wI (wI m (a + 12) k (yPl n A (yX A k))) (a + 11) (yX A k) (m.1 (a + 11) (yX A k) + 1)) (by rw [wI_ne (by omega), wI_ne (by omega)]; exact hn) (by rw [yA_wI (by omega), yA_wI (by omega)]; exact hA) (fun x x0 x1 => by rw [wI_ne (by omega), wI_ne (by omega)]; exact hp x x0 x1) (fun j j0 j1 => by
        rw [wI_ne (by omega)]
        by_cases e : j = k
        · subst e; rw [wI_eq, yDs_j c]
        · rw [wI_ne (by omega)]; exact hd j j0 (by omega)) (fun x x0 x1 => by
        rw [yCn_suc h0]
        by_cases e : x = yX A k
        · subst e; rw [wI_eq, yD_T ⟨c, rfl⟩, hc _ x0 x1]
        · rw [wI_ne (by omega), wI_ne (by omega), yD_F (fun z => e z.2.symm), hc x x0 x1]; omega)
      refine ⟨m', ?_, yF_trans (yF_trans (yF_wI (.inr rfl)) (yF_wI (.inl rfl))) e2, e3⟩
      rw [← e1]
      simp (disch := first | assumption | omega) only [yS, yR_I, yR_L, yR_D, yR_A, yR_V, yR_xI, yR_xL, yR_xA, yR_xV, yR_m, yR_mx, yB_0, yB_1, yB_D, yB_c, yD_0, yc_0, yI_add, yI_sub, yI_mul, yI_0, yI_len, yI_ltT, yI_ltF, yI_eqT, yI_eqF, yC_eq, yC_lt, yC_gt, yI_64, yL_32, ↓reduceIte, eq_self, Nat.reduceLeDiff, Nat.le_refl, not_true_eq_false, not_false_eq_true, wI_eq, wI_ne, wL_eq, wL_ne, wI_2, wL_1, wL_2, yk_P, yg_P0, ykx_P0, yln_P0, yix_P0, yge_P0, ype_P0, yg_P1, ykx_P1, yln_P1, yix_P1, yge_P1, ype_P1, yg_P2, ykx_P2, yln_P2, yix_P2, yge_P2, ype_P2, yg_P3, ykx_P3, yln_P3, yix_P3, yge_P3, ype_P3, yg_P4, ykx_P4, yln_P4, yix_P4, yge_P4, ype_P4, yg_P5, ykx_P5, yln_P5, yix_P5, yge_P5, ype_P5, yg_P6, ykx_P6, yln_P6, yix_P6, yge_P6, ype_P6, yg_P7, ykx_P7, yln_P7, yix_P7, yge_P7, ype_P7, yg_P8, ykx_P8, yln_P8, yix_P8, yge_P8, ype_P8, yg_P9, ykx_P9, yln_P9, yix_P9, yge_P9, ype_P9, yg_P10, ykx_P10, yln_P10, yix_P10, yge_P10, ype_P10, yg_P11, ykx_P11, yln_P11, yix_P11, yge_P11, ype_P11, yg_P12, yp_P12, yg_P13, yp_P13, yg_P14, yp_P14, yg_P15, yp_P15, yg_P16, yp_P16, yg_P17, yp_P17, ys_targetAt, ys_isJump, hA, hn, c, zb_Program_link_73, zb_Program_link_86, hpx]
    · obtain ⟨m', e1, e2, e3⟩ := ih (by omega) (by omega) (wI m (a + 12) k n) (by rw [wI_ne (by omega)]; exact hn) (by rw [yA_wI (by omega)]; exact hA) (fun x x0 x1 => by rw [wI_ne (by omega)]; exact hp x x0 x1) (fun j j0 j1 => by
        by_cases e : j = k
        · subst e; rw [wI_eq, yDs_n c]
        · rw [wI_ne (by omega)]; exact hd j j0 (by omega)) (fun x x0 x1 => by
        rw [yCn_suc h0, yD_F (fun z => c z.1), wI_ne (by omega), hc x x0 x1]; omega)
      refine ⟨m', ?_, yF_trans (yF_wI (.inr rfl)) e2, e3⟩
      rw [← e1]
      simp (disch := first | assumption | omega) only [yS, yR_I, yR_L, yR_D, yR_A, yR_V, yR_xI, yR_xL, yR_xA, yR_xV, yR_m, yR_mx, yB_0, yB_1, yB_D, yB_c, yD_0, yc_0, yI_add, yI_sub, yI_mul, yI_0, yI_len, yI_ltT, yI_ltF, yI_eqT, yI_eqF, yC_eq, yC_lt, yC_gt, yI_64, yL_32, ↓reduceIte, eq_self, Nat.reduceLeDiff, Nat.le_refl, not_true_eq_false, not_false_eq_true, wI_eq, wI_ne, wL_eq, wL_ne, wI_2, wL_1, wL_2, yk_P, yg_P0, ykx_P0, yln_P0, yix_P0, yge_P0, ype_P0, yg_P1, ykx_P1, yln_P1, yix_P1, yge_P1, ype_P1, yg_P2, ykx_P2, yln_P2, yix_P2, yge_P2, ype_P2, yg_P3, ykx_P3, yln_P3, yix_P3, yge_P3, ype_P3, yg_P4, ykx_P4, yln_P4, yix_P4, yge_P4, ype_P4, yg_P5, ykx_P5, yln_P5, yix_P5, yge_P5, ype_P5, yg_P6, ykx_P6, yln_P6, yix_P6, yge_P6, ype_P6, yg_P7, ykx_P7, yln_P7, yix_P7, yge_P7, ype_P7, yg_P8, ykx_P8, yln_P8, yix_P8, yge_P8, ype_P8, yg_P9, ykx_P9, yln_P9, yix_P9, yge_P9, ype_P9, yg_P10, ykx_P10, yln_P10, yix_P10, yge_P10, ype_P10, yg_P11, ykx_P11, yln_P11, yix_P11, yge_P11, ype_P11, yg_P12, yp_P12, yg_P13, yp_P13, yg_P14, yp_P14, yg_P15, yp_P15, yg_P16, yp_P16, yg_P17, yp_P17, ys_targetAt, ys_isJump, hA, hn, c, zb_Program_link_73, zb_Program_link_86]
theorem ys_link (q : yP a) (ho : yOk (m.1 a 12) (yA m a)) : ∃ m', zCall zCode kProgram_link [.ref a] (zMk m) = some (.inl (none, zMk m')) ∧ yF (yFL a) m m' ∧ yLk m' a := by
  obtain ⟨m1, e1, f1, g1⟩ := ys_link_2 (a := a) q 0 (by omega) (by omega) m (fun y y0 y1 => by omega)
  have n1 : m1.1 a 12 = m.1 a 12 := (f1.1 a 12 (by unfold yFL; omega)).1
  have A1 : yA m1 a = yA m a := yF_A f1 (by unfold yFL; omega)
  obtain ⟨m2, e2, f2, g2⟩ := ys_link_20 (a := a) q ho 0 (by omega) ho.1.1 m1 n1 A1 (fun x x0 x1 => ⟨fun j j0 j1 => by omega, fun _ => by rw [(g1 x x0 x1).1, n1]⟩)
  have n2 : m2.1 a 12 = m.1 a 12 := ((f2.1 a 12 (by omega)).1).trans n1
  have A2 : yA m2 a = yA m a := (yF_A f2 (by omega)).trans A1
  obtain ⟨m3, e3, f3, g3⟩ := ys_link_46 (a := a) q ho 0 (by omega) ho.1.1 m2 n2 A2 g2 (fun j j0 j1 => by omega) (fun x x0 x1 => by rw [(f2.1 (a + 11) x (by omega)).1, (g1 x x0 x1).2]; rfl)
  refine ⟨m3, by rw [za_Program_link, zb_Program_link_0, e1, e2, e3], yF_trans f1 (yF_trans (yF_mono f2 (by unfold yFL; omega)) (yF_mono f3 (by unfold yFL; omega))), g3⟩
end YPROGW
