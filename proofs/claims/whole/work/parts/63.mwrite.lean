/-! The model's program: what writes. -/
section YMWRITE
variable {m : zQ} {t : Nat} {n k x : Int} {B : yPr}
/-- a cell made behind all others -/
def yPu (m : zQ) (w : Nat) (c : zC) : zQ := (m.1, m.2.1, (fun a => if a = 237 + m.2.2.2.1 then c else m.2.2.1 a), m.2.2.2.1 + 1, m.2.2.2.2 + w)
theorem yPu_mk (w : Nat) (c : zC) : zPush (zMk m) w c = zMk (yPu m w c) := by
  unfold zPush zMk yPu
  refine Prod.ext (by show _ = _; simp only []; omega) (Prod.ext rfl (funext fun a => ?_))
  show (if a = 237 + m.2.2.2.1 then c else if a < 237 then zCel m.1 m.2.1 a else m.2.2.1 a) = (if a < 237 then zCel m.1 m.2.1 a else if a = 237 + m.2.2.2.1 then c else m.2.2.1 a)
  by_cases h : a = 237 + m.2.2.2.1
  · subst h
    rw [if_pos rfl, if_neg (by omega), if_pos rfl]
  · rw [if_neg h, if_neg h]
theorem yPu_n : (zMk m).1 = 237 + m.2.2.2.1 := rfl
theorem yPu_1 (w : Nat) (c : zC) : (yPu m w c).1 = m.1 := rfl
theorem yPu_2 (w : Nat) (c : zC) : (yPu m w c).2.1 = m.2.1 := rfl
theorem yPu_c (w : Nat) (c : zC) : (zMk (yPu m w c)).2.2 (237 + m.2.2.2.1) = c := by
  show (if 237 + m.2.2.2.1 < 237 then _ else if 237 + m.2.2.2.1 = 237 + m.2.2.2.1 then c else _) = c
  rw [if_neg (by omega), if_pos rfl]
theorem yPu_ix {w kd : Nat} {l : List Value} {j : Int} (h0 : 0 ≤ j) (h1 : j < l.length) (h2 : l.length < 2147483648) : zIx (zMk (yPu m w (kd, l))) (237 + m.2.2.2.1) kd (zi j) = some j.toNat := by
  have e1 : ¬ (zi j < 0) := by
    show ¬ (zi j < zi 0)
    rw [yI_ltF (by omega) h0 (by omega)]; exact id
  have e2 : (zi j).toNatClampNeg = j.toNat := by
    rw [Int32.toNatClampNeg, yI_to (by omega) (by omega)]
  unfold zIx
  rw [yPu_c, e2]
  have e3 : ¬ (zi j < 0 ∨ l.length ≤ j.toNat) := fun q => q.elim e1 (by omega)
  rw [if_pos ⟨rfl, e3⟩]
theorem yPu_put {w kd j : Nat} {l : List Value} {v : Value} (h : j < l.length) : zPut (zMk (yPu m w (kd, l))) (237 + m.2.2.2.1) kd j v = some (zMk (yPu m w (kd, l.set j v))) := by
  unfold zPut
  rw [yPu_c, if_pos ⟨rfl, h⟩]
  refine congrArg some ?_
  unfold zSet zMk yPu
  refine Prod.ext rfl (Prod.ext rfl (funext fun a => ?_))
  show (if a = 237 + m.2.2.2.1 then (kd, l.set j v) else if a < 237 then zCel m.1 m.2.1 a else if a = 237 + m.2.2.2.1 then (kd, l) else m.2.2.1 a) = (if a < 237 then zCel m.1 m.2.1 a else if a = 237 + m.2.2.2.1 then (kd, l.set j v) else m.2.2.1 a)
  by_cases e : a = 237 + m.2.2.2.1
  · have e2 : ¬ a < 237 := by omega
    rw [if_pos e, if_neg e2, if_pos e]
  · rw [if_neg e, if_neg e, if_neg e]
/-- a copy into a row of longs, out of a list -/
def yCp (m : zQ) (d : Nat) (dp len : Int) (src : Int → Int64) : zQ := (m.1, fun b k => if b = d ∧ dp ≤ k ∧ k < dp + len then src (k - dp) else m.2.1 b k, m.2.2)
theorem yCopy_get (src dst : List Value) (sp dp n j : Nat) (h1 : sp + n ≤ src.length) (h2 : dp + n ≤ dst.length) : (zCopy src dst sp dp n)[j]? = if dp ≤ j ∧ j < dp + n then src[sp + (j - dp)]? else dst[j]? := by
  unfold zCopy
  by_cases a : j < dp
  · rw [List.append_assoc, List.getElem?_append_left (by simp; omega), if_neg (by omega), List.getElem?_take_of_lt a]
  · by_cases b : j < dp + n
    · rw [if_pos ⟨by omega, b⟩, List.append_assoc, List.getElem?_append_right (by simp; omega), List.getElem?_append_left (by simp; omega)]
      simp only [List.length_take]
      rw [List.getElem?_take_of_lt (by omega), List.getElem?_drop, Nat.min_eq_left (by omega)]
    · rw [if_neg (by omega), List.append_assoc, List.getElem?_append_right (by simp; omega), List.getElem?_append_right (by simp; omega)]
      simp only [List.length_take, List.length_drop]
      rw [List.getElem?_drop]
      congr 1
      omega
theorem yCopy_len (src dst : List Value) (sp dp n : Nat) (h1 : sp + n ≤ src.length) (h2 : dp + n ≤ dst.length) : (zCopy src dst sp dp n).length = dst.length := by
  unfold zCopy
  simp only [List.length_append, List.length_take, List.length_drop]
  omega
theorem yClamp {j : Int} (h0 : 0 ≤ j) (h1 : j ≤ 2147483647) : (zi j).toNatClampNeg = j.toNat := by
  rw [Int32.toNatClampNeg, yI_to (by omega) h1]
theorem yNeg {j : Int} (h0 : 0 ≤ j) (h1 : j ≤ 2147483647) : ¬ (zi j < 0) := by
  show ¬ (zi j < zi 0)
  rw [yI_ltF (by omega) h0 h1]; exact id
theorem yACopy {s d nd : Nat} {sp dp len : Int} {ls : List Value} (hd : zOA d 101 nd 1 = true) (hs : (zMk m).2.2 s = (101, ls)) (hl : ∀ j : Nat, j < ls.length → ∃ y, ls[j]? = some (.long y)) (src : Int → Int64) (hsrc : ∀ j : Nat, j < len → ls[sp.toNat + j]? = some (.long (src j))) (h0 : 0 ≤ sp) (h1 : 0 ≤ dp) (h2 : 0 ≤ len) (h3 : sp + len ≤ ls.length) (h4 : dp + len ≤ nd) (h5 : ls.length ≤ 2000) : zACopy (zMk m) s (zi sp) d (zi dp) (zi len) = some (zMk (yCp m d dp len src)) := by
  obtain ⟨a1, a2, a3, a4, a5, a6, a7⟩ := zOA_of hd
  have kd : (zMk m).2.2 d = (101, (List.range nd).map (zVal m.1 m.2.1 d)) := by
    rw [zMk_c a1]; unfold zCel; rw [a3, a5]
  have vd : ∀ j, zVal m.1 m.2.1 d j = .long (m.2.1 d j) := fun j => by simp only [zVal, a4]
  unfold zACopy
  rw [hs, kd, yClamp h0 (by omega), yClamp h1 (by omega), yClamp h2 (by omega)]
  have hall : (ls.all fun v => zTy (101 - 100) v) = true := by
    rw [List.all_eq_true]
    intro v hv
    obtain ⟨j, hj⟩ := List.mem_iff_getElem?.mp hv
    have hlt : j < ls.length := by
      rcases Nat.lt_or_ge j ls.length with q | q
      · exact q
      · rw [List.getElem?_eq_none q] at hj; cases hj
    obtain ⟨y, hy⟩ := hl j hlt
    rw [hj] at hy
    cases hy
    rfl
  rw [if_pos ⟨rfl, .inr rfl, hall, yNeg h0 (by omega), yNeg h1 (by omega), yNeg h2 (by omega), by show sp.toNat + len.toNat ≤ ls.length; omega, by simp; omega⟩]
  refine congrArg some ?_
  unfold zSet yCp
  refine Prod.ext rfl (Prod.ext rfl (funext fun b => ?_))
  show zUpd (zMk m).2.2 d _ b = _
  unfold zUpd
  by_cases e : b = d
  · subst e
    rw [if_pos rfl, zMk_c a1]
    unfold zCel
    rw [a3, a5]
    refine Prod.ext rfl (List.ext_getElem? fun j => ?_)
    show (zCopy ls ((List.range nd).map (zVal m.1 m.2.1 b)) sp.toNat dp.toNat len.toNat)[j]? = _
    rw [yCopy_get _ _ _ _ _ _ (by omega) (by simp; omega)]
    by_cases c : dp.toNat ≤ j ∧ j < dp.toNat + len.toNat
    · rw [if_pos c, hsrc (j - dp.toNat) (by omega), List.getElem?_map, List.getElem?_range (by omega)]
      simp only [Option.map_some, zVal, a4]
      rw [if_pos ⟨trivial, by omega, by omega⟩, show ((j - dp.toNat : Nat) : Int) = (j : Int) - dp by omega]
    · rw [if_neg c, List.getElem?_map, List.getElem?_map]
      by_cases c2 : j < nd
      · rw [List.getElem?_range c2]
        simp only [Option.map_some, zVal, a4]
        rw [if_neg (by omega)]
      · rw [List.getElem?_eq_none (by simp; omega)]; rfl
  · rw [if_neg e]
    unfold zMk
    show (if b < 237 then _ else _) = (if b < 237 then _ else _)
    split
    · unfold zCel
      refine Prod.ext rfl (List.ext_getElem? fun j => ?_)
      simp only [List.getElem?_map]
      rw [show zVal m.1 m.2.1 b = zVal m.1 (fun b k => if b = d ∧ dp ≤ k ∧ k < dp + len then src (k - dp) else m.2.1 b k) b from funext fun j => (zVal_oI rfl (if_neg fun z => e z.1)).symm]
    · rfl
/-- a row out of another row (or itself) -/
theorem yACopyR {s d ns nd : Nat} {sp dp len : Int} (hs : zOA s 101 ns 1 = true) (hd : zOA d 101 nd 1 = true) (h0 : 0 ≤ sp) (h1 : 0 ≤ dp) (h2 : 0 ≤ len) (h3 : sp + len ≤ ns) (h4 : dp + len ≤ nd) : zACopy (zMk m) s (zi sp) d (zi dp) (zi len) = some (zMk (yCp m d dp len fun j => m.2.1 s (sp + j))) := by
  obtain ⟨a1, a2, a3, a4, a5, a6, a7⟩ := zOA_of hs
  have ks : (zMk m).2.2 s = (101, (List.range ns).map (zVal m.1 m.2.1 s)) := by
    rw [zMk_c a1]; unfold zCel; rw [a3, a5]
  refine yACopy hd ks (fun j hj => ?_) _ (fun j hj => ?_) h0 h1 h2 (by simp; omega) h4 (by simp; omega)
  · simp only [List.length_map, List.length_range] at hj
    refine ⟨m.2.1 s j, ?_⟩
    rw [List.getElem?_map, List.getElem?_range hj]
    simp only [Option.map_some, zVal, a4]
  · rw [List.getElem?_map, List.getElem?_range (by omega)]
    simp only [Option.map_some, zVal, a4]
    rw [show ((sp.toNat + j : Nat) : Int) = sp + j by omega]
/-- what changed lies in S; at most u cells more -/
def yG (S : Nat → Int → Prop) (u : Nat) (m m' : zQ) : Prop := (∀ b k, ¬ S b k → m'.1 b k = m.1 b k ∧ m'.2.1 b k = m.2.1 b k) ∧ m'.2.2.2.1 ≤ m.2.2.2.1 + u ∧ m'.2.2.2.2 ≤ m.2.2.2.2 + 8 * u
theorem yG_of {S : Nat → Int → Prop} {m m' : zQ} (h : yF S m m') : yG S 0 m m' := ⟨h.1, by rw [h.2]; omega, by rw [h.2]; omega⟩
theorem yG_refl (S : Nat → Int → Prop) (m : zQ) : yG S 0 m m := yG_of (yF_refl S m)
theorem yG_trans {S : Nat → Int → Prop} {u v : Nat} {m m' m'' : zQ} (h1 : yG S u m m') (h2 : yG S v m' m'') : yG S (u + v) m m'' :=
  ⟨fun b k z => ⟨(h2.1 b k z).1.trans (h1.1 b k z).1, (h2.1 b k z).2.trans (h1.1 b k z).2⟩, by have := h1.2.1; have := h2.2.1; omega, by have := h1.2.2; have := h2.2.2; omega⟩
theorem yG_mono {S T : Nat → Int → Prop} {u v : Nat} {m m' : zQ} (h1 : yG S u m m') (h : ∀ b k, S b k → T b k) (huv : u ≤ v) : yG T v m m' := ⟨fun b k z => h1.1 b k fun y => z (h b k y), by have := h1.2.1; omega, by have := h1.2.2; omega⟩
theorem yMn_G {m' : zQ} {S : Nat → Int → Prop} {u : Nat} (h : yMn m t n B) (hF : yG S u m m') (h1 : ∀ b k, ((b = 202 ∧ k = 3) ∨ b = t) → ¬ S b k) : yMn m' t n B := by
  obtain ⟨a1, a2, a3, a4⟩ := h
  have e : m'.2.1 t = m.2.1 t := funext fun k => (hF.1 t k (h1 _ _ (.inr rfl))).2
  refine ⟨by rw [(hF.1 202 3 (h1 _ _ (.inl ⟨rfl, rfl⟩))).1]; exact a1, a2, by rw [e]; exact a3, ?_⟩
  rw [← a4]
  unfold yM
  rw [e]
/-- set(): a field of an instruction -/
theorem ym_set {w : Int} {y : Int64} (h : yMn m t n B) (k0 : 0 ≤ k) (k1 : k ≤ 80) (w0 : 0 ≤ w) (w1 : w < 7) : zCall zCode kModel_set [.ref 202, .int (zi k), .int (zi w), .long (y)] (zMk m) = some (.inl (none, zMk (wL m t (3 + 7 * k + w) y))) := by
  obtain ⟨h1, ⟨h2, h3⟩, h4, h5⟩ := h
  rw [za_Model_set, zb_Model_set_0]
  ((repeat (first | (refine yst_T ?_ ?_; focus (simp (disch := first | assumption | omega) only [yS, yR_I, yR_L, yR_D, yR_A, yR_V, yR_xI, yR_xL, yR_xA, yR_xV, yR_m, yR_mx, yB_0, yB_1, yB_D, yB_c, yD_0, yc_0, yI_add, yI_sub, yI_mul, yI_0, yI_len, yI_ltT, yI_ltF, yI_eqT, yI_eqF, yC_eq, yC_lt, yC_gt, yI_64, yL_32, ↓reduceIte, eq_self, Nat.reduceLeDiff, Nat.le_refl, not_true_eq_false, not_false_eq_true, wI_eq, wI_ne, wL_eq, wL_ne, wI_2, wL_1, wL_2, yg_Md3, h1, yix_T, ype_T]; done)) | (refine yst_F ?_ ?_; focus (simp (disch := first | assumption | omega) only [yS, yR_I, yR_L, yR_D, yR_A, yR_V, yR_xI, yR_xL, yR_xA, yR_xV, yR_m, yR_mx, yB_0, yB_1, yB_D, yB_c, yD_0, yc_0, yI_add, yI_sub, yI_mul, yI_0, yI_len, yI_ltT, yI_ltF, yI_eqT, yI_eqF, yC_eq, yC_lt, yC_gt, yI_64, yL_32, ↓reduceIte, eq_self, Nat.reduceLeDiff, Nat.le_refl, not_true_eq_false, not_false_eq_true, wI_eq, wI_ne, wL_eq, wL_ne, wI_2, wL_1, wL_2, yg_Md3, h1, yix_T, ype_T]; done)) | (apply yst_I; focus (simp (disch := first | assumption | omega) only [yS, yR_I, yR_L, yR_D, yR_A, yR_V, yR_xI, yR_xL, yR_xA, yR_xV, yR_m, yR_mx, yB_0, yB_1, yB_D, yB_c, yD_0, yc_0, yI_add, yI_sub, yI_mul, yI_0, yI_len, yI_ltT, yI_ltF, yI_eqT, yI_eqF, yC_eq, yC_lt, yC_gt, yI_64, yL_32, ↓reduceIte, eq_self, Nat.reduceLeDiff, Nat.le_refl, not_true_eq_false, not_false_eq_true, wI_eq, wI_ne, wL_eq, wL_ne, wI_2, wL_1, wL_2, yg_Md3, h1, yix_T, ype_T] <;> rfl)) | (apply yst_V; focus (simp (disch := first | assumption | omega) only [yS, yR_I, yR_L, yR_D, yR_A, yR_V, yR_xI, yR_xL, yR_xA, yR_xV, yR_m, yR_mx, yB_0, yB_1, yB_D, yB_c, yD_0, yc_0, yI_add, yI_sub, yI_mul, yI_0, yI_len, yI_ltT, yI_ltF, yI_eqT, yI_eqF, yC_eq, yC_lt, yC_gt, yI_64, yL_32, ↓reduceIte, eq_self, Nat.reduceLeDiff, Nat.le_refl, not_true_eq_false, not_false_eq_true, wI_eq, wI_ne, wL_eq, wL_ne, wI_2, wL_1, wL_2, yg_Md3, h1, yix_T, ype_T] <;> rfl)) | (apply yst_L; focus (simp (disch := first | assumption | omega) only [yS, yR_I, yR_L, yR_D, yR_A, yR_V, yR_xI, yR_xL, yR_xA, yR_xV, yR_m, yR_mx, yB_0, yB_1, yB_D, yB_c, yD_0, yc_0, yI_add, yI_sub, yI_mul, yI_0, yI_len, yI_ltT, yI_ltF, yI_eqT, yI_eqF, yC_eq, yC_lt, yC_gt, yI_64, yL_32, ↓reduceIte, eq_self, Nat.reduceLeDiff, Nat.le_refl, not_true_eq_false, not_false_eq_true, wI_eq, wI_ne, wL_eq, wL_ne, wI_2, wL_1, wL_2, yg_Md3, h1, yix_T, ype_T] <;> rfl)) | (apply yst_A; focus (simp (disch := first | assumption | omega) only [yS, yR_I, yR_L, yR_D, yR_A, yR_V, yR_xI, yR_xL, yR_xA, yR_xV, yR_m, yR_mx, yB_0, yB_1, yB_D, yB_c, yD_0, yc_0, yI_add, yI_sub, yI_mul, yI_0, yI_len, yI_ltT, yI_ltF, yI_eqT, yI_eqF, yC_eq, yC_lt, yC_gt, yI_64, yL_32, ↓reduceIte, eq_self, Nat.reduceLeDiff, Nat.le_refl, not_true_eq_false, not_false_eq_true, wI_eq, wI_ne, wL_eq, wL_ne, wI_2, wL_1, wL_2, yg_Md3, h1, yix_T, ype_T] <;> rfl)) | (apply yst_b; focus (simp (disch := first | assumption | omega) only [yS, yR_I, yR_L, yR_D, yR_A, yR_V, yR_xI, yR_xL, yR_xA, yR_xV, yR_m, yR_mx, yB_0, yB_1, yB_D, yB_c, yD_0, yc_0, yI_add, yI_sub, yI_mul, yI_0, yI_len, yI_ltT, yI_ltF, yI_eqT, yI_eqF, yC_eq, yC_lt, yC_gt, yI_64, yL_32, ↓reduceIte, eq_self, Nat.reduceLeDiff, Nat.le_refl, not_true_eq_false, not_false_eq_true, wI_eq, wI_ne, wL_eq, wL_ne, wI_2, wL_1, wL_2, yg_Md3, h1, yix_T, ype_T] <;> rfl)))); (first | with_reducible rfl | simp (disch := first | assumption | omega) only [yS, yR_I, yR_L, yR_D, yR_A, yR_V, yR_xI, yR_xL, yR_xA, yR_xV, yR_m, yR_mx, yB_0, yB_1, yB_D, yB_c, yD_0, yc_0, yI_add, yI_sub, yI_mul, yI_0, yI_len, yI_ltT, yI_ltF, yI_eqT, yI_eqF, yC_eq, yC_lt, yC_gt, yI_64, yL_32, ↓reduceIte, eq_self, Nat.reduceLeDiff, Nat.le_refl, not_true_eq_false, not_false_eq_true, wI_eq, wI_ne, wL_eq, wL_ne, wI_2, wL_1, wL_2, yg_Md3, h1, yix_T, ype_T] | skip))
theorem yL32 {v : Int} (h1 : -2147483648 ≤ v) (h2 : v ≤ 2147483647) : (zl v).toInt32.toInt = v := by
  rw [yL_32, yI_to h1 h2]
theorem yM_wL {j : Int} {y : Int64} (hj : j ≠ k) (w : Int) (w0 : 0 ≤ w) (w1 : w < 7) : yM (wL m t (3 + 7 * k + w) y) t j = yM m t j := by
  unfold yM
  rw [wL_ne (by omega), wL_ne (by omega), wL_ne (by omega), wL_ne (by omega), wL_ne (by omega), wL_ne (by omega), wL_ne (by omega)]
theorem yM_set3 {v : Int} (h1 : -2147483648 ≤ v) (h2 : v ≤ 2147483647) : yM (wL m t (3 + 7 * k + 3) (zl v)) t = yUpA (yM m t) k ((yM m t k).1, (yM m t k).2.1, (yM m t k).2.2.1, v, (yM m t k).2.2.2.2) := funext fun j => by
  by_cases e : j = k
  · subst e
    rw [yUpA_eq]
    unfold yM
    rw [wL_ne (by omega), wL_ne (by omega), wL_ne (by omega), wL_eq, wL_ne (by omega), wL_ne (by omega), wL_ne (by omega), yL32 h1 h2]
  · rw [yUpA_ne e, yM_wL e 3 (by omega) (by omega)]
theorem yM_set4 {v : Int} (h1 : -2147483648 ≤ v) (h2 : v ≤ 2147483647) : yM (wL m t (3 + 7 * k + 4) (zl v)) t = yUpA (yM m t) k ((yM m t k).1, (yM m t k).2.1, (yM m t k).2.2.1, (yM m t k).2.2.2.1, v, (yM m t k).2.2.2.2.2) := funext fun j => by
  by_cases e : j = k
  · subst e
    rw [yUpA_eq]
    unfold yM
    rw [wL_ne (by omega), wL_ne (by omega), wL_ne (by omega), wL_ne (by omega), wL_eq, wL_ne (by omega), wL_ne (by omega), yL32 h1 h2]
  · rw [yUpA_ne e, yM_wL e 4 (by omega) (by omega)]
theorem yM_set5 {y : Int64} : yM (wL m t (3 + 7 * k + 5) y) t = yUpA (yM m t) k ((yM m t k).1, (yM m t k).2.1, (yM m t k).2.2.1, (yM m t k).2.2.2.1, (yM m t k).2.2.2.2.1, y, (yM m t k).2.2.2.2.2.2) := funext fun j => by
  by_cases e : j = k
  · subst e
    rw [yUpA_eq]
    unfold yM
    rw [wL_ne (by omega), wL_ne (by omega), wL_ne (by omega), wL_ne (by omega), wL_ne (by omega), wL_eq, wL_ne (by omega)]
  · rw [yUpA_ne e, yM_wL e 5 (by omega) (by omega)]
theorem yM_set6 {y : Int64} : yM (wL m t (3 + 7 * k + 6) y) t = yUpA (yM m t) k ((yM m t k).1, (yM m t k).2.1, (yM m t k).2.2.1, (yM m t k).2.2.2.1, (yM m t k).2.2.2.2.1, (yM m t k).2.2.2.2.2.1, y) := funext fun j => by
  by_cases e : j = k
  · subst e
    rw [yUpA_eq]
    unfold yM
    rw [wL_ne (by omega), wL_ne (by omega), wL_ne (by omega), wL_ne (by omega), wL_ne (by omega), wL_ne (by omega), wL_eq]
  · rw [yUpA_ne e, yM_wL e 6 (by omega) (by omega)]
theorem yMn_set {w : Int} {y : Int64} {c : yIns} (h : yMn m t n B) (k0 : 0 ≤ k) (w0 : 0 ≤ w) (e : yM (wL m t (3 + 7 * k + w) y) t = yUpA (yM m t) k c) : yMn (wL m t (3 + 7 * k + w) y) t n (yUpA B k c) := by
  obtain ⟨h1, h2, h4, h5⟩ := h
  refine ⟨h1, h2, by rw [wL_ne (by omega)]; exact h4, by rw [e, h5]⟩
/-- the row of an instruction that is laid -/
def yLyR (s x o : Int) (j : Int) : Int64 := if j = 0 then zl s else if j = 1 then zl x else if j = 2 then zl o else if j = 3 then zl (-1) else if j = 4 then zl (-1) else zl 0
theorem ym_lay {s o : Int} (h : yMn m t n B) (k0 : 0 ≤ k) (k1 : k ≤ 80) (s1 : -2147483648 ≤ s) (s2 : s ≤ 2147483647) (x1 : -2147483648 ≤ x) (x2 : x ≤ 2147483647) (o1 : -2147483648 ≤ o) (o2 : o ≤ 2147483647) : ∃ m', zCall zCode kModel_lay [.ref 202, .int (zi k), .int (zi s), .int (zi x), .int (zi o)] (zMk m) = some (.inl (none, zMk m')) ∧ yMn m' t n (yUpA B k (s, x, o, -1, -1, zl 0, zl 0)) ∧ yG (fun b j => b = t ∧ 3 ≤ j) 1 m m' ∧ m'.1 = m.1 := by
  obtain ⟨h1, ⟨h2, h3⟩, h4, h5⟩ := h
  have oa := yT_oa h2 h3
  refine ⟨yCp (yPu m 7 (101, [.long (zl s), .long (zl x), .long (zl o), .long (zl (-1)), .long (zl (-1)), .long (zl 0), .long (zl 0)])) t (3 + 7 * k) 7 (yLyR s x o), ?_, ?_, ?_, rfl⟩
  · have cp := yACopy (m := yPu m 7 (101, [.long (zl s), .long (zl x), .long (zl o), .long (zl (-1)), .long (zl (-1)), .long (zl 0), .long (zl 0)])) (s := 237 + m.2.2.2.1) (sp := 0) (dp := 3 + 7 * k) (len := 7) oa (yPu_c _ _) (fun j hj => by
        have : j = 0 ∨ j = 1 ∨ j = 2 ∨ j = 3 ∨ j = 4 ∨ j = 5 ∨ j = 6 := by simp at hj; omega
        rcases this with rfl | rfl | rfl | rfl | rfl | rfl | rfl <;> exact ⟨_, rfl⟩) (yLyR s x o) (fun j hj => by
        have : j = 0 ∨ j = 1 ∨ j = 2 ∨ j = 3 ∨ j = 4 ∨ j = 5 ∨ j = 6 := by omega
        rcases this with rfl | rfl | rfl | rfl | rfl | rfl | rfl <;> rfl) (by omega) (by omega) (by omega) (by simp) (by omega) (by simp)
    have e7 : (zi 7).toNatClampNeg = 7 := by decide
    have c0 : ((zi 7 < 0 ∨ 65536 < (zi 7).toNatClampNeg) : Prop) = False := eq_false (by decide)
    have er : List.replicate 7 (Value.long 0) = [.long 0, .long 0, .long 0, .long 0, .long 0, .long 0, .long 0] := rfl
    rw [za_Model_lay, zb_Model_lay_0, if_neg (of_eq_false c0), e7, er, yPu_mk, yPu_n]
    have ll : ∀ a b c d e f g : Value, ([a, b, c, d, e, f, g] : List Value).length = 7 := fun _ _ _ _ _ _ _ => rfl
    have st0 : ∀ a b c d e f g v : Value, ([a, b, c, d, e, f, g] : List Value).set (0 : Int).toNat v = [v, b, c, d, e, f, g] := fun _ _ _ _ _ _ _ _ => rfl
    have st1 : ∀ a b c d e f g v : Value, ([a, b, c, d, e, f, g] : List Value).set (1 : Int).toNat v = [a, v, c, d, e, f, g] := fun _ _ _ _ _ _ _ _ => rfl
    have st2 : ∀ a b c d e f g v : Value, ([a, b, c, d, e, f, g] : List Value).set (2 : Int).toNat v = [a, b, v, d, e, f, g] := fun _ _ _ _ _ _ _ _ => rfl
    have st3 : ∀ a b c d e f g v : Value, ([a, b, c, d, e, f, g] : List Value).set (3 : Int).toNat v = [a, b, c, v, e, f, g] := fun _ _ _ _ _ _ _ _ => rfl
    have st4 : ∀ a b c d e f g v : Value, ([a, b, c, d, e, f, g] : List Value).set (4 : Int).toNat v = [a, b, c, d, v, f, g] := fun _ _ _ _ _ _ _ _ => rfl
    have st5 : ∀ a b c d e f g v : Value, ([a, b, c, d, e, f, g] : List Value).set (5 : Int).toNat v = [a, b, c, d, e, v, g] := fun _ _ _ _ _ _ _ _ => rfl
    have st6 : ∀ a b c d e f g v : Value, ([a, b, c, d, e, f, g] : List Value).set (6 : Int).toNat v = [a, b, c, d, e, f, v] := fun _ _ _ _ _ _ _ _ => rfl
    rw [yPu_ix (by omega) (by simp) (by simp), yS, yPu_put (by simp), yS, st0, yPu_ix (by omega) (by simp) (by simp), yS, yPu_put (by simp), yS, st1, yPu_ix (by omega) (by simp) (by simp), yS, yPu_put (by simp), yS, st2, yPu_ix (by omega) (by simp) (by simp), yS, yPu_put (by simp), yS, st3, yPu_ix (by omega) (by simp) (by simp), yS, yPu_put (by simp), yS, st4, yPu_ix (by omega) (by simp) (by simp), yS, yPu_put (by simp), yS, st5, yPu_ix (by omega) (by simp) (by simp), yS, yPu_put (by simp), yS, st6, yg_Md3, yS, yPu_1, h1, yI_mul, yI_add, yI_64 s1 s2, yI_64 x1 x2, yI_64 o1 o2, cp, yS]
  · refine ⟨h1, ⟨h2, h3⟩, ?_, funext fun j => ?_⟩
    · show (if t = t ∧ 3 + 7 * k ≤ 0 ∧ _ then _ else _) = _
      rw [if_neg (by omega)]; exact h4
    · have g : ∀ i, (yCp (yPu m 7 (101, [.long (zl s), .long (zl x), .long (zl o), .long (zl (-1)), .long (zl (-1)), .long (zl 0), .long (zl 0)])) t (3 + 7 * k) 7 (yLyR s x o)).2.1 t i = if 3 + 7 * k ≤ i ∧ i < 3 + 7 * k + 7 then yLyR s x o (i - (3 + 7 * k)) else m.2.1 t i := fun i => by
        show (if t = t ∧ 3 + 7 * k ≤ i ∧ i < 3 + 7 * k + 7 then yLyR s x o (i - (3 + 7 * k)) else m.2.1 t i) = _
        by_cases c : 3 + 7 * k ≤ i ∧ i < 3 + 7 * k + 7
        · rw [if_pos ⟨rfl, c⟩, if_pos c]
        · rw [if_neg (fun z => c z.2), if_neg c]
      unfold yM
      rw [g, g, g, g, g, g, g]
      by_cases e : j = k
      · subst e
        rw [yUpA_eq]
        rw [if_pos (by omega), if_pos (by omega), if_pos (by omega), if_pos (by omega), if_pos (by omega), if_pos (by omega), if_pos (by omega)]
        rw [show 3 + 7 * j - (3 + 7 * j) = 0 by omega, show 3 + 7 * j + 1 - (3 + 7 * j) = 1 by omega, show 3 + 7 * j + 2 - (3 + 7 * j) = 2 by omega, show 3 + 7 * j + 3 - (3 + 7 * j) = 3 by omega, show 3 + 7 * j + 4 - (3 + 7 * j) = 4 by omega, show 3 + 7 * j + 5 - (3 + 7 * j) = 5 by omega, show 3 + 7 * j + 6 - (3 + 7 * j) = 6 by omega]
        show ((zl s).toInt32.toInt, (zl x).toInt32.toInt, (zl o).toInt32.toInt, (zl (-1)).toInt32.toInt, (zl (-1)).toInt32.toInt, zl 0, zl 0) = _
        rw [yL32 s1 s2, yL32 x1 x2, yL32 o1 o2, yL32 (by omega) (by omega)]
      · rw [yUpA_ne e, ← h5]
        rw [if_neg (by omega), if_neg (by omega), if_neg (by omega), if_neg (by omega), if_neg (by omega), if_neg (by omega), if_neg (by omega)]
        rfl
  · refine ⟨fun b j z => ⟨rfl, ?_⟩, Nat.le_refl _, ?_⟩
    · show (if b = t ∧ 3 + 7 * k ≤ j ∧ _ then _ else m.2.1 b j) = _
      rw [if_neg (by omega)]
    · show m.2.2.2.2 + 7 ≤ m.2.2.2.2 + 8 * 1
      omega
/-- takeOut() -/
theorem ym_takeOut (h : yMn m t n B) (hn : n ≤ 80) (k0 : 0 ≤ k) (k1 : k < n) : ∃ m' B', zCall zCode kModel_takeOut [.ref 202, .int (zi k)] (zMk m) = some (.inl (none, zMk m')) ∧ yMn m' t (n - 1) B' ∧ yF (fun b j => b = t ∧ (j = 0 ∨ 3 ≤ j)) m m' ∧ m'.1 = m.1 ∧ (∀ j, 0 ≤ j → j < n - 1 → B' j = if j < k then B j else B (j + 1)) := by
  obtain ⟨h1, ⟨h2, h3⟩, h4, h5⟩ := h
  have oa := yT_oa h2 h3
  have hm := ym_many (m := wL m t 0 (zl (n - 1))) (n := n - 1) h2 h3 (wL_eq _ _ _ _)
  have cp := yACopyR (m := wL m t 0 (zl (n - 1))) (sp := 3 + 7 * (k + 1)) (dp := 3 + 7 * k) (len := 7 * (n - 1 - k)) oa oa (by omega) (by omega) (by omega) (by omega) (by omega)
  refine ⟨yCp (wL m t 0 (zl (n - 1))) t (3 + 7 * k) (7 * (n - 1 - k)) fun j => (wL m t 0 (zl (n - 1))).2.1 t (3 + 7 * (k + 1) + j), _, ?_, ⟨h1, ⟨h2, h3⟩, ?_, rfl⟩, ?_, rfl, ?_⟩
  · rw [za_Model_takeOut, zb_Model_takeOut_0]
    ((repeat (first | (refine yst_T ?_ ?_; focus (simp (disch := first | assumption | omega) only [yS, yR_I, yR_L, yR_D, yR_A, yR_V, yR_xI, yR_xL, yR_xA, yR_xV, yR_m, yR_mx, yB_0, yB_1, yB_D, yB_c, yD_0, yc_0, yI_add, yI_sub, yI_mul, yI_0, yI_len, yI_ltT, yI_ltF, yI_eqT, yI_eqF, yC_eq, yC_lt, yC_gt, yI_64, yL_32, ↓reduceIte, eq_self, Nat.reduceLeDiff, Nat.le_refl, not_true_eq_false, not_false_eq_true, wI_eq, wI_ne, wL_eq, wL_ne, wI_2, wL_1, wL_2, yg_Md3, h1, yix_T, yge_T, ype_T, h4, yL_sub, hm, cp]; done)) | (refine yst_F ?_ ?_; focus (simp (disch := first | assumption | omega) only [yS, yR_I, yR_L, yR_D, yR_A, yR_V, yR_xI, yR_xL, yR_xA, yR_xV, yR_m, yR_mx, yB_0, yB_1, yB_D, yB_c, yD_0, yc_0, yI_add, yI_sub, yI_mul, yI_0, yI_len, yI_ltT, yI_ltF, yI_eqT, yI_eqF, yC_eq, yC_lt, yC_gt, yI_64, yL_32, ↓reduceIte, eq_self, Nat.reduceLeDiff, Nat.le_refl, not_true_eq_false, not_false_eq_true, wI_eq, wI_ne, wL_eq, wL_ne, wI_2, wL_1, wL_2, yg_Md3, h1, yix_T, yge_T, ype_T, h4, yL_sub, hm, cp]; done)) | (apply yst_I; focus (simp (disch := first | assumption | omega) only [yS, yR_I, yR_L, yR_D, yR_A, yR_V, yR_xI, yR_xL, yR_xA, yR_xV, yR_m, yR_mx, yB_0, yB_1, yB_D, yB_c, yD_0, yc_0, yI_add, yI_sub, yI_mul, yI_0, yI_len, yI_ltT, yI_ltF, yI_eqT, yI_eqF, yC_eq, yC_lt, yC_gt, yI_64, yL_32, ↓reduceIte, eq_self, Nat.reduceLeDiff, Nat.le_refl, not_true_eq_false, not_false_eq_true, wI_eq, wI_ne, wL_eq, wL_ne, wI_2, wL_1, wL_2, yg_Md3, h1, yix_T, yge_T, ype_T, h4, yL_sub, hm, cp] <;> rfl)) | (apply yst_V; focus (simp (disch := first | assumption | omega) only [yS, yR_I, yR_L, yR_D, yR_A, yR_V, yR_xI, yR_xL, yR_xA, yR_xV, yR_m, yR_mx, yB_0, yB_1, yB_D, yB_c, yD_0, yc_0, yI_add, yI_sub, yI_mul, yI_0, yI_len, yI_ltT, yI_ltF, yI_eqT, yI_eqF, yC_eq, yC_lt, yC_gt, yI_64, yL_32, ↓reduceIte, eq_self, Nat.reduceLeDiff, Nat.le_refl, not_true_eq_false, not_false_eq_true, wI_eq, wI_ne, wL_eq, wL_ne, wI_2, wL_1, wL_2, yg_Md3, h1, yix_T, yge_T, ype_T, h4, yL_sub, hm, cp] <;> rfl)) | (apply yst_L; focus (simp (disch := first | assumption | omega) only [yS, yR_I, yR_L, yR_D, yR_A, yR_V, yR_xI, yR_xL, yR_xA, yR_xV, yR_m, yR_mx, yB_0, yB_1, yB_D, yB_c, yD_0, yc_0, yI_add, yI_sub, yI_mul, yI_0, yI_len, yI_ltT, yI_ltF, yI_eqT, yI_eqF, yC_eq, yC_lt, yC_gt, yI_64, yL_32, ↓reduceIte, eq_self, Nat.reduceLeDiff, Nat.le_refl, not_true_eq_false, not_false_eq_true, wI_eq, wI_ne, wL_eq, wL_ne, wI_2, wL_1, wL_2, yg_Md3, h1, yix_T, yge_T, ype_T, h4, yL_sub, hm, cp] <;> rfl)) | (apply yst_A; focus (simp (disch := first | assumption | omega) only [yS, yR_I, yR_L, yR_D, yR_A, yR_V, yR_xI, yR_xL, yR_xA, yR_xV, yR_m, yR_mx, yB_0, yB_1, yB_D, yB_c, yD_0, yc_0, yI_add, yI_sub, yI_mul, yI_0, yI_len, yI_ltT, yI_ltF, yI_eqT, yI_eqF, yC_eq, yC_lt, yC_gt, yI_64, yL_32, ↓reduceIte, eq_self, Nat.reduceLeDiff, Nat.le_refl, not_true_eq_false, not_false_eq_true, wI_eq, wI_ne, wL_eq, wL_ne, wI_2, wL_1, wL_2, yg_Md3, h1, yix_T, yge_T, ype_T, h4, yL_sub, hm, cp] <;> rfl)) | (apply yst_b; focus (simp (disch := first | assumption | omega) only [yS, yR_I, yR_L, yR_D, yR_A, yR_V, yR_xI, yR_xL, yR_xA, yR_xV, yR_m, yR_mx, yB_0, yB_1, yB_D, yB_c, yD_0, yc_0, yI_add, yI_sub, yI_mul, yI_0, yI_len, yI_ltT, yI_ltF, yI_eqT, yI_eqF, yC_eq, yC_lt, yC_gt, yI_64, yL_32, ↓reduceIte, eq_self, Nat.reduceLeDiff, Nat.le_refl, not_true_eq_false, not_false_eq_true, wI_eq, wI_ne, wL_eq, wL_ne, wI_2, wL_1, wL_2, yg_Md3, h1, yix_T, yge_T, ype_T, h4, yL_sub, hm, cp] <;> rfl)))); (first | with_reducible rfl | simp (disch := first | assumption | omega) only [yS, yR_I, yR_L, yR_D, yR_A, yR_V, yR_xI, yR_xL, yR_xA, yR_xV, yR_m, yR_mx, yB_0, yB_1, yB_D, yB_c, yD_0, yc_0, yI_add, yI_sub, yI_mul, yI_0, yI_len, yI_ltT, yI_ltF, yI_eqT, yI_eqF, yC_eq, yC_lt, yC_gt, yI_64, yL_32, ↓reduceIte, eq_self, Nat.reduceLeDiff, Nat.le_refl, not_true_eq_false, not_false_eq_true, wI_eq, wI_ne, wL_eq, wL_ne, wI_2, wL_1, wL_2, yg_Md3, h1, yix_T, yge_T, ype_T, h4, yL_sub, hm, cp] | skip))
  · show (if t = t ∧ 3 + 7 * k ≤ 0 ∧ _ then _ else _) = _
    rw [if_neg (by omega), wL_eq]
  · refine ⟨fun b j z => ⟨rfl, ?_⟩, rfl⟩
    show (if b = t ∧ 3 + 7 * k ≤ j ∧ _ then _ else (wL m t 0 (zl (n - 1))).2.1 b j) = _
    rw [if_neg (by omega), wL_ne (by omega)]
  · intro j j0 j1
    have g : ∀ i, 0 < i → (yCp (wL m t 0 (zl (n - 1))) t (3 + 7 * k) (7 * (n - 1 - k)) fun j => (wL m t 0 (zl (n - 1))).2.1 t (3 + 7 * (k + 1) + j)).2.1 t i = if 3 + 7 * k ≤ i ∧ i < 3 + 7 * k + 7 * (n - 1 - k) then m.2.1 t (i + 7) else m.2.1 t i := fun i hi => by
      show (if t = t ∧ 3 + 7 * k ≤ i ∧ i < 3 + 7 * k + 7 * (n - 1 - k) then (wL m t 0 (zl (n - 1))).2.1 t (3 + 7 * (k + 1) + (i - (3 + 7 * k))) else (wL m t 0 (zl (n - 1))).2.1 t i) = _
      by_cases c : 3 + 7 * k ≤ i ∧ i < 3 + 7 * k + 7 * (n - 1 - k)
      · rw [if_pos ⟨rfl, c⟩, if_pos c, wL_ne (by omega), show 3 + 7 * (k + 1) + (i - (3 + 7 * k)) = i + 7 by omega]
      · rw [if_neg (fun z => c z.2), if_neg c, wL_ne (by omega)]
    rw [← h5]
    show yM _ t j = _
    unfold yM
    rw [g _ (by omega), g _ (by omega), g _ (by omega), g _ (by omega), g _ (by omega), g _ (by omega), g _ (by omega)]
    by_cases c : j < k
    · rw [if_pos c, if_neg (by omega), if_neg (by omega), if_neg (by omega), if_neg (by omega), if_neg (by omega), if_neg (by omega), if_neg (by omega)]
    · rw [if_neg c, if_pos (by omega), if_pos (by omega), if_pos (by omega), if_pos (by omega), if_pos (by omega), if_pos (by omega), if_pos (by omega)]
      rw [show 3 + 7 * (j + 1) = 3 + 7 * j + 7 by omega, show 3 + 7 * j + 1 + 7 = 3 + 7 * j + 7 + 1 by omega, show 3 + 7 * j + 2 + 7 = 3 + 7 * j + 7 + 2 by omega, show 3 + 7 * j + 3 + 7 = 3 + 7 * j + 7 + 3 by omega, show 3 + 7 * j + 4 + 7 = 3 + 7 * j + 7 + 4 by omega, show 3 + 7 * j + 5 + 7 = 3 + 7 * j + 7 + 5 by omega, show 3 + 7 * j + 6 + 7 = 3 + 7 * j + 7 + 6 by omega]
end YMWRITE
