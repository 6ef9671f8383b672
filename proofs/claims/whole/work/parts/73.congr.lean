/-! What is meant by a program depends on its n instructions alone; what is idle. -/
section YCONGR
variable {n k i j x v : Int} {A B : yPr}
def yEq (n : Int) (A B : yPr) : Prop := ∀ k, 0 ≤ k → k < n → A k = B k
theorem yEq_symm (h : yEq n A B) : yEq n B A := fun k h0 h1 => (h k h0 h1).symm
theorem cSo (h : yEq n A B) (h0 : 0 ≤ k) (h1 : k < n) : ySo A k = ySo B k := by unfold ySo; rw [h k h0 h1]
theorem cX (h : yEq n A B) (h0 : 0 ≤ k) (h1 : k < n) : yX A k = yX B k := by unfold yX; rw [h k h0 h1]
theorem cJp (h : yEq n A B) (h0 : 0 ≤ k) (h1 : k < n) : yJp A k ↔ yJp B k := by unfold yJp; rw [cSo h h0 h1]
theorem cLb (h : yEq n A B) (h0 : 0 ≤ k) (h1 : k < n) : yLb A k x ↔ yLb B k x := by unfold yLb; rw [cSo h h0 h1, cX h h0 h1]
theorem cRd (h : yEq n A B) (h0 : 0 ≤ k) (h1 : k < n) : yRd A k v ↔ yRd B k v := by unfold yRd yV yW; rw [h k h0 h1]
theorem cAs (h : yEq n A B) (h0 : 0 ≤ k) (h1 : k < n) : yAs A k ↔ yAs B k := by unfold yAs; rw [cSo h h0 h1]
theorem cAg (h : yEq n A B) (h0 : 0 ≤ k) (h1 : k < n) : yAg A k v ↔ yAg B k v := by unfold yAg; rw [cAs h h0 h1, cX h h0 h1]
theorem cPl (h : yEq n A B) (h0 : 0 ≤ n) : yPl n A x = yPl n B x := by
  have key : ∀ P Q : Int → Prop, P = Q → @dite Int (∃ k, P k) (Classical.propDecidable _) (fun h => Classical.choose h) (fun _ => n) = @dite Int (∃ k, Q k) (Classical.propDecidable _) (fun h => Classical.choose h) (fun _ => n) := fun P Q e => by rw [e]
  exact key (fun k => 0 ≤ k ∧ k < n ∧ yLb A k x) (fun k => 0 ≤ k ∧ k < n ∧ yLb B k x) (funext fun k => propext ⟨fun z => ⟨z.1, z.2.1, (cLb h z.1 z.2.1).mp z.2.2⟩, fun z => ⟨z.1, z.2.1, (cLb h z.1 z.2.1).mpr z.2.2⟩⟩)
theorem cDs (h : yEq n A B) (h0 : 0 ≤ k) (h1 : k < n) : yDs n A k = yDs n B k := by
  by_cases c : yJp A k
  · rw [yDs_j c, yDs_j ((cJp h h0 h1).mp c), cX h h0 h1, cPl h (by omega)]
  · rw [yDs_n c, yDs_n (fun z => c ((cJp h h0 h1).mpr z))]
theorem cNx (h : yEq n A B) (h0 : 0 ≤ k) (h1 : k < n) : yNx n A k = yNx n B k := by
  have e := cSo h h0 h1
  by_cases c : ySo A k = 3 ∨ ySo A k = 7
  · rw [yNx_n c, yNx_n (by rw [← e]; exact c)]
  · rw [yNx_s c, yNx_s (by rw [← e]; exact c)]
theorem cCt (h : yEq n A B) (h0 : 0 ≤ n) : yCt n A x = yCt n B x := yCn_congr _ fun k k0 k1 => by
  rw [cJp h k0 (by omega), cX h k0 (by omega)]
theorem cSc {P : Int → Prop} (h : yEq n A B) (h0 : 0 ≤ k) (h1 : k < n) : ySc n A P k ↔ ySc n B P k := by
  unfold ySc; rw [cNx h h0 h1, cDs h h0 h1]
theorem cRe (h : yEq n A B) : yRe n A k ↔ yRe n B k := by
  have e : ∀ A B : yPr, yEq n A B → yRe n A k → yRe n B k := fun A B h z S c => z S ⟨c.1, fun k k0 k1 s => by
    rw [cNx h k0 k1, cDs h k0 k1]; exact c.2 k k0 k1 s⟩
  exact ⟨e A B h, e B A (yEq_symm h)⟩
theorem cLv (h : yEq n A B) : yLv n A k v ↔ yLv n B k v := by
  have e : ∀ A B : yPr, yEq n A B → yLv n A k v → yLv n B k v := fun A B h z S c => z S fun k k0 k1 v v0 v1 s => c k k0 k1 v v0 v1 ((cSc h k0 k1).mp (ySc_mono k0 k1 (fun t t0 t1 y => by
    rw [← cRd h t0 t1, ← cAg h t0 t1]; exact y) s))
  exact ⟨e A B h, e B A (yEq_symm h)⟩
theorem cLa (h : yEq n A B) (h0 : 0 ≤ k) (h1 : k < n) : yLa n A k v ↔ yLa n B k v := by
  unfold yLa; rw [cRd h h0 h1, cAg h h0 h1, cLv h]
theorem cIsL (h : yEq n A B) (i0 : 0 ≤ i) : yIsL n A i j ↔ yIsL n B i j := by
  have e : ∀ A B : yPr, yEq n A B → yIsL n A i j → yIsL n B i j := fun A B h z => by
    obtain ⟨z1, z2, z3, z4, z5, z6, z7⟩ := z
    have j0 : 0 ≤ j := by omega
    have i1 : i < n := by omega
    refine ⟨by rw [← cSo h i0 i1]; exact z1, z2, z3, (cJp h j0 z3).mp z4, by rw [← cX h j0 z3, ← cX h i0 i1]; exact z5, fun k k0 k1 k2 k3 => z6 k k0 k1 ((cJp h k0 k1).mpr k2) (by rw [cX h k0 k1, cX h i0 i1]; exact k3), fun k k0 k1 k2 k3 => by rw [← cDs h k0 k1]; exact z7 k k0 k1 k2 ((cJp h k0 k1).mpr k3)⟩
  exact ⟨e A B h, e B A (yEq_symm h)⟩
theorem cLe (h : yEq n A B) (i0 : 0 ≤ i) : yLe n A i = yLe n B i := by
  have key : ∀ P Q : Int → Prop, P = Q → @dite Int (∃ k, P k) (Classical.propDecidable _) (fun h => Classical.choose h) (fun _ => (-1 : Int)) = @dite Int (∃ k, Q k) (Classical.propDecidable _) (fun h => Classical.choose h) (fun _ => (-1 : Int)) := fun P Q e => by rw [e]
  exact key (fun j => yIsL n A i j) (fun j => yIsL n B i j) (funext fun j => propext (cIsL h i0))
theorem cPs (h : yEq n A B) : ∀ i, 0 ≤ i → yPs n A i = yPs n B i := by
  refine yInd n _ (fun i h1 h0 => by rw [yPs_e h1, yPs_e h1]) (fun i h1 ih h0 => ?_)
  have e := cSo h h0 h1
  by_cases c : ySo A i = 0
  · rw [yPs_s h1 c, yPs_s h1 (by rw [← e]; exact c)]; exact ih (by omega)
  · rw [yPs_h h1 c, yPs_h h1 (by rw [← e]; exact c)]
theorem cOk (h : yEq n A B) (o : yOk n A) : yOk n B := by
  refine ⟨o.1, fun k k0 k1 => yIk_of (by rw [← h k k0 k1]; exact yIc_of (o.2.1 k k0 k1)), fun j k j0 j1 k0 k1 => ?_, fun k k0 k1 kj => ?_⟩
  · rw [← cSo h j0 j1, ← cSo h k0 k1, ← cX h j0 j1, ← cX h k0 k1]; exact o.2.2.1 j k j0 j1 k0 k1
  · obtain ⟨j, j0, j1, j2⟩ := o.2.2.2 k k0 k1 ((cJp h k0 k1).mpr kj)
    exact ⟨j, j0, j1, by rw [← cX h k0 k1]; exact (cLb h j0 j1).mp j2⟩
/-- what the pass drop drops -/
def yId (n : Int) (A : yPr) (k : Int) : Prop := (ySo A k = 0 ∧ yCt n A (yX A k) = 0) ∨ (ySo A k ≠ 0 ∧ (¬ yRe n A k ∨ ((ySo A k = 1 ∨ ySo A k = 2) ∧ ¬ yLv n A k (yX A k)) ∨ (ySo A k = 3 ∧ k < yDs n A k ∧ yDs n A k < yPs n A (k + 1))))
theorem cId (h : yEq n A B) (h0 : 0 ≤ k) (h1 : k < n) : yId n A k ↔ yId n B k := by
  unfold yId
  rw [cSo h h0 h1, cX h h0 h1, cCt h (by omega), cRe h, cLv h, cDs h h0 h1, cPs h (k + 1) (by omega)]
/-- one instruction less -/
def yRv (A : yPr) (k : Int) : yPr := fun j => if j < k then A j else A (j + 1)
theorem yOk_rm (ho : yOk n A) (k0 : 0 ≤ k) (k1 : k < n) (hl : ySo A k = 0 → yCt n A (yX A k) = 0) (hB : yEq (n - 1) (yRv A k) B) : yOk (n - 1) B := by
  refine cOk hB ?_
  have key : ∀ p, 0 ≤ p → p < n - 1 → ∃ j, 0 ≤ j ∧ j < n ∧ j ≠ k ∧ yRv A k p = A j ∧ (j = if p < k then p else p + 1) := fun p p0 p1 => by
    unfold yRv
    by_cases c : p < k
    · exact ⟨p, p0, by omega, by omega, by rw [if_pos c], by rw [if_pos c]⟩
    · exact ⟨p + 1, by omega, by omega, by omega, by rw [if_neg c], by rw [if_neg c]⟩
  refine ⟨by have := ho.1; omega, fun p p0 p1 => ?_, fun p r p0 p1 r0 r1 s1 s2 s3 => ?_, fun p p0 p1 pj => ?_⟩
  · obtain ⟨j, j0, j1, j2, j3, j4⟩ := key p p0 p1
    exact yIk_of (by rw [j3]; exact yIc_of (ho.2.1 j j0 j1))
  · obtain ⟨j, j0, j1, j2, j3, j4⟩ := key p p0 p1
    obtain ⟨l, l0, l1, l2, l3, l4⟩ := key r r0 r1
    have e : j = l := ho.2.2.1 j l j0 j1 l0 l1 (by unfold ySo at s1 ⊢; rw [← j3]; exact s1) (by unfold ySo at s2 ⊢; rw [← l3]; exact s2) (by unfold yX at s3 ⊢; rw [← j3, ← l3]; exact s3)
    rw [j4, l4] at e
    split at e <;> split at e <;> omega
  · obtain ⟨j, j0, j1, j2, j3, j4⟩ := key p p0 p1
    have pj2 : yJp A j := by unfold yJp ySo at pj ⊢; rw [← j3]; exact pj
    obtain ⟨l, l0, l1, l2⟩ := ho.2.2.2 j j0 j1 pj2
    have lk : l ≠ k := fun e => by
      subst e
      have z := hl l2.1
      unfold yCt at z
      rw [yCn_0] at z
      exact z j j0 (by have := ho.1.1; omega) ⟨pj2, l2.2.symm⟩
    have xp : yX (yRv A k) p = yX A j := by unfold yX; rw [j3]
    rw [xp]
    by_cases c : l < k
    · refine ⟨l, l0, by omega, ?_⟩
      have e : yRv A k l = A l := if_pos c
      unfold yLb ySo yX at l2 ⊢; rw [e]; exact l2
    · refine ⟨l - 1, by omega, by omega, ?_⟩
      have e : yRv A k (l - 1) = A l := by unfold yRv; rw [if_neg (by omega)]; congr 1; omega
      unfold yLb ySo yX at l2 ⊢; rw [e]; exact l2
end YCONGR
