/-! What can be come to, what is live: the least sets; sums that bound the turns. -/
section YFLOW
def ySc (n : Int) (A : yPr) (P : Int → Prop) (k : Int) : Prop := (yNx n A k < n ∧ P (yNx n A k)) ∨ (yDs n A k < n ∧ P (yDs n A k))
theorem ySc_mono {n : Int} {A : yPr} {P Q : Int → Prop} {k : Int} (h0 : 0 ≤ k) (h1 : k < n) (h : ∀ t, 0 ≤ t → t < n → P t → Q t) (z : ySc n A P k) : ySc n A Q k := by
  have a := yNx_rng (A := A) h0 h1
  have b := yDs_rng (A := A) (k := k) (show 0 ≤ n by omega)
  rcases z with z | z
  · exact .inl ⟨z.1, h _ a.1 z.1 z.2⟩
  · exact .inr ⟨z.1, h _ b.1 z.1 z.2⟩
def yRc (n : Int) (A : yPr) (S : Int → Prop) : Prop := (0 < n → S 0) ∧ ∀ k, 0 ≤ k → k < n → S k → (yNx n A k < n → S (yNx n A k)) ∧ (yDs n A k < n → S (yDs n A k))
def yRe (n : Int) (A : yPr) (k : Int) : Prop := ∀ S : Int → Prop, yRc n A S → S k
theorem yRe_0 {n : Int} {A : yPr} (h : 0 < n) : yRe n A 0 := fun _ c => c.1 h
theorem yRe_nx {n : Int} {A : yPr} {k : Int} (h0 : 0 ≤ k) (h1 : k < n) (h : yRe n A k) (z : yNx n A k < n) : yRe n A (yNx n A k) := fun S c => (c.2 k h0 h1 (h S c)).1 z
theorem yRe_ds {n : Int} {A : yPr} {k : Int} (h0 : 0 ≤ k) (h1 : k < n) (h : yRe n A k) (z : yDs n A k < n) : yRe n A (yDs n A k) := fun S c => (c.2 k h0 h1 (h S c)).2 z
def yLc (n : Int) (A : yPr) (B : Int → Int → Prop) : Prop := ∀ k, 0 ≤ k → k < n → ∀ v, 0 ≤ v → v < 12 → ySc n A (fun t => yRd A t v ∨ (¬ yAg A t v ∧ B t v)) k → B k v
def yLv (n : Int) (A : yPr) (k v : Int) : Prop := ∀ B : Int → Int → Prop, yLc n A B → B k v
def yLa (n : Int) (A : yPr) (k v : Int) : Prop := yRd A k v ∨ (¬ yAg A k v ∧ yLv n A k v)
theorem yLv_step {n : Int} {A : yPr} {k v : Int} (h0 : 0 ≤ k) (h1 : k < n) (v0 : 0 ≤ v) (v1 : v < 12) (h : ySc n A (fun t => yLa n A t v) k) : yLv n A k v := fun B c => c k h0 h1 v v0 v1 (ySc_mono h0 h1 (fun t _ _ z => z.elim .inl fun y => .inr ⟨y.1, y.2 B c⟩) h)
theorem yLv_closed {n : Int} {A : yPr} {B : Int → Int → Prop} (hs : ∀ k, 0 ≤ k → k < n → ∀ v, 0 ≤ v → v < 12 → B k v → yLv n A k v) (hc : yLc n A B) {k v : Int} (h0 : 0 ≤ k) (h1 : k < n) (v0 : 0 ≤ v) (v1 : v < 12) : B k v ↔ yLv n A k v := ⟨hs k h0 h1 v v0 v1, fun h => h B hc⟩
/-- the bits of a mask -/
def yBt (x v : Int) : Prop := (zi x).toBitVec.getLsbD v.toNat = true
theorem yBt_Ms {P : Int → Prop} {v : Int} (h0 : 0 ≤ v) (h1 : v < 12) : yBt (yMs P) v ↔ P v := by
  unfold yBt
  rw [yMs_bits]
  have e : ((v.toNat : Nat) : Int) = v := by omega
  rw [e]
  have : v.toNat < 12 := by omega
  simp [this]
theorem yBt_wf (P : Int → Prop) : yMs (yBt (yMs P)) = yMs P := yMs_congr fun _ h0 h1 => yBt_Ms h0 h1
theorem yBt_0 {v : Int} (h0 : 0 ≤ v) (h1 : v < 12) : ¬ yBt 0 v := by
  rw [← yMs_0, yBt_Ms h0 h1]
  exact fun z => z
theorem yMs_mono {P Q : Int → Prop} (h : ∀ v, 0 ≤ v → v < 12 → P v → Q v) : yMs P ≤ yMs Q := by
  have e : yMs (fun v => P v ∨ Q v) = yMs Q := yMs_congr fun v h0 h1 => ⟨fun z => z.elim (h v h0 h1) id, .inr⟩
  have p := yMs_rng P
  have q := yMs_rng Q
  have e2 := yMs_or P Q
  rw [e] at e2
  have e3 : ∀ a b : Nat, a ≤ 4095 → b ≤ 4095 → zi (a : Int) ||| zi (b : Int) = zi (b : Int) → a ≤ b := by
    intro a b ha hb h
    have h1 := congrArg Int32.toBitVec h
    unfold zi at h1
    rw [Int32.toBitVec_or, Int32.ofInt_eq_ofNat, Int32.ofInt_eq_ofNat, Int32.toBitVec_ofNat', Int32.toBitVec_ofNat'] at h1
    have h2 := congrArg BitVec.toNat h1
    rw [BitVec.toNat_or, BitVec.toNat_ofNat, BitVec.toNat_ofNat, Nat.mod_eq_of_lt (show a < 2 ^ 32 by omega), Nat.mod_eq_of_lt (show b < 2 ^ 32 by omega)] at h2
    have h3 := @Nat.left_le_or a b
    omega
  have := e3 (yMs P).toNat (yMs Q).toNat (by omega) (by omega) (by rw [Int.toNat_of_nonneg p.1, Int.toNat_of_nonneg q.1]; exact e2)
  omega
/-- sums of the first n -/
def ySum (f : Int → Int) : Nat → Int
  | 0 => 0
  | n + 1 => ySum f n + f n
theorem ySum_le {f g : Int → Int} : ∀ n : Nat, (∀ k : Int, 0 ≤ k → k < n → f k ≤ g k) → ySum f n ≤ ySum g n
  | 0, _ => Int.le_refl _
  | n + 1, h => by
    have := ySum_le n fun k h0 h1 => h k h0 (by omega)
    have := h n (by omega) (by omega)
    rw [ySum, ySum]; omega
theorem ySum_lt {f g : Int → Int} : ∀ n : Nat, (∀ k : Int, 0 ≤ k → k < n → f k ≤ g k) → (∃ k : Int, 0 ≤ k ∧ k < n ∧ f k < g k) → ySum f n < ySum g n
  | 0, _, ⟨k, h0, h1, _⟩ => by omega
  | n + 1, h, ⟨k, h0, h1, h2⟩ => by
    have a := ySum_le n fun k h0 h1 => h k h0 (by omega)
    have b := h n (by omega) (by omega)
    rw [ySum, ySum]
    by_cases e : k = n
    · subst e; omega
    · have := ySum_lt n (fun k h0 h1 => h k h0 (by omega)) ⟨k, h0, by omega, h2⟩
      omega
theorem ySum_rng {f : Int → Int} {B : Int} : ∀ n : Nat, (∀ k : Int, 0 ≤ k → k < n → 0 ≤ f k ∧ f k ≤ B) → 0 ≤ ySum f n ∧ ySum f n ≤ n * B
  | 0, _ => by simp [ySum]
  | n + 1, h => by
    have a := ySum_rng n fun k h0 h1 => h k h0 (by omega)
    have b := h n (by omega) (by omega)
    rw [ySum]
    have : ((n + 1 : Nat) : Int) * B = n * B + B := by rw [Int.natCast_add, Int.add_mul]; simp
    omega
theorem ySum_congr {f g : Int → Int} (n : Nat) (h : ∀ k : Int, 0 ≤ k → k < n → f k = g k) : ySum f n = ySum g n := Int.le_antisymm (ySum_le n fun k h0 h1 => Int.le_of_eq (h k h0 h1)) (ySum_le n fun k h0 h1 => Int.le_of_eq (h k h0 h1).symm)
/-- rows behind (b) and ahead (d) on their way up -/
def yJ (n : Int) (A : yPr) (b d : Int → Int) : Prop := ∀ k, 0 ≤ k → k < n → d k = yMs (yBt (d k)) ∧ b k = yMs (yBt (b k)) ∧ ∀ v, 0 ≤ v → v < 12 → (yBt (b k) v → yLv n A k v) ∧ (yBt (d k) v → yLa n A k v) ∧ (yBt (b k) v → ySc n A (fun t => yBt (d t) v) k) ∧ (yBt (d k) v → yRd A k v ∨ (¬ yAg A k v ∧ yBt (b k) v))
/-- one step of them -/
noncomputable def yJb (n : Int) (A : yPr) (d : Int → Int) (i : Int) : Int := yMs fun v => ySc n A (fun t => yBt (d t) v) i
noncomputable def yJd (n : Int) (A : yPr) (d : Int → Int) (i : Int) : Int := yMs fun v => yRd A i v ∨ (ySc n A (fun t => yBt (d t) v) i ∧ ¬ yAg A i v)
def yUp (f : Int → Int) (i x : Int) : Int → Int := fun k => if k = i then x else f k
theorem yUp_eq (f : Int → Int) (i x : Int) : yUp f i x i = x := if_pos rfl
theorem yUp_ne {f : Int → Int} {i x k : Int} (h : k ≠ i) : yUp f i x k = f k := if_neg h
theorem yJ_step {n : Int} {A : yPr} {b d : Int → Int} {i : Int} (J : yJ n A b d) (h0 : 0 ≤ i) (h1 : i < n) : b i ≤ yJb n A d i ∧ d i ≤ yJd n A d i ∧ yJ n A (yUp b i (yJb n A d i)) (yUp d i (yJd n A d i)) := by
  obtain ⟨w1, w2, w3⟩ := J i h0 h1
  have lb : ∀ v, 0 ≤ v → v < 12 → yBt (b i) v → yBt (yJb n A d i) v := fun v v0 v1 z => by
    unfold yJb
    rw [yBt_Ms v0 v1]
    exact (w3 v v0 v1).2.2.1 z
  have ld : ∀ v, 0 ≤ v → v < 12 → yBt (d i) v → yBt (yJd n A d i) v := fun v v0 v1 z => by
    unfold yJd
    rw [yBt_Ms v0 v1]
    rcases (w3 v v0 v1).2.2.2 z with y | y
    · exact .inl y
    · exact .inr ⟨(w3 v v0 v1).2.2.1 y.2, y.1⟩
  have up : ∀ t v, 0 ≤ v → v < 12 → yBt (d t) v → yBt (yUp d i (yJd n A d i) t) v := fun t v v0 v1 z => by
    by_cases e : t = i
    · subst e; rw [yUp_eq]; exact ld v v0 v1 z
    · rw [yUp_ne e]; exact z
  have fb : yMs (yBt (yJb n A d i)) = yJb n A d i := yBt_wf _
  have fd : yMs (yBt (yJd n A d i)) = yJd n A d i := yBt_wf _
  have la : ∀ v, 0 ≤ v → v < 12 → ySc n A (fun t => yBt (d t) v) i → yLv n A i v := fun v v0 v1 z => yLv_step h0 h1 v0 v1 (ySc_mono h0 h1 (fun t t0 t1 y => ((J t t0 t1).2.2 v v0 v1).2.1 y) z)
  refine ⟨?_, ?_, fun k k0 k1 => ?_⟩
  · rw [w2, ← fb]; exact yMs_mono lb
  · rw [w1, ← fd]; exact yMs_mono ld
  · by_cases e : k = i
    · subst e
      rw [yUp_eq, yUp_eq]
      refine ⟨fd.symm, fb.symm, fun v v0 v1 => ⟨fun z => ?_, fun z => ?_, fun z => ?_, fun z => ?_⟩⟩
      · unfold yJb at z
        rw [yBt_Ms v0 v1] at z
        exact la v v0 v1 z
      · unfold yJd at z
        rw [yBt_Ms v0 v1] at z
        exact z.elim .inl fun y => .inr ⟨y.2, la v v0 v1 y.1⟩
      · unfold yJb at z
        rw [yBt_Ms v0 v1] at z
        exact ySc_mono k0 k1 (fun t _ _ y => up t v v0 v1 y) z
      · unfold yJd at z
        rw [yBt_Ms v0 v1] at z
        rcases z with z | z
        · exact .inl z
        · refine .inr ⟨z.2, ?_⟩
          unfold yJb
          rw [yBt_Ms v0 v1]
          exact z.1
    · rw [yUp_ne e, yUp_ne e]
      obtain ⟨u1, u2, u3⟩ := J k k0 k1
      exact ⟨u1, u2, fun v v0 v1 => ⟨(u3 v v0 v1).1, (u3 v v0 v1).2.1, fun z => ySc_mono k0 k1 (fun t _ _ y => up t v v0 v1 y) ((u3 v v0 v1).2.2.1 z), (u3 v v0 v1).2.2.2⟩⟩
theorem yJ_rng {n : Int} {A : yPr} {b d : Int → Int} (J : yJ n A b d) {k : Int} (h0 : 0 ≤ k) (h1 : k < n) : 0 ≤ b k + d k ∧ b k + d k ≤ 8190 := by
  obtain ⟨w1, w2, -⟩ := J k h0 h1
  rw [w1, w2]
  have := yMs_rng (yBt (b k))
  have := yMs_rng (yBt (d k))
  omega
theorem yJ_0 {n : Int} {A : yPr} {b d : Int → Int} (hb : ∀ k, 0 ≤ k → k < n → b k = 0) (hd : ∀ k, 0 ≤ k → k < n → d k = 0) : yJ n A b d := fun k h0 h1 => by
  rw [hb k h0 h1, hd k h0 h1]
  refine ⟨(yMs_none fun v => yBt_0).symm, (yMs_none fun v => yBt_0).symm, fun v v0 v1 => ⟨fun z => absurd z (yBt_0 v0 v1), fun z => absurd z (yBt_0 v0 v1), fun z => absurd z (yBt_0 v0 v1), fun z => absurd z (yBt_0 v0 v1)⟩⟩
/-- at rest they are what is live -/
theorem yJ_end {n : Int} {A : yPr} {b d : Int → Int} (J : yJ n A b d) (hr : ∀ k, 0 ≤ k → k < n → b k = yJb n A d k ∧ d k = yJd n A d k) : ∀ k, 0 ≤ k → k < n → b k = yMs (yLv n A k) ∧ d k = yMs (yLa n A k) := by
  have e : ∀ k, 0 ≤ k → k < n → ∀ v, 0 ≤ v → v < 12 → (yBt (b k) v ↔ ySc n A (fun t => yBt (d t) v) k) ∧ (yBt (d k) v ↔ (yRd A k v ∨ (¬ yAg A k v ∧ yBt (b k) v))) := fun k k0 k1 v v0 v1 => by
    obtain ⟨r1, r2⟩ := hr k k0 k1
    have c1 : yBt (b k) v ↔ ySc n A (fun t => yBt (d t) v) k := by
      rw [r1]; unfold yJb; exact yBt_Ms v0 v1
    refine ⟨c1, ?_⟩
    rw [c1]
    conv => lhs; rw [r2]
    unfold yJd
    rw [yBt_Ms v0 v1]
    exact ⟨fun z => z.elim .inl fun y => .inr ⟨y.2, y.1⟩, fun z => z.elim .inl fun y => .inr ⟨y.2, y.1⟩⟩
  have lv : ∀ k, 0 ≤ k → k < n → ∀ v, 0 ≤ v → v < 12 → (yBt (b k) v ↔ yLv n A k v) := fun k k0 k1 v v0 v1 =>
    yLv_closed (B := fun k v => yBt (b k) v) (fun k k0 k1 v v0 v1 => ((J k k0 k1).2.2 v v0 v1).1) (fun k k0 k1 v v0 v1 z => ((e k k0 k1 v v0 v1).1).mpr (ySc_mono k0 k1 (fun t t0 t1 y => ((e t t0 t1 v v0 v1).2).mpr y) z)) k0 k1 v0 v1
  intro k k0 k1
  obtain ⟨w1, w2, -⟩ := J k k0 k1
  constructor
  · rw [w2]; exact yMs_congr fun v v0 v1 => lv k k0 k1 v v0 v1
  · rw [w1]; exact yMs_congr fun v v0 v1 => by
      rw [(e k k0 k1 v v0 v1).2]
      unfold yLa
      rw [lv k k0 k1 v v0 v1]
end YFLOW
