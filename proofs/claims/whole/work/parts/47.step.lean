/-! One step at the head of a run. -/
section YSTEP
theorem yst_T {α : Type} {c : Prop} [Decidable c] {a b r : α} (h : c = True) (h2 : a = r) : (if c then a else b) = r := by
  rw [if_pos (of_eq_true h)]; exact h2
theorem yst_F {α : Type} {c : Prop} [Decidable c] {a b r : α} (h : c = False) (h2 : b = r) : (if c then a else b) = r := by
  rw [if_neg (of_eq_false h)]; exact h2
theorem yst_b {α : Type} {o : Option α} {x : α} {f : α → Option zR} {r : Option zR} (h : o = some x) (h2 : f x = r) : o.bind f = r := by
  rw [h]; exact h2
theorem yst_I {o : Option zR} {x : Int32} {h : zH} {k : Int32 → zH → Option zR} {r : Option zR} (e : o = some (.inl (some (.int x), h))) (h2 : k x h = r) : o.bind (zRI k) = r := by
  rw [e]; exact h2
theorem yst_L {o : Option zR} {x : Int64} {h : zH} {k : Int64 → zH → Option zR} {r : Option zR} (e : o = some (.inl (some (.long x), h))) (h2 : k x h = r) : o.bind (zRL k) = r := by
  rw [e]; exact h2
theorem yst_D {o : Option zR} {x : UInt64} {h : zH} {k : UInt64 → zH → Option zR} {r : Option zR} (e : o = some (.inl (some (.double x), h))) (h2 : k x h = r) : o.bind (zRD k) = r := by
  rw [e]; exact h2
theorem yst_A {o : Option zR} {x : Nat} {h : zH} {k : Nat → zH → Option zR} {r : Option zR} (e : o = some (.inl (some (.ref x), h))) (h2 : k x h = r) : o.bind (zRA k) = r := by
  rw [e]; exact h2
theorem yst_V {o : Option zR} {h : zH} {k : zH → Option zR} {r : Option zR} (e : o = some (.inl (none, h))) (h2 : k h = r) : o.bind (zRV k) = r := by
  rw [e]; exact h2
theorem yst_xI {o : Option zR} {a b : Nat} {h : zH} {k : Int32 → zH → Option zR} {r : Option zR} (e : o = some (.inr (a, b, h))) (h2 : some (.inr (a, b, h)) = r) : o.bind (zRI k) = r := by
  rw [e]; exact h2
theorem yst_xL {o : Option zR} {a b : Nat} {h : zH} {k : Int64 → zH → Option zR} {r : Option zR} (e : o = some (.inr (a, b, h))) (h2 : some (.inr (a, b, h)) = r) : o.bind (zRL k) = r := by
  rw [e]; exact h2
theorem yst_xA {o : Option zR} {a b : Nat} {h : zH} {k : Nat → zH → Option zR} {r : Option zR} (e : o = some (.inr (a, b, h))) (h2 : some (.inr (a, b, h)) = r) : o.bind (zRA k) = r := by
  rw [e]; exact h2
theorem yst_xV {o : Option zR} {a b : Nat} {h : zH} {k : zH → Option zR} {r : Option zR} (e : o = some (.inr (a, b, h))) (h2 : some (.inr (a, b, h)) = r) : o.bind (zRV k) = r := by
  rw [e]; exact h2
theorem yst_m {o : Option zR} {q : Option Value × zH} {x : Nat → Nat → zH → Option zR} {k : zR → Option zR} {r : Option zR} (e : o = some (.inl q)) (h2 : k (.inl q) = r) : o.bind (zXm x k) = r := by
  rw [e]; exact h2
theorem yst_mx {o : Option zR} {a b : Nat} {h : zH} {x : Nat → Nat → zH → Option zR} {k : zR → Option zR} {r : Option zR} (e : o = some (.inr (a, b, h))) (h2 : x a b h = r) : o.bind (zXm x k) = r := by
  rw [e]; exact h2
end YSTEP
