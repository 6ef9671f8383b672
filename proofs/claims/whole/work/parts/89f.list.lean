/-! Heaps from lists, for the constructors. -/
section YLIST
variable {b : Nat → zC} {l r : List zC} {s w k j : Nat} {c : zC} {v : Value}
/-- the heap whose cells from 5 on are l's -/
def yHl (b : Nat → zC) (l : List zC) (s : Nat) : zH := (5 + l.length, s, fun a => if a < 5 then b a else l.getD (a - 5) (50, []))
theorem yHl_c : (yHl b l s).2.2 (5 + k) = l.getD k (50, []) := by
  show (if 5 + k < 5 then _ else _) = _
  rw [if_neg (by omega)]
  exact congrArg (l.getD · (50, [])) (by omega)
theorem yHl_push : zPush (yHl b l s) w c = yHl b (l ++ [c]) (s + w) := by
  unfold zPush yHl zUpd
  refine Prod.ext (by simp only [List.length_append, List.length_singleton]; omega) (Prod.ext rfl (funext fun a => ?_))
  show (if a = 5 + l.length then c else if a < 5 then b a else l.getD (a - 5) (50, [])) = if a < 5 then b a else (l ++ [c]).getD (a - 5) (50, [])
  by_cases h1 : a < 5
  · rw [if_neg (by omega), if_pos h1, if_pos h1]
  · rw [if_neg h1, if_neg h1]
    simp only [List.getD_eq_getElem?_getD, List.getElem?_append]
    by_cases h2 : a = 5 + l.length
    · rw [if_pos h2, if_neg (by omega), show a - 5 - l.length = 0 by omega]; rfl
    · rw [if_neg h2]
      by_cases h3 : a - 5 < l.length
      · rw [if_pos h3]
      · rw [if_neg h3, List.getElem?_eq_none (by omega), List.getElem?_eq_none (by simp only [List.length_singleton]; omega)]
theorem yHl_set (h : k < l.length) : zSet (yHl b l s) (5 + k) c = yHl b (l.set k c) s := by
  unfold zSet yHl zUpd
  refine Prod.ext (by simp only [List.length_set]) (Prod.ext rfl (funext fun a => ?_))
  show (if a = 5 + k then c else if a < 5 then b a else l.getD (a - 5) (50, [])) = if a < 5 then b a else (l.set k c).getD (a - 5) (50, [])
  by_cases h1 : a < 5
  · rw [if_neg (by omega), if_pos h1, if_pos h1]
  · rw [if_neg h1, if_neg h1]
    simp only [List.getD_eq_getElem?_getD, List.getElem?_set]
    by_cases h2 : a = 5 + k
    · rw [if_pos h2, if_pos (by omega), if_pos (by omega)]; rfl
    · rw [if_neg h2, if_neg (by omega)]
theorem yHl_put {kd : Nat} {vs : List Value} (h : l[k]? = some (kd, vs)) (hj : j < vs.length) : zPut (yHl b l s) (5 + k) kd j v = some (yHl b (l.set k (kd, vs.set j v)) s) := by
  have hk : k < l.length := by
    by_cases z : k < l.length
    · exact z
    · rw [List.getElem?_eq_none (by omega)] at h; cases h
  have e : (yHl b l s).2.2 (5 + k) = (kd, vs) := by rw [yHl_c, List.getD_eq_getElem?_getD, h]; rfl
  unfold zPut
  rw [e, if_pos ⟨rfl, hj⟩, yHl_set hk]
end YLIST
