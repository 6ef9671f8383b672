/-! Constructors over a heap from a list: what stood before is p. -/
section YCONS
variable {b : Nat → zC} {p r : List zC} {s w i j n k : Nat} {c : zC} {v : Value}
theorem yHp_n : (yHl b (p ++ r) s).1 = 5 + p.length + r.length := by
  show 5 + (p ++ r).length = _
  rw [List.length_append]; omega
theorem yHp_push : zPush (yHl b (p ++ r) s) w c = yHl b (p ++ (r ++ [c])) (s + w) := by
  rw [yHl_push, List.append_assoc]
theorem yHp_put {kd : Nat} {vs : List Value} (hn : n = 5 + p.length + i) (h : r[i]? = some (kd, vs)) (hj : j < vs.length) : zPut (yHl b (p ++ r) s) n kd j v = some (yHl b (p ++ r.set i (kd, vs.set j v)) s) := by
  have e : (p ++ r)[p.length + i]? = some (kd, vs) := by
    rw [List.getElem?_append_right (by omega), show p.length + i - p.length = i by omega]; exact h
  rw [hn, Nat.add_assoc, yHl_put e hj, List.set_append_right _ _ (by omega), show p.length + i - p.length = i by omega]
theorem yHp_c {q : zC} (hn : n = 5 + p.length + i) (h : r[i]? = some q) : (yHl b (p ++ r) s).2.2 n = q := by
  rw [hn, Nat.add_assoc, yHl_c, List.getD_eq_getElem?_getD, List.getElem?_append_right (by omega), show p.length + i - p.length = i by omega, h]; rfl
theorem yi_Tape (hn : n = 5 + p.length) : zCall zCode kTape_init [.ref n] (yHl b (p ++ [(2, [.null, .int 0])]) s) = some (.inl (none, yHl b (p ++ [(2, [.ref (n + 1), .int 0]), (100, List.replicate 1600 (.int 0))]) (s + 1600))) := by
  have e1 : ¬ (zi 1600 < 0 ∨ 65536 < (zi 1600).toNatClampNeg) := by decide
  have e2 : (zi 1600).toNatClampNeg = 1600 := by decide
  rw [za_Tape_init, zb_Tape_init_0, if_neg e1, e2, yHp_push, yHp_n, yHp_put (i := 0) (kd := 2) (vs := [.null, .int 0]) (by omega) rfl (by decide)]
  subst hn
  rfl
/-- one array made and put into a field -/
theorem yi_arr {F : zH → Option zR} {R : Option zR} {kd : Nat} {z : Int} {vs : List Value} (e1 : ¬ (zi z < 0 ∨ 65536 < (zi z).toNatClampNeg)) (hn : n = 5 + p.length + i) (h : r[i]? = some (kd, vs)) (hj : j < vs.length) (g : F (yHl b (p ++ (r.set i (kd, vs.set j (.ref (5 + p.length + r.length))) ++ [c])) (s + (zi z).toNatClampNeg)) = R) : (if zi z < 0 ∨ 65536 < (zi z).toNatClampNeg then none else (zPut (zPush (yHl b (p ++ r) s) (zi z).toNatClampNeg c) n kd j (.ref (yHl b (p ++ r) s).1)).bind F) = R := by
  have hi : i < r.length := by
    by_cases z : i < r.length
    · exact z
    · rw [List.getElem?_eq_none (by omega)] at h; cases h
  have h' : (r ++ [c])[i]? = some (kd, vs) := by rw [List.getElem?_append_left hi]; exact h
  rw [if_neg e1, yHp_push, yHp_n, yHp_put hn h' hj, List.set_append_left _ _ hi]
  exact g
theorem yi_Tokens (hn : n = 5 + p.length) : zCall zCode kTokens_init [.ref n] (yHl b (p ++ [(4, [.null, .null, .null, .int 0, .int 0])]) s) = some (.inl (none, yHl b (p ++ [(4, [.ref (n + 1), .ref (n + 2), .ref (n + 3), .int 0, .int 0]), (100, List.replicate 1601 (.int 0)), (100, List.replicate 1601 (.int 0)), (101, List.replicate 1601 (.long 0))]) (s + 1601 + 1601 + 1601))) := by
  have e2 : (zi 1601).toNatClampNeg = 1601 := by decide
  rw [za_Tokens_init, zb_Tokens_init_0]
  refine yi_arr (i := 0) (by decide) hn rfl (Nat.le_of_ble_eq_true rfl) ?_
  refine yi_arr (i := 0) (by decide) hn rfl (Nat.le_of_ble_eq_true rfl) ?_
  refine yi_arr (i := 0) (by decide) hn rfl (Nat.le_of_ble_eq_true rfl) ?_
  rw [e2]
  subst hn
  rfl
end YCONS
