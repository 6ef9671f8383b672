/-! The constructors that only make arrays. -/
section YCONS2
variable {b : Nat → zC} {p r : List zC} {s w i j n k : Nat} {c : zC} {v : Value}
theorem yi_Names (hn : n = 5 + p.length) : zCall zCode kNames_init [.ref n] (yHl b (p ++ [(5, [.null, .null, .null, .int 0])]) s) = some (.inl (none, yHl b (p ++ [(5, [.ref (n + 1), .ref (n + 2), .ref (n + 3), .int 0]), (101, List.replicate 12 (.long 0)), (100, List.replicate 12 (.int 0)), (102, List.replicate 12 (.int 0))]) (s + 12 + 12 + 12))) := by
  have e12 : (zi 12).toNatClampNeg = 12 := by decide
  rw [za_Names_init, zb_Names_init_0]
  refine yi_arr (i := 0) (by decide) hn rfl (Nat.le_of_ble_eq_true rfl) ?_
  refine yi_arr (i := 0) (by decide) hn rfl (Nat.le_of_ble_eq_true rfl) ?_
  refine yi_arr (i := 0) (by decide) hn rfl (Nat.le_of_ble_eq_true rfl) ?_
  rw [e12]
  subst hn
  rfl
theorem yi_Flow (hn : n = 5 + p.length) : zCall zCode kFlow_init [.ref n] (yHl b (p ++ [(6, [.null, .null, .null])]) s) = some (.inl (none, yHl b (p ++ [(6, [.ref (n + 1), .ref (n + 2), .ref (n + 3)]), (102, List.replicate 80 (.int 0)), (100, List.replicate 80 (.int 0)), (100, List.replicate 80 (.int 0))]) (s + 80 + 80 + 80))) := by
  have e80 : (zi 80).toNatClampNeg = 80 := by decide
  rw [za_Flow_init, zb_Flow_init_0]
  refine yi_arr (i := 0) (by decide) hn rfl (Nat.le_of_ble_eq_true rfl) ?_
  refine yi_arr (i := 0) (by decide) hn rfl (Nat.le_of_ble_eq_true rfl) ?_
  refine yi_arr (i := 0) (by decide) hn rfl (Nat.le_of_ble_eq_true rfl) ?_
  rw [e80]
  subst hn
  rfl
theorem yi_BlockPasses (hn : n = 5 + p.length) : zCall zCode kBlockPasses_init [.ref n] (yHl b (p ++ [(7, [.null, .null, .null])]) s) = some (.inl (none, yHl b (p ++ [(7, [.ref (n + 1), .ref (n + 2), .ref (n + 3)]), (102, List.replicate 12 (.int 0)), (101, List.replicate 12 (.long 0)), (100, List.replicate 12 (.int 0))]) (s + 12 + 12 + 12))) := by
  have e12 : (zi 12).toNatClampNeg = 12 := by decide
  rw [za_BlockPasses_init, zb_BlockPasses_init_0]
  refine yi_arr (i := 0) (by decide) hn rfl (Nat.le_of_ble_eq_true rfl) ?_
  refine yi_arr (i := 0) (by decide) hn rfl (Nat.le_of_ble_eq_true rfl) ?_
  refine yi_arr (i := 0) (by decide) hn rfl (Nat.le_of_ble_eq_true rfl) ?_
  rw [e12]
  subst hn
  rfl
theorem yi_Machine (hn : n = 5 + p.length) : zCall zCode kMachine_init [.ref n] (yHl b (p ++ [(9, [.null, .null, .int 0, .int 0, .int 0, .int 0])]) s) = some (.inl (none, yHl b (p ++ [(9, [.ref (n + 1), .ref (n + 2), .int 0, .int 0, .int 0, .int 0]), (101, List.replicate 12 (.long 0)), (101, List.replicate 60 (.long 0))]) (s + 12 + 60))) := by
  have e12 : (zi 12).toNatClampNeg = 12 := by decide
  have e60 : (zi 60).toNatClampNeg = 60 := by decide
  rw [za_Machine_init, zb_Machine_init_0]
  refine yi_arr (i := 0) (by decide) hn rfl (Nat.le_of_ble_eq_true rfl) ?_
  refine yi_arr (i := 0) (by decide) hn rfl (Nat.le_of_ble_eq_true rfl) ?_
  rw [e12, e60]
  subst hn
  rfl
end YCONS2
