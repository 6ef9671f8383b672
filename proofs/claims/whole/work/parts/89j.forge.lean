/-! PassForge's constructor, the law's beginning. -/
section YFORGE
variable {b : Nat → zC} {p : List zC} {s w j n k : Nat}
theorem yi_at {kd i : Nat} {v : Value} {vs : List Value} {r : List zC} (hn : n = 5 + p.length + i) (h : r[i]? = some (kd, vs)) (hv : vs[j]? = some v) : zAt (yHl b (p ++ r) s) n kd j = some v := by
  unfold zAt
  rw [yHp_c hn h, if_pos rfl]
  exact hv
theorem yi_lt : ∀ i : Nat, i < 12 → zi (i : Int) < (12 : Nat).toInt32 ∧ ¬ (zi (i : Int) < 0 ∨ 12 ≤ (zi (i : Int)).toNatClampNeg) ∧ (zi (i : Int)).toNatClampNeg = i ∧ zi (i : Int) + zi 1 = zi ((i : Int) + 1) := by decide
theorem yi_round {i : Nat} {us us' vr : List Value} {rest rest' : List zC} {R : Option zR} (hi : i < 12) (hu : us.length = 12) (hn : n = 5 + p.length) (hk : rest.length = 13 * i) (hu' : us.set i (.ref (n + 2 + 13 * i)) = us') (hr : rest ++ ynProgram (n + 2 + 13 * i) = rest') (g : zRun zCode kPassForge_init 8 [.ref n, .int (zi (i + 1))] [] (yHl b (p ++ (0, .ref (n + 1) :: vr) :: (110, us') :: rest') (s + 18 + 834)) = R) : zRun zCode kPassForge_init 8 [.ref n, .int (zi i)] [] (yHl b (p ++ (0, .ref (n + 1) :: vr) :: (110, us) :: rest) s) = R := by
  subst hu' hr
  obtain ⟨e1, e2, e3, e4⟩ := yi_lt i hi
  have ec : (yHl b (p ++ (0, .ref (n + 1) :: vr) :: (110, us) :: rest) s).2.2 (n + 1) = (110, us) := yHp_c (i := 1) (by omega) rfl
  have en : (yHl b (p ++ (0, .ref (n + 1) :: vr) :: (110, us) :: rest) s).1 = 5 + (p ++ (0, .ref (n + 1) :: vr) :: (110, us) :: rest).length := rfl
  have el : 5 + (p ++ (0, .ref (n + 1) :: vr) :: (110, us) :: rest).length = n + 2 + 13 * i := by
    simp only [List.length_append, List.length_cons, hk]; omega
  have ea : zAt (yHl b (p ++ (0, .ref (n + 1) :: vr) :: (110, us) :: rest) s) n 0 0 = some (.ref (n + 1)) := yi_at (i := 0) (by omega) rfl rfl
  rw [zb_PassForge_init_8, ea]
  show (if 100 ≤ ((yHl b (p ++ (0, .ref (n + 1) :: vr) :: (110, us) :: rest) s).2.2 (n + 1)).1 then _ else none) = R
  rw [ec, if_pos (Nat.le_of_ble_eq_true rfl), hu, if_pos e1]
  show ((zCall zCode kProgram_init [.ref (yHl b (p ++ (0, .ref (n + 1) :: vr) :: (110, us) :: rest) s).1] _).bind _) = R
  rw [en, yHl_push, yn_Program, el, List.append_assoc]
  show (if ((yHl b (p ++ ((0, .ref (n + 1) :: vr) :: (110, us) :: rest ++ ynProgram (n + 2 + 13 * i))) (s + 18 + 834)).2.2 (n + 2 + 13 * i)).1 = 1 then _ else none) = R
  have ep : ((0, .ref (n + 1) :: vr) :: (110, us) :: rest ++ ynProgram (n + 2 + 13 * i))[2 + 13 * i]? = some (1, [.ref (n + 2 + 13 * i + 1), .ref (n + 2 + 13 * i + 2), .ref (n + 2 + 13 * i + 3), .ref (n + 2 + 13 * i + 4), .ref (n + 2 + 13 * i + 5), .ref (n + 2 + 13 * i + 6), .ref (n + 2 + 13 * i + 7), .ref (n + 2 + 13 * i + 8), .ref (n + 2 + 13 * i + 9), .ref (n + 2 + 13 * i + 10), .ref (n + 2 + 13 * i + 11), .ref (n + 2 + 13 * i + 12), .int 0, .int 0, .int 0, .int 0, .int 0, .int 0]) := by
    rw [List.getElem?_append_right (by simp only [List.length_cons, hk]; omega), show 2 + 13 * i - ((0, .ref (n + 1) :: vr) :: (110, us) :: rest : List zC).length = 0 by simp only [List.length_cons, hk]; omega]
    rfl
  rw [yHp_c (i := 2 + 13 * i) (by omega) ep, if_pos rfl]
  have ex : zIx (yHl b (p ++ ((0, .ref (n + 1) :: vr) :: (110, us) :: rest ++ ynProgram (n + 2 + 13 * i))) (s + 18 + 834)) (n + 1) 110 (zi i) = some i := by
    unfold zIx
    rw [yHp_c (i := 1) (q := (110, us)) (by omega) rfl, hu, e3, if_pos ⟨rfl, by rw [e3] at e2; exact e2⟩]
  rw [ex]
  show (zPut _ (n + 1) 110 i _).bind _ = R
  rw [yHp_put (i := 1) (kd := 110) (vs := us) (by omega) rfl (by omega)]
  show zRun zCode kPassForge_init 8 [.ref n, .int (zi i + zi 1)] [] _ = R
  rw [e4]
  exact g
def ynTwelve (n : Nat) : List zC := ynProgram (n + 2) ++ ynProgram (n + 15) ++ ynProgram (n + 28) ++ ynProgram (n + 41) ++ ynProgram (n + 54) ++ ynProgram (n + 67) ++ ynProgram (n + 80) ++ ynProgram (n + 93) ++ ynProgram (n + 106) ++ ynProgram (n + 119) ++ ynProgram (n + 132) ++ ynProgram (n + 145)
theorem ynProgram_l : (ynProgram n).length = 13 := rfl
theorem ynTwelve_l : (ynTwelve n).length = 156 := by
  unfold ynTwelve
  simp only [List.length_append, ynProgram_l]
theorem yi_loop {vr : List Value} {R : Option zR} (hn : n = 5 + p.length) (g : zRun zCode kPassForge_init 8 [.ref n, .int (zi 12)] [] (yHl b (p ++ (0, .ref (n + 1) :: vr) :: (110, [.ref (n + 2), .ref (n + 15), .ref (n + 28), .ref (n + 41), .ref (n + 54), .ref (n + 67), .ref (n + 80), .ref (n + 93), .ref (n + 106), .ref (n + 119), .ref (n + 132), .ref (n + 145)]) :: ynTwelve n) (s + 10224)) = R) : zRun zCode kPassForge_init 8 [.ref n, .int (zi 0)] [] (yHl b (p ++ [(0, .ref (n + 1) :: vr), (110, [.null, .null, .null, .null, .null, .null, .null, .null, .null, .null, .null, .null])]) s) = R := by
  refine yi_round (i := 0) (us' := [.ref (n + 2), .null, .null, .null, .null, .null, .null, .null, .null, .null, .null, .null]) (rest' := ynProgram (n + 2)) (by decide) rfl hn rfl rfl rfl ?_
  refine yi_round (i := 1) (us' := [.ref (n + 2), .ref (n + 15), .null, .null, .null, .null, .null, .null, .null, .null, .null, .null]) (rest' := ynProgram (n + 2) ++ ynProgram (n + 15)) (by decide) rfl hn rfl rfl rfl ?_
  refine yi_round (i := 2) (us' := [.ref (n + 2), .ref (n + 15), .ref (n + 28), .null, .null, .null, .null, .null, .null, .null, .null, .null]) (rest' := ynProgram (n + 2) ++ ynProgram (n + 15) ++ ynProgram (n + 28)) (by decide) rfl hn rfl rfl rfl ?_
  refine yi_round (i := 3) (us' := [.ref (n + 2), .ref (n + 15), .ref (n + 28), .ref (n + 41), .null, .null, .null, .null, .null, .null, .null, .null]) (rest' := ynProgram (n + 2) ++ ynProgram (n + 15) ++ ynProgram (n + 28) ++ ynProgram (n + 41)) (by decide) rfl hn rfl rfl rfl ?_
  refine yi_round (i := 4) (us' := [.ref (n + 2), .ref (n + 15), .ref (n + 28), .ref (n + 41), .ref (n + 54), .null, .null, .null, .null, .null, .null, .null]) (rest' := ynProgram (n + 2) ++ ynProgram (n + 15) ++ ynProgram (n + 28) ++ ynProgram (n + 41) ++ ynProgram (n + 54)) (by decide) rfl hn rfl rfl rfl ?_
  refine yi_round (i := 5) (us' := [.ref (n + 2), .ref (n + 15), .ref (n + 28), .ref (n + 41), .ref (n + 54), .ref (n + 67), .null, .null, .null, .null, .null, .null]) (rest' := ynProgram (n + 2) ++ ynProgram (n + 15) ++ ynProgram (n + 28) ++ ynProgram (n + 41) ++ ynProgram (n + 54) ++ ynProgram (n + 67)) (by decide) rfl hn rfl rfl rfl ?_
  refine yi_round (i := 6) (us' := [.ref (n + 2), .ref (n + 15), .ref (n + 28), .ref (n + 41), .ref (n + 54), .ref (n + 67), .ref (n + 80), .null, .null, .null, .null, .null]) (rest' := ynProgram (n + 2) ++ ynProgram (n + 15) ++ ynProgram (n + 28) ++ ynProgram (n + 41) ++ ynProgram (n + 54) ++ ynProgram (n + 67) ++ ynProgram (n + 80)) (by decide) rfl hn rfl rfl rfl ?_
  refine yi_round (i := 7) (us' := [.ref (n + 2), .ref (n + 15), .ref (n + 28), .ref (n + 41), .ref (n + 54), .ref (n + 67), .ref (n + 80), .ref (n + 93), .null, .null, .null, .null]) (rest' := ynProgram (n + 2) ++ ynProgram (n + 15) ++ ynProgram (n + 28) ++ ynProgram (n + 41) ++ ynProgram (n + 54) ++ ynProgram (n + 67) ++ ynProgram (n + 80) ++ ynProgram (n + 93)) (by decide) rfl hn rfl rfl rfl ?_
  refine yi_round (i := 8) (us' := [.ref (n + 2), .ref (n + 15), .ref (n + 28), .ref (n + 41), .ref (n + 54), .ref (n + 67), .ref (n + 80), .ref (n + 93), .ref (n + 106), .null, .null, .null]) (rest' := ynProgram (n + 2) ++ ynProgram (n + 15) ++ ynProgram (n + 28) ++ ynProgram (n + 41) ++ ynProgram (n + 54) ++ ynProgram (n + 67) ++ ynProgram (n + 80) ++ ynProgram (n + 93) ++ ynProgram (n + 106)) (by decide) rfl hn rfl rfl rfl ?_
  refine yi_round (i := 9) (us' := [.ref (n + 2), .ref (n + 15), .ref (n + 28), .ref (n + 41), .ref (n + 54), .ref (n + 67), .ref (n + 80), .ref (n + 93), .ref (n + 106), .ref (n + 119), .null, .null]) (rest' := ynProgram (n + 2) ++ ynProgram (n + 15) ++ ynProgram (n + 28) ++ ynProgram (n + 41) ++ ynProgram (n + 54) ++ ynProgram (n + 67) ++ ynProgram (n + 80) ++ ynProgram (n + 93) ++ ynProgram (n + 106) ++ ynProgram (n + 119)) (by decide) rfl hn rfl rfl rfl ?_
  refine yi_round (i := 10) (us' := [.ref (n + 2), .ref (n + 15), .ref (n + 28), .ref (n + 41), .ref (n + 54), .ref (n + 67), .ref (n + 80), .ref (n + 93), .ref (n + 106), .ref (n + 119), .ref (n + 132), .null]) (rest' := ynProgram (n + 2) ++ ynProgram (n + 15) ++ ynProgram (n + 28) ++ ynProgram (n + 41) ++ ynProgram (n + 54) ++ ynProgram (n + 67) ++ ynProgram (n + 80) ++ ynProgram (n + 93) ++ ynProgram (n + 106) ++ ynProgram (n + 119) ++ ynProgram (n + 132)) (by decide) rfl hn rfl rfl rfl ?_
  refine yi_round (i := 11) (us' := [.ref (n + 2), .ref (n + 15), .ref (n + 28), .ref (n + 41), .ref (n + 54), .ref (n + 67), .ref (n + 80), .ref (n + 93), .ref (n + 106), .ref (n + 119), .ref (n + 132), .ref (n + 145)]) (rest' := ynProgram (n + 2) ++ ynProgram (n + 15) ++ ynProgram (n + 28) ++ ynProgram (n + 41) ++ ynProgram (n + 54) ++ ynProgram (n + 67) ++ ynProgram (n + 80) ++ ynProgram (n + 93) ++ ynProgram (n + 106) ++ ynProgram (n + 119) ++ ynProgram (n + 132) ++ ynProgram (n + 145)) (by decide) rfl hn rfl rfl rfl ?_
  rw [show s + 18 + 834 + 18 + 834 + 18 + 834 + 18 + 834 + 18 + 834 + 18 + 834 + 18 + 834 + 18 + 834 + 18 + 834 + 18 + 834 + 18 + 834 + 18 + 834 = s + 10224 by omega]
  exact g
theorem ynTape_l : (ynTape n).length = 2 := rfl
theorem ynReader_l : (ynReader n).length = 13 := rfl
theorem ynFlow_l : (ynFlow n).length = 4 := rfl
theorem ynBlockPasses_l : (ynBlockPasses n).length = 4 := rfl
theorem ynFlowPasses_l : (ynFlowPasses n).length = 5 := rfl
theorem ynMachine_l : (ynMachine n).length = 3 := rfl
theorem yi_rest {us : List Value} {Q : List zC} (hQ : Q.length = 156) (hu : us.length = 12) (hn : n = 5 + p.length) : zRun zCode kPassForge_init 8 [.ref n, .int (zi 12)] [] (yHl b (p ++ (0, [.ref (n + 1), .int 0, .null, .null, .null, .null, .null, .null, .int 0, .null, .null, .null, .null]) :: (110, us) :: Q) s) = some (.inl (none, yHl b (p ++ (0, [.ref (n + 1), .int 0, .ref (n + 158), .ref (n + 160), .ref (n + 173), .ref (n + 177), .ref (n + 181), .ref (n + 186), .int 0, .ref (n + 187), .ref (n + 190), .ref (n + 193), .ref (n + 196)]) :: (110, us) :: (Q ++ ynTape (n + 158) ++ ynReader (n + 160) ++ ynFlow (n + 173) ++ ynBlockPasses (n + 177) ++ ynFlowPasses (n + 181) ++ [(101, List.replicate 30 (.long 0))] ++ ynMachine (n + 187) ++ ynMachine (n + 190) ++ ynMachine (n + 193) ++ [(101, List.replicate 4 (.long 0))])) (s + 7297))) := by
  have ec : (yHl b (p ++ (0, [.ref (n + 1), .int 0, .null, .null, .null, .null, .null, .null, .int 0, .null, .null, .null, .null]) :: (110, us) :: Q) s).2.2 (n + 1) = (110, us) := yHp_c (i := 1) (by omega) rfl
  have ea : zAt (yHl b (p ++ (0, [.ref (n + 1), .int 0, .null, .null, .null, .null, .null, .null, .int 0, .null, .null, .null, .null]) :: (110, us) :: Q) s) n 0 0 = some (.ref (n + 1)) := yi_at (i := 0) (by omega) rfl rfl
  rw [zb_PassForge_init_8, ea]
  show (if 100 ≤ ((yHl b (p ++ (0, [.ref (n + 1), .int 0, .null, .null, .null, .null, .null, .null, .int 0, .null, .null, .null, .null]) :: (110, us) :: Q) s).2.2 (n + 1)).1 then _ else none) = _
  rw [ec, if_pos (Nat.le_of_ble_eq_true rfl), hu, if_neg (by decide)]
  refine yi_ob (w := 1600) (k := 158) (out := ynTape) (vs' := [.ref (n + 1), .int 0, .ref (n + 158), .null, .null, .null, .null, .null, .int 0, .null, .null, .null, .null]) (rest' := (110, us) :: (Q ++ ynTape (n + 158))) yn_Tape hn (by simp only [List.length_cons, List.length_append, List.length_nil, hQ, ynTape_l, ynReader_l, ynFlow_l, ynBlockPasses_l, ynFlowPasses_l, ynMachine_l]) (Nat.le_of_ble_eq_true rfl) rfl rfl ?_
  refine yi_ob (w := 4888) (k := 160) (out := ynReader) (vs' := [.ref (n + 1), .int 0, .ref (n + 158), .ref (n + 160), .null, .null, .null, .null, .int 0, .null, .null, .null, .null]) (rest' := (110, us) :: (Q ++ ynTape (n + 158) ++ ynReader (n + 160))) yn_Reader hn (by simp only [List.length_cons, List.length_append, List.length_nil, hQ, ynTape_l, ynReader_l, ynFlow_l, ynBlockPasses_l, ynFlowPasses_l, ynMachine_l]) (Nat.le_of_ble_eq_true rfl) rfl rfl ?_
  refine yi_ob (w := 240) (k := 173) (out := ynFlow) (vs' := [.ref (n + 1), .int 0, .ref (n + 158), .ref (n + 160), .ref (n + 173), .null, .null, .null, .int 0, .null, .null, .null, .null]) (rest' := (110, us) :: (Q ++ ynTape (n + 158) ++ ynReader (n + 160) ++ ynFlow (n + 173))) yn_Flow hn (by simp only [List.length_cons, List.length_append, List.length_nil, hQ, ynTape_l, ynReader_l, ynFlow_l, ynBlockPasses_l, ynFlowPasses_l, ynMachine_l]) (Nat.le_of_ble_eq_true rfl) rfl rfl ?_
  refine yi_ob (w := 36) (k := 177) (out := ynBlockPasses) (vs' := [.ref (n + 1), .int 0, .ref (n + 158), .ref (n + 160), .ref (n + 173), .ref (n + 177), .null, .null, .int 0, .null, .null, .null, .null]) (rest' := (110, us) :: (Q ++ ynTape (n + 158) ++ ynReader (n + 160) ++ ynFlow (n + 173) ++ ynBlockPasses (n + 177))) yn_BlockPasses hn (by simp only [List.length_cons, List.length_append, List.length_nil, hQ, ynTape_l, ynReader_l, ynFlow_l, ynBlockPasses_l, ynFlowPasses_l, ynMachine_l]) (Nat.le_of_ble_eq_true rfl) rfl rfl ?_
  refine yi_ob (w := 243) (k := 181) (out := ynFlowPasses) (vs' := [.ref (n + 1), .int 0, .ref (n + 158), .ref (n + 160), .ref (n + 173), .ref (n + 177), .ref (n + 181), .null, .int 0, .null, .null, .null, .null]) (rest' := (110, us) :: (Q ++ ynTape (n + 158) ++ ynReader (n + 160) ++ ynFlow (n + 173) ++ ynBlockPasses (n + 177) ++ ynFlowPasses (n + 181))) yn_FlowPasses hn (by simp only [List.length_cons, List.length_append, List.length_nil, hQ, ynTape_l, ynReader_l, ynFlow_l, ynBlockPasses_l, ynFlowPasses_l, ynMachine_l]) (Nat.le_of_ble_eq_true rfl) rfl rfl ?_
  refine yi_ar (w := 30) (k := 186) (vs' := [.ref (n + 1), .int 0, .ref (n + 158), .ref (n + 160), .ref (n + 173), .ref (n + 177), .ref (n + 181), .ref (n + 186), .int 0, .null, .null, .null, .null]) (rest' := (110, us) :: (Q ++ ynTape (n + 158) ++ ynReader (n + 160) ++ ynFlow (n + 173) ++ ynBlockPasses (n + 177) ++ ynFlowPasses (n + 181) ++ [(101, List.replicate 30 (.long 0))])) (by decide) hn (by simp only [List.length_cons, List.length_append, List.length_nil, hQ, ynTape_l, ynReader_l, ynFlow_l, ynBlockPasses_l, ynFlowPasses_l, ynMachine_l]) (Nat.le_of_ble_eq_true rfl) rfl rfl ?_
  refine yi_ob (w := 72) (k := 187) (out := ynMachine) (vs' := [.ref (n + 1), .int 0, .ref (n + 158), .ref (n + 160), .ref (n + 173), .ref (n + 177), .ref (n + 181), .ref (n + 186), .int 0, .ref (n + 187), .null, .null, .null]) (rest' := (110, us) :: (Q ++ ynTape (n + 158) ++ ynReader (n + 160) ++ ynFlow (n + 173) ++ ynBlockPasses (n + 177) ++ ynFlowPasses (n + 181) ++ [(101, List.replicate 30 (.long 0))] ++ ynMachine (n + 187))) yn_Machine hn (by simp only [List.length_cons, List.length_append, List.length_nil, hQ, ynTape_l, ynReader_l, ynFlow_l, ynBlockPasses_l, ynFlowPasses_l, ynMachine_l]) (Nat.le_of_ble_eq_true rfl) rfl rfl ?_
  refine yi_ob (w := 72) (k := 190) (out := ynMachine) (vs' := [.ref (n + 1), .int 0, .ref (n + 158), .ref (n + 160), .ref (n + 173), .ref (n + 177), .ref (n + 181), .ref (n + 186), .int 0, .ref (n + 187), .ref (n + 190), .null, .null]) (rest' := (110, us) :: (Q ++ ynTape (n + 158) ++ ynReader (n + 160) ++ ynFlow (n + 173) ++ ynBlockPasses (n + 177) ++ ynFlowPasses (n + 181) ++ [(101, List.replicate 30 (.long 0))] ++ ynMachine (n + 187) ++ ynMachine (n + 190))) yn_Machine hn (by simp only [List.length_cons, List.length_append, List.length_nil, hQ, ynTape_l, ynReader_l, ynFlow_l, ynBlockPasses_l, ynFlowPasses_l, ynMachine_l]) (Nat.le_of_ble_eq_true rfl) rfl rfl ?_
  refine yi_ob (w := 72) (k := 193) (out := ynMachine) (vs' := [.ref (n + 1), .int 0, .ref (n + 158), .ref (n + 160), .ref (n + 173), .ref (n + 177), .ref (n + 181), .ref (n + 186), .int 0, .ref (n + 187), .ref (n + 190), .ref (n + 193), .null]) (rest' := (110, us) :: (Q ++ ynTape (n + 158) ++ ynReader (n + 160) ++ ynFlow (n + 173) ++ ynBlockPasses (n + 177) ++ ynFlowPasses (n + 181) ++ [(101, List.replicate 30 (.long 0))] ++ ynMachine (n + 187) ++ ynMachine (n + 190) ++ ynMachine (n + 193))) yn_Machine hn (by simp only [List.length_cons, List.length_append, List.length_nil, hQ, ynTape_l, ynReader_l, ynFlow_l, ynBlockPasses_l, ynFlowPasses_l, ynMachine_l]) (Nat.le_of_ble_eq_true rfl) rfl rfl ?_
  refine yi_ar (w := 4) (k := 196) (vs' := [.ref (n + 1), .int 0, .ref (n + 158), .ref (n + 160), .ref (n + 173), .ref (n + 177), .ref (n + 181), .ref (n + 186), .int 0, .ref (n + 187), .ref (n + 190), .ref (n + 193), .ref (n + 196)]) (rest' := (110, us) :: (Q ++ ynTape (n + 158) ++ ynReader (n + 160) ++ ynFlow (n + 173) ++ ynBlockPasses (n + 177) ++ ynFlowPasses (n + 181) ++ [(101, List.replicate 30 (.long 0))] ++ ynMachine (n + 187) ++ ynMachine (n + 190) ++ ynMachine (n + 193) ++ [(101, List.replicate 4 (.long 0))])) (by decide) hn (by simp only [List.length_cons, List.length_append, List.length_nil, hQ, ynTape_l, ynReader_l, ynFlow_l, ynBlockPasses_l, ynFlowPasses_l, ynMachine_l]) (Nat.le_of_ble_eq_true rfl) rfl rfl ?_
  exact congrArg (fun t => some (Sum.inl (none, yHl b _ t))) (by omega)
def ynForge (n : Nat) : List zC := (0, [.ref (n + 1), .int 0, .ref (n + 158), .ref (n + 160), .ref (n + 173), .ref (n + 177), .ref (n + 181), .ref (n + 186), .int 0, .ref (n + 187), .ref (n + 190), .ref (n + 193), .ref (n + 196)]) :: (110, [.ref (n + 2), .ref (n + 15), .ref (n + 28), .ref (n + 41), .ref (n + 54), .ref (n + 67), .ref (n + 80), .ref (n + 93), .ref (n + 106), .ref (n + 119), .ref (n + 132), .ref (n + 145)]) :: (ynTwelve n ++ ynTape (n + 158) ++ ynReader (n + 160) ++ ynFlow (n + 173) ++ ynBlockPasses (n + 177) ++ ynFlowPasses (n + 181) ++ [(101, List.replicate 30 (.long 0))] ++ ynMachine (n + 187) ++ ynMachine (n + 190) ++ ynMachine (n + 193) ++ [(101, List.replicate 4 (.long 0))])
theorem yn_PassForge (q : List zC) (s : Nat) : zCall zCode kPassForge_init [.ref (5 + q.length)] (yHl b (q ++ [(0, [.null, .int 0, .null, .null, .null, .null, .null, .null, .int 0, .null, .null, .null, .null])]) s) = some (.inl (none, yHl b (q ++ ynForge (5 + q.length)) (s + 17533))) := by
  generalize hn : 5 + q.length = n
  have hn := hn.symm
  rw [za_PassForge_init, zb_PassForge_init_0]
  refine yi_ar (w := 12) (k := 1) (vs' := [.ref (n + 1), .int 0, .null, .null, .null, .null, .null, .null, .int 0, .null, .null, .null, .null]) (rest' := [(110, [.null, .null, .null, .null, .null, .null, .null, .null, .null, .null, .null, .null])]) (by decide) hn rfl (Nat.le_of_ble_eq_true rfl) rfl rfl ?_
  refine yi_loop hn ?_
  rw [yi_rest ynTwelve_l rfl hn]
  exact congrArg (fun t => some (Sum.inl (none, yHl b (q ++ ynForge n) t))) (by omega)
theorem ynForge_l : (ynForge n).length = 197 := by
  unfold ynForge
  simp only [List.length_cons, List.length_append, List.length_nil, ynTwelve_l, ynTape_l, ynReader_l, ynFlow_l, ynBlockPasses_l, ynFlowPasses_l, ynMachine_l]
theorem ynModel_l : (ynModel n).length = 33 := rfl
def ynAll : List zC := ynForge 5 ++ ynModel 202 ++ [(101, [.long 0])] ++ [(105, [.double 0])]
set_option maxRecDepth 100000 in
theorem yn_Law (x0 : Nat) : zRun zCode kLaw_law 0 [.ref x0, .retAddr 0, .retAddr 0, .retAddr 0, .retAddr 0, .retAddr 0, .retAddr 0, .retAddr 0, .retAddr 0] [] (yHl b [] 0) = zRun zCode kLaw_law 16 [.ref x0, .ref 5, .ref 202, .ref 235, .ref 236, .int (zi 0), .retAddr 0, .retAddr 0, .retAddr 0] [] (yHl b ynAll 27089) := by
  have e1 : ¬ (zi 1 < 0 ∨ 65536 < (zi 1).toNatClampNeg) := by decide
  have e2 : (zi 1).toNatClampNeg = 1 := by decide
  have q1 : (yHl b (ynForge 5) 17546).1 = 202 := by
    show 5 + (ynForge 5).length = 202
    simp only [ynForge_l]
  have q2 : (yHl b (ynForge 5 ++ ynModel 202) 27087).1 = 235 := by
    show 5 + (ynForge 5 ++ ynModel 202).length = 235
    simp only [List.length_append, ynForge_l, ynModel_l]
  have q3 : (yHl b (ynForge 5 ++ ynModel 202 ++ [(101, [.long 0])]) 27088).1 = 236 := by
    show 5 + (ynForge 5 ++ ynModel 202 ++ [((101, [.long 0]) : zC)]).length = 236
    simp only [List.length_append, ynForge_l, ynModel_l, List.length_cons, List.length_nil]
  rw [zb_Law_law_0, yHl_push]
  show (zCall zCode kPassForge_init [.ref (5 + ([] : List zC).length)] (yHl b ([] ++ [_]) (0 + 13))).bind _ = _
  rw [yn_PassForge]
  show (zCall zCode kModel_init [.ref (yHl b (ynForge 5) 17546).1] (zPush (yHl b (ynForge 5) 17546) 32 _)).bind _ = _
  rw [yHl_push, q1, show (202 : Nat) = 5 + (ynForge 5).length by simp only [ynForge_l], yn_Model, ynForge_l]
  show (if zi 1 < 0 ∨ 65536 < (zi 1).toNatClampNeg then none else if zi 1 < 0 ∨ 65536 < (zi 1).toNatClampNeg then none else zRun zCode kLaw_law 16 [.ref x0, .ref (yHl b [] 0).1, .ref (5 + 197), .ref (yHl b (ynForge 5 ++ ynModel 202) 27087).1, .ref (zPush (yHl b (ynForge 5 ++ ynModel 202) 27087) (zi 1).toNatClampNeg (101, List.replicate (zi 1).toNatClampNeg (.long 0))).1, .int (zi 0), .retAddr 0, .retAddr 0, .retAddr 0] [] (zPush (zPush (yHl b (ynForge 5 ++ ynModel 202) 27087) (zi 1).toNatClampNeg (101, List.replicate (zi 1).toNatClampNeg (.long 0))) (zi 1).toNatClampNeg (105, List.replicate (zi 1).toNatClampNeg (.double 0)))) = _
  rw [if_neg e1, if_neg e1, e2, q2, yHl_push, yHl_push]
  show zRun zCode kLaw_law 16 [.ref x0, .ref 5, .ref 202, .ref 235, .ref (yHl b (ynForge 5 ++ ynModel 202 ++ [(101, [.long 0])]) 27088).1, .int (zi 0), .retAddr 0, .retAddr 0, .retAddr 0] [] (yHl b ynAll 27089) = _
  rw [q3]
end YFORGE
