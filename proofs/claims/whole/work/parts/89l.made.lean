/-! The law's beginning ends at zMk. -/
section YMADE
variable {S : Int → Int}
abbrev yZ0 (S : Int → Int) : Nat → zC := zCel (yI0 S) yL0
theorem yq_P0 : yMq (yZ0 S) 7 (ynProgram 7) := ⟨yf_7, yf_8, yf_9, yf_10, yf_11, yf_12, yf_13, yf_14, yf_15, yf_16, yf_17, yf_18, yf_19, trivial⟩
theorem yq_P1 : yMq (yZ0 S) 20 (ynProgram 20) := ⟨yf_20, yf_21, yf_22, yf_23, yf_24, yf_25, yf_26, yf_27, yf_28, yf_29, yf_30, yf_31, yf_32, trivial⟩
theorem yq_P2 : yMq (yZ0 S) 33 (ynProgram 33) := ⟨yf_33, yf_34, yf_35, yf_36, yf_37, yf_38, yf_39, yf_40, yf_41, yf_42, yf_43, yf_44, yf_45, trivial⟩
theorem yq_P3 : yMq (yZ0 S) 46 (ynProgram 46) := ⟨yf_46, yf_47, yf_48, yf_49, yf_50, yf_51, yf_52, yf_53, yf_54, yf_55, yf_56, yf_57, yf_58, trivial⟩
theorem yq_P4 : yMq (yZ0 S) 59 (ynProgram 59) := ⟨yf_59, yf_60, yf_61, yf_62, yf_63, yf_64, yf_65, yf_66, yf_67, yf_68, yf_69, yf_70, yf_71, trivial⟩
theorem yq_P5 : yMq (yZ0 S) 72 (ynProgram 72) := ⟨yf_72, yf_73, yf_74, yf_75, yf_76, yf_77, yf_78, yf_79, yf_80, yf_81, yf_82, yf_83, yf_84, trivial⟩
theorem yq_P6 : yMq (yZ0 S) 85 (ynProgram 85) := ⟨yf_85, yf_86, yf_87, yf_88, yf_89, yf_90, yf_91, yf_92, yf_93, yf_94, yf_95, yf_96, yf_97, trivial⟩
theorem yq_P7 : yMq (yZ0 S) 98 (ynProgram 98) := ⟨yf_98, yf_99, yf_100, yf_101, yf_102, yf_103, yf_104, yf_105, yf_106, yf_107, yf_108, yf_109, yf_110, trivial⟩
theorem yq_P8 : yMq (yZ0 S) 111 (ynProgram 111) := ⟨yf_111, yf_112, yf_113, yf_114, yf_115, yf_116, yf_117, yf_118, yf_119, yf_120, yf_121, yf_122, yf_123, trivial⟩
theorem yq_P9 : yMq (yZ0 S) 124 (ynProgram 124) := ⟨yf_124, yf_125, yf_126, yf_127, yf_128, yf_129, yf_130, yf_131, yf_132, yf_133, yf_134, yf_135, yf_136, trivial⟩
theorem yq_P10 : yMq (yZ0 S) 137 (ynProgram 137) := ⟨yf_137, yf_138, yf_139, yf_140, yf_141, yf_142, yf_143, yf_144, yf_145, yf_146, yf_147, yf_148, yf_149, trivial⟩
theorem yq_P11 : yMq (yZ0 S) 150 (ynProgram 150) := ⟨yf_150, yf_151, yf_152, yf_153, yf_154, yf_155, yf_156, yf_157, yf_158, yf_159, yf_160, yf_161, yf_162, trivial⟩
theorem yq_T : yMq (yZ0 S) 163 (ynTape 163) := ⟨yf_163, yf_164, trivial⟩
theorem yq_R : yMq (yZ0 S) 165 (ynReader 165) := ⟨yf_165, yMq_app (l1 := ynTokens 166 ++ ynNames 170) (yMq_app (l1 := ynTokens 166) ⟨yf_166, yf_167, yf_168, yf_169, trivial⟩ rfl ⟨yf_170, yf_171, yf_172, yf_173, trivial⟩) rfl ⟨yf_174, yf_175, yf_176, yf_177, trivial⟩⟩
theorem yq_F : yMq (yZ0 S) 178 (ynFlow 178) := ⟨yf_178, yf_179, yf_180, yf_181, trivial⟩
theorem yq_B : yMq (yZ0 S) 182 (ynBlockPasses 182) := ⟨yf_182, yf_183, yf_184, yf_185, trivial⟩
theorem yq_G : yMq (yZ0 S) 186 (ynFlowPasses 186) := ⟨yf_186, ⟨yf_187, yf_188, yf_189, yf_190, trivial⟩⟩
theorem yq_3 : yMq (yZ0 S) 191 ([(101, List.replicate 30 (.long 0))]) := ⟨yf_191, trivial⟩
theorem yq_Ma : yMq (yZ0 S) 192 (ynMachine 192) := ⟨yf_192, yf_193, yf_194, trivial⟩
theorem yq_Mb : yMq (yZ0 S) 195 (ynMachine 195) := ⟨yf_195, yf_196, yf_197, trivial⟩
theorem yq_Mc : yMq (yZ0 S) 198 (ynMachine 198) := ⟨yf_198, yf_199, yf_200, trivial⟩
theorem yq_4 : yMq (yZ0 S) 201 ([(101, List.replicate 4 (.long 0))]) := ⟨yf_201, trivial⟩
theorem yq_N : yMq (yZ0 S) 202 (ynModel 202) := ⟨yf_202, yf_203, yf_204, yf_205, yf_206, yf_207, yf_208, yf_209, yf_210, yf_211, yf_212, yf_213, yf_214, yf_215, yf_216, yf_217, yf_218, yf_219, yf_220, yf_221, yf_222, yf_223, yf_224, yf_225, yf_226, yf_227, yf_228, yf_229, yf_230, yf_231, yf_232, yf_233, yf_234, trivial⟩
theorem yq_x : yMq (yZ0 S) 235 ([(101, [.long 0])]) := ⟨yf_235, trivial⟩
theorem yq_y : yMq (yZ0 S) 236 ([(105, [.double 0])]) := ⟨yf_236, trivial⟩
theorem yq_12 : yMq (yZ0 S) 7 (ynProgram 7 ++ ynProgram 20 ++ ynProgram 33 ++ ynProgram 46 ++ ynProgram 59 ++ ynProgram 72 ++ ynProgram 85 ++ ynProgram 98 ++ ynProgram 111 ++ ynProgram 124 ++ ynProgram 137 ++ ynProgram 150) := yMq_app (yMq_app (yMq_app (yMq_app (yMq_app (yMq_app (yMq_app (yMq_app (yMq_app (yMq_app (yMq_app (yq_P0) (by simp only [List.length_append, ynProgram_l]) yq_P1) (by simp only [List.length_append, ynProgram_l]) yq_P2) (by simp only [List.length_append, ynProgram_l]) yq_P3) (by simp only [List.length_append, ynProgram_l]) yq_P4) (by simp only [List.length_append, ynProgram_l]) yq_P5) (by simp only [List.length_append, ynProgram_l]) yq_P6) (by simp only [List.length_append, ynProgram_l]) yq_P7) (by simp only [List.length_append, ynProgram_l]) yq_P8) (by simp only [List.length_append, ynProgram_l]) yq_P9) (by simp only [List.length_append, ynProgram_l]) yq_P10) (by simp only [List.length_append, ynProgram_l]) yq_P11
theorem yq_12t : yMq (yZ0 S) 7 (ynTwelve 5) := yq_12
theorem yq_Fr : yMq (yZ0 S) 7 (ynTwelve 5 ++ ynTape 163 ++ ynReader 165 ++ ynFlow 178 ++ ynBlockPasses 182 ++ ynFlowPasses 186 ++ [(101, List.replicate 30 (.long 0))] ++ ynMachine 192 ++ ynMachine 195 ++ ynMachine 198 ++ [(101, List.replicate 4 (.long 0))]) := yMq_app (yMq_app (yMq_app (yMq_app (yMq_app (yMq_app (yMq_app (yMq_app (yMq_app (yMq_app (yq_12t) (by simp only [List.length_append, List.length_cons, List.length_nil, ynTwelve_l, ynTape_l, ynReader_l, ynFlow_l, ynBlockPasses_l, ynFlowPasses_l, ynMachine_l]) yq_T) (by simp only [List.length_append, List.length_cons, List.length_nil, ynTwelve_l, ynTape_l, ynReader_l, ynFlow_l, ynBlockPasses_l, ynFlowPasses_l, ynMachine_l]) yq_R) (by simp only [List.length_append, List.length_cons, List.length_nil, ynTwelve_l, ynTape_l, ynReader_l, ynFlow_l, ynBlockPasses_l, ynFlowPasses_l, ynMachine_l]) yq_F) (by simp only [List.length_append, List.length_cons, List.length_nil, ynTwelve_l, ynTape_l, ynReader_l, ynFlow_l, ynBlockPasses_l, ynFlowPasses_l, ynMachine_l]) yq_B) (by simp only [List.length_append, List.length_cons, List.length_nil, ynTwelve_l, ynTape_l, ynReader_l, ynFlow_l, ynBlockPasses_l, ynFlowPasses_l, ynMachine_l]) yq_G) (by simp only [List.length_append, List.length_cons, List.length_nil, ynTwelve_l, ynTape_l, ynReader_l, ynFlow_l, ynBlockPasses_l, ynFlowPasses_l, ynMachine_l]) yq_3) (by simp only [List.length_append, List.length_cons, List.length_nil, ynTwelve_l, ynTape_l, ynReader_l, ynFlow_l, ynBlockPasses_l, ynFlowPasses_l, ynMachine_l]) yq_Ma) (by simp only [List.length_append, List.length_cons, List.length_nil, ynTwelve_l, ynTape_l, ynReader_l, ynFlow_l, ynBlockPasses_l, ynFlowPasses_l, ynMachine_l]) yq_Mb) (by simp only [List.length_append, List.length_cons, List.length_nil, ynTwelve_l, ynTape_l, ynReader_l, ynFlow_l, ynBlockPasses_l, ynFlowPasses_l, ynMachine_l]) yq_Mc) (by simp only [List.length_append, List.length_cons, List.length_nil, ynTwelve_l, ynTape_l, ynReader_l, ynFlow_l, ynBlockPasses_l, ynFlowPasses_l, ynMachine_l]) yq_4
theorem yq_Fo : yMq (yZ0 S) 5 (ynForge 5) := ⟨yf_5, yf_6, yq_Fr⟩
theorem yq_all : yMq (yZ0 S) 5 ynAll := yMq_app (yMq_app (yMq_app yq_Fo (by simp only [ynForge_l]) yq_N) (by simp only [List.length_append, ynForge_l, ynModel_l]) yq_x) (by simp only [List.length_append, ynForge_l, ynModel_l, List.length_cons, List.length_nil]) yq_y
theorem ynAll_l : ynAll.length = 232 := by
  unfold ynAll
  simp only [List.length_append, ynForge_l, ynModel_l, List.length_cons, List.length_nil]
def yS0 (L : Nat) (xs : Nat → Int32) (j : Int) : Int := if j = -1 then L else (xs j.toNat).toInt
theorem yq_b {L : Nat} {xs : Nat → Int32} : ∀ a, a < 5 → (zH0 L xs).2.2 a = zCel (yI0 (yS0 L xs)) yL0 a
  | 0, _ => by
    show ((106, (List.range L).map fun j => .int (xs j)) : zC) = (zKd 0, (List.range (zLn (yI0 (yS0 L xs)) 0)).map (zVal (yI0 (yS0 L xs)) yL0 0))
    have e1 : zLn (yI0 (yS0 L xs)) 0 = L := rfl
    have e2 : zVal (yI0 (yS0 L xs)) yL0 0 = fun j => .int (xs j) := funext fun j => by
      show Value.int (zi (if (j : Int) = -1 then (L : Int) else (xs (Int.toNat j)).toInt)) = _
      rw [if_neg (by omega), Int.toNat_natCast]
      unfold zi
      rw [Int32.ofInt_toInt]
    rw [e1, e2]; rfl
  | 1, _ => rfl
  | 2, _ => rfl
  | 3, _ => rfl
  | 4, _ => rfl
  | k + 5, h => absurd h (by omega)
theorem yq_e0 (L : Nat) (xs : Nat → Int32) : zH0 L xs = yHl (zH0 L xs).2.2 [] 0 := by
  refine Prod.ext rfl (Prod.ext rfl (funext fun a => ?_))
  show _ = if a < 5 then (zH0 L xs).2.2 a else (50, [])
  match a with
  | 0 => rfl
  | 1 => rfl
  | 2 => rfl
  | 3 => rfl
  | 4 => rfl
  | k + 5 => rw [if_neg (by omega)]; rfl
abbrev yq_m (L : Nat) (xs : Nat → Int32) (s : Nat) : zQ := (yI0 (yS0 L xs), yL0, (fun _ => (50, [])), 0, s)
theorem yq_run (L : Nat) (xs : Nat → Int32) : zRun zCode kLaw_law 0 (zInit 9 [.ref 0]) [] (zH0 L xs) = zRun zCode kLaw_law 16 [.ref 0, .ref 5, .ref 202, .ref 235, .ref 236, .int (zi 0), .retAddr 0, .retAddr 0, .retAddr 0] [] (zMk (yq_m L xs 27089)) := by
  have e1 : zInit 9 [.ref 0] = [.ref 0, .retAddr 0, .retAddr 0, .retAddr 0, .retAddr 0, .retAddr 0, .retAddr 0, .retAddr 0, .retAddr 0] := rfl
  rw [e1, yq_e0, yn_Law 0, yMq_heap yq_b yq_all ynAll_l]
variable {L : Nat} {xs : Nat → Int32} {s a : Nat}
theorem yq_z (h0 : a ≠ 0) (h1 : a ≠ 2) (h2 : a ≠ 4) (h3 : a ≠ 165) (h4 : a ≠ 202) (j : Int) : (yq_m L xs s).1 a j = 0 := by
  show yI0 (yS0 L xs) a j = 0
  unfold yI0
  rw [if_neg h0, if_neg h1, if_neg h2, if_neg h3, if_neg h4]
theorem yq_165 : (yq_m L xs s).1 165 4 = -1 := by
  show yI0 (yS0 L xs) 165 4 = -1
  unfold yI0
  rw [if_neg (by decide), if_neg (by decide), if_neg (by decide), if_pos rfl, if_pos rfl]
theorem yq_202 {j : Int} (h1 : j ≠ 14) (h2 : j ≠ 3) : (yq_m L xs s).1 202 j = 0 := by
  show yI0 (yS0 L xs) 202 j = 0
  unfold yI0
  rw [if_neg (by decide), if_neg (by decide), if_neg (by decide), if_neg (by decide), if_pos rfl, if_neg h1, if_neg h2]
theorem yq_14 : (yq_m L xs s).1 202 14 = -1 := by
  show yI0 (yS0 L xs) 202 14 = -1
  unfold yI0
  rw [if_neg (by decide), if_neg (by decide), if_neg (by decide), if_neg (by decide), if_pos rfl, if_pos rfl]
theorem yq_g : yIg (yq_m L xs s) := fun j h1 h2 k _ _ => yq_z (by omega) (by omega) (by omega) (by omega) (by omega) k
theorem yq_t : yIt (yq_m L xs s) := by
  unfold yIt
  rw [yq_z (a := 163) (by decide) (by decide) (by decide) (by decide) (by decide), yq_202 (by decide) (by decide)]
  exact ⟨⟨by decide, by decide⟩, rfl, fun j h1 h2 => absurd h2 (by omega)⟩
theorem yq_e : yIe (yq_m L xs s) := by
  unfold yIe
  rw [yq_165, yq_14]
  exact ⟨rfl, by decide, by decide⟩
theorem yq_p : yIp (yq_m L xs s) := by
  unfold yIp
  rw [yq_z (a := 5) (by decide) (by decide) (by decide) (by decide) (by decide), yq_202 (by decide) (by decide)]
  exact ⟨⟨by decide, by decide⟩, rfl, fun j h1 h2 => absurd h2 (by omega)⟩
theorem yq_l : yIl (yq_m L xs s) := by
  have e1 (j : Int) : (yq_m L xs s).1 192 j = 0 := yq_z (by decide) (by decide) (by decide) (by decide) (by decide) j
  have e2 (j : Int) : (yq_m L xs s).1 232 j = 0 := yq_z (by decide) (by decide) (by decide) (by decide) (by decide) j
  unfold yIl
  rw [e1, e1, e1, e2, e2, e2]
  exact ⟨.inl rfl, rfl, rfl, rfl, ⟨by decide, by decide⟩, ⟨by decide, by decide⟩, fun _ _ _ => rfl, fun _ _ _ _ => rfl⟩
theorem yq_iv : yIv 0 (yq_m L xs s) := ⟨⟨by decide, by decide⟩, yq_z (a := 5) (by decide) (by decide) (by decide) (by decide) (by decide) 1, yq_202 (by decide) (by decide), fun j h1 h2 => absurd h1 (by omega), yq_g, yq_t, yq_e, yq_p, yq_l⟩
theorem yq_tx : yTx (yq_m L xs s) := ⟨rfl, rfl, fun _ _ _ => rfl, fun _ _ _ => rfl⟩
theorem yq_scr (hL : L ≤ 3072) : yScr (yq_m L xs s) L (yS0 L xs) := by
  refine ⟨funext fun j => rfl, rfl, ⟨Int.natCast_nonneg L, by omega⟩, fun j => ?_⟩
  unfold yS0
  by_cases h : j = -1
  · rw [if_pos h]; omega
  · rw [if_neg h]
    have h1 := Int32.le_toInt (xs j.toNat)
    have h2 := Int32.toInt_lt (xs j.toNat)
    omega
theorem yMadeHolds : yMade := fun L xs hL => ⟨yq_m L xs 27089, yS0 L xs, yq_run L xs, yq_iv, yq_tx, yq_scr hL, Nat.zero_le _, Nat.le_of_ble_eq_true rfl⟩
theorem zPureHolds : zPure := zPure_of yMadeHolds
end YMADE
