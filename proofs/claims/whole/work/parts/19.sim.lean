/-! One step of the small machine, held against the JVM. -/
section ZSIM
variable {p : Program} {l : Launch} {e : Env} {R : Room} {s : State} {m : MethodId} {args : Array Value} {below : List Frame} {meth : Method} {c : Code} {Q : State → Prop} {D : zD} {ad : Nat → Nat} {o : Nat → Value} {base : Nat} {mi : Nat} {h0 : zH} {i : Nat} {L st : List Value} {h : zH} {r : zR} {N : zN} {J : zJ} {Cc : zF} {e1 len : Nat} {q : zI} {ms : List Nat}
abbrev zHy (p : Program) (l : Launch) (e : Env) (R : Room) (s : State) (m : MethodId) (args : Array Value) (below : List Frame) (meth : Method) (c : Code) (Q : State → Prop) (D : zD) (ad : Nat → Nat) (o : Nat → Value) (base : Nat) (mi : Nat) (h0 : zH) (i : Nat) (r : zR) (N : zN) (J : zJ) (Cc : zF) : Prop :=
  zCx p l s m args meth c R D ad o base mi ∧ zEnd p l e R s m args below meth c Q D ad o base mi h0 r ∧ (zRh r).1 ≤ h0.1 + R.cells ∧ (zRh r).2.1 ≤ h0.2.1 + R.slots ∧ (∀ a b c', N a b c' = some r → zG p l e R s m args below meth c Q D ad o base mi h0 (i + 1) a b c') ∧ (∀ t a b c', J t a b c' = some r → zG p l e R s m args below meth c Q D ad o base mi h0 t a b c') ∧
  (∀ a b c' r', N a b c' = some r' → zLe c' (zRh r')) ∧ (∀ t a b c' r', J t a b c' = some r' → zLe c' (zRh r')) ∧ (∀ k a c' rc, zCallee k = true → Cc k a c' = some rc → zLe c' (zRh rc) ∧ zMet l D ad o base k a c' rc)
theorem zI1_i {k : Int32 → List Value → Option zR} (h : zI1 st k = some r) : ∃ x t, st = .int x :: t ∧ k x t = some r := by
  unfold zI1 at h; split at h
  · exact ⟨_, _, rfl, h⟩
  · cases h
theorem zL1_i {k : Int64 → List Value → Option zR} (h : zL1 st k = some r) : ∃ x t, st = .long x :: t ∧ k x t = some r := by
  unfold zL1 at h; split at h
  · exact ⟨_, _, rfl, h⟩
  · cases h
theorem zA1_i {k : Nat → List Value → Option zR} (h : zA1 st k = some r) : ∃ x t, st = .ref x :: t ∧ k x t = some r := by
  unfold zA1 at h; split at h
  · exact ⟨_, _, rfl, h⟩
  · cases h
theorem zV1_i {k : Value → List Value → Option zR} (h : zV1 st k = some r) : ∃ x t, st = x :: t ∧ k x t = some r := by
  unfold zV1 at h; split at h
  · exact ⟨_, _, rfl, h⟩
  · cases h
theorem zII_i {k : Int32 → Int32 → List Value → Option zR} (h : zII st k = some r) : ∃ x y t, st = .int y :: .int x :: t ∧ k x y t = some r := by
  unfold zII at h; split at h
  · exact ⟨_, _, _, rfl, h⟩
  · cases h
theorem zLL_i {k : Int64 → Int64 → List Value → Option zR} (h : zLL st k = some r) : ∃ x y t, st = .long y :: .long x :: t ∧ k x y t = some r := by
  unfold zLL at h; split at h
  · exact ⟨_, _, _, rfl, h⟩
  · cases h
theorem zLI_i {k : Int64 → Int32 → List Value → Option zR} (h : zLI st k = some r) : ∃ x y t, st = .int y :: .long x :: t ∧ k x y t = some r := by
  unfold zLI at h; split at h
  · exact ⟨_, _, _, rfl, h⟩
  · cases h
theorem zDD_i {k : UInt64 → UInt64 → List Value → Option zR} (h : zDD st k = some r) : ∃ x y t, st = .double y :: .double x :: t ∧ k x y t = some r := by
  unfold zDD at h; split at h
  · exact ⟨_, _, _, rfl, h⟩
  · cases h
theorem zAI_i {k : Nat → Int32 → List Value → Option zR} (h : zAI st k = some r) : ∃ a x t, st = .int x :: .ref a :: t ∧ k a x t = some r := by
  unfold zAI at h; split at h
  · exact ⟨_, _, _, rfl, h⟩
  · cases h
theorem zEmp_i {k : Option zR} (h : zEmp st k = some r) : st = [] ∧ k = some r := by
  unfold zEmp at h; split at h
  · exact ⟨rfl, h⟩
  · cases h
theorem zBind_i {α : Type} {o : Option α} {k : α → Option zR} (h : (o.bind fun v => k v) = some r) : ∃ v, o = some v ∧ k v = some r := Option.bind_eq_some_iff.mp h
theorem zTyped_i {ty : Nat} {o : Option Value} {k : Value → Option zR} (h : zTyped ty o k = some r) : ∃ v, o = some v ∧ v ≠ .retAddr 0 ∧ k v = some r := by
  unfold zTyped at h
  split at h <;> (
    obtain ⟨x, h1, h2⟩ := zBind_i h
    cases o with
    | none => cases h1
    | some v => cases v <;> first | cases h1 <;> exact ⟨_, rfl, (fun z => by cases z), h2⟩ | cases h1)
theorem zVI_i {o : Option Value} {x : Int32} (h : zVI o = some x) : o = some (.int x) := by
  unfold zVI at h; split at h
  · cases h; rfl
  · cases h
theorem zB_i {x y : Int32} (h : zB x = some y) : y = x ∧ (x = 0 ∨ x = 1) := by
  unfold zB at h
  split at h
  · rename_i e; cases h; exact ⟨e.symm, Or.inl e⟩
  · split at h
    · rename_i e; cases h; exact ⟨e.symm, Or.inr e⟩
    · cases h
theorem zTy_i {ty : Nat} {v : Value} (h : zTy ty v = true) : (∃ x, v = .int x ∧ ty = 0) ∨ (∃ x, v = .long x ∧ ty = 1) ∨ (∃ x, v = .double x ∧ ty = 3) ∨ (∃ x, v = .ref x ∧ ty = 2) := by
  cases v <;> simp [zTy] at h <;> simp [h]
theorem zBr_i {cc : Jvm.ClassFile.Cond} {x y : Int32} {t f : Option zR} (h : zBr cc x y t f = some r) : zBr cc x y (t = some r) (f = some r) := by
  cases cc <;> (unfold zBr at h ⊢; dsimp only at h ⊢; split at h <;> (rename_i hq; simp only [hq, if_true, if_false]; exact h))
theorem zM_iadd (Y : zHy p l e R s m args below meth c Q D ad o base mi h0 i r N J Cc) (hp : e1 % 65536 = zPc mi i) (hd : decode (zBy mi) (zPc mi i) = .ok (.iadd, len)) (hm : zMatch mi i (e1, q, ms) (.iadd) len = true) (hs : zStep N J Cc q L st h = some r) : zG p l e R s m args below meth c Q D ad o base mi h0 i L st h := by
  obtain ⟨C, hE, hb1, hb2, hN, hJ, mN, mJ, hC⟩ := Y
  simp only [zMatch, Bool.and_eq_true, decide_eq_true_eq, hp] at hm
  obtain ⟨⟨rfl, nx⟩, rfl⟩ := hm
  simp only [zStep] at hs
  obtain ⟨x, y, t, rfl, g1⟩ := zII_i hs
  exact zS_iadd C hd nx (hN _ _ _ g1)
theorem zM_isub (Y : zHy p l e R s m args below meth c Q D ad o base mi h0 i r N J Cc) (hp : e1 % 65536 = zPc mi i) (hd : decode (zBy mi) (zPc mi i) = .ok (.isub, len)) (hm : zMatch mi i (e1, q, ms) (.isub) len = true) (hs : zStep N J Cc q L st h = some r) : zG p l e R s m args below meth c Q D ad o base mi h0 i L st h := by
  obtain ⟨C, hE, hb1, hb2, hN, hJ, mN, mJ, hC⟩ := Y
  simp only [zMatch, Bool.and_eq_true, decide_eq_true_eq, hp] at hm
  obtain ⟨⟨rfl, nx⟩, rfl⟩ := hm
  simp only [zStep] at hs
  obtain ⟨x, y, t, rfl, g1⟩ := zII_i hs
  exact zS_isub C hd nx (hN _ _ _ g1)
theorem zM_imul (Y : zHy p l e R s m args below meth c Q D ad o base mi h0 i r N J Cc) (hp : e1 % 65536 = zPc mi i) (hd : decode (zBy mi) (zPc mi i) = .ok (.imul, len)) (hm : zMatch mi i (e1, q, ms) (.imul) len = true) (hs : zStep N J Cc q L st h = some r) : zG p l e R s m args below meth c Q D ad o base mi h0 i L st h := by
  obtain ⟨C, hE, hb1, hb2, hN, hJ, mN, mJ, hC⟩ := Y
  simp only [zMatch, Bool.and_eq_true, decide_eq_true_eq, hp] at hm
  obtain ⟨⟨rfl, nx⟩, rfl⟩ := hm
  simp only [zStep] at hs
  obtain ⟨x, y, t, rfl, g1⟩ := zII_i hs
  exact zS_imul C hd nx (hN _ _ _ g1)
theorem zM_iand (Y : zHy p l e R s m args below meth c Q D ad o base mi h0 i r N J Cc) (hp : e1 % 65536 = zPc mi i) (hd : decode (zBy mi) (zPc mi i) = .ok (.iand, len)) (hm : zMatch mi i (e1, q, ms) (.iand) len = true) (hs : zStep N J Cc q L st h = some r) : zG p l e R s m args below meth c Q D ad o base mi h0 i L st h := by
  obtain ⟨C, hE, hb1, hb2, hN, hJ, mN, mJ, hC⟩ := Y
  simp only [zMatch, Bool.and_eq_true, decide_eq_true_eq, hp] at hm
  obtain ⟨⟨rfl, nx⟩, rfl⟩ := hm
  simp only [zStep] at hs
  obtain ⟨x, y, t, rfl, g1⟩ := zII_i hs
  exact zS_iand C hd nx (hN _ _ _ g1)
theorem zM_ior (Y : zHy p l e R s m args below meth c Q D ad o base mi h0 i r N J Cc) (hp : e1 % 65536 = zPc mi i) (hd : decode (zBy mi) (zPc mi i) = .ok (.ior, len)) (hm : zMatch mi i (e1, q, ms) (.ior) len = true) (hs : zStep N J Cc q L st h = some r) : zG p l e R s m args below meth c Q D ad o base mi h0 i L st h := by
  obtain ⟨C, hE, hb1, hb2, hN, hJ, mN, mJ, hC⟩ := Y
  simp only [zMatch, Bool.and_eq_true, decide_eq_true_eq, hp] at hm
  obtain ⟨⟨rfl, nx⟩, rfl⟩ := hm
  simp only [zStep] at hs
  obtain ⟨x, y, t, rfl, g1⟩ := zII_i hs
  exact zS_ior C hd nx (hN _ _ _ g1)
theorem zM_ixor (Y : zHy p l e R s m args below meth c Q D ad o base mi h0 i r N J Cc) (hp : e1 % 65536 = zPc mi i) (hd : decode (zBy mi) (zPc mi i) = .ok (.ixor, len)) (hm : zMatch mi i (e1, q, ms) (.ixor) len = true) (hs : zStep N J Cc q L st h = some r) : zG p l e R s m args below meth c Q D ad o base mi h0 i L st h := by
  obtain ⟨C, hE, hb1, hb2, hN, hJ, mN, mJ, hC⟩ := Y
  simp only [zMatch, Bool.and_eq_true, decide_eq_true_eq, hp] at hm
  obtain ⟨⟨rfl, nx⟩, rfl⟩ := hm
  simp only [zStep] at hs
  obtain ⟨x, y, t, rfl, g1⟩ := zII_i hs
  exact zS_ixor C hd nx (hN _ _ _ g1)
theorem zM_ishl (Y : zHy p l e R s m args below meth c Q D ad o base mi h0 i r N J Cc) (hp : e1 % 65536 = zPc mi i) (hd : decode (zBy mi) (zPc mi i) = .ok (.ishl, len)) (hm : zMatch mi i (e1, q, ms) (.ishl) len = true) (hs : zStep N J Cc q L st h = some r) : zG p l e R s m args below meth c Q D ad o base mi h0 i L st h := by
  obtain ⟨C, hE, hb1, hb2, hN, hJ, mN, mJ, hC⟩ := Y
  simp only [zMatch, Bool.and_eq_true, decide_eq_true_eq, hp] at hm
  obtain ⟨⟨rfl, nx⟩, rfl⟩ := hm
  simp only [zStep] at hs
  obtain ⟨x, y, t, rfl, g1⟩ := zII_i hs
  exact zS_ishl C hd nx (hN _ _ _ g1)
theorem zM_ishr (Y : zHy p l e R s m args below meth c Q D ad o base mi h0 i r N J Cc) (hp : e1 % 65536 = zPc mi i) (hd : decode (zBy mi) (zPc mi i) = .ok (.ishr, len)) (hm : zMatch mi i (e1, q, ms) (.ishr) len = true) (hs : zStep N J Cc q L st h = some r) : zG p l e R s m args below meth c Q D ad o base mi h0 i L st h := by
  obtain ⟨C, hE, hb1, hb2, hN, hJ, mN, mJ, hC⟩ := Y
  simp only [zMatch, Bool.and_eq_true, decide_eq_true_eq, hp] at hm
  obtain ⟨⟨rfl, nx⟩, rfl⟩ := hm
  simp only [zStep] at hs
  obtain ⟨x, y, t, rfl, g1⟩ := zII_i hs
  exact zS_ishr C hd nx (hN _ _ _ g1)
theorem zM_iushr (Y : zHy p l e R s m args below meth c Q D ad o base mi h0 i r N J Cc) (hp : e1 % 65536 = zPc mi i) (hd : decode (zBy mi) (zPc mi i) = .ok (.iushr, len)) (hm : zMatch mi i (e1, q, ms) (.iushr) len = true) (hs : zStep N J Cc q L st h = some r) : zG p l e R s m args below meth c Q D ad o base mi h0 i L st h := by
  obtain ⟨C, hE, hb1, hb2, hN, hJ, mN, mJ, hC⟩ := Y
  simp only [zMatch, Bool.and_eq_true, decide_eq_true_eq, hp] at hm
  obtain ⟨⟨rfl, nx⟩, rfl⟩ := hm
  simp only [zStep] at hs
  obtain ⟨x, y, t, rfl, g1⟩ := zII_i hs
  exact zS_iushr C hd nx (hN _ _ _ g1)
theorem zM_idiv (Y : zHy p l e R s m args below meth c Q D ad o base mi h0 i r N J Cc) (hp : e1 % 65536 = zPc mi i) (hd : decode (zBy mi) (zPc mi i) = .ok (.idiv, len)) (hm : zMatch mi i (e1, q, ms) (.idiv) len = true) (hs : zStep N J Cc q L st h = some r) : zG p l e R s m args below meth c Q D ad o base mi h0 i L st h := by
  obtain ⟨C, hE, hb1, hb2, hN, hJ, mN, mJ, hC⟩ := Y
  simp only [zMatch, Bool.and_eq_true, decide_eq_true_eq, hp] at hm
  obtain ⟨⟨rfl, nx⟩, rfl⟩ := hm
  simp only [zStep] at hs
  obtain ⟨x, y, t, rfl, g1⟩ := zII_i hs
  split at g1
  · cases g1
  · rename_i hy
    exact zS_idiv C hd nx hy (hN _ _ _ g1)
theorem zM_irem (Y : zHy p l e R s m args below meth c Q D ad o base mi h0 i r N J Cc) (hp : e1 % 65536 = zPc mi i) (hd : decode (zBy mi) (zPc mi i) = .ok (.irem, len)) (hm : zMatch mi i (e1, q, ms) (.irem) len = true) (hs : zStep N J Cc q L st h = some r) : zG p l e R s m args below meth c Q D ad o base mi h0 i L st h := by
  obtain ⟨C, hE, hb1, hb2, hN, hJ, mN, mJ, hC⟩ := Y
  simp only [zMatch, Bool.and_eq_true, decide_eq_true_eq, hp] at hm
  obtain ⟨⟨rfl, nx⟩, rfl⟩ := hm
  simp only [zStep] at hs
  obtain ⟨x, y, t, rfl, g1⟩ := zII_i hs
  split at g1
  · cases g1
  · rename_i hy
    exact zS_irem C hd nx hy (hN _ _ _ g1)
theorem zM_ladd (Y : zHy p l e R s m args below meth c Q D ad o base mi h0 i r N J Cc) (hp : e1 % 65536 = zPc mi i) (hd : decode (zBy mi) (zPc mi i) = .ok (.ladd, len)) (hm : zMatch mi i (e1, q, ms) (.ladd) len = true) (hs : zStep N J Cc q L st h = some r) : zG p l e R s m args below meth c Q D ad o base mi h0 i L st h := by
  obtain ⟨C, hE, hb1, hb2, hN, hJ, mN, mJ, hC⟩ := Y
  simp only [zMatch, Bool.and_eq_true, decide_eq_true_eq, hp] at hm
  obtain ⟨⟨rfl, nx⟩, rfl⟩ := hm
  simp only [zStep] at hs
  obtain ⟨x, y, t, rfl, g1⟩ := zLL_i hs
  exact zS_ladd C hd nx (hN _ _ _ g1)
theorem zM_lsub (Y : zHy p l e R s m args below meth c Q D ad o base mi h0 i r N J Cc) (hp : e1 % 65536 = zPc mi i) (hd : decode (zBy mi) (zPc mi i) = .ok (.lsub, len)) (hm : zMatch mi i (e1, q, ms) (.lsub) len = true) (hs : zStep N J Cc q L st h = some r) : zG p l e R s m args below meth c Q D ad o base mi h0 i L st h := by
  obtain ⟨C, hE, hb1, hb2, hN, hJ, mN, mJ, hC⟩ := Y
  simp only [zMatch, Bool.and_eq_true, decide_eq_true_eq, hp] at hm
  obtain ⟨⟨rfl, nx⟩, rfl⟩ := hm
  simp only [zStep] at hs
  obtain ⟨x, y, t, rfl, g1⟩ := zLL_i hs
  exact zS_lsub C hd nx (hN _ _ _ g1)
theorem zM_lmul (Y : zHy p l e R s m args below meth c Q D ad o base mi h0 i r N J Cc) (hp : e1 % 65536 = zPc mi i) (hd : decode (zBy mi) (zPc mi i) = .ok (.lmul, len)) (hm : zMatch mi i (e1, q, ms) (.lmul) len = true) (hs : zStep N J Cc q L st h = some r) : zG p l e R s m args below meth c Q D ad o base mi h0 i L st h := by
  obtain ⟨C, hE, hb1, hb2, hN, hJ, mN, mJ, hC⟩ := Y
  simp only [zMatch, Bool.and_eq_true, decide_eq_true_eq, hp] at hm
  obtain ⟨⟨rfl, nx⟩, rfl⟩ := hm
  simp only [zStep] at hs
  obtain ⟨x, y, t, rfl, g1⟩ := zLL_i hs
  exact zS_lmul C hd nx (hN _ _ _ g1)
theorem zM_land (Y : zHy p l e R s m args below meth c Q D ad o base mi h0 i r N J Cc) (hp : e1 % 65536 = zPc mi i) (hd : decode (zBy mi) (zPc mi i) = .ok (.land, len)) (hm : zMatch mi i (e1, q, ms) (.land) len = true) (hs : zStep N J Cc q L st h = some r) : zG p l e R s m args below meth c Q D ad o base mi h0 i L st h := by
  obtain ⟨C, hE, hb1, hb2, hN, hJ, mN, mJ, hC⟩ := Y
  simp only [zMatch, Bool.and_eq_true, decide_eq_true_eq, hp] at hm
  obtain ⟨⟨rfl, nx⟩, rfl⟩ := hm
  simp only [zStep] at hs
  obtain ⟨x, y, t, rfl, g1⟩ := zLL_i hs
  exact zS_land C hd nx (hN _ _ _ g1)
theorem zM_lor (Y : zHy p l e R s m args below meth c Q D ad o base mi h0 i r N J Cc) (hp : e1 % 65536 = zPc mi i) (hd : decode (zBy mi) (zPc mi i) = .ok (.lor, len)) (hm : zMatch mi i (e1, q, ms) (.lor) len = true) (hs : zStep N J Cc q L st h = some r) : zG p l e R s m args below meth c Q D ad o base mi h0 i L st h := by
  obtain ⟨C, hE, hb1, hb2, hN, hJ, mN, mJ, hC⟩ := Y
  simp only [zMatch, Bool.and_eq_true, decide_eq_true_eq, hp] at hm
  obtain ⟨⟨rfl, nx⟩, rfl⟩ := hm
  simp only [zStep] at hs
  obtain ⟨x, y, t, rfl, g1⟩ := zLL_i hs
  exact zS_lor C hd nx (hN _ _ _ g1)
theorem zM_lxor (Y : zHy p l e R s m args below meth c Q D ad o base mi h0 i r N J Cc) (hp : e1 % 65536 = zPc mi i) (hd : decode (zBy mi) (zPc mi i) = .ok (.lxor, len)) (hm : zMatch mi i (e1, q, ms) (.lxor) len = true) (hs : zStep N J Cc q L st h = some r) : zG p l e R s m args below meth c Q D ad o base mi h0 i L st h := by
  obtain ⟨C, hE, hb1, hb2, hN, hJ, mN, mJ, hC⟩ := Y
  simp only [zMatch, Bool.and_eq_true, decide_eq_true_eq, hp] at hm
  obtain ⟨⟨rfl, nx⟩, rfl⟩ := hm
  simp only [zStep] at hs
  obtain ⟨x, y, t, rfl, g1⟩ := zLL_i hs
  exact zS_lxor C hd nx (hN _ _ _ g1)
theorem zM_lcmp (Y : zHy p l e R s m args below meth c Q D ad o base mi h0 i r N J Cc) (hp : e1 % 65536 = zPc mi i) (hd : decode (zBy mi) (zPc mi i) = .ok (.lcmp, len)) (hm : zMatch mi i (e1, q, ms) (.lcmp) len = true) (hs : zStep N J Cc q L st h = some r) : zG p l e R s m args below meth c Q D ad o base mi h0 i L st h := by
  obtain ⟨C, hE, hb1, hb2, hN, hJ, mN, mJ, hC⟩ := Y
  simp only [zMatch, Bool.and_eq_true, decide_eq_true_eq, hp] at hm
  obtain ⟨⟨rfl, nx⟩, rfl⟩ := hm
  simp only [zStep] at hs
  obtain ⟨x, y, t, rfl, g1⟩ := zLL_i hs
  exact zS_lcmp C hd nx (hN _ _ _ g1)
theorem zM_ldiv (Y : zHy p l e R s m args below meth c Q D ad o base mi h0 i r N J Cc) (hp : e1 % 65536 = zPc mi i) (hd : decode (zBy mi) (zPc mi i) = .ok (.ldiv, len)) (hm : zMatch mi i (e1, q, ms) (.ldiv) len = true) (hs : zStep N J Cc q L st h = some r) : zG p l e R s m args below meth c Q D ad o base mi h0 i L st h := by
  obtain ⟨C, hE, hb1, hb2, hN, hJ, mN, mJ, hC⟩ := Y
  simp only [zMatch, Bool.and_eq_true, decide_eq_true_eq, hp] at hm
  obtain ⟨⟨rfl, nx⟩, rfl⟩ := hm
  simp only [zStep] at hs
  obtain ⟨x, y, t, rfl, g1⟩ := zLL_i hs
  split at g1
  · cases g1
  · rename_i hy
    exact zS_ldiv C hd nx hy (hN _ _ _ g1)
theorem zM_lrem (Y : zHy p l e R s m args below meth c Q D ad o base mi h0 i r N J Cc) (hp : e1 % 65536 = zPc mi i) (hd : decode (zBy mi) (zPc mi i) = .ok (.lrem, len)) (hm : zMatch mi i (e1, q, ms) (.lrem) len = true) (hs : zStep N J Cc q L st h = some r) : zG p l e R s m args below meth c Q D ad o base mi h0 i L st h := by
  obtain ⟨C, hE, hb1, hb2, hN, hJ, mN, mJ, hC⟩ := Y
  simp only [zMatch, Bool.and_eq_true, decide_eq_true_eq, hp] at hm
  obtain ⟨⟨rfl, nx⟩, rfl⟩ := hm
  simp only [zStep] at hs
  obtain ⟨x, y, t, rfl, g1⟩ := zLL_i hs
  split at g1
  · cases g1
  · rename_i hy
    exact zS_lrem C hd nx hy (hN _ _ _ g1)
theorem zM_lshl (Y : zHy p l e R s m args below meth c Q D ad o base mi h0 i r N J Cc) (hp : e1 % 65536 = zPc mi i) (hd : decode (zBy mi) (zPc mi i) = .ok (.lshl, len)) (hm : zMatch mi i (e1, q, ms) (.lshl) len = true) (hs : zStep N J Cc q L st h = some r) : zG p l e R s m args below meth c Q D ad o base mi h0 i L st h := by
  obtain ⟨C, hE, hb1, hb2, hN, hJ, mN, mJ, hC⟩ := Y
  simp only [zMatch, Bool.and_eq_true, decide_eq_true_eq, hp] at hm
  obtain ⟨⟨rfl, nx⟩, rfl⟩ := hm
  simp only [zStep] at hs
  obtain ⟨x, y, t, rfl, g1⟩ := zLI_i hs
  exact zS_lshl C hd nx (hN _ _ _ g1)
theorem zM_lneg (Y : zHy p l e R s m args below meth c Q D ad o base mi h0 i r N J Cc) (hp : e1 % 65536 = zPc mi i) (hd : decode (zBy mi) (zPc mi i) = .ok (.lneg, len)) (hm : zMatch mi i (e1, q, ms) (.lneg) len = true) (hs : zStep N J Cc q L st h = some r) : zG p l e R s m args below meth c Q D ad o base mi h0 i L st h := by
  obtain ⟨C, hE, hb1, hb2, hN, hJ, mN, mJ, hC⟩ := Y
  simp only [zMatch, Bool.and_eq_true, decide_eq_true_eq, hp] at hm
  obtain ⟨⟨rfl, nx⟩, rfl⟩ := hm
  simp only [zStep] at hs
  obtain ⟨x, t, rfl, g1⟩ := zL1_i hs
  exact zS_lneg C hd nx (hN _ _ _ g1)
theorem zM_l2i (Y : zHy p l e R s m args below meth c Q D ad o base mi h0 i r N J Cc) (hp : e1 % 65536 = zPc mi i) (hd : decode (zBy mi) (zPc mi i) = .ok (.l2i, len)) (hm : zMatch mi i (e1, q, ms) (.l2i) len = true) (hs : zStep N J Cc q L st h = some r) : zG p l e R s m args below meth c Q D ad o base mi h0 i L st h := by
  obtain ⟨C, hE, hb1, hb2, hN, hJ, mN, mJ, hC⟩ := Y
  simp only [zMatch, Bool.and_eq_true, decide_eq_true_eq, hp] at hm
  obtain ⟨⟨rfl, nx⟩, rfl⟩ := hm
  simp only [zStep] at hs
  obtain ⟨x, t, rfl, g1⟩ := zL1_i hs
  exact zS_l2i C hd nx (hN _ _ _ g1)
theorem zM_i2l (Y : zHy p l e R s m args below meth c Q D ad o base mi h0 i r N J Cc) (hp : e1 % 65536 = zPc mi i) (hd : decode (zBy mi) (zPc mi i) = .ok (.i2l, len)) (hm : zMatch mi i (e1, q, ms) (.i2l) len = true) (hs : zStep N J Cc q L st h = some r) : zG p l e R s m args below meth c Q D ad o base mi h0 i L st h := by
  obtain ⟨C, hE, hb1, hb2, hN, hJ, mN, mJ, hC⟩ := Y
  simp only [zMatch, Bool.and_eq_true, decide_eq_true_eq, hp] at hm
  obtain ⟨⟨rfl, nx⟩, rfl⟩ := hm
  simp only [zStep] at hs
  obtain ⟨x, t, rfl, g1⟩ := zI1_i hs
  exact zS_i2l C hd nx (hN _ _ _ g1)
theorem zM_i2b (Y : zHy p l e R s m args below meth c Q D ad o base mi h0 i r N J Cc) (hp : e1 % 65536 = zPc mi i) (hd : decode (zBy mi) (zPc mi i) = .ok (.i2b, len)) (hm : zMatch mi i (e1, q, ms) (.i2b) len = true) (hs : zStep N J Cc q L st h = some r) : zG p l e R s m args below meth c Q D ad o base mi h0 i L st h := by
  obtain ⟨C, hE, hb1, hb2, hN, hJ, mN, mJ, hC⟩ := Y
  simp only [zMatch, Bool.and_eq_true, decide_eq_true_eq, hp] at hm
  obtain ⟨⟨rfl, nx⟩, rfl⟩ := hm
  simp only [zStep] at hs
  obtain ⟨x, t, rfl, g1⟩ := zI1_i hs
  exact zS_i2b C hd nx (hN _ _ _ g1)
theorem zM_i2c (Y : zHy p l e R s m args below meth c Q D ad o base mi h0 i r N J Cc) (hp : e1 % 65536 = zPc mi i) (hd : decode (zBy mi) (zPc mi i) = .ok (.i2c, len)) (hm : zMatch mi i (e1, q, ms) (.i2c) len = true) (hs : zStep N J Cc q L st h = some r) : zG p l e R s m args below meth c Q D ad o base mi h0 i L st h := by
  obtain ⟨C, hE, hb1, hb2, hN, hJ, mN, mJ, hC⟩ := Y
  simp only [zMatch, Bool.and_eq_true, decide_eq_true_eq, hp] at hm
  obtain ⟨⟨rfl, nx⟩, rfl⟩ := hm
  simp only [zStep] at hs
  obtain ⟨x, t, rfl, g1⟩ := zI1_i hs
  exact zS_i2c C hd nx (hN _ _ _ g1)
theorem zM_i2d (Y : zHy p l e R s m args below meth c Q D ad o base mi h0 i r N J Cc) (hp : e1 % 65536 = zPc mi i) (hd : decode (zBy mi) (zPc mi i) = .ok (.i2d, len)) (hm : zMatch mi i (e1, q, ms) (.i2d) len = true) (hs : zStep N J Cc q L st h = some r) : zG p l e R s m args below meth c Q D ad o base mi h0 i L st h := by
  obtain ⟨C, hE, hb1, hb2, hN, hJ, mN, mJ, hC⟩ := Y
  simp only [zMatch, Bool.and_eq_true, decide_eq_true_eq, hp] at hm
  obtain ⟨⟨rfl, nx⟩, rfl⟩ := hm
  simp only [zStep] at hs
  obtain ⟨x, t, rfl, g1⟩ := zI1_i hs
  exact zS_i2d C hd nx (hN _ _ _ g1)
theorem zM_ddiv (Y : zHy p l e R s m args below meth c Q D ad o base mi h0 i r N J Cc) (hp : e1 % 65536 = zPc mi i) (hd : decode (zBy mi) (zPc mi i) = .ok (.ddiv, len)) (hm : zMatch mi i (e1, q, ms) (.ddiv) len = true) (hs : zStep N J Cc q L st h = some r) : zG p l e R s m args below meth c Q D ad o base mi h0 i L st h := by
  obtain ⟨C, hE, hb1, hb2, hN, hJ, mN, mJ, hC⟩ := Y
  simp only [zMatch, Bool.and_eq_true, decide_eq_true_eq, hp] at hm
  obtain ⟨⟨rfl, nx⟩, rfl⟩ := hm
  simp only [zStep] at hs
  obtain ⟨x, y, t, rfl, g1⟩ := zDD_i hs
  split at g1
  · rename_i hn
    exact zS_ddiv C hd nx hn (hN _ _ _ g1)
  · cases g1
theorem zM_dcmp {oo : CmpOp} (Y : zHy p l e R s m args below meth c Q D ad o base mi h0 i r N J Cc) (hp : e1 % 65536 = zPc mi i) (hd : decode (zBy mi) (zPc mi i) = .ok (.dcmp oo, len)) (hm : zMatch mi i (e1, q, ms) (.dcmp oo) len = true) (hs : zStep N J Cc q L st h = some r) : zG p l e R s m args below meth c Q D ad o base mi h0 i L st h := by
  obtain ⟨C, hE, hb1, hb2, hN, hJ, mN, mJ, hC⟩ := Y
  simp only [zMatch, Bool.and_eq_true, decide_eq_true_eq, hp] at hm
  obtain ⟨⟨rfl, nx⟩, rfl⟩ := hm
  simp only [zStep] at hs
  obtain ⟨x, y, t, rfl, g1⟩ := zDD_i hs
  exact zS_dcmp C hd nx (hN _ _ _ g1)
theorem zM_iload {kk : Nat} (Y : zHy p l e R s m args below meth c Q D ad o base mi h0 i r N J Cc) (hp : e1 % 65536 = zPc mi i) (hd : decode (zBy mi) (zPc mi i) = .ok (.iload kk, len)) (hm : zMatch mi i (e1, q, ms) (.iload kk) len = true) (hs : zStep N J Cc q L st h = some r) : zG p l e R s m args below meth c Q D ad o base mi h0 i L st h := by
  obtain ⟨C, hE, hb1, hb2, hN, hJ, mN, mJ, hC⟩ := Y
  simp only [zMatch, Bool.and_eq_true, decide_eq_true_eq, hp] at hm
  obtain ⟨⟨rfl, nx⟩, rfl⟩ := hm
  simp only [zStep] at hs
  obtain ⟨v, hv, hs⟩ := zBind_i hs
  obtain ⟨hy, hs⟩ := zOk_some hs
  rcases zTy_i hy with ⟨x, rfl, e⟩ | ⟨x, rfl, e⟩ | ⟨x, rfl, e⟩ | ⟨x, rfl, e⟩
  · exact zS_iload C hd nx hv (hN _ _ _ hs)
  · cases e
  · cases e
  · cases e
theorem zM_istore {kk : Nat} (Y : zHy p l e R s m args below meth c Q D ad o base mi h0 i r N J Cc) (hp : e1 % 65536 = zPc mi i) (hd : decode (zBy mi) (zPc mi i) = .ok (.istore kk, len)) (hm : zMatch mi i (e1, q, ms) (.istore kk) len = true) (hs : zStep N J Cc q L st h = some r) : zG p l e R s m args below meth c Q D ad o base mi h0 i L st h := by
  obtain ⟨C, hE, hb1, hb2, hN, hJ, mN, mJ, hC⟩ := Y
  simp only [zMatch, Bool.and_eq_true, decide_eq_true_eq, hp] at hm
  obtain ⟨⟨⟨rfl, nx⟩, rfl⟩, hk⟩ := hm
  simp only [zStep] at hs
  obtain ⟨v, t, rfl, g1⟩ := zV1_i hs
  obtain ⟨hy, g2⟩ := zOk_some g1
  rcases zTy_i hy with ⟨x, rfl, e⟩ | ⟨x, rfl, e⟩ | ⟨x, rfl, e⟩ | ⟨x, rfl, e⟩
  · exact zS_istore C hd nx hk (hN _ _ _ g2)
  · cases e
  · cases e
  · cases e
theorem zM_iload_n {kk : Fin 4} (Y : zHy p l e R s m args below meth c Q D ad o base mi h0 i r N J Cc) (hp : e1 % 65536 = zPc mi i) (hd : decode (zBy mi) (zPc mi i) = .ok (.iload_n kk, len)) (hm : zMatch mi i (e1, q, ms) (.iload_n kk) len = true) (hs : zStep N J Cc q L st h = some r) : zG p l e R s m args below meth c Q D ad o base mi h0 i L st h := by
  obtain ⟨C, hE, hb1, hb2, hN, hJ, mN, mJ, hC⟩ := Y
  simp only [zMatch, Bool.and_eq_true, decide_eq_true_eq, hp] at hm
  obtain ⟨⟨rfl, nx⟩, rfl⟩ := hm
  simp only [zStep] at hs
  obtain ⟨v, hv, hs⟩ := zBind_i hs
  obtain ⟨hy, hs⟩ := zOk_some hs
  rcases zTy_i hy with ⟨x, rfl, e⟩ | ⟨x, rfl, e⟩ | ⟨x, rfl, e⟩ | ⟨x, rfl, e⟩
  · exact zS_iload_n C hd nx hv (hN _ _ _ hs)
  · cases e
  · cases e
  · cases e
theorem zM_istore_n {kk : Fin 4} (Y : zHy p l e R s m args below meth c Q D ad o base mi h0 i r N J Cc) (hp : e1 % 65536 = zPc mi i) (hd : decode (zBy mi) (zPc mi i) = .ok (.istore_n kk, len)) (hm : zMatch mi i (e1, q, ms) (.istore_n kk) len = true) (hs : zStep N J Cc q L st h = some r) : zG p l e R s m args below meth c Q D ad o base mi h0 i L st h := by
  obtain ⟨C, hE, hb1, hb2, hN, hJ, mN, mJ, hC⟩ := Y
  simp only [zMatch, Bool.and_eq_true, decide_eq_true_eq, hp] at hm
  obtain ⟨⟨⟨rfl, nx⟩, rfl⟩, hk⟩ := hm
  simp only [zStep] at hs
  obtain ⟨v, t, rfl, g1⟩ := zV1_i hs
  obtain ⟨hy, g2⟩ := zOk_some g1
  rcases zTy_i hy with ⟨x, rfl, e⟩ | ⟨x, rfl, e⟩ | ⟨x, rfl, e⟩ | ⟨x, rfl, e⟩
  · exact zS_istore_n C hd nx hk (hN _ _ _ g2)
  · cases e
  · cases e
  · cases e
theorem zM_lload {kk : Nat} (Y : zHy p l e R s m args below meth c Q D ad o base mi h0 i r N J Cc) (hp : e1 % 65536 = zPc mi i) (hd : decode (zBy mi) (zPc mi i) = .ok (.lload kk, len)) (hm : zMatch mi i (e1, q, ms) (.lload kk) len = true) (hs : zStep N J Cc q L st h = some r) : zG p l e R s m args below meth c Q D ad o base mi h0 i L st h := by
  obtain ⟨C, hE, hb1, hb2, hN, hJ, mN, mJ, hC⟩ := Y
  simp only [zMatch, Bool.and_eq_true, decide_eq_true_eq, hp] at hm
  obtain ⟨⟨rfl, nx⟩, rfl⟩ := hm
  simp only [zStep] at hs
  obtain ⟨v, hv, hs⟩ := zBind_i hs
  obtain ⟨hy, hs⟩ := zOk_some hs
  rcases zTy_i hy with ⟨x, rfl, e⟩ | ⟨x, rfl, e⟩ | ⟨x, rfl, e⟩ | ⟨x, rfl, e⟩
  · cases e
  · exact zS_lload C hd nx hv (hN _ _ _ hs)
  · cases e
  · cases e
theorem zM_lstore {kk : Nat} (Y : zHy p l e R s m args below meth c Q D ad o base mi h0 i r N J Cc) (hp : e1 % 65536 = zPc mi i) (hd : decode (zBy mi) (zPc mi i) = .ok (.lstore kk, len)) (hm : zMatch mi i (e1, q, ms) (.lstore kk) len = true) (hs : zStep N J Cc q L st h = some r) : zG p l e R s m args below meth c Q D ad o base mi h0 i L st h := by
  obtain ⟨C, hE, hb1, hb2, hN, hJ, mN, mJ, hC⟩ := Y
  simp only [zMatch, Bool.and_eq_true, decide_eq_true_eq, hp] at hm
  obtain ⟨⟨⟨rfl, nx⟩, rfl⟩, hk⟩ := hm
  simp only [zStep] at hs
  obtain ⟨v, t, rfl, g1⟩ := zV1_i hs
  obtain ⟨hy, g2⟩ := zOk_some g1
  rcases zTy_i hy with ⟨x, rfl, e⟩ | ⟨x, rfl, e⟩ | ⟨x, rfl, e⟩ | ⟨x, rfl, e⟩
  · cases e
  · exact zS_lstore C hd nx hk (hN _ _ _ g2)
  · cases e
  · cases e
theorem zM_lload_n {kk : Fin 4} (Y : zHy p l e R s m args below meth c Q D ad o base mi h0 i r N J Cc) (hp : e1 % 65536 = zPc mi i) (hd : decode (zBy mi) (zPc mi i) = .ok (.lload_n kk, len)) (hm : zMatch mi i (e1, q, ms) (.lload_n kk) len = true) (hs : zStep N J Cc q L st h = some r) : zG p l e R s m args below meth c Q D ad o base mi h0 i L st h := by
  obtain ⟨C, hE, hb1, hb2, hN, hJ, mN, mJ, hC⟩ := Y
  simp only [zMatch, Bool.and_eq_true, decide_eq_true_eq, hp] at hm
  obtain ⟨⟨rfl, nx⟩, rfl⟩ := hm
  simp only [zStep] at hs
  obtain ⟨v, hv, hs⟩ := zBind_i hs
  obtain ⟨hy, hs⟩ := zOk_some hs
  rcases zTy_i hy with ⟨x, rfl, e⟩ | ⟨x, rfl, e⟩ | ⟨x, rfl, e⟩ | ⟨x, rfl, e⟩
  · cases e
  · exact zS_lload_n C hd nx hv (hN _ _ _ hs)
  · cases e
  · cases e
theorem zM_lstore_n {kk : Fin 4} (Y : zHy p l e R s m args below meth c Q D ad o base mi h0 i r N J Cc) (hp : e1 % 65536 = zPc mi i) (hd : decode (zBy mi) (zPc mi i) = .ok (.lstore_n kk, len)) (hm : zMatch mi i (e1, q, ms) (.lstore_n kk) len = true) (hs : zStep N J Cc q L st h = some r) : zG p l e R s m args below meth c Q D ad o base mi h0 i L st h := by
  obtain ⟨C, hE, hb1, hb2, hN, hJ, mN, mJ, hC⟩ := Y
  simp only [zMatch, Bool.and_eq_true, decide_eq_true_eq, hp] at hm
  obtain ⟨⟨⟨rfl, nx⟩, rfl⟩, hk⟩ := hm
  simp only [zStep] at hs
  obtain ⟨v, t, rfl, g1⟩ := zV1_i hs
  obtain ⟨hy, g2⟩ := zOk_some g1
  rcases zTy_i hy with ⟨x, rfl, e⟩ | ⟨x, rfl, e⟩ | ⟨x, rfl, e⟩ | ⟨x, rfl, e⟩
  · cases e
  · exact zS_lstore_n C hd nx hk (hN _ _ _ g2)
  · cases e
  · cases e
theorem zM_aload {kk : Nat} (Y : zHy p l e R s m args below meth c Q D ad o base mi h0 i r N J Cc) (hp : e1 % 65536 = zPc mi i) (hd : decode (zBy mi) (zPc mi i) = .ok (.aload kk, len)) (hm : zMatch mi i (e1, q, ms) (.aload kk) len = true) (hs : zStep N J Cc q L st h = some r) : zG p l e R s m args below meth c Q D ad o base mi h0 i L st h := by
  obtain ⟨C, hE, hb1, hb2, hN, hJ, mN, mJ, hC⟩ := Y
  simp only [zMatch, Bool.and_eq_true, decide_eq_true_eq, hp] at hm
  obtain ⟨⟨rfl, nx⟩, rfl⟩ := hm
  simp only [zStep] at hs
  obtain ⟨v, hv, hs⟩ := zBind_i hs
  obtain ⟨hy, hs⟩ := zOk_some hs
  rcases zTy_i hy with ⟨x, rfl, e⟩ | ⟨x, rfl, e⟩ | ⟨x, rfl, e⟩ | ⟨x, rfl, e⟩
  · cases e
  · cases e
  · cases e
  · exact zS_aload C hd nx hv (hN _ _ _ hs)
theorem zM_astore {kk : Nat} (Y : zHy p l e R s m args below meth c Q D ad o base mi h0 i r N J Cc) (hp : e1 % 65536 = zPc mi i) (hd : decode (zBy mi) (zPc mi i) = .ok (.astore kk, len)) (hm : zMatch mi i (e1, q, ms) (.astore kk) len = true) (hs : zStep N J Cc q L st h = some r) : zG p l e R s m args below meth c Q D ad o base mi h0 i L st h := by
  obtain ⟨C, hE, hb1, hb2, hN, hJ, mN, mJ, hC⟩ := Y
  simp only [zMatch, Bool.and_eq_true, decide_eq_true_eq, hp] at hm
  obtain ⟨⟨⟨rfl, nx⟩, rfl⟩, hk⟩ := hm
  simp only [zStep] at hs
  obtain ⟨v, t, rfl, g1⟩ := zV1_i hs
  obtain ⟨hy, g2⟩ := zOk_some g1
  rcases zTy_i hy with ⟨x, rfl, e⟩ | ⟨x, rfl, e⟩ | ⟨x, rfl, e⟩ | ⟨x, rfl, e⟩
  · cases e
  · cases e
  · cases e
  · exact zS_astore C hd nx hk (hN _ _ _ g2)
theorem zM_aload_n {kk : Fin 4} (Y : zHy p l e R s m args below meth c Q D ad o base mi h0 i r N J Cc) (hp : e1 % 65536 = zPc mi i) (hd : decode (zBy mi) (zPc mi i) = .ok (.aload_n kk, len)) (hm : zMatch mi i (e1, q, ms) (.aload_n kk) len = true) (hs : zStep N J Cc q L st h = some r) : zG p l e R s m args below meth c Q D ad o base mi h0 i L st h := by
  obtain ⟨C, hE, hb1, hb2, hN, hJ, mN, mJ, hC⟩ := Y
  simp only [zMatch, Bool.and_eq_true, decide_eq_true_eq, hp] at hm
  obtain ⟨⟨rfl, nx⟩, rfl⟩ := hm
  simp only [zStep] at hs
  obtain ⟨v, hv, hs⟩ := zBind_i hs
  obtain ⟨hy, hs⟩ := zOk_some hs
  rcases zTy_i hy with ⟨x, rfl, e⟩ | ⟨x, rfl, e⟩ | ⟨x, rfl, e⟩ | ⟨x, rfl, e⟩
  · cases e
  · cases e
  · cases e
  · exact zS_aload_n C hd nx hv (hN _ _ _ hs)
theorem zM_astore_n {kk : Fin 4} (Y : zHy p l e R s m args below meth c Q D ad o base mi h0 i r N J Cc) (hp : e1 % 65536 = zPc mi i) (hd : decode (zBy mi) (zPc mi i) = .ok (.astore_n kk, len)) (hm : zMatch mi i (e1, q, ms) (.astore_n kk) len = true) (hs : zStep N J Cc q L st h = some r) : zG p l e R s m args below meth c Q D ad o base mi h0 i L st h := by
  obtain ⟨C, hE, hb1, hb2, hN, hJ, mN, mJ, hC⟩ := Y
  simp only [zMatch, Bool.and_eq_true, decide_eq_true_eq, hp] at hm
  obtain ⟨⟨⟨rfl, nx⟩, rfl⟩, hk⟩ := hm
  simp only [zStep] at hs
  obtain ⟨v, t, rfl, g1⟩ := zV1_i hs
  obtain ⟨hy, g2⟩ := zOk_some g1
  rcases zTy_i hy with ⟨x, rfl, e⟩ | ⟨x, rfl, e⟩ | ⟨x, rfl, e⟩ | ⟨x, rfl, e⟩
  · cases e
  · cases e
  · cases e
  · exact zS_astore_n C hd nx hk (hN _ _ _ g2)
theorem zM_dload {kk : Nat} (Y : zHy p l e R s m args below meth c Q D ad o base mi h0 i r N J Cc) (hp : e1 % 65536 = zPc mi i) (hd : decode (zBy mi) (zPc mi i) = .ok (.dload kk, len)) (hm : zMatch mi i (e1, q, ms) (.dload kk) len = true) (hs : zStep N J Cc q L st h = some r) : zG p l e R s m args below meth c Q D ad o base mi h0 i L st h := by
  obtain ⟨C, hE, hb1, hb2, hN, hJ, mN, mJ, hC⟩ := Y
  simp only [zMatch, Bool.and_eq_true, decide_eq_true_eq, hp] at hm
  obtain ⟨⟨rfl, nx⟩, rfl⟩ := hm
  simp only [zStep] at hs
  obtain ⟨v, hv, hs⟩ := zBind_i hs
  obtain ⟨hy, hs⟩ := zOk_some hs
  rcases zTy_i hy with ⟨x, rfl, e⟩ | ⟨x, rfl, e⟩ | ⟨x, rfl, e⟩ | ⟨x, rfl, e⟩
  · cases e
  · cases e
  · exact zS_dload C hd nx hv (hN _ _ _ hs)
  · cases e
theorem zM_dstore {kk : Nat} (Y : zHy p l e R s m args below meth c Q D ad o base mi h0 i r N J Cc) (hp : e1 % 65536 = zPc mi i) (hd : decode (zBy mi) (zPc mi i) = .ok (.dstore kk, len)) (hm : zMatch mi i (e1, q, ms) (.dstore kk) len = true) (hs : zStep N J Cc q L st h = some r) : zG p l e R s m args below meth c Q D ad o base mi h0 i L st h := by
  obtain ⟨C, hE, hb1, hb2, hN, hJ, mN, mJ, hC⟩ := Y
  simp only [zMatch, Bool.and_eq_true, decide_eq_true_eq, hp] at hm
  obtain ⟨⟨⟨rfl, nx⟩, rfl⟩, hk⟩ := hm
  simp only [zStep] at hs
  obtain ⟨v, t, rfl, g1⟩ := zV1_i hs
  obtain ⟨hy, g2⟩ := zOk_some g1
  rcases zTy_i hy with ⟨x, rfl, e⟩ | ⟨x, rfl, e⟩ | ⟨x, rfl, e⟩ | ⟨x, rfl, e⟩
  · cases e
  · cases e
  · exact zS_dstore C hd nx hk (hN _ _ _ g2)
  · cases e
theorem zM_dload_n {kk : Fin 4} (Y : zHy p l e R s m args below meth c Q D ad o base mi h0 i r N J Cc) (hp : e1 % 65536 = zPc mi i) (hd : decode (zBy mi) (zPc mi i) = .ok (.dload_n kk, len)) (hm : zMatch mi i (e1, q, ms) (.dload_n kk) len = true) (hs : zStep N J Cc q L st h = some r) : zG p l e R s m args below meth c Q D ad o base mi h0 i L st h := by
  obtain ⟨C, hE, hb1, hb2, hN, hJ, mN, mJ, hC⟩ := Y
  simp only [zMatch, Bool.and_eq_true, decide_eq_true_eq, hp] at hm
  obtain ⟨⟨rfl, nx⟩, rfl⟩ := hm
  simp only [zStep] at hs
  obtain ⟨v, hv, hs⟩ := zBind_i hs
  obtain ⟨hy, hs⟩ := zOk_some hs
  rcases zTy_i hy with ⟨x, rfl, e⟩ | ⟨x, rfl, e⟩ | ⟨x, rfl, e⟩ | ⟨x, rfl, e⟩
  · cases e
  · cases e
  · exact zS_dload_n C hd nx hv (hN _ _ _ hs)
  · cases e
theorem zM_dstore_n {kk : Fin 4} (Y : zHy p l e R s m args below meth c Q D ad o base mi h0 i r N J Cc) (hp : e1 % 65536 = zPc mi i) (hd : decode (zBy mi) (zPc mi i) = .ok (.dstore_n kk, len)) (hm : zMatch mi i (e1, q, ms) (.dstore_n kk) len = true) (hs : zStep N J Cc q L st h = some r) : zG p l e R s m args below meth c Q D ad o base mi h0 i L st h := by
  obtain ⟨C, hE, hb1, hb2, hN, hJ, mN, mJ, hC⟩ := Y
  simp only [zMatch, Bool.and_eq_true, decide_eq_true_eq, hp] at hm
  obtain ⟨⟨⟨rfl, nx⟩, rfl⟩, hk⟩ := hm
  simp only [zStep] at hs
  obtain ⟨v, t, rfl, g1⟩ := zV1_i hs
  obtain ⟨hy, g2⟩ := zOk_some g1
  rcases zTy_i hy with ⟨x, rfl, e⟩ | ⟨x, rfl, e⟩ | ⟨x, rfl, e⟩ | ⟨x, rfl, e⟩
  · cases e
  · cases e
  · exact zS_dstore_n C hd nx hk (hN _ _ _ g2)
  · cases e
theorem zM_iconst {n : Int} (Y : zHy p l e R s m args below meth c Q D ad o base mi h0 i r N J Cc) (hp : e1 % 65536 = zPc mi i) (hd : decode (zBy mi) (zPc mi i) = .ok (.iconst n, len)) (hm : zMatch mi i (e1, q, ms) (.iconst n) len = true) (hs : zStep N J Cc q L st h = some r) : zG p l e R s m args below meth c Q D ad o base mi h0 i L st h := by
  obtain ⟨C, hE, hb1, hb2, hN, hJ, mN, mJ, hC⟩ := Y
  simp only [zMatch, Bool.and_eq_true, decide_eq_true_eq, hp] at hm
  obtain ⟨⟨rfl, nx⟩, rfl⟩ := hm
  simp only [zStep] at hs
  exact zS_iconst C hd nx (hN _ _ _ hs)
theorem zM_bipush {n : Int} (Y : zHy p l e R s m args below meth c Q D ad o base mi h0 i r N J Cc) (hp : e1 % 65536 = zPc mi i) (hd : decode (zBy mi) (zPc mi i) = .ok (.bipush n, len)) (hm : zMatch mi i (e1, q, ms) (.bipush n) len = true) (hs : zStep N J Cc q L st h = some r) : zG p l e R s m args below meth c Q D ad o base mi h0 i L st h := by
  obtain ⟨C, hE, hb1, hb2, hN, hJ, mN, mJ, hC⟩ := Y
  simp only [zMatch, Bool.and_eq_true, decide_eq_true_eq, hp] at hm
  obtain ⟨⟨⟨rfl, nx⟩, rfl⟩, hv⟩ := hm
  simp only [zStep] at hs
  exact zS_bipush C hd nx hv (hN _ _ _ hs)
theorem zM_sipush {n : Int} (Y : zHy p l e R s m args below meth c Q D ad o base mi h0 i r N J Cc) (hp : e1 % 65536 = zPc mi i) (hd : decode (zBy mi) (zPc mi i) = .ok (.sipush n, len)) (hm : zMatch mi i (e1, q, ms) (.sipush n) len = true) (hs : zStep N J Cc q L st h = some r) : zG p l e R s m args below meth c Q D ad o base mi h0 i L st h := by
  obtain ⟨C, hE, hb1, hb2, hN, hJ, mN, mJ, hC⟩ := Y
  simp only [zMatch, Bool.and_eq_true, decide_eq_true_eq, hp] at hm
  obtain ⟨⟨⟨rfl, nx⟩, rfl⟩, hv⟩ := hm
  simp only [zStep] at hs
  exact zS_sipush C hd nx hv (hN _ _ _ hs)
theorem zM_lconst {n : Fin 2} (Y : zHy p l e R s m args below meth c Q D ad o base mi h0 i r N J Cc) (hp : e1 % 65536 = zPc mi i) (hd : decode (zBy mi) (zPc mi i) = .ok (.lconst n, len)) (hm : zMatch mi i (e1, q, ms) (.lconst n) len = true) (hs : zStep N J Cc q L st h = some r) : zG p l e R s m args below meth c Q D ad o base mi h0 i L st h := by
  obtain ⟨C, hE, hb1, hb2, hN, hJ, mN, mJ, hC⟩ := Y
  simp only [zMatch, Bool.and_eq_true, decide_eq_true_eq, hp] at hm
  obtain ⟨⟨rfl, nx⟩, rfl⟩ := hm
  simp only [zStep] at hs
  exact zS_lconst C hd nx (hN _ _ _ hs)
theorem zM_dconst {d : Fin 2} (Y : zHy p l e R s m args below meth c Q D ad o base mi h0 i r N J Cc) (hp : e1 % 65536 = zPc mi i) (hd : decode (zBy mi) (zPc mi i) = .ok (.dconst d, len)) (hm : zMatch mi i (e1, q, ms) (.dconst d) len = true) (hs : zStep N J Cc q L st h = some r) : zG p l e R s m args below meth c Q D ad o base mi h0 i L st h := by
  obtain ⟨C, hE, hb1, hb2, hN, hJ, mN, mJ, hC⟩ := Y
  simp only [zMatch, Bool.and_eq_true, decide_eq_true_eq, hp] at hm
  obtain ⟨⟨rfl, nx⟩, rfl⟩ := hm
  simp only [zStep] at hs
  match d, hd, hs with
  | 0, hd, hs => exact zS_dconst0 C hd nx (hN _ _ _ hs)
  | 1, hd, hs => exact zS_dconst1 C hd nx (hN _ _ _ hs)
theorem zM_ldc2_w {idx : Nat} (Y : zHy p l e R s m args below meth c Q D ad o base mi h0 i r N J Cc) (hp : e1 % 65536 = zPc mi i) (hd : decode (zBy mi) (zPc mi i) = .ok (.ldc2_w idx, len)) (hm : zMatch mi i (e1, q, ms) (.ldc2_w idx) len = true) (hs : zStep N J Cc q L st h = some r) : zG p l e R s m args below meth c Q D ad o base mi h0 i L st h := by
  obtain ⟨C, hE, hb1, hb2, hN, hJ, mN, mJ, hC⟩ := Y
  simp only [zMatch, Bool.and_eq_true, decide_eq_true_eq, hp] at hm
  obtain ⟨⟨⟨hq, nx⟩, rfl⟩, hw⟩ := hm
  rw [hq] at hs
  simp only [zStep] at hs
  exact zS_ldc2 C hd nx (zHas_in hw) (hN _ _ _ hs)
theorem zM_iinc {kk : Nat} {n : Int} (Y : zHy p l e R s m args below meth c Q D ad o base mi h0 i r N J Cc) (hp : e1 % 65536 = zPc mi i) (hd : decode (zBy mi) (zPc mi i) = .ok (.iinc kk n, len)) (hm : zMatch mi i (e1, q, ms) (.iinc kk n) len = true) (hs : zStep N J Cc q L st h = some r) : zG p l e R s m args below meth c Q D ad o base mi h0 i L st h := by
  obtain ⟨C, hE, hb1, hb2, hN, hJ, mN, mJ, hC⟩ := Y
  simp only [zMatch, Bool.and_eq_true, decide_eq_true_eq, hp] at hm
  obtain ⟨⟨⟨rfl, nx⟩, rfl⟩, hk⟩ := hm
  simp only [zStep] at hs
  obtain ⟨v, hv, hs⟩ := zBind_i hs
  exact zS_iinc C hd nx hk (zVI_i hv) (hN _ _ _ hs)
theorem zM_dup (Y : zHy p l e R s m args below meth c Q D ad o base mi h0 i r N J Cc) (hp : e1 % 65536 = zPc mi i) (hd : decode (zBy mi) (zPc mi i) = .ok (.dup, len)) (hm : zMatch mi i (e1, q, ms) (.dup) len = true) (hs : zStep N J Cc q L st h = some r) : zG p l e R s m args below meth c Q D ad o base mi h0 i L st h := by
  obtain ⟨C, hE, hb1, hb2, hN, hJ, mN, mJ, hC⟩ := Y
  simp only [zMatch, Bool.and_eq_true, decide_eq_true_eq, hp] at hm
  obtain ⟨⟨rfl, nx⟩, rfl⟩ := hm
  simp only [zStep] at hs
  obtain ⟨v, t, rfl, g1⟩ := zV1_i hs
  obtain ⟨hy, g2⟩ := zOk_some g1
  exact zS_dup C hd nx (Nat.eq_of_beq_eq_true hy) (hN _ _ _ g2)
theorem zM_pop (Y : zHy p l e R s m args below meth c Q D ad o base mi h0 i r N J Cc) (hp : e1 % 65536 = zPc mi i) (hd : decode (zBy mi) (zPc mi i) = .ok (.pop, len)) (hm : zMatch mi i (e1, q, ms) (.pop) len = true) (hs : zStep N J Cc q L st h = some r) : zG p l e R s m args below meth c Q D ad o base mi h0 i L st h := by
  obtain ⟨C, hE, hb1, hb2, hN, hJ, mN, mJ, hC⟩ := Y
  simp only [zMatch, Bool.and_eq_true, decide_eq_true_eq, hp] at hm
  obtain ⟨⟨rfl, nx⟩, rfl⟩ := hm
  simp only [zStep] at hs
  obtain ⟨v, t, rfl, g1⟩ := zV1_i hs
  obtain ⟨hy, g2⟩ := zOk_some g1
  exact zS_pop C hd nx (Nat.eq_of_beq_eq_true hy) (hN _ _ _ g2)
end ZSIM
