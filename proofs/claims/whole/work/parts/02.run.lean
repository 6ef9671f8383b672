/-! The small machine's runs: by fuel, and without it; the equation of a step; a stretch of instructions at once. -/
section ZRUN
abbrev zGoF : Type := zN → zJ → zF → Option zR
/-- what a step takes of its continuations it takes at some fuel, and from there on -/
def zGo (F : zGoF) : Prop := ∀ (Nf : Nat → zN) (Jf : Nat → zJ) (Cf : Nat → zF) (N : zN) (J : zJ) (C : zF),
  (∀ a b c r, N a b c = some r → ∃ n, ∀ m, n ≤ m → Nf m a b c = some r) → (∀ t a b c r, J t a b c = some r → ∃ n, ∀ m, n ≤ m → Jf m t a b c = some r) → (∀ k a c r, C k a c = some r → ∃ n, ∀ m, n ≤ m → Cf m k a c = some r) →
  ∀ r, F N J C = some r → ∃ n, ∀ m, n ≤ m → F (Nf m) (Jf m) (Cf m) = some r
theorem zGo_k (o : Option zR) : zGo (fun _ _ _ => o) := fun _ _ _ _ _ _ _ _ _ _ h => ⟨0, fun _ _ => h⟩
theorem zGo_N (a b : List Value) (c : zH) : zGo (fun N _ _ => N a b c) := fun _ _ _ _ _ _ h _ _ r k => h a b c r k
theorem zGo_J (t : Nat) (a b : List Value) (c : zH) : zGo (fun _ J _ => J t a b c) := fun _ _ _ _ _ _ _ h _ r k => h t a b c r k
theorem zGo_bind {α : Type} (o : Option α) (F : α → zGoF) (hF : ∀ v, zGo (F v)) : zGo (fun N J C => o.bind fun v => F v N J C) := by
  intro Nf Jf Cf N J C h1 h2 h3 r hr
  cases o with
  | none => exact absurd hr (by simp)
  | some v => exact hF v Nf Jf Cf N J C h1 h2 h3 r hr
theorem zGo_ite (p : Prop) [Decidable p] (F G : zGoF) (hF : zGo F) (hG : zGo G) : zGo (fun N J C => if p then F N J C else G N J C) := by
  intro Nf Jf Cf N J C h1 h2 h3 r hr
  by_cases hp : p
  · simp only [if_pos hp] at hr ⊢
    exact hF Nf Jf Cf N J C h1 h2 h3 r hr
  · simp only [if_neg hp] at hr ⊢
    exact hG Nf Jf Cf N J C h1 h2 h3 r hr
theorem zGo_call (k : Nat) (a : List Value) (c : zH) (F : zR → zGoF) (hF : ∀ v, zGo (F v)) : zGo (fun N J C => (C k a c).bind fun v => F v N J C) := by
  intro Nf Jf Cf N J C h1 h2 h3 r hr
  cases ho : C k a c with
  | none => simp only [ho] at hr; exact absurd hr (by simp)
  | some v =>
    simp only [ho] at hr
    obtain ⟨n1, e1⟩ := h3 k a c v ho
    obtain ⟨n2, e2⟩ := hF v Nf Jf Cf N J C h1 h2 h3 r hr
    refine ⟨max n1 n2, fun m hm => ?_⟩
    simp only [e1 m (Nat.le_trans (Nat.le_max_left _ _) hm)]
    exact e2 m (Nat.le_trans (Nat.le_max_right _ _) hm)
theorem zGo_I1 (st : List Value) (F : Int32 → List Value → zGoF) (hF : ∀ x r, zGo (F x r)) : zGo (fun N J C => zI1 st fun x r => F x r N J C) := by
  unfold zI1; split
  · exact hF _ _
  · exact zGo_k _
theorem zGo_L1 (st : List Value) (F : Int64 → List Value → zGoF) (hF : ∀ x r, zGo (F x r)) : zGo (fun N J C => zL1 st fun x r => F x r N J C) := by
  unfold zL1; split
  · exact hF _ _
  · exact zGo_k _
theorem zGo_A1 (st : List Value) (F : Nat → List Value → zGoF) (hF : ∀ x r, zGo (F x r)) : zGo (fun N J C => zA1 st fun x r => F x r N J C) := by
  unfold zA1; split
  · exact hF _ _
  · exact zGo_k _
theorem zGo_V1 (st : List Value) (F : Value → List Value → zGoF) (hF : ∀ x r, zGo (F x r)) : zGo (fun N J C => zV1 st fun x r => F x r N J C) := by
  unfold zV1; split
  · exact hF _ _
  · exact zGo_k _
theorem zGo_II (st : List Value) (F : Int32 → Int32 → List Value → zGoF) (hF : ∀ x y r, zGo (F x y r)) : zGo (fun N J C => zII st fun x y r => F x y r N J C) := by
  unfold zII; split
  · exact hF _ _ _
  · exact zGo_k _
theorem zGo_LL (st : List Value) (F : Int64 → Int64 → List Value → zGoF) (hF : ∀ x y r, zGo (F x y r)) : zGo (fun N J C => zLL st fun x y r => F x y r N J C) := by
  unfold zLL; split
  · exact hF _ _ _
  · exact zGo_k _
theorem zGo_LI (st : List Value) (F : Int64 → Int32 → List Value → zGoF) (hF : ∀ x y r, zGo (F x y r)) : zGo (fun N J C => zLI st fun x y r => F x y r N J C) := by
  unfold zLI; split
  · exact hF _ _ _
  · exact zGo_k _
theorem zGo_DD (st : List Value) (F : UInt64 → UInt64 → List Value → zGoF) (hF : ∀ x y r, zGo (F x y r)) : zGo (fun N J C => zDD st fun x y r => F x y r N J C) := by
  unfold zDD; split
  · exact hF _ _ _
  · exact zGo_k _
theorem zGo_AI (st : List Value) (F : Nat → Int32 → List Value → zGoF) (hF : ∀ x y r, zGo (F x y r)) : zGo (fun N J C => zAI st fun x y r => F x y r N J C) := by
  unfold zAI; split
  · exact hF _ _ _
  · exact zGo_k _
theorem zGo_ok (b : Bool) (F : zGoF) (hF : zGo F) : zGo (fun N J C => zOk b (F N J C)) := by
  cases b
  · exact zGo_k _
  · exact hF
theorem zGo_emp (l : List Value) (F : zGoF) (hF : zGo F) : zGo (fun N J C => zEmp l (F N J C)) := by
  cases l
  · exact hF
  · exact zGo_k _
theorem zGo_rf (n : Nat) (l : List Value) (F : zGoF) (hF : zGo F) : zGo (fun N J C => zRf n l (F N J C)) := by
  unfold zRf; split
  · exact hF
  · exact zGo_k _
theorem zGo_wr (l : List Value) (F : zGoF) (hF : zGo F) : zGo (fun N J C => zWr l (F N J C)) := by
  unfold zWr; split
  · exact hF
  · exact zGo_k _
theorem zGo_br (c : Jvm.ClassFile.Cond) (x y : Int32) (F G : zGoF) (hF : zGo F) (hG : zGo G) : zGo (fun N J C => zBr c x y (F N J C) (G N J C)) := by
  cases c
  · exact zGo_ite _ _ _ hF hG
  · exact zGo_ite _ _ _ hG hF
  · exact zGo_ite _ _ _ hF hG
  · exact zGo_ite _ _ _ hG hF
  · exact zGo_ite _ _ _ hF hG
  · exact zGo_ite _ _ _ hG hF
theorem zGo_typed (ty : Nat) (o : Option Value) (F : Value → zGoF) (hF : ∀ v, zGo (F v)) : zGo (fun N J C => zTyped ty o fun v => F v N J C) := by
  unfold zTyped; split
  · exact zGo_bind _ _ fun _ => hF _
  · exact zGo_bind _ _ fun _ => hF _
  · exact zGo_bind _ _ fun _ => hF _
  · exact zGo_bind _ _ fun _ => hF _
theorem zGo_fit (ty : Nat) (v : Value) (F : Value → zGoF) (hF : ∀ v, zGo (F v)) : zGo (fun N J C => zFit ty v fun v => F v N J C) := by
  unfold zFit; split
  · exact zGo_bind _ _ fun _ => zGo_bind _ _ fun _ => hF _
  · exact zGo_ok _ _ (hF _)
theorem zGo_back1 (rt : Nat) (ls st : List Value) (v : zR) : zGo (fun N _ _ => zBack1 rt ls st N v) := by
  unfold zBack1; split
  · unfold zRV; split
    · exact zGo_N _ _ _
    · exact zGo_k _
    · exact zGo_k _
  · unfold zRI; split
    · exact zGo_bind _ _ fun _ => zGo_N _ _ _
    · exact zGo_k _
  · unfold zRL; split
    · exact zGo_bind _ _ fun _ => zGo_N _ _ _
    · exact zGo_k _
  · unfold zRD; split
    · exact zGo_bind _ _ fun _ => zGo_N _ _ _
    · exact zGo_k _
  · unfold zRA; split
    · exact zGo_bind _ _ fun _ => zGo_N _ _ _
    · exact zGo_k _
theorem zGo_hand (d : Option zR) (ls r : List Value) (h : zH) (kind : Nat) : ∀ (hs : List Nat), zGo (fun _ J _ => zHand (fun t => J t ls r h) d hs kind)
  | [] => zGo_k _
  | [_] => zGo_k _
  | _ :: _ :: l => zGo_ite _ _ _ (zGo_J _ _ _ _) (zGo_hand d ls r h kind l)
theorem zGo_back (rt : Nat) (hs : List Nat) (ls st : List Value) (v : zR) : zGo (fun N J _ => zBack rt hs ls st N J v) := by
  unfold zBack; split
  · exact zGo_back1 _ _ _ _
  · unfold zXm; split
    · exact zGo_back1 _ _ _ _
    · exact zGo_hand _ _ _ _ _ _
theorem zGo_cases (d : Nat) (ls r : List Value) (h : zH) (x : Int32) : ∀ (ks : List Int) (ts : List Nat), zGo (fun _ J _ => zCases (fun t => J t ls r h) d ks ts x)
  | [], _ => zGo_J _ _ _ _
  | _ :: _, [] => zGo_J _ _ _ _
  | _ :: ks, _ :: ts => zGo_ite _ _ _ (zGo_J _ _ _ _) (zGo_cases d ls r h x ks ts)
theorem zGo_inv (m n ci rt : Nat) (hs : List Nat) (ls st : List Value) (h : zH) : zGo (fun N J C => zInv C m n ci rt hs ls st h N J) := by
  unfold zInv
  refine zGo_ok _ _ (zGo_ok _ _ ?_)
  split
  · exact zGo_call _ _ _ _ fun v => zGo_back _ _ _ _ v
  · split
    · exact zGo_ite _ _ _ (zGo_call _ _ _ _ fun v => zGo_back _ _ _ _ v) (zGo_k _)
    · exact zGo_k _
theorem zGo_cat (v : Value) (F G : zGoF) (hF : zGo F) (hG : zGo G) : zGo (fun N J C => match v.category with | 2 => F N J C | _ => G N J C) := by
  split
  · exact hF
  · exact hG
set_option maxHeartbeats 4000000 in
theorem zGo_step (q : zI) (ls st : List Value) (h : zH) : zGo (fun N J C => zStep N J C q ls st h) := by
  unfold zStep
  split <;> first
    | exact zGo_N _ _ _
    | exact zGo_k _
    | exact zGo_J _ _ _ _
    | exact zGo_II _ _ fun _ _ _ => zGo_N _ _ _
    | exact zGo_II _ _ fun _ _ _ => zGo_ite _ _ _ (zGo_k _) (zGo_N _ _ _)
    | exact zGo_LL _ _ fun _ _ _ => zGo_N _ _ _
    | exact zGo_LL _ _ fun _ _ _ => zGo_ite _ _ _ (zGo_k _) (zGo_N _ _ _)
    | exact zGo_LI _ _ fun _ _ _ => zGo_N _ _ _
    | exact zGo_DD _ _ fun _ _ _ => zGo_N _ _ _
    | exact zGo_DD _ _ fun _ _ _ => zGo_ite _ _ _ (zGo_N _ _ _) (zGo_k _)
    | exact zGo_I1 _ _ fun _ _ => zGo_N _ _ _
    | exact zGo_I1 _ _ fun _ _ => zGo_cases _ _ _ _ _ _ _
    | exact zGo_I1 _ _ fun _ _ => zGo_br _ _ _ _ _ (zGo_J _ _ _ _) (zGo_N _ _ _)
    | exact zGo_II _ _ fun _ _ _ => zGo_br _ _ _ _ _ (zGo_J _ _ _ _) (zGo_N _ _ _)
    | exact zGo_I1 _ _ fun _ _ => zGo_ite _ _ _ (zGo_k _) (zGo_N _ _ _)
    | exact zGo_I1 _ _ fun _ _ => zGo_emp _ _ (zGo_bind _ _ fun _ => zGo_k _)
    | exact zGo_L1 _ _ fun _ _ => zGo_N _ _ _
    | exact zGo_L1 _ _ fun _ _ => zGo_emp _ _ (zGo_k _)
    | exact zGo_A1 _ _ fun _ _ => zGo_emp _ _ (zGo_k _)
    | exact zGo_emp _ _ (zGo_k _)
    | exact zGo_A1 _ _ fun _ _ => zGo_ite _ _ _ (zGo_k _) (zGo_k _)
    | exact zGo_A1 _ _ fun _ _ => zGo_ite _ _ _ (zGo_N _ _ _) (zGo_k _)
    | exact zGo_A1 _ _ fun _ _ => zGo_ok _ _ (zGo_N _ _ _)
    | exact zGo_A1 _ _ fun _ _ => zGo_ite _ _ _ (zGo_wr _ _ (zGo_ok _ _ (zGo_N _ _ _))) (zGo_k _)
    | exact zGo_A1 _ _ fun _ _ => zGo_typed _ _ _ fun _ => zGo_N _ _ _
    | exact zGo_V1 _ _ fun _ _ => zGo_ok _ _ (zGo_N _ _ _)
    | exact zGo_V1 _ _ fun _ _ => zGo_emp _ _ (zGo_fit _ _ _ fun _ => zGo_k _)
    | exact zGo_V1 _ _ fun _ _ => zGo_A1 _ _ fun _ _ => zGo_fit _ _ _ fun _ => zGo_bind _ _ fun _ => zGo_N _ _ _
    | exact zGo_V1 _ _ fun _ _ => zGo_fit _ _ _ fun _ => zGo_AI _ _ fun _ _ _ => zGo_bind _ _ fun _ => zGo_bind _ _ fun _ => zGo_N _ _ _
    | exact zGo_V1 _ _ fun _ _ => zGo_cat _ _ _ (zGo_N _ _ _) (zGo_V1 _ _ fun _ _ => zGo_ok _ _ (zGo_N _ _ _))
    | exact zGo_AI _ _ fun _ _ _ => zGo_bind _ _ fun _ => zGo_typed _ _ _ fun _ => zGo_N _ _ _
    | exact zGo_I1 _ _ fun _ _ => zGo_AI _ _ fun _ _ _ => zGo_bind _ _ fun _ => zGo_bind _ _ fun _ => zGo_N _ _ _
    | exact zGo_I1 _ _ fun _ _ => zGo_AI _ _ fun _ _ _ => zGo_bind _ _ fun _ => zGo_bind _ _ fun _ => zGo_bind _ _ fun _ => zGo_N _ _ _
    | exact zGo_L1 _ _ fun _ _ => zGo_AI _ _ fun _ _ _ => zGo_bind _ _ fun _ => zGo_bind _ _ fun _ => zGo_N _ _ _
    | exact zGo_A1 _ _ fun _ _ => zGo_AI _ _ fun _ _ _ => zGo_ite _ _ _ (zGo_bind _ _ fun _ => zGo_bind _ _ fun _ => zGo_N _ _ _) (zGo_k _)
    | exact zGo_bind _ _ fun _ => zGo_ok _ _ (zGo_N _ _ _)
    | exact zGo_bind _ _ fun _ => zGo_N _ _ _
    | exact zGo_inv _ _ _ _ _ _ _ _
    | exact zGo_rf _ _ _ (zGo_inv _ _ _ _ _ _ _ _)
    | exact zGo_ok _ _ (zGo_k _)
    | skip
  · split
    · exact zGo_bind _ _ fun _ => zGo_ok _ _ (zGo_N _ _ _)
    · exact zGo_k _
/-- an entry of a method's code: its place in bytes, the instruction, which locals are still wanted at it ([]: all) -/
abbrev zE : Type := Nat × zI × List Nat
abbrev zT : Type := Nat → Nat × List zE
def zLay : List Value → List Value
  | [] => []
  | v :: r => v :: (if v.category = 2 then .retAddr 0 :: zLay r else zLay r)
def zInit (n : Nat) (as : List Value) : List Value := zLay as ++ List.replicate (n - (zLay as).length) (.retAddr 0)
theorem zOk_some {b : Bool} {k : Option zR} {r : zR} (h : zOk b k = some r) : b = true ∧ k = some r := by
  cases b
  · exact absurd h (by simp [zOk])
  · exact ⟨rfl, h⟩
theorem zOk_up {b : Bool} {k k' : Option zR} {r : zR} (hk : k = some r → k' = some r) (h : zOk b k = some r) : zOk b k' = some r := by
  obtain ⟨rfl, h2⟩ := zOk_some h
  exact hk h2
def zRunF (code : zT) : Nat → Nat → Nat → List Value → List Value → zH → Option zR
  | 0, _, _, _, _, _ => none
  | n + 1, m, i, ls, st, h => match (code m).2[i]? with
    | none => none
    | some e => zStep (fun ls st h => zRunF code n m (i + 1) ls st h) (fun t ls st h => zRunF code n m t ls st h) (fun k as h => zOk (Nat.ble (zLay as).length (code k).1) (zRunF code n k 0 (zInit (code k).1 as) [] h)) e.2.1 (zMask e.2.2 ls) st h
theorem zRunF_mono {code : zT} : ∀ (n m i : Nat) (ls st : List Value) (h : zH) (r : zR), zRunF code n m i ls st h = some r → ∀ k, n ≤ k → zRunF code k m i ls st h = some r
  | 0, _, _, _, _, _, _, e, _, _ => by simp [zRunF] at e
  | n + 1, m, i, ls, st, h, r, e, k, hk => by
    obtain ⟨k, rfl⟩ : ∃ j, k = j + 1 := ⟨k - 1, by omega⟩
    unfold zRunF at e ⊢
    split at e
    · exact absurd e (by simp)
    · rename_i x hx
      have key := zGo_step x.2.1 (zMask x.2.2 ls) st h (fun _ ls st h => zRunF code k m (i + 1) ls st h) (fun _ t ls st h => zRunF code k m t ls st h) (fun _ q as h => zOk (Nat.ble (zLay as).length (code q).1) (zRunF code k q 0 (zInit (code q).1 as) [] h)) _ _ _
        (fun a b c r z => ⟨0, fun _ _ => zRunF_mono n m (i + 1) a b c r z k (by omega)⟩) (fun t a b c r z => ⟨0, fun _ _ => zRunF_mono n m t a b c r z k (by omega)⟩) (fun q a c r z => ⟨0, fun _ _ => zOk_up (fun z => zRunF_mono n q 0 _ _ c r z k (by omega)) z⟩) r e
      obtain ⟨j, hj⟩ := key
      exact hj j (Nat.le_refl j)
noncomputable def zRun (code : zT) (m i : Nat) (ls st : List Value) (h : zH) : Option zR :=
  Classical.choose (show ∃ o : Option zR, ∀ r, o = some r ↔ ∃ n, zRunF code n m i ls st h = some r from by
    by_cases z : ∃ n r, zRunF code n m i ls st h = some r
    · obtain ⟨n, r, e⟩ := z
      refine ⟨some r, fun r' => ⟨fun q => ?_, fun ⟨n', q⟩ => ?_⟩⟩
      · cases q; exact ⟨n, e⟩
      · have h1 := zRunF_mono n m i ls st h r e (max n n') (Nat.le_max_left _ _)
        have h2 := zRunF_mono n' m i ls st h r' q (max n n') (Nat.le_max_right _ _)
        rw [h1] at h2; exact h2
    · exact ⟨none, fun r' => ⟨fun q => absurd q (by simp), fun ⟨n', q⟩ => absurd ⟨n', r', q⟩ z⟩⟩)
theorem zRun_iff {code : zT} {m i : Nat} {ls st : List Value} {h : zH} {r : zR} : zRun code m i ls st h = some r ↔ ∃ n, zRunF code n m i ls st h = some r := by
  unfold zRun
  exact Classical.choose_spec (p := fun o : Option zR => ∀ r, o = some r ↔ ∃ n, zRunF code n m i ls st h = some r) _ r
noncomputable def zCall (code : zT) (k : Nat) (as : List Value) (h : zH) : Option zR := zOk (Nat.ble (zLay as).length (code k).1) (zRun code k 0 (zInit (code k).1 as) [] h)
theorem zOpt {α : Type} {a b : Option α} (h : ∀ r, a = some r ↔ b = some r) : a = b := by
  cases a with
  | none =>
    cases b with
    | none => rfl
    | some y => exact absurd ((h y).mpr rfl) (by simp)
  | some x => exact ((h x).mp rfl).symm
theorem zRun_step {code : zT} {m i : Nat} {ls st : List Value} {h : zH} : zRun code m i ls st h = match (code m).2[i]? with
    | none => none
    | some e => zStep (fun ls st h => zRun code m (i + 1) ls st h) (fun t ls st h => zRun code m t ls st h) (zCall code) e.2.1 (zMask e.2.2 ls) st h := by
  refine zOpt fun r => ?_
  rw [zRun_iff]
  constructor
  · intro ⟨n, e⟩
    cases n with
    | zero => simp [zRunF] at e
    | succ n =>
      unfold zRunF at e
      split at e
      · exact absurd e (by simp)
      · rename_i x hx
        obtain ⟨j, hj⟩ := zGo_step x.2.1 (zMask x.2.2 ls) st h (fun _ ls st h => zRun code m (i + 1) ls st h) (fun _ t ls st h => zRun code m t ls st h) (fun _ => zCall code) _ _ _
          (fun a b c r z => ⟨0, fun _ _ => zRun_iff.mpr ⟨n, z⟩⟩) (fun t a b c r z => ⟨0, fun _ _ => zRun_iff.mpr ⟨n, z⟩⟩) (fun q a c r z => ⟨0, fun _ _ => zOk_up (fun z => zRun_iff.mpr ⟨n, z⟩) z⟩) r e
        exact hj j (Nat.le_refl j)
  · intro e
    split at e
    · exact absurd e (by simp)
    · rename_i x hx
      obtain ⟨j, hj⟩ := zGo_step x.2.1 (zMask x.2.2 ls) st h (fun n ls st h => zRunF code n m (i + 1) ls st h) (fun n t ls st h => zRunF code n m t ls st h) (fun n q as h => zOk (Nat.ble (zLay as).length (code q).1) (zRunF code n q 0 (zInit (code q).1 as) [] h)) _ _ _
        (fun a b c r z => by obtain ⟨n, q⟩ := zRun_iff.mp z; exact ⟨n, fun k hk => zRunF_mono n _ _ _ _ _ _ q k hk⟩) (fun t a b c r z => by obtain ⟨n, q⟩ := zRun_iff.mp z; exact ⟨n, fun k hk => zRunF_mono n _ _ _ _ _ _ q k hk⟩)
        (fun q a c r z => by obtain ⟨hb, z⟩ := zOk_some z; obtain ⟨n, w⟩ := zRun_iff.mp z; exact ⟨n, fun k hk => by rw [hb]; exact zRunF_mono n _ _ _ _ _ _ w k hk⟩) r e
      refine ⟨j + 1, ?_⟩
      unfold zRunF
      simp only [hx]
      exact hj j (Nat.le_refl j)
/-- a stretch of instructions; what leaves it goes on as a run -/
noncomputable def zEv (code : zT) (m : Nat) : Nat → List zE → List Value → List Value → zH → Option zR
  | i, [], ls, st, h => zRun code m i ls st h
  | i, e :: seg, ls, st, h => zStep (zEv code m (i + 1) seg) (fun t ls st h => zRun code m t ls st h) (zCall code) e.2.1 (zMask e.2.2 ls) st h
theorem zRun_ev {code : zT} {m : Nat} : ∀ (k i : Nat) (ls st : List Value) (h : zH), zRun code m i ls st h = zEv code m i (((code m).2.drop i).take k) ls st h
  | 0, i, ls, st, h => by simp [zEv]
  | k + 1, i, ls, st, h => by
    cases hd : (code m).2.drop i with
    | nil => simp [zEv]
    | cons e seg =>
      have h1 : (code m).2[i]? = some e := by
        have := congrArg (fun l => l[0]?) hd
        simpa using this
      have h2 : (code m).2.drop (i + 1) = seg := by
        have := congrArg (fun l => l.drop 1) hd
        simpa [List.drop_drop, Nat.add_comm] using this
      rw [zRun_step]
      simp only [h1, List.take_succ_cons, zEv]
      congr 1
      funext ls st h
      rw [zRun_ev k (i + 1), h2]
theorem zMask_idem : ∀ (m : List Nat) (l : List Value), zMask m (zMask m l) = zMask m l
  | [], l => by simp [zMask]
  | _ :: _, [] => by simp [zMask]
  | b :: m, v :: l => by
    simp only [zMask, zMask_idem m l]
    split <;> rfl
theorem zRun_mask {code : zT} {m i : Nat} {e : zE} (he : (code m).2[i]? = some e) (ls st : List Value) (h : zH) : zRun code m i ls st h = zRun code m i (zMask e.2.2 ls) st h := by
  rw [zRun_step, zRun_step]
  simp only [he, zMask_idem]
/-- a stretch that follows jumps, up to the places of stop -/
noncomputable def zEx (code : zT) (m : Nat) (stop : List Nat) : Nat → Nat → List Value → List Value → zH → Option zR
  | 0, i, ls, st, h => zRun code m i ls st h
  | n + 1, i, ls, st, h => match (code m).2[i]? with
    | none => none
    | some e => match stop.elem i with
      | true => zRun code m i (zMask e.2.2 ls) st h
      | false => zStep (zEx code m stop n (i + 1)) (fun t ls st h => zEx code m stop n t ls st h) (zCall code) e.2.1 (zMask e.2.2 ls) st h
theorem zRun_ex {code : zT} {m : Nat} (stop : List Nat) : ∀ (n i : Nat) (ls st : List Value) (h : zH), zRun code m i ls st h = zEx code m stop n i ls st h
  | 0, i, ls, st, h => rfl
  | n + 1, i, ls, st, h => by
    unfold zEx
    cases he : (code m).2[i]? with
    | none => rw [zRun_step, he]
    | some e =>
      cases hs : stop.elem i with
      | true => exact zRun_mask he ls st h
      | false =>
        rw [zRun_step, he]
        simp only [zRun_ex stop n]
/-- the first step always, then the stretch -/
noncomputable def zEb (code : zT) (m : Nat) (stop : List Nat) (n i : Nat) (ls st : List Value) (h : zH) : Option zR := match (code m).2[i]? with
    | none => none
    | some e => zStep (zEx code m stop n (i + 1)) (fun t ls st h => zEx code m stop n t ls st h) (zCall code) e.2.1 (zMask e.2.2 ls) st h
theorem zRun_eb {code : zT} {m : Nat} (stop : List Nat) (n i : Nat) (ls st : List Value) (h : zH) : zRun code m i ls st h = zEb code m stop n i ls st h := by
  unfold zEb
  rw [zRun_step]
  cases he : (code m).2[i]? with
  | none => rfl
  | some e => simp only [zRun_ex stop n]
end ZRUN
