/-! Cells and slots only get more. -/
section ZMONO
def zLe (h h' : zH) : Prop := h.1 ≤ h'.1 ∧ h.2.1 ≤ h'.2.1
def zRh : zR → zH
  | .inl q => q.2
  | .inr q => q.2.2
theorem zLe.rf (h : zH) : zLe h h := ⟨Nat.le_refl _, Nat.le_refl _⟩
theorem zLe.tr {a b c : zH} (h : zLe a b) (k : zLe b c) : zLe a c := ⟨Nat.le_trans h.1 k.1, Nat.le_trans h.2 k.2⟩
def zMon (h : zH) (F : zGoF) : Prop := ∀ (N : zN) (J : zJ) (C : zF), (∀ a b c r, N a b c = some r → zLe c (zRh r)) → (∀ t a b c r, J t a b c = some r → zLe c (zRh r)) → (∀ k a c r, C k a c = some r → zLe c (zRh r)) → ∀ r, F N J C = some r → zLe h (zRh r)
variable {h : zH}
theorem zMon_none : zMon h (fun _ _ _ => none) := fun _ _ _ _ _ _ r e => by cases e
theorem zMon_r (o : zR) (ho : zLe h (zRh o)) : zMon h (fun _ _ _ => some o) := fun _ _ _ _ _ _ r e => by cases e; exact ho
theorem zMon_N (a b : List Value) (c : zH) (hc : zLe h c) : zMon h (fun N _ _ => N a b c) := fun _ _ _ h1 _ _ r e => hc.tr (h1 a b c r e)
theorem zMon_J (t : Nat) (a b : List Value) (c : zH) (hc : zLe h c) : zMon h (fun _ J _ => J t a b c) := fun _ _ _ _ h1 _ r e => hc.tr (h1 t a b c r e)
theorem zMon_bind {α : Type} (o : Option α) (F : α → zGoF) (hF : ∀ v, o = some v → zMon h (F v)) : zMon h (fun N J C => o.bind fun v => F v N J C) := by
  intro N J C h1 h2 h3 r e
  cases ho : o with
  | none => rw [ho] at e; cases e
  | some v => rw [ho] at e; exact hF v ho N J C h1 h2 h3 r e
theorem zMon_ite (p : Prop) [Decidable p] (F G : zGoF) (hF : zMon h F) (hG : zMon h G) : zMon h (fun N J C => if p then F N J C else G N J C) := by
  intro N J C h1 h2 h3 r e
  by_cases hp : p
  · simp only [if_pos hp] at e; exact hF N J C h1 h2 h3 r e
  · simp only [if_neg hp] at e; exact hG N J C h1 h2 h3 r e
theorem zMon_call (k : Nat) (a : List Value) (F : zR → zGoF) (hF : ∀ v, zLe h (zRh v) → zMon (zRh v) (F v)) : zMon h (fun N J C => (C k a h).bind fun v => F v N J C) := by
  intro N J C h1 h2 h3 r e
  cases ho : C k a h with
  | none => simp only [ho] at e; cases e
  | some v =>
    simp only [ho] at e
    have hv := h3 k a h v ho
    exact hv.tr (hF v hv N J C h1 h2 h3 r e)
theorem zMon_I1 (st : List Value) (F : Int32 → List Value → zGoF) (hF : ∀ x r, zMon h (F x r)) : zMon h (fun N J C => zI1 st fun x r => F x r N J C) := by
  unfold zI1; split
  · exact hF _ _
  · exact zMon_none
theorem zMon_L1 (st : List Value) (F : Int64 → List Value → zGoF) (hF : ∀ x r, zMon h (F x r)) : zMon h (fun N J C => zL1 st fun x r => F x r N J C) := by
  unfold zL1; split
  · exact hF _ _
  · exact zMon_none
theorem zMon_A1 (st : List Value) (F : Nat → List Value → zGoF) (hF : ∀ x r, zMon h (F x r)) : zMon h (fun N J C => zA1 st fun x r => F x r N J C) := by
  unfold zA1; split
  · exact hF _ _
  · exact zMon_none
theorem zMon_V1 (st : List Value) (F : Value → List Value → zGoF) (hF : ∀ x r, zMon h (F x r)) : zMon h (fun N J C => zV1 st fun x r => F x r N J C) := by
  unfold zV1; split
  · exact hF _ _
  · exact zMon_none
theorem zMon_II (st : List Value) (F : Int32 → Int32 → List Value → zGoF) (hF : ∀ x y r, zMon h (F x y r)) : zMon h (fun N J C => zII st fun x y r => F x y r N J C) := by
  unfold zII; split
  · exact hF _ _ _
  · exact zMon_none
theorem zMon_LL (st : List Value) (F : Int64 → Int64 → List Value → zGoF) (hF : ∀ x y r, zMon h (F x y r)) : zMon h (fun N J C => zLL st fun x y r => F x y r N J C) := by
  unfold zLL; split
  · exact hF _ _ _
  · exact zMon_none
theorem zMon_LI (st : List Value) (F : Int64 → Int32 → List Value → zGoF) (hF : ∀ x y r, zMon h (F x y r)) : zMon h (fun N J C => zLI st fun x y r => F x y r N J C) := by
  unfold zLI; split
  · exact hF _ _ _
  · exact zMon_none
theorem zMon_DD (st : List Value) (F : UInt64 → UInt64 → List Value → zGoF) (hF : ∀ x y r, zMon h (F x y r)) : zMon h (fun N J C => zDD st fun x y r => F x y r N J C) := by
  unfold zDD; split
  · exact hF _ _ _
  · exact zMon_none
theorem zMon_AI (st : List Value) (F : Nat → Int32 → List Value → zGoF) (hF : ∀ x y r, zMon h (F x y r)) : zMon h (fun N J C => zAI st fun x y r => F x y r N J C) := by
  unfold zAI; split
  · exact hF _ _ _
  · exact zMon_none
theorem zMon_ok (b : Bool) (F : zGoF) (hF : zMon h F) : zMon h (fun N J C => zOk b (F N J C)) := by
  cases b
  · exact zMon_none
  · exact hF
theorem zMon_emp (l : List Value) (F : zGoF) (hF : zMon h F) : zMon h (fun N J C => zEmp l (F N J C)) := by
  cases l
  · exact hF
  · exact zMon_none
theorem zMon_rf (n : Nat) (l : List Value) (F : zGoF) (hF : zMon h F) : zMon h (fun N J C => zRf n l (F N J C)) := by
  unfold zRf; split
  · exact hF
  · exact zMon_none
theorem zMon_wr (l : List Value) (F : zGoF) (hF : zMon h F) : zMon h (fun N J C => zWr l (F N J C)) := by
  unfold zWr; split
  · exact hF
  · exact zMon_none
theorem zMon_br (c : Jvm.ClassFile.Cond) (x y : Int32) (F G : zGoF) (hF : zMon h F) (hG : zMon h G) : zMon h (fun N J C => zBr c x y (F N J C) (G N J C)) := by
  cases c
  · exact zMon_ite _ _ _ hF hG
  · exact zMon_ite _ _ _ hG hF
  · exact zMon_ite _ _ _ hF hG
  · exact zMon_ite _ _ _ hG hF
  · exact zMon_ite _ _ _ hF hG
  · exact zMon_ite _ _ _ hG hF
theorem zMon_typed (ty : Nat) (o : Option Value) (F : Value → zGoF) (hF : ∀ v, zMon h (F v)) : zMon h (fun N J C => zTyped ty o fun v => F v N J C) := by
  unfold zTyped; split
  · exact zMon_bind _ _ fun _ _ => hF _
  · exact zMon_bind _ _ fun _ _ => hF _
  · exact zMon_bind _ _ fun _ _ => hF _
  · exact zMon_bind _ _ fun _ _ => hF _
theorem zMon_fit (ty : Nat) (v : Value) (F : Value → zGoF) (hF : ∀ v, zMon h (F v)) : zMon h (fun N J C => zFit ty v fun v => F v N J C) := by
  unfold zFit; split
  · exact zMon_bind _ _ fun _ _ => zMon_bind _ _ fun _ _ => hF _
  · exact zMon_ok _ _ (hF _)
theorem zPut_le {h h' : zH} {a k j : Nat} {v : Value} (e : zPut h a k j v = some h') : zLe h h' := by
  unfold zPut at e
  split at e
  · cases e; exact zLe.rf h
  · cases e
theorem zACopy_le {h h' : zH} {a b : Nat} {x y z : Int32} (e : zACopy h a x b y z = some h') : zLe h h' := by
  unfold zACopy at e
  split at e
  · cases e; exact zLe.rf h
  · cases e
theorem zMon_putN (a k j : Nat) (v : Value) (ls st : List Value) : zMon h (fun N _ _ => (zPut h a k j v).bind fun h => N ls st h) := zMon_bind _ _ fun _ e => zMon_N _ _ _ (zPut_le e)
theorem zMon_back1 (rt : Nat) (ls st : List Value) (v : zR) : zMon (zRh v) (fun N _ _ => zBack1 rt ls st N v) := by
  unfold zBack1; split
  · unfold zRV; split
    · exact zMon_N _ _ _ (zLe.rf _)
    · exact zMon_none
    · exact zMon_r _ (zLe.rf _)
  · unfold zRI; split
    · exact zMon_bind _ _ fun _ _ => zMon_N _ _ _ (zLe.rf _)
    · exact zMon_r _ (zLe.rf _)
  · unfold zRL; split
    · exact zMon_bind _ _ fun _ _ => zMon_N _ _ _ (zLe.rf _)
    · exact zMon_r _ (zLe.rf _)
  · unfold zRD; split
    · exact zMon_bind _ _ fun _ _ => zMon_N _ _ _ (zLe.rf _)
    · exact zMon_r _ (zLe.rf _)
  · unfold zRA; split
    · exact zMon_bind _ _ fun _ _ => zMon_N _ _ _ (zLe.rf _)
    · exact zMon_r _ (zLe.rf _)
theorem zMon_hand (d : Option zR) (hd : ∀ r, d = some r → zLe h (zRh r)) (ls r : List Value) (kind : Nat) : ∀ (hs : List Nat), zMon h (fun _ J _ => zHand (fun t => J t ls r h) d hs kind)
  | [] => fun _ _ _ _ _ _ r e => hd r e
  | [_] => fun _ _ _ _ _ _ r e => hd r e
  | _ :: _ :: l => zMon_ite _ _ _ (zMon_J _ _ _ _ (zLe.rf _)) (zMon_hand d hd ls r kind l)
theorem zMon_back (rt : Nat) (hs : List Nat) (ls st : List Value) (v : zR) : zMon (zRh v) (fun N J _ => zBack rt hs ls st N J v) := by
  unfold zBack; split
  · exact zMon_back1 _ _ _ _
  · unfold zXm; split
    · exact zMon_back1 _ _ _ _
    · exact zMon_hand _ (fun r e => by cases e) _ _ _ _
theorem zMon_inv (m n ci rt : Nat) (hs : List Nat) (ls st : List Value) : zMon h (fun N J C => zInv C m n ci rt hs ls st h N J) := by
  unfold zInv
  refine zMon_ok _ _ (zMon_ok _ _ ?_)
  split
  · exact zMon_call _ _ _ fun v _ => zMon_back _ _ _ _ v
  · split
    · exact zMon_ite _ _ _ (zMon_call _ _ _ fun v _ => zMon_back _ _ _ _ v) zMon_none
    · exact zMon_none
theorem zMon_cases (d : Nat) (ls r : List Value) (x : Int32) : ∀ (ks : List Int) (ts : List Nat), zMon h (fun _ J _ => zCases (fun t => J t ls r h) d ks ts x)
  | [], _ => zMon_J _ _ _ _ (zLe.rf _)
  | _ :: _, [] => zMon_J _ _ _ _ (zLe.rf _)
  | _ :: ks, _ :: ts => zMon_ite _ _ _ (zMon_J _ _ _ _ (zLe.rf _)) (zMon_cases d ls r x ks ts)
theorem zMon_cat (v : Value) (F G : zGoF) (hF : zMon h F) (hG : zMon h G) : zMon h (fun N J C => match v.category with | 2 => F N J C | _ => G N J C) := by
  split
  · exact hF
  · exact hG
theorem zPush_le (h : zH) (w : Nat) (c : zC) : zLe h (zPush h w c) := ⟨Nat.le_succ _, Nat.le_add_right _ _⟩
theorem zRows_le (h : zH) (n k : Nat) : zLe h (zRows h n k) := ⟨by show h.1 ≤ h.1 + 1 + n; omega, by show h.2.1 ≤ h.2.1 + n + n * k; omega⟩
set_option maxHeartbeats 4000000 in
theorem zMon_step (q : zI) (ls st : List Value) (h : zH) : zMon h (fun N J C => zStep N J C q ls st h) := by
  unfold zStep
  split <;> first
    | exact zMon_N _ _ _ (zLe.rf _)
    | exact zMon_N _ _ _ (zPush_le _ _ _)
    | exact zMon_none
    | exact zMon_r _ (zPush_le _ _ _)
    | exact zMon_emp _ _ (zMon_r _ (zLe.rf _))
    | exact zMon_J _ _ _ _ (zLe.rf _)
    | exact zMon_II _ _ fun _ _ _ => zMon_N _ _ _ (zLe.rf _)
    | exact zMon_II _ _ fun _ _ _ => zMon_ite _ _ _ zMon_none (zMon_N _ _ _ (zLe.rf _))
    | exact zMon_II _ _ fun _ _ _ => zMon_ite _ _ _ zMon_none (zMon_N _ _ _ (zRows_le _ _ _))
    | exact zMon_LL _ _ fun _ _ _ => zMon_N _ _ _ (zLe.rf _)
    | exact zMon_LL _ _ fun _ _ _ => zMon_ite _ _ _ zMon_none (zMon_N _ _ _ (zLe.rf _))
    | exact zMon_LI _ _ fun _ _ _ => zMon_N _ _ _ (zLe.rf _)
    | exact zMon_DD _ _ fun _ _ _ => zMon_N _ _ _ (zLe.rf _)
    | exact zMon_DD _ _ fun _ _ _ => zMon_ite _ _ _ (zMon_N _ _ _ (zLe.rf _)) zMon_none
    | exact zMon_I1 _ _ fun _ _ => zMon_N _ _ _ (zLe.rf _)
    | exact zMon_I1 _ _ fun _ _ => zMon_cases _ _ _ _ _ _
    | exact zMon_I1 _ _ fun _ _ => zMon_br _ _ _ _ _ (zMon_J _ _ _ _ (zLe.rf _)) (zMon_N _ _ _ (zLe.rf _))
    | exact zMon_II _ _ fun _ _ _ => zMon_br _ _ _ _ _ (zMon_J _ _ _ _ (zLe.rf _)) (zMon_N _ _ _ (zLe.rf _))
    | exact zMon_I1 _ _ fun _ _ => zMon_ite _ _ _ zMon_none (zMon_N _ _ _ (zPush_le _ _ _))
    | exact zMon_I1 _ _ fun _ _ => zMon_emp _ _ (zMon_bind _ _ fun _ _ => zMon_r _ (zLe.rf _))
    | exact zMon_L1 _ _ fun _ _ => zMon_N _ _ _ (zLe.rf _)
    | exact zMon_L1 _ _ fun _ _ => zMon_emp _ _ (zMon_r _ (zLe.rf _))
    | exact zMon_A1 _ _ fun _ _ => zMon_emp _ _ (zMon_r _ (zLe.rf _))
    | exact zMon_A1 _ _ fun _ _ => zMon_ite _ _ _ (zMon_r _ (zLe.rf _)) zMon_none
    | exact zMon_A1 _ _ fun _ _ => zMon_ite _ _ _ (zMon_N _ _ _ (zLe.rf _)) zMon_none
    | exact zMon_A1 _ _ fun _ _ => zMon_ite _ _ _ (zMon_wr _ _ (zMon_ok _ _ (zMon_N _ _ _ (zLe.rf _)))) zMon_none
    | exact zMon_A1 _ _ fun _ _ => zMon_ok _ _ (zMon_N _ _ _ (zLe.rf _))
    | exact zMon_A1 _ _ fun _ _ => zMon_typed _ _ _ fun _ => zMon_N _ _ _ (zLe.rf _)
    | exact zMon_V1 _ _ fun _ _ => zMon_ok _ _ (zMon_N _ _ _ (zLe.rf _))
    | exact zMon_V1 _ _ fun _ _ => zMon_emp _ _ (zMon_fit _ _ _ fun _ => zMon_r _ (zLe.rf _))
    | exact zMon_V1 _ _ fun _ _ => zMon_A1 _ _ fun _ _ => zMon_fit _ _ _ fun _ => zMon_putN _ _ _ _ _ _
    | exact zMon_V1 _ _ fun _ _ => zMon_fit _ _ _ fun _ => zMon_AI _ _ fun _ _ _ => zMon_bind _ _ fun _ _ => zMon_putN _ _ _ _ _ _
    | exact zMon_V1 _ _ fun _ _ => zMon_cat _ _ _ (zMon_N _ _ _ (zLe.rf _)) (zMon_V1 _ _ fun _ _ => zMon_ok _ _ (zMon_N _ _ _ (zLe.rf _)))
    | exact zMon_AI _ _ fun _ _ _ => zMon_bind _ _ fun _ _ => zMon_typed _ _ _ fun _ => zMon_N _ _ _ (zLe.rf _)
    | exact zMon_I1 _ _ fun _ _ => zMon_AI _ _ fun _ _ _ => zMon_bind _ _ fun _ _ => zMon_putN _ _ _ _ _ _
    | exact zMon_I1 _ _ fun _ _ => zMon_AI _ _ fun _ _ _ => zMon_bind _ _ fun _ _ => zMon_bind _ _ fun _ _ => zMon_putN _ _ _ _ _ _
    | exact zMon_L1 _ _ fun _ _ => zMon_AI _ _ fun _ _ _ => zMon_bind _ _ fun _ _ => zMon_putN _ _ _ _ _ _
    | exact zMon_A1 _ _ fun _ _ => zMon_AI _ _ fun _ _ _ => zMon_ite _ _ _ (zMon_bind _ _ fun _ _ => zMon_putN _ _ _ _ _ _) zMon_none
    | exact zMon_bind _ _ fun _ _ => zMon_ok _ _ (zMon_N _ _ _ (zLe.rf _))
    | exact zMon_bind _ _ fun _ _ => zMon_N _ _ _ (zLe.rf _)
    | exact zMon_inv _ _ _ _ _ _ _
    | exact zMon_rf _ _ _ (zMon_inv _ _ _ _ _ _ _)
    | exact zMon_ok _ _ (zMon_r _ (zPush_le _ _ _))
    | skip
  · split
    · exact zMon_bind _ _ fun _ e => zMon_ok _ _ (zMon_N _ _ _ (zACopy_le e))
    · exact zMon_none
theorem zRunF_le {code : zT} : ∀ (n m i : Nat) (ls st : List Value) (h : zH) (r : zR), zRunF code n m i ls st h = some r → zLe h (zRh r)
  | 0, _, _, _, _, _, _, e => by simp [zRunF] at e
  | n + 1, m, i, ls, st, h, r, e => by
    unfold zRunF at e
    split at e
    · exact absurd e (by simp)
    · exact zMon_step _ _ _ _ _ _ _ (fun a b c r q => zRunF_le n _ _ _ _ _ r q) (fun t a b c r q => zRunF_le n _ _ _ _ _ r q) (fun k a c r q => zRunF_le n _ _ _ _ _ r (zOk_some q).2) r e
end ZMONO
