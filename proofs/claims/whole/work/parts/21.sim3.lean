/-! One step of the small machine, held against the JVM: objects, calls, ends. -/
section ZSIM3
variable {p : Program} {l : Launch} {e : Env} {R : Room} {s : State} {m : MethodId} {args : Array Value} {below : List Frame} {meth : Method} {c : Code} {Q : State → Prop} {D : zD} {ad : Nat → Nat} {o : Nat → Value} {base : Nat} {mi : Nat} {h0 : zH} {i : Nat} {L st : List Value} {h : zH} {r : zR} {N : zN} {J : zJ} {Cc : zF} {e1 len : Nat} {q : zI} {ms : List Nat}
theorem zM_new {idx : Nat} (Y : zHy p l e R s m args below meth c Q D ad o base mi h0 i r N J Cc) (hp : e1 % 65536 = zPc mi i) (hd : decode (zBy mi) (zPc mi i) = .ok (.new idx, len)) (hm : zMatch mi i (e1, q, ms) (.new idx) len = true) (hs : zStep N J Cc q L st h = some r) : zG p l e R s m args below meth c Q D ad o base mi h0 i L st h := by
  obtain ⟨C, hE, hb1, hb2, hN, hJ, mN, mJ, hC⟩ := Y
  simp only [zMatch, Bool.and_eq_true, Bool.or_eq_true, decide_eq_true_eq, hp] at hm
  split at hm
  · simp only [Bool.and_eq_true, decide_eq_true_eq] at hm
    obtain ⟨⟨⟨⟨⟨⟨nx, rfl⟩, hq⟩, hci⟩, h1⟩, h2⟩, h3⟩ := hm
    rw [hq] at hs
    simp only [zStep] at hs
    have hz := mN _ _ _ _ hs
    have z1 : h.1 + 1 ≤ (zRh r).1 := hz.1
    have z2 : h.2.1 + q.2.2.1.getD 1 0 ≤ (zRh r).2.1 := hz.2
    exact zS_new (ci := q.2.2.1.getD 0 0) (w := q.2.2.1.getD 1 0) C hd nx hci (zHas_in h1) (zHas_in h2) (zHas_in h3) (by omega) (by omega) (hN _ _ _ hs)
  · simp only [Bool.and_eq_true, decide_eq_true_eq] at hm
    obtain ⟨rfl, ht⟩ := hm
    have hq : q = (.jsr_w 0, 0, [q.2.2.1.getD 0 0, 6], []) := by
      have ht2 := ht
      unfold zThrowOk at ht2
      split at ht2
      · simp only [Bool.and_eq_true, decide_eq_true_eq] at ht2
        exact ht2.1.1.1.1.1.1.1.1.1.1.2
      · cases ht2
    rw [hq] at hs ht
    simp only [zStep] at hs
    obtain ⟨hcat, g1⟩ := zOk_some hs
    intro hl H locs cells slots ls hR hL hS hc hs2
    exact hE.2.2 (q.2.2.1.getD 0 0) h (Option.some.inj g1).symm H locs cells slots ls (zPc mi i) st _ idx hd ht (by rw [← hl]; exact hL.1) hR hS hc hs2 (Nat.le_of_ble_eq_true hcat)
  · cases hm
theorem zRet_of {v : Option Value} (hr : r = .inl (v, h)) (hE : zEnd p l e R s m args below meth c Q D ad o base mi h0 r) (hok : zRetOk mi (zPc mi i) v) : zG p l e R s m args below meth c Q D ad o base mi h0 i L v.toList h := by
  intro hl H locs cells slots ls hR hL hS hc hs
  have := hE.1 v h hr H locs cells slots ls (zPc mi i) hR hS hc hs hok
  cases v <;> exact this
theorem zNar_i {k : Nat} {x y : Int32} (h : zNarrow k x = some y) : y = x ∧ (k = 1 → x = 0 ∨ x = 1) ∧ (k = 2 → x.toInt8.toInt32 = x) ∧ (k = 3 → (x.toUInt32 % 65536).toInt32 = x) := by
  unfold zNarrow at h
  split at h
  · cases h; exact ⟨rfl, fun z => absurd z (by omega), fun z => absurd z (by omega), fun z => absurd z (by omega)⟩
  · obtain ⟨h1, h2⟩ := zB_i h
    exact ⟨h1, fun _ => h2, fun z => absurd z (by omega), fun z => absurd z (by omega)⟩
  · split at h
    · rename_i e; cases h; exact ⟨rfl, fun z => absurd z (by omega), fun _ => e, fun z => absurd z (by omega)⟩
    · cases h
  · split at h
    · rename_i n1 n2 n3 e; cases h; exact ⟨rfl, fun z => absurd z (by assumption), fun z => absurd z (by assumption), fun _ => e⟩
    · cases h
theorem zNar_c {x : Int32} (h : (x.toUInt32 % 65536).toInt32 = x) : narrow .char (.int x) = .int x := by
  show Value.int _ = _
  have e : x.toUInt32.toUInt16.toUInt32 = x.toUInt32 % 65536 := by
    apply UInt32.toNat_inj.mp
    simp
  rw [e, h]
theorem zM_ireturn (Y : zHy p l e R s m args below meth c Q D ad o base mi h0 i r N J Cc) (hp : e1 % 65536 = zPc mi i) (hd : decode (zBy mi) (zPc mi i) = .ok (.ireturn, len)) (hm : zMatch mi i (e1, q, ms) (.ireturn) len = true) (hs : zStep N J Cc q L st h = some r) : zG p l e R s m args below meth c Q D ad o base mi h0 i L st h := by
  obtain ⟨C, hE, hb1, hb2, hN, hJ, mN, mJ, hC⟩ := Y
  simp only [zMatch, Bool.and_eq_true, Bool.or_eq_true, decide_eq_true_eq, hp] at hm
  obtain ⟨rfl, hm⟩ := hm
  have hq : ∃ k, q = (.ireturn, 0, [k], []) ∧ ((k = 0 ∧ zRt mi = some .int) ∨ (k = 1 ∧ zRt mi = some .boolean) ∨ (k = 2 ∧ zRt mi = some .byte) ∨ (k = 3 ∧ zRt mi = some .char)) := by
    rcases hm with ((⟨h1, h2⟩ | ⟨h1, h2⟩) | ⟨h1, h2⟩) | ⟨h1, h2⟩
    · exact ⟨0, h1, Or.inl ⟨rfl, h2⟩⟩
    · exact ⟨1, h1, Or.inr (Or.inl ⟨rfl, h2⟩)⟩
    · exact ⟨2, h1, Or.inr (Or.inr (Or.inl ⟨rfl, h2⟩))⟩
    · exact ⟨3, h1, Or.inr (Or.inr (Or.inr ⟨rfl, h2⟩))⟩
  obtain ⟨k, rfl, hk⟩ := hq
  simp only [zStep] at hs
  obtain ⟨x, t, rfl, g1⟩ := zI1_i hs
  obtain ⟨rfl, g2⟩ := zEmp_i g1
  obtain ⟨y, g3, g4⟩ := zBind_i g2
  have g3 : zNarrow k x = some y := g3
  obtain ⟨rfl, n1, n2, n3⟩ := zNar_i g3
  refine zRet_of (v := some (.int y)) (Option.some.inj g4).symm hE (Or.inl ⟨y, rfl, hd, ?_⟩)
  rcases hk with ⟨rfl, h2⟩ | ⟨rfl, h2⟩ | ⟨rfl, h2⟩ | ⟨rfl, h2⟩
  · exact ⟨_, h2, rfl⟩
  · refine ⟨_, h2, ?_⟩
    rcases n1 rfl with rfl | rfl <;> rfl
  · refine ⟨_, h2, ?_⟩
    show Value.int _ = _
    rw [n2 rfl]
  · exact ⟨_, h2, zNar_c (n3 rfl)⟩
theorem zM_lreturn (Y : zHy p l e R s m args below meth c Q D ad o base mi h0 i r N J Cc) (hp : e1 % 65536 = zPc mi i) (hd : decode (zBy mi) (zPc mi i) = .ok (.lreturn, len)) (hm : zMatch mi i (e1, q, ms) (.lreturn) len = true) (hs : zStep N J Cc q L st h = some r) : zG p l e R s m args below meth c Q D ad o base mi h0 i L st h := by
  obtain ⟨C, hE, hb1, hb2, hN, hJ, mN, mJ, hC⟩ := Y
  simp only [zMatch, Bool.and_eq_true, Bool.or_eq_true, decide_eq_true_eq, hp] at hm
  obtain ⟨⟨rfl, rfl⟩, ht⟩ := hm
  simp only [zStep] at hs
  obtain ⟨x, t, rfl, g1⟩ := zL1_i hs
  obtain ⟨rfl, g2⟩ := zEmp_i g1
  exact zRet_of (v := some (.long x)) (Option.some.inj g2).symm hE (Or.inr (Or.inl ⟨x, rfl, hd, ht⟩))
theorem zM_dreturn (Y : zHy p l e R s m args below meth c Q D ad o base mi h0 i r N J Cc) (hp : e1 % 65536 = zPc mi i) (hd : decode (zBy mi) (zPc mi i) = .ok (.dreturn, len)) (hm : zMatch mi i (e1, q, ms) (.dreturn) len = true) (hs : zStep N J Cc q L st h = some r) : zG p l e R s m args below meth c Q D ad o base mi h0 i L st h := by
  obtain ⟨C, hE, hb1, hb2, hN, hJ, mN, mJ, hC⟩ := Y
  simp only [zMatch, Bool.and_eq_true, Bool.or_eq_true, decide_eq_true_eq, hp] at hm
  obtain ⟨⟨rfl, rfl⟩, ht⟩ := hm
  simp only [zStep] at hs
  obtain ⟨v, t, rfl, g1⟩ := zV1_i hs
  obtain ⟨rfl, g2⟩ := zEmp_i g1
  unfold zFit at g2
  try dsimp only at g2
  obtain ⟨hy, g3⟩ := zOk_some g2
  rcases zTy_i hy with ⟨y, rfl, e⟩ | ⟨y, rfl, e⟩ | ⟨y, rfl, e⟩ | ⟨y, rfl, e⟩
  · cases e
  · cases e
  · exact zRet_of (v := some (.double y)) (Option.some.inj g3).symm hE (Or.inr (Or.inr (Or.inl ⟨y, rfl, hd, ht⟩)))
  · cases e
theorem zM_areturn (Y : zHy p l e R s m args below meth c Q D ad o base mi h0 i r N J Cc) (hp : e1 % 65536 = zPc mi i) (hd : decode (zBy mi) (zPc mi i) = .ok (.areturn, len)) (hm : zMatch mi i (e1, q, ms) (.areturn) len = true) (hs : zStep N J Cc q L st h = some r) : zG p l e R s m args below meth c Q D ad o base mi h0 i L st h := by
  obtain ⟨C, hE, hb1, hb2, hN, hJ, mN, mJ, hC⟩ := Y
  simp only [zMatch, Bool.and_eq_true, Bool.or_eq_true, decide_eq_true_eq, hp] at hm
  obtain ⟨⟨rfl, rfl⟩, ht⟩ := hm
  split at ht
  · rename_i nm hrt
    simp only [zStep] at hs
    obtain ⟨a, t, rfl, g1⟩ := zA1_i hs
    obtain ⟨rfl, g2⟩ := zEmp_i g1
    exact zRet_of (v := some (.ref a)) (Option.some.inj g2).symm hE (Or.inr (Or.inr (Or.inr (Or.inl ⟨a, rfl, hd, _, hrt⟩))))
  · cases ht
theorem zM_return (Y : zHy p l e R s m args below meth c Q D ad o base mi h0 i r N J Cc) (hp : e1 % 65536 = zPc mi i) (hd : decode (zBy mi) (zPc mi i) = .ok (.return_, len)) (hm : zMatch mi i (e1, q, ms) (.return_) len = true) (hs : zStep N J Cc q L st h = some r) : zG p l e R s m args below meth c Q D ad o base mi h0 i L st h := by
  obtain ⟨C, hE, hb1, hb2, hN, hJ, mN, mJ, hC⟩ := Y
  simp only [zMatch, Bool.and_eq_true, Bool.or_eq_true, decide_eq_true_eq, hp] at hm
  obtain ⟨⟨rfl, rfl⟩, ht⟩ := hm
  simp only [zStep] at hs
  obtain ⟨rfl, g2⟩ := zEmp_i hs
  exact zRet_of (v := none) (Option.some.inj g2).symm hE (Or.inr (Or.inr (Or.inr (Or.inr ⟨rfl, hd, ht⟩))))
theorem zM_athrow (Y : zHy p l e R s m args below meth c Q D ad o base mi h0 i r N J Cc) (hp : e1 % 65536 = zPc mi i) (hd : decode (zBy mi) (zPc mi i) = .ok (.athrow, len)) (hm : zMatch mi i (e1, q, ms) (.athrow) len = true) (hs : zStep N J Cc q L st h = some r) : zG p l e R s m args below meth c Q D ad o base mi h0 i L st h := by
  obtain ⟨C, hE, hb1, hb2, hN, hJ, mN, mJ, hC⟩ := Y
  simp only [zMatch, Bool.and_eq_true, Bool.or_eq_true, decide_eq_true_eq, hp] at hm
  obtain ⟨⟨⟨rfl, hq⟩, hh⟩, h11⟩ := hm
  rw [hq] at hs
  simp only [zStep] at hs
  obtain ⟨a, t, rfl, g1⟩ := zA1_i hs
  split at g1
  · rename_i hk
    have hk : (h.2.2 a).1 = q.2.2.1.getD 0 0 := hk
    intro hl H locs cells slots ls hR hL hS hc hs2
    have hkd : (h.2.2 a).1 = 11 := by
      rcases h11 with e | e
      · omega
      · exfalso
        obtain ⟨cell, c1, c2⟩ := hR.1 a (hR.lt (by omega))
        unfold zCell at c2
        rw [if_neg (by omega), if_neg (by omega), if_pos (by omega)] at c2
        have := c2.1
        rw [hk, e] at this
        simp [zAK] at this
    refine vx_athrow C.1 C.2.1 hd ?_
    have := hE.2.1 (h.2.2 a).1 a h (Option.some.inj g1).symm (by rw [hkd]; decide) rfl H locs cells slots ls (zPc mi i) (t.map (zTr ad o)) hR hS hc hs2 (by rw [hh]; intro x hx; cases hx)
    exact this
  · cases g1
theorem zBack_l {rt : Nat} {hs : List Nat} {v : Option Value} {h' : zH} {rest : List Value} (g : zBack rt hs L rest N J (.inl (v, h')) = some r) : N L (v.toList ++ rest) h' = some r := by
  have key : zBack1 rt L rest N (.inl (v, h')) = some r → N L (v.toList ++ rest) h' = some r := by
    intro g
    unfold zBack1 at g
    split at g
    · cases v with
      | none => exact g
      | some v => cases g
    · obtain ⟨x, h1, h2⟩ := zBind_i g
      rw [zVI_i h1]; exact h2
    · obtain ⟨x, h1, h2⟩ := zBind_i g
      cases v with
      | none => cases h1
      | some v => cases v <;> first | cases h1 <;> exact h2 | cases h1
    · obtain ⟨x, h1, h2⟩ := zBind_i g
      cases v with
      | none => cases h1
      | some v => cases v <;> first | cases h1 <;> exact h2 | cases h1
    · obtain ⟨x, h1, h2⟩ := zBind_i g
      cases v with
      | none => cases h1
      | some v => cases v <;> first | cases h1 <;> exact h2 | cases h1
  unfold zBack at g
  split at g
  · exact key g
  · exact key g
theorem zBack_r {rt : Nat} {hs : List Nat} {kd a : Nat} {h' : zH} {rest : List Value} (g : zBack rt hs L rest N J (.inr (kd, a, h')) = some r) : (hs = [] ∧ r = .inr (kd, a, h')) ∨ (hs ≠ [] ∧ zHand (fun t => J t L [.ref a] h') none hs kd = some r) := by
  unfold zBack at g
  split at g
  · left
    refine ⟨rfl, ?_⟩
    unfold zBack1 at g
    split at g <;> exact (Option.some.inj g).symm
  · exact Or.inr ⟨by simp, g⟩
theorem zKx_of {rt : Nat} {hs : List Nat} {rc : zR} {rest : List Value} (C : zCx p l s m args meth c R D ad o base mi) (hE : zEnd p l e R s m args below meth c Q D ad o base mi h0 r) (hJ : ∀ t a b c', J t a b c' = some r → zG p l e R s m args below meth c Q D ad o base mi h0 t a b c') (hl : L.length = zMl mi) (hh : zHsOk mi (zPc mi i) (zHh mi) hs = true) (g : zBack rt hs L rest N J rc = some r) : zKx p l e R s m args below meth c Q D ad o base mi h0 i L rest rc := by
  intro kd q h' hrc hk hkq H locs cells slots ls hL hR hS hc hs2
  subst hrc
  rcases zBack_r g with ⟨rfl, hr⟩ | ⟨-, hh2⟩
  · exact hE.2.1 kd q h' hr hk hkq H locs cells slots ls (zPc mi i) (rest.map (zTr ad o)) hR hS hc hs2 (zHsNil _ hh)
  · obtain ⟨hx, hb, hml, how, hts, hlocks, hrt, hnm, hst, htab, hK, hF, -⟩ := id C
    obtain ⟨pre, x, suf, tg, t1, t2, t3, t4, t5, t6, t7⟩ := zHand_some hk rfl hF.2.2.2.2.2.2.2 hts _ _ hh hh2
    have hk50 : kd < 16 ∧ kd ≠ 12 := by
      simp only [zEx4, List.mem_cons, List.not_mem_nil, or_false] at hk; omega
    obtain ⟨ce, b1, b2, b3, b4, b5, -⟩ := hR.obj hkq (by omega)
    have kk := hJ _ _ _ _ t7 hl H locs cells slots ls hR hL hS hc hs2
    rw [t6] at kk
    exact vx_catch how pre x suf (by rw [htab (fun z => by rw [z] at t1; simp [tableOf] at t1)]; exact t1) t3 t2 t4 t5 (hts _ (zCat4 kd hk)) b1 (b5 hk50.2) (by rw [b2]; exact hK.1 kd hk50.1) kk
theorem zInv_i {cm n ci rt : Nat} {hs : List Nat} (g : zInv Cc cm n ci rt hs L st h N J = some r) : ∃ as rest rc, st = as.reverse ++ rest ∧ as.length = n ∧ zCats rest ≤ 8 ∧ Cc cm as h = some rc ∧ zBack rt hs L rest N J rc = some r ∧ as = (st.take n).reverse ∧ (∀ k, ci = k + 1 → ∃ a as', as = .ref a :: as' ∧ (h.2.2 a).1 = k) := by
  unfold zInv at g
  obtain ⟨g1, g⟩ := zOk_some g
  obtain ⟨g2, g⟩ := zOk_some g
  have hn := Nat.le_of_ble_eq_true g1
  refine ⟨(st.take n).reverse, st.drop n, ?_⟩
  have e1 : st = (st.take n).reverse.reverse ++ st.drop n := by rw [List.reverse_reverse, List.take_append_drop]
  have e2 : (st.take n).reverse.length = n := by rw [List.length_reverse, List.length_take]; omega
  split at g
  · obtain ⟨rc, h1, h2⟩ := zBind_i g
    exact ⟨rc, e1, e2, Nat.le_of_ble_eq_true g2, h1, h2, rfl, fun k hk => by cases hk⟩
  · rename_i k
    split at g
    · rename_i a as' has
      split at g
      · rename_i hk
        obtain ⟨rc, h1, h2⟩ := zBind_i g
        exact ⟨rc, e1, e2, Nat.le_of_ble_eq_true g2, by rw [has]; exact h1, h2, rfl, fun k' hk' => by cases hk'; exact ⟨a, as', has, hk⟩⟩
      · cases g
    · cases g
theorem zM_invokestatic {idx : Nat} (Y : zHy p l e R s m args below meth c Q D ad o base mi h0 i r N J Cc) (hp : e1 % 65536 = zPc mi i) (hd : decode (zBy mi) (zPc mi i) = .ok (.invokestatic idx, len)) (hm : zMatch mi i (e1, q, ms) (.invokestatic idx) len = true) (hs : zStep N J Cc q L st h = some r) : zG p l e R s m args below meth c Q D ad o base mi h0 i L st h := by
  obtain ⟨C, hE, hb1, hb2, hN, hJ, mN, mJ, hC⟩ := Y
  simp only [zMatch, Bool.and_eq_true, Bool.or_eq_true, decide_eq_true_eq, hp] at hm
  obtain ⟨⟨nx, rfl⟩, hq⟩ := hm
  split at hq
  · simp only [Bool.and_eq_true, decide_eq_true_eq] at hq
    obtain ⟨⟨h1, h2⟩, h3⟩ := hq
    simp only [zStep] at hs
    split at hs
    · obtain ⟨h', g1, g2⟩ := zBind_i hs
      obtain ⟨g3, g4⟩ := zOk_some g2
      have k1 := C.2.2.2.2.2.2.2.2.2.2.2.2.2.1
      have k2 := C.2.2.2.2.2.2.2.2.2.2.2.2.2.2.1
      exact zS_arraycopy C hd nx (zHas_in h1) (zHas_in (p := 1552) (by decide +kernel)) (zHas_in (p := 1551) (by decide +kernel)) (zHas_in (p := 123) (by decide +kernel)) (Nat.le_of_ble_eq_true g3) (by omega) (by omega) g1 (hN _ _ _ g4)
    · cases hs
  · rename_i cm n rt hs9
    simp only [Bool.and_eq_true, Bool.or_eq_true, decide_eq_true_eq] at hq
    obtain ⟨⟨⟨⟨⟨⟨⟨h1, h2⟩, h3⟩, h4⟩, h5⟩, h6⟩, h7⟩, h8⟩ := hq
    simp only [zStep] at hs
    obtain ⟨as, rest, rc, rfl, g1, g2, g3, g4, -, -⟩ := zInv_i (cm := cm) (n := n) (ci := 0) (rt := rt) (hs := hs9) hs
    obtain ⟨hle, hM⟩ := hC cm as h rc h1 g3
    have hz := zMon_back rt hs9 L rest rc N J (fun _ _ _ => none) mN mJ (fun _ _ _ _ e => by cases e) r g4
    intro hl
    refine zS_static C hd nx h1 h7 hle (Nat.le_trans hz.1 hb1) (Nat.le_trans hz.2 hb2) g2 h2 (by omega) h5 ?_ hM (fun v h' e => hN _ _ _ (by subst e; exact zBack_l g4)) (zKx_of C hE hJ hl h8 g4) hl
    rcases h6 with h6 | h6
    · exact Or.inl h6
    · exact Or.inr (zHas_in h6)
  · simp only [zStep] at hs
    cases hs
  · cases hq
theorem zM_invokevirtual {idx : Nat} (Y : zHy p l e R s m args below meth c Q D ad o base mi h0 i r N J Cc) (hp : e1 % 65536 = zPc mi i) (hd : decode (zBy mi) (zPc mi i) = .ok (.invokevirtual idx, len)) (hm : zMatch mi i (e1, q, ms) (.invokevirtual idx) len = true) (hs : zStep N J Cc q L st h = some r) : zG p l e R s m args below meth c Q D ad o base mi h0 i L st h := by
  obtain ⟨C, hE, hb1, hb2, hN, hJ, mN, mJ, hC⟩ := Y
  simp only [zMatch, Bool.and_eq_true, Bool.or_eq_true, decide_eq_true_eq, hp] at hm
  obtain ⟨⟨nx, rfl⟩, hq⟩ := hm
  split at hq
  · rename_i cm n kk rt hs9
    simp only [Bool.and_eq_true, Bool.not_eq_true', decide_eq_true_eq] at hq
    obtain ⟨⟨⟨⟨⟨⟨⟨⟨⟨h1, h2⟩, h3⟩, h4⟩, h5⟩, h6⟩, h7⟩, h8⟩, h9⟩, h10⟩ := hq
    simp only [zStep] at hs
    obtain ⟨as, rest, rc, rfl, g1, g2, g3, g4, -, g5⟩ := zInv_i (cm := cm) (n := n) (ci := kk + 1) (rt := rt) (hs := hs9) hs
    obtain ⟨b, as', rfl, hbk⟩ := g5 kk rfl
    obtain ⟨hle, hM⟩ := hC cm _ h rc h1 g3
    have hz := zMon_back rt hs9 L rest rc N J (fun _ _ _ => none) mN mJ (fun _ _ _ _ e => by cases e) r g4
    intro hl
    have hlen : as'.length = zNp cm := by simp only [List.length_cons] at g1; omega
    have := zS_virtual (as := as') (rest := rest) C hd nx h1 h9 hle (Nat.le_trans hz.1 hb1) (Nat.le_trans hz.2 hb2) g2 h2 hlen h7 h8 hbk (zHas_in h5) (zHas_in h6) hM (fun v h' e => hN _ _ _ (by subst e; exact zBack_l g4)) (zKx_of C hE hJ hl h10 g4) hl
    rw [List.reverse_cons, List.append_assoc]
    exact this
  · simp only [zStep] at hs
    cases hs
  · cases hq
theorem zM_invokespecial {idx : Nat} (Y : zHy p l e R s m args below meth c Q D ad o base mi h0 i r N J Cc) (hp : e1 % 65536 = zPc mi i) (hd : decode (zBy mi) (zPc mi i) = .ok (.invokespecial idx, len)) (hm : zMatch mi i (e1, q, ms) (.invokespecial idx) len = true) (hs : zStep N J Cc q L st h = some r) : zG p l e R s m args below meth c Q D ad o base mi h0 i L st h := by
  obtain ⟨C, hE, hb1, hb2, hN, hJ, mN, mJ, hC⟩ := Y
  simp only [zMatch, Bool.and_eq_true, Bool.or_eq_true, decide_eq_true_eq, hp] at hm
  obtain ⟨⟨nx, rfl⟩, hq⟩ := hm
  have k1 := C.2.2.2.2.2.2.2.2.2.2.2.2.2.1
  have k2 := C.2.2.2.2.2.2.2.2.2.2.2.2.2.2.1
  split at hq
  · simp only [Bool.and_eq_true, decide_eq_true_eq] at hq
    obtain ⟨⟨h1, h2⟩, h3⟩ := hq
    simp only [zStep] at hs
    obtain ⟨a, t, rfl, g1⟩ := zA1_i hs
    obtain ⟨g3, g4⟩ := zOk_some g1
    exact zS_objInit C hd nx (zHas_in h1) (zHas_in (p := 131) (by decide +kernel)) (zHas_in (p := 132) (by decide +kernel)) (Nat.le_of_ble_eq_true g3) (by omega) (by omega) (hN _ _ _ g4)
  · simp only [Bool.and_eq_true, decide_eq_true_eq] at hq
    obtain ⟨⟨⟨⟨h1, rfl⟩, h3⟩, h4⟩, h5⟩ := hq
    simp only [zStep] at hs
    obtain ⟨a, t, rfl, g1⟩ := zA1_i hs
    split at g1
    · rename_i hk
      unfold zWr at g1
      split at g1
      · rename_i x y hl3
        obtain ⟨g3, g4⟩ := zOk_some g1
        exact zS_super C hd nx h1 (Nat.le_of_ble_eq_true g3) (by omega) (by omega) hk (by rw [hl3]; rfl) (hN _ _ _ g4)
      · cases g1
    · cases g1
  · rename_i cm n
    simp only [Bool.and_eq_true, Bool.not_eq_true', decide_eq_true_eq] at hq
    obtain ⟨⟨⟨⟨⟨⟨⟨⟨h1, h2⟩, h3⟩, h4⟩, h5⟩, h6⟩, h7⟩, h8⟩, h9⟩ := hq
    simp only [zStep] at hs
    unfold zRf at hs
    split at hs
    · rename_i b as9 hb9
      obtain ⟨as, rest, rc, e0, g1, g2, g3, g4, g6, -⟩ := zInv_i (cm := cm) (n := n) (ci := 0) (rt := 0) (hs := []) hs
      have hb9 : (st.take n).reverse = .ref b :: as9 := hb9
      rw [hb9] at g6
      subst g6
      obtain ⟨hle, hM⟩ := hC cm _ h rc h1 g3
      have hz := zMon_back 0 [] L rest rc N J (fun _ _ _ => none) mN mJ (fun _ _ _ _ e => by cases e) r g4
      intro hl
      have hlen : as9.length = zNp cm := by simp only [List.length_cons] at g1; omega
      have hhs : zHsOk mi (zPc mi i) (zHh mi) [] = true := by rw [h8]; rfl
      have := zS_special (as := as9) (rest := rest) (b := b) C hd nx h1 h7 hle (Nat.le_trans hz.1 hb1) (Nat.le_trans hz.2 hb2) g2 h2 hlen h5 h4 h9 h6 hM (fun v h' e => hN _ _ _ (by subst e; exact zBack_l g4)) (zKx_of C hE hJ hl hhs g4) hl
      rw [e0, List.reverse_cons, List.append_assoc]
      exact this
    · cases hs
  · simp only [zStep] at hs
    cases hs
  · cases hq
end ZSIM3
