/-! One step of the small machine, held against the JVM: branches, fields, arrays. -/
section ZSIM2
variable {p : Program} {l : Launch} {e : Env} {R : Room} {s : State} {m : MethodId} {args : Array Value} {below : List Frame} {meth : Method} {c : Code} {Q : State → Prop} {D : zD} {ad : Nat → Nat} {o : Nat → Value} {base : Nat} {mi : Nat} {h0 : zH} {i : Nat} {L st : List Value} {h : zH} {r : zR} {N : zN} {J : zJ} {Cc : zF} {e1 len : Nat} {q : zI} {ms : List Nat}
theorem zM_dup2 (Y : zHy p l e R s m args below meth c Q D ad o base mi h0 i r N J Cc) (hp : e1 % 65536 = zPc mi i) (hd : decode (zBy mi) (zPc mi i) = .ok (.dup2, len)) (hm : zMatch mi i (e1, q, ms) (.dup2) len = true) (hs : zStep N J Cc q L st h = some r) : zG p l e R s m args below meth c Q D ad o base mi h0 i L st h := by
  obtain ⟨C, hE, hb1, hb2, hN, hJ, mN, mJ, hC⟩ := Y
  simp only [zMatch, Bool.and_eq_true, Bool.or_eq_true, decide_eq_true_eq, hp] at hm
  obtain ⟨⟨rfl, nx⟩, rfl⟩ := hm
  simp only [zStep] at hs
  obtain ⟨v, t, rfl, g1⟩ := zV1_i hs
  split at g1
  · rename_i hv
    exact zS_dup2 C hd nx hv (hN _ _ _ g1)
  · obtain ⟨w, t2, rfl, g2⟩ := zV1_i g1
    obtain ⟨hy, g3⟩ := zOk_some g2
    rw [Bool.and_eq_true] at hy
    exact zS_dup2b C hd nx (Nat.eq_of_beq_eq_true hy.1) (Nat.eq_of_beq_eq_true hy.2) (hN _ _ _ g3)
theorem zM_ldc {idx : Nat} (Y : zHy p l e R s m args below meth c Q D ad o base mi h0 i r N J Cc) (hp : e1 % 65536 = zPc mi i) (hd : decode (zBy mi) (zPc mi i) = .ok (.ldc idx, len)) (hm : zMatch mi i (e1, q, ms) (.ldc idx) len = true) (hs : zStep N J Cc q L st h = some r) : zG p l e R s m args below meth c Q D ad o base mi h0 i L st h := by
  obtain ⟨C, hE, hb1, hb2, hN, hJ, mN, mJ, hC⟩ := Y
  simp only [zMatch, Bool.and_eq_true, Bool.or_eq_true, decide_eq_true_eq, hp] at hm
  obtain ⟨⟨nx, rfl⟩, hq⟩ := hm
  split at hq
  · simp only [zStep] at hs
    exact zS_ldc C hd nx (zHas_in hq) (hN _ _ _ hs)
  · simp only [Bool.and_eq_true, decide_eq_true_eq, List.any_eq_true] at hq
    obtain ⟨hk, x, hx, ⟨h1, h2⟩, h3⟩ := hq
    simp only [zStep] at hs
    exact zS_ldcS (tx := x.2.2.1) C hd nx (by rw [← h1, ← h2, ← h3]; exact hx) hk (hN _ _ _ hs)
  · cases hq
theorem zM_goto {off : Int} (Y : zHy p l e R s m args below meth c Q D ad o base mi h0 i r N J Cc) (hp : e1 % 65536 = zPc mi i) (hd : decode (zBy mi) (zPc mi i) = .ok (.goto off, len)) (hm : zMatch mi i (e1, q, ms) (.goto off) len = true) (hs : zStep N J Cc q L st h = some r) : zG p l e R s m args below meth c Q D ad o base mi h0 i L st h := by
  obtain ⟨C, hE, hb1, hb2, hN, hJ, mN, mJ, hC⟩ := Y
  simp only [zMatch, Bool.and_eq_true, Bool.or_eq_true, decide_eq_true_eq, hp] at hm
  obtain ⟨⟨hq, ht⟩, rfl⟩ := hm
  rw [hq] at hs
  simp only [zStep] at hs
  exact zS_goto C hd ht (hJ _ _ _ _ hs)
theorem zM_if_eq {off : Int} (Y : zHy p l e R s m args below meth c Q D ad o base mi h0 i r N J Cc) (hp : e1 % 65536 = zPc mi i) (hd : decode (zBy mi) (zPc mi i) = .ok (.ifCond .eq off, len)) (hm : zMatch mi i (e1, q, ms) (.ifCond .eq off) len = true) (hs : zStep N J Cc q L st h = some r) : zG p l e R s m args below meth c Q D ad o base mi h0 i L st h := by
  obtain ⟨C, hE, hb1, hb2, hN, hJ, mN, mJ, hC⟩ := Y
  simp only [zMatch, Bool.and_eq_true, Bool.or_eq_true, decide_eq_true_eq, hp] at hm
  obtain ⟨⟨⟨hq, ht⟩, nx⟩, rfl⟩ := hm
  rw [hq] at hs
  simp only [zStep] at hs
  obtain ⟨x, t, rfl, g1⟩ := zI1_i hs
  have g2 := zBr_i g1
  simp only [zBr] at g2
  exact zS_if_eq C hd nx ht (fun hx => hJ _ _ _ _ (by rw [if_pos hx] at g2; exact g2)) (fun hx => hN _ _ _ (by rw [if_neg hx] at g2; exact g2))
theorem zM_icmp_eq {off : Int} (Y : zHy p l e R s m args below meth c Q D ad o base mi h0 i r N J Cc) (hp : e1 % 65536 = zPc mi i) (hd : decode (zBy mi) (zPc mi i) = .ok (.if_icmp .eq off, len)) (hm : zMatch mi i (e1, q, ms) (.if_icmp .eq off) len = true) (hs : zStep N J Cc q L st h = some r) : zG p l e R s m args below meth c Q D ad o base mi h0 i L st h := by
  obtain ⟨C, hE, hb1, hb2, hN, hJ, mN, mJ, hC⟩ := Y
  simp only [zMatch, Bool.and_eq_true, Bool.or_eq_true, decide_eq_true_eq, hp] at hm
  obtain ⟨⟨⟨hq, ht⟩, nx⟩, rfl⟩ := hm
  rw [hq] at hs
  simp only [zStep] at hs
  obtain ⟨x, y, t, rfl, g1⟩ := zII_i hs
  have g2 := zBr_i g1
  simp only [zBr] at g2
  exact zS_icmp_eq C hd nx ht (fun hx => hJ _ _ _ _ (by rw [if_pos hx] at g2; exact g2)) (fun hx => hN _ _ _ (by rw [if_neg hx] at g2; exact g2))
theorem zM_if_ne {off : Int} (Y : zHy p l e R s m args below meth c Q D ad o base mi h0 i r N J Cc) (hp : e1 % 65536 = zPc mi i) (hd : decode (zBy mi) (zPc mi i) = .ok (.ifCond .ne off, len)) (hm : zMatch mi i (e1, q, ms) (.ifCond .ne off) len = true) (hs : zStep N J Cc q L st h = some r) : zG p l e R s m args below meth c Q D ad o base mi h0 i L st h := by
  obtain ⟨C, hE, hb1, hb2, hN, hJ, mN, mJ, hC⟩ := Y
  simp only [zMatch, Bool.and_eq_true, Bool.or_eq_true, decide_eq_true_eq, hp] at hm
  obtain ⟨⟨⟨hq, ht⟩, nx⟩, rfl⟩ := hm
  rw [hq] at hs
  simp only [zStep] at hs
  obtain ⟨x, t, rfl, g1⟩ := zI1_i hs
  have g2 := zBr_i g1
  simp only [zBr] at g2
  exact zS_if_ne C hd nx ht (fun hx => hJ _ _ _ _ (by rw [if_neg hx] at g2; exact g2)) (fun hx => hN _ _ _ (by rw [if_pos hx] at g2; exact g2))
theorem zM_icmp_ne {off : Int} (Y : zHy p l e R s m args below meth c Q D ad o base mi h0 i r N J Cc) (hp : e1 % 65536 = zPc mi i) (hd : decode (zBy mi) (zPc mi i) = .ok (.if_icmp .ne off, len)) (hm : zMatch mi i (e1, q, ms) (.if_icmp .ne off) len = true) (hs : zStep N J Cc q L st h = some r) : zG p l e R s m args below meth c Q D ad o base mi h0 i L st h := by
  obtain ⟨C, hE, hb1, hb2, hN, hJ, mN, mJ, hC⟩ := Y
  simp only [zMatch, Bool.and_eq_true, Bool.or_eq_true, decide_eq_true_eq, hp] at hm
  obtain ⟨⟨⟨hq, ht⟩, nx⟩, rfl⟩ := hm
  rw [hq] at hs
  simp only [zStep] at hs
  obtain ⟨x, y, t, rfl, g1⟩ := zII_i hs
  have g2 := zBr_i g1
  simp only [zBr] at g2
  exact zS_icmp_ne C hd nx ht (fun hx => hJ _ _ _ _ (by rw [if_neg hx] at g2; exact g2)) (fun hx => hN _ _ _ (by rw [if_pos hx] at g2; exact g2))
theorem zM_if_lt {off : Int} (Y : zHy p l e R s m args below meth c Q D ad o base mi h0 i r N J Cc) (hp : e1 % 65536 = zPc mi i) (hd : decode (zBy mi) (zPc mi i) = .ok (.ifCond .lt off, len)) (hm : zMatch mi i (e1, q, ms) (.ifCond .lt off) len = true) (hs : zStep N J Cc q L st h = some r) : zG p l e R s m args below meth c Q D ad o base mi h0 i L st h := by
  obtain ⟨C, hE, hb1, hb2, hN, hJ, mN, mJ, hC⟩ := Y
  simp only [zMatch, Bool.and_eq_true, Bool.or_eq_true, decide_eq_true_eq, hp] at hm
  obtain ⟨⟨⟨hq, ht⟩, nx⟩, rfl⟩ := hm
  rw [hq] at hs
  simp only [zStep] at hs
  obtain ⟨x, t, rfl, g1⟩ := zI1_i hs
  have g2 := zBr_i g1
  simp only [zBr] at g2
  exact zS_if_lt C hd nx ht (fun hx => hJ _ _ _ _ (by rw [if_pos hx] at g2; exact g2)) (fun hx => hN _ _ _ (by rw [if_neg hx] at g2; exact g2))
theorem zM_icmp_lt {off : Int} (Y : zHy p l e R s m args below meth c Q D ad o base mi h0 i r N J Cc) (hp : e1 % 65536 = zPc mi i) (hd : decode (zBy mi) (zPc mi i) = .ok (.if_icmp .lt off, len)) (hm : zMatch mi i (e1, q, ms) (.if_icmp .lt off) len = true) (hs : zStep N J Cc q L st h = some r) : zG p l e R s m args below meth c Q D ad o base mi h0 i L st h := by
  obtain ⟨C, hE, hb1, hb2, hN, hJ, mN, mJ, hC⟩ := Y
  simp only [zMatch, Bool.and_eq_true, Bool.or_eq_true, decide_eq_true_eq, hp] at hm
  obtain ⟨⟨⟨hq, ht⟩, nx⟩, rfl⟩ := hm
  rw [hq] at hs
  simp only [zStep] at hs
  obtain ⟨x, y, t, rfl, g1⟩ := zII_i hs
  have g2 := zBr_i g1
  simp only [zBr] at g2
  exact zS_icmp_lt C hd nx ht (fun hx => hJ _ _ _ _ (by rw [if_pos hx] at g2; exact g2)) (fun hx => hN _ _ _ (by rw [if_neg hx] at g2; exact g2))
theorem zM_if_ge {off : Int} (Y : zHy p l e R s m args below meth c Q D ad o base mi h0 i r N J Cc) (hp : e1 % 65536 = zPc mi i) (hd : decode (zBy mi) (zPc mi i) = .ok (.ifCond .ge off, len)) (hm : zMatch mi i (e1, q, ms) (.ifCond .ge off) len = true) (hs : zStep N J Cc q L st h = some r) : zG p l e R s m args below meth c Q D ad o base mi h0 i L st h := by
  obtain ⟨C, hE, hb1, hb2, hN, hJ, mN, mJ, hC⟩ := Y
  simp only [zMatch, Bool.and_eq_true, Bool.or_eq_true, decide_eq_true_eq, hp] at hm
  obtain ⟨⟨⟨hq, ht⟩, nx⟩, rfl⟩ := hm
  rw [hq] at hs
  simp only [zStep] at hs
  obtain ⟨x, t, rfl, g1⟩ := zI1_i hs
  have g2 := zBr_i g1
  simp only [zBr] at g2
  exact zS_if_ge C hd nx ht (fun hx => hJ _ _ _ _ (by rw [if_neg hx] at g2; exact g2)) (fun hx => hN _ _ _ (by rw [if_pos hx] at g2; exact g2))
theorem zM_icmp_ge {off : Int} (Y : zHy p l e R s m args below meth c Q D ad o base mi h0 i r N J Cc) (hp : e1 % 65536 = zPc mi i) (hd : decode (zBy mi) (zPc mi i) = .ok (.if_icmp .ge off, len)) (hm : zMatch mi i (e1, q, ms) (.if_icmp .ge off) len = true) (hs : zStep N J Cc q L st h = some r) : zG p l e R s m args below meth c Q D ad o base mi h0 i L st h := by
  obtain ⟨C, hE, hb1, hb2, hN, hJ, mN, mJ, hC⟩ := Y
  simp only [zMatch, Bool.and_eq_true, Bool.or_eq_true, decide_eq_true_eq, hp] at hm
  obtain ⟨⟨⟨hq, ht⟩, nx⟩, rfl⟩ := hm
  rw [hq] at hs
  simp only [zStep] at hs
  obtain ⟨x, y, t, rfl, g1⟩ := zII_i hs
  have g2 := zBr_i g1
  simp only [zBr] at g2
  exact zS_icmp_ge C hd nx ht (fun hx => hJ _ _ _ _ (by rw [if_neg hx] at g2; exact g2)) (fun hx => hN _ _ _ (by rw [if_pos hx] at g2; exact g2))
theorem zM_if_gt {off : Int} (Y : zHy p l e R s m args below meth c Q D ad o base mi h0 i r N J Cc) (hp : e1 % 65536 = zPc mi i) (hd : decode (zBy mi) (zPc mi i) = .ok (.ifCond .gt off, len)) (hm : zMatch mi i (e1, q, ms) (.ifCond .gt off) len = true) (hs : zStep N J Cc q L st h = some r) : zG p l e R s m args below meth c Q D ad o base mi h0 i L st h := by
  obtain ⟨C, hE, hb1, hb2, hN, hJ, mN, mJ, hC⟩ := Y
  simp only [zMatch, Bool.and_eq_true, Bool.or_eq_true, decide_eq_true_eq, hp] at hm
  obtain ⟨⟨⟨hq, ht⟩, nx⟩, rfl⟩ := hm
  rw [hq] at hs
  simp only [zStep] at hs
  obtain ⟨x, t, rfl, g1⟩ := zI1_i hs
  have g2 := zBr_i g1
  simp only [zBr] at g2
  exact zS_if_gt C hd nx ht (fun hx => hJ _ _ _ _ (by rw [if_pos hx] at g2; exact g2)) (fun hx => hN _ _ _ (by rw [if_neg hx] at g2; exact g2))
theorem zM_icmp_gt {off : Int} (Y : zHy p l e R s m args below meth c Q D ad o base mi h0 i r N J Cc) (hp : e1 % 65536 = zPc mi i) (hd : decode (zBy mi) (zPc mi i) = .ok (.if_icmp .gt off, len)) (hm : zMatch mi i (e1, q, ms) (.if_icmp .gt off) len = true) (hs : zStep N J Cc q L st h = some r) : zG p l e R s m args below meth c Q D ad o base mi h0 i L st h := by
  obtain ⟨C, hE, hb1, hb2, hN, hJ, mN, mJ, hC⟩ := Y
  simp only [zMatch, Bool.and_eq_true, Bool.or_eq_true, decide_eq_true_eq, hp] at hm
  obtain ⟨⟨⟨hq, ht⟩, nx⟩, rfl⟩ := hm
  rw [hq] at hs
  simp only [zStep] at hs
  obtain ⟨x, y, t, rfl, g1⟩ := zII_i hs
  have g2 := zBr_i g1
  simp only [zBr] at g2
  exact zS_icmp_gt C hd nx ht (fun hx => hJ _ _ _ _ (by rw [if_pos hx] at g2; exact g2)) (fun hx => hN _ _ _ (by rw [if_neg hx] at g2; exact g2))
theorem zM_if_le {off : Int} (Y : zHy p l e R s m args below meth c Q D ad o base mi h0 i r N J Cc) (hp : e1 % 65536 = zPc mi i) (hd : decode (zBy mi) (zPc mi i) = .ok (.ifCond .le off, len)) (hm : zMatch mi i (e1, q, ms) (.ifCond .le off) len = true) (hs : zStep N J Cc q L st h = some r) : zG p l e R s m args below meth c Q D ad o base mi h0 i L st h := by
  obtain ⟨C, hE, hb1, hb2, hN, hJ, mN, mJ, hC⟩ := Y
  simp only [zMatch, Bool.and_eq_true, Bool.or_eq_true, decide_eq_true_eq, hp] at hm
  obtain ⟨⟨⟨hq, ht⟩, nx⟩, rfl⟩ := hm
  rw [hq] at hs
  simp only [zStep] at hs
  obtain ⟨x, t, rfl, g1⟩ := zI1_i hs
  have g2 := zBr_i g1
  simp only [zBr] at g2
  exact zS_if_le C hd nx ht (fun hx => hJ _ _ _ _ (by rw [if_neg hx] at g2; exact g2)) (fun hx => hN _ _ _ (by rw [if_pos hx] at g2; exact g2))
theorem zM_icmp_le {off : Int} (Y : zHy p l e R s m args below meth c Q D ad o base mi h0 i r N J Cc) (hp : e1 % 65536 = zPc mi i) (hd : decode (zBy mi) (zPc mi i) = .ok (.if_icmp .le off, len)) (hm : zMatch mi i (e1, q, ms) (.if_icmp .le off) len = true) (hs : zStep N J Cc q L st h = some r) : zG p l e R s m args below meth c Q D ad o base mi h0 i L st h := by
  obtain ⟨C, hE, hb1, hb2, hN, hJ, mN, mJ, hC⟩ := Y
  simp only [zMatch, Bool.and_eq_true, Bool.or_eq_true, decide_eq_true_eq, hp] at hm
  obtain ⟨⟨⟨hq, ht⟩, nx⟩, rfl⟩ := hm
  rw [hq] at hs
  simp only [zStep] at hs
  obtain ⟨x, y, t, rfl, g1⟩ := zII_i hs
  have g2 := zBr_i g1
  simp only [zBr] at g2
  exact zS_icmp_le C hd nx ht (fun hx => hJ _ _ _ _ (by rw [if_neg hx] at g2; exact g2)) (fun hx => hN _ _ _ (by rw [if_pos hx] at g2; exact g2))
theorem zCases_i {JJ : Nat → Option zR} {d : Nat} {x : Int32} : ∀ {ks : List Int} {ts : List Nat}, zCases JJ d ks ts x = some r → (∃ (j : Nat) (k : Int) (t : Nat), ks[j]? = some k ∧ ts[j]? = some t ∧ x = zi k ∧ JJ t = some r) ∨ (JJ d = some r ∧ ∀ (j : Nat) (k : Int), ks[j]? = some k → j < ts.length → x ≠ zi k)
  | [], ts, h => Or.inr ⟨by simpa [zCases] using h, fun j k hj => by simp at hj⟩
  | k :: ks, [], h => Or.inr ⟨by simpa [zCases] using h, fun j k hj hl => by simp at hl⟩
  | k :: ks, t :: ts, h => by
    unfold zCases at h
    by_cases e : x = zi k
    · rw [if_pos e] at h
      exact Or.inl ⟨0, k, t, rfl, rfl, e, h⟩
    · rw [if_neg e] at h
      rcases zCases_i h with ⟨j, k', t', h1, h2, h3, h4⟩ | ⟨h1, h2⟩
      · exact Or.inl ⟨j + 1, k', t', h1, h2, h3, h4⟩
      · refine Or.inr ⟨h1, fun j k' hj hl => ?_⟩
        cases j with
        | zero => cases hj; exact e
        | succ j => exact h2 j k' hj (by simpa using hl)
theorem zi_toInt {z : Int} (h1 : -2147483648 ≤ z) (h2 : z < 2147483648) : (zi z).toInt = z := by
  unfold zi
  exact Int32.toInt_ofInt_of_le (by omega) (by omega)
theorem zi_of (x : Int32) : zi x.toInt = x := by unfold zi; exact Int32.ofInt_toInt x
theorem zM_tableswitch {dd lo hi : Int} {offs : Array Int} (Y : zHy p l e R s m args below meth c Q D ad o base mi h0 i r N J Cc) (hp : e1 % 65536 = zPc mi i) (hd : decode (zBy mi) (zPc mi i) = .ok (.tableswitch dd lo hi offs, len)) (hm : zMatch mi i (e1, q, ms) (.tableswitch dd lo hi offs) len = true) (hs : zStep N J Cc q L st h = some r) : zG p l e R s m args below meth c Q D ad o base mi h0 i L st h := by
  obtain ⟨C, hE, hb1, hb2, hN, hJ, mN, mJ, hC⟩ := Y
  simp only [zMatch, Bool.and_eq_true, Bool.or_eq_true, decide_eq_true_eq, hp] at hm
  obtain ⟨⟨⟨⟨⟨⟨hq, ht⟩, hl1⟩, hl2⟩, hlo⟩, hhi⟩, hall⟩ := hm
  rw [hq] at hs
  simp only [zStep] at hs
  obtain ⟨x, t, rfl, g1⟩ := zI1_i hs
  have hsz : (hi - lo + 1).toNat = offs.size := by omega
  intro hl H locs cells slots ls hR hL hS hc hs
  rcases zCases_i g1 with ⟨j, k, tg, h1, h2, h3, h4⟩ | ⟨h1, h2⟩
  · have h2 : (q.2.2.1.drop 1)[j]? = some tg := h2
    have hj : j < offs.size := by rw [← hl1]; exact (List.getElem?_eq_some_iff.mp h2).1
    have hk : k = lo + (j : Int) := by
      have h1 : ((List.range (hi - lo + 1).toNat).map fun (k : Nat) => lo + (k : Int))[j]? = some k := h1
      rw [List.getElem?_map, List.getElem?_range (by omega)] at h1
      exact (Option.some.inj h1).symm
    have hx : x.toInt = lo + (j : Int) := by rw [h3, hk]; exact zi_toInt (by omega) (by omega)
    have hto := List.all_eq_true.mp hall j (List.mem_range.mpr hj)
    have hto := of_decide_eq_true hto
    have e1 : (q.2.2.1.drop 1).getD j 0 = tg := by rw [List.getD_eq_getElem?_getD, h2]; rfl
    have e2 : offs.getD j 0 = offs[j] := by simp [Array.getD, hj]
    rw [e1, e2] at hto
    exact lv_tableIn C.1 C.2.1 hd (by omega) (by omega) (off := offs[j]) (by rw [show (x.toInt - lo).toNat = j by omega]; exact Array.getElem?_eq_getElem hj) hto (hJ _ _ _ _ h4 hl H locs cells slots ls hR hL hS hc hs)
  · refine lv_tableOut C.1 C.2.1 hd ?_ ht (hJ _ _ _ _ h1 hl H locs cells slots ls hR hL hS hc hs)
    by_cases c1 : x.toInt < lo
    · exact Or.inl c1
    · by_cases c2 : hi < x.toInt
      · exact Or.inr c2
      · exfalso
        refine h2 (x.toInt - lo).toNat (lo + ((x.toInt - lo).toNat : Int)) ?_ ?_ ?_
        · show ((List.range (hi - lo + 1).toNat).map fun (k : Nat) => lo + (k : Int))[(x.toInt - lo).toNat]? = _
          rw [List.getElem?_map, List.getElem?_range (by omega)]
          rfl
        · show _ < (q.2.2.1.drop 1).length
          rw [hl1]; omega
        · rw [show lo + ((x.toInt - lo).toNat : Int) = x.toInt by omega]; exact (zi_of x).symm
theorem zLook_i {JJ : Nat → Option zR} {d : Nat} {dflt pcI : Int} {x : Int32} (hd : pcI + dflt = (zPc mi d : Int)) : ∀ {ps : List (Int × Int)} {ts : List Nat}, ts.length = ps.length → (∀ y ∈ ps, -2147483648 ≤ y.1 ∧ y.1 < 2147483648) → (∀ k, k < ps.length → pcI + (ps.getD k (0, 0)).2 = (zPc mi (ts.getD k 0) : Int)) → zCases JJ d (ps.map fun y => y.1) ts x = some r → ∃ tg, JJ tg = some r ∧ pcI + Op.lookupswitch.offset ps dflt x.toInt = (zPc mi tg : Int)
  | [], ts, _, _, _, h => ⟨d, by simpa [zCases] using h, by simpa [Op.lookupswitch.offset] using hd⟩
  | (a, b) :: ps, [], hl, _, _, h => by simp at hl
  | (a, b) :: ps, t :: ts, hl, hr, ht, h => by
    simp only [List.map_cons] at h
    unfold zCases at h
    obtain ⟨r1, r2⟩ := hr (a, b) List.mem_cons_self
    rw [Op.lookupswitch.offset_cons]
    by_cases e : x = zi a
    · rw [if_pos e] at h
      refine ⟨t, h, ?_⟩
      rw [if_pos (by rw [e]; first | exact zi_toInt r1 r2 | exact (zi_toInt r1 r2).symm)]
      exact ht 0 (by simp)
    · rw [if_neg e] at h
      have hne : ¬ x.toInt = a := fun z => e (by rw [← z]; exact (zi_of x).symm)
      rw [if_neg (by first | exact hne | exact fun z => hne z.symm)]
      exact zLook_i hd (by simpa using hl) (fun y hy => hr y (List.mem_cons_of_mem _ hy)) (fun k hk => ht (k + 1) (by simpa using hk)) h
theorem zM_lookupswitch {dd : Int} {ps : Array (Int × Int)} (Y : zHy p l e R s m args below meth c Q D ad o base mi h0 i r N J Cc) (hp : e1 % 65536 = zPc mi i) (hd : decode (zBy mi) (zPc mi i) = .ok (.lookupswitch dd ps, len)) (hm : zMatch mi i (e1, q, ms) (.lookupswitch dd ps) len = true) (hs : zStep N J Cc q L st h = some r) : zG p l e R s m args below meth c Q D ad o base mi h0 i L st h := by
  obtain ⟨C, hE, hb1, hb2, hN, hJ, mN, mJ, hC⟩ := Y
  simp only [zMatch, Bool.and_eq_true, Bool.or_eq_true, decide_eq_true_eq, hp] at hm
  obtain ⟨⟨⟨⟨⟨hq, ht⟩, hl1⟩, hsrt⟩, hrng⟩, hall⟩ := hm
  rw [hq] at hs
  simp only [zStep] at hs
  obtain ⟨x, t, rfl, g1⟩ := zI1_i hs
  intro hl H locs cells slots ls hR hL hS hc hs
  obtain ⟨tg, h1, h2⟩ := zLook_i (mi := mi) (pcI := (zPc mi i : Int)) ht (ps := ps.toList) (ts := q.2.2.1.drop 1) (by simpa using hl1) (fun y hy => by
    have := List.all_eq_true.mp hrng y hy
    simpa using this) (fun k hk => of_decide_eq_true (List.all_eq_true.mp hall k (List.mem_range.mpr (by simpa using hk)))) g1
  exact lv_lookup C.1 C.2.1 hd hsrt rfl h2 (hJ _ _ _ _ h1 hl H locs cells slots ls hR hL hS hc hs)
theorem zLinkF_of {hint idx : Nat} {own cc f d : String} (h : zLinkF hint own idx cc f d = true) : Jvm.Cond.fieldLink own idx cc f d ∈ zWs ∨ Jvm.Cond.fieldLinkNest own idx cc f d (zNestHost hint) ∈ zWs := by
  simp only [zLinkF, Bool.or_eq_true] at h
  rcases h with h | h
  · exact Or.inl (zHas_in h)
  · exact Or.inr (zHas_in h)
def zFtOk : FieldType → Bool
  | .int => true
  | .long => true
  | .double => true
  | .boolean => true
  | .object _ => true
  | .array _ => true
  | _ => false
theorem zFtOk_all : ∀ k, k < 12 → ∀ j, j < zFn k → zFtOk (zFt (zFd k j).2.2.1) = true := by decide +kernel
theorem zFit_i {fty : FieldType} {v : Value} {k : Value → Option zR} (hf : zFtOk fty = true) (g : zFit (zFc fty) v k = some r) : narrow fty (zTr ad o v) = zTr ad o v ∧ fits fty (zTr ad o v) = true ∧ k v = some r := by
  cases fty <;> first
    | exact absurd hf (by decide)
    | (simp only [zFc] at g
       unfold zFit at g
       try dsimp only at g
       obtain ⟨hy, g⟩ := zOk_some g
       rcases zTy_i hy with ⟨x, rfl, e⟩ | ⟨x, rfl, e⟩ | ⟨x, rfl, e⟩ | ⟨x, rfl, e⟩ <;> first
         | exact ⟨rfl, rfl, g⟩
         | cases e)
    | (simp only [zFc] at g
       unfold zFit at g
       try dsimp only at g
       obtain ⟨x, h1, g⟩ := zBind_i g
       obtain ⟨y, h2, g⟩ := zBind_i g
       cases zVI_i h1
       obtain ⟨rfl, h3⟩ := zB_i h2
       rcases h3 with rfl | rfl <;> exact ⟨rfl, rfl, g⟩)
theorem zM_getfield {idx : Nat} (Y : zHy p l e R s m args below meth c Q D ad o base mi h0 i r N J Cc) (hp : e1 % 65536 = zPc mi i) (hd : decode (zBy mi) (zPc mi i) = .ok (.getfield idx, len)) (hm : zMatch mi i (e1, q, ms) (.getfield idx) len = true) (hs : zStep N J Cc q L st h = some r) : zG p l e R s m args below meth c Q D ad o base mi h0 i L st h := by
  obtain ⟨C, hE, hb1, hb2, hN, hJ, mN, mJ, hC⟩ := Y
  simp only [zMatch, Bool.and_eq_true, Bool.or_eq_true, decide_eq_true_eq, hp] at hm
  obtain ⟨⟨nx, rfl⟩, hq⟩ := hm
  split at hq
  · rename_i ci j ty
    simp only [Bool.and_eq_true, decide_eq_true_eq] at hq
    obtain ⟨⟨⟨h1, h2⟩, h3⟩, -⟩ := hq
    simp only [zStep] at hs
    obtain ⟨a, t, rfl, g1⟩ := zA1_i hs
    obtain ⟨v, g2, g3, g4⟩ := zTyped_i g1
    exact zS_getfield (ci := ci) (j := j) C hd nx h1 h2 (zLinkF_of h3) g2 g3 (hN _ _ _ g4)
  · cases hq
theorem zM_putfield {idx : Nat} (Y : zHy p l e R s m args below meth c Q D ad o base mi h0 i r N J Cc) (hp : e1 % 65536 = zPc mi i) (hd : decode (zBy mi) (zPc mi i) = .ok (.putfield idx, len)) (hm : zMatch mi i (e1, q, ms) (.putfield idx) len = true) (hs : zStep N J Cc q L st h = some r) : zG p l e R s m args below meth c Q D ad o base mi h0 i L st h := by
  obtain ⟨C, hE, hb1, hb2, hN, hJ, mN, mJ, hC⟩ := Y
  simp only [zMatch, Bool.and_eq_true, Bool.or_eq_true, decide_eq_true_eq, hp] at hm
  obtain ⟨⟨nx, rfl⟩, hq⟩ := hm
  split at hq
  · rename_i ci j ty
    simp only [Bool.and_eq_true, decide_eq_true_eq] at hq
    obtain ⟨⟨⟨⟨⟨h1, h2⟩, h3⟩, h4⟩, h5⟩, h6⟩ := hq
    simp only [zStep] at hs
    obtain ⟨v, t, rfl, g1⟩ := zV1_i hs
    obtain ⟨a, t2, rfl, g2⟩ := zA1_i g1
    have g2 : zFit ty v (fun v => (zPut h a ci j v).bind fun h => N L t2 h) = some r := g2
    rw [h4] at g2
    obtain ⟨f1, f2, g3⟩ := zFit_i (ad := ad) (o := o) (zFtOk_all ci h1 j h2) g2
    obtain ⟨h', g4, g5⟩ := zBind_i g3
    exact zS_putfield (ci := ci) (j := j) C hd nx h1 h2 (zHas_in h3) h5 h6 f1 f2 g4 (hN _ _ _ g5)
  · cases hq
theorem zM_iaload (Y : zHy p l e R s m args below meth c Q D ad o base mi h0 i r N J Cc) (hp : e1 % 65536 = zPc mi i) (hd : decode (zBy mi) (zPc mi i) = .ok (.iaload, len)) (hm : zMatch mi i (e1, q, ms) (.iaload) len = true) (hs : zStep N J Cc q L st h = some r) : zG p l e R s m args below meth c Q D ad o base mi h0 i L st h := by
  obtain ⟨C, hE, hb1, hb2, hN, hJ, mN, mJ, hC⟩ := Y
  simp only [zMatch, Bool.and_eq_true, Bool.or_eq_true, decide_eq_true_eq, hp] at hm
  obtain ⟨⟨nx, rfl⟩, hq⟩ := hm
  rcases hq with rfl | rfl
  · simp only [zStep] at hs
    obtain ⟨a, x, t, rfl, g1⟩ := zAI_i hs
    obtain ⟨j, g2, g3⟩ := zBind_i g1
    obtain ⟨v, g4, g5, g6⟩ := zTyped_i g3
    exact zS_iaload (kd := 100) C hd nx (Or.inl rfl) g2 g4 g5 (hN _ _ _ g6)
  · simp only [zStep] at hs
    obtain ⟨a, x, t, rfl, g1⟩ := zAI_i hs
    obtain ⟨j, g2, g3⟩ := zBind_i g1
    obtain ⟨v, g4, g5, g6⟩ := zTyped_i g3
    exact zS_iaload (kd := 106) C hd nx (Or.inr rfl) g2 g4 g5 (hN _ _ _ g6)
theorem zM_baload (Y : zHy p l e R s m args below meth c Q D ad o base mi h0 i r N J Cc) (hp : e1 % 65536 = zPc mi i) (hd : decode (zBy mi) (zPc mi i) = .ok (.baload, len)) (hm : zMatch mi i (e1, q, ms) (.baload) len = true) (hs : zStep N J Cc q L st h = some r) : zG p l e R s m args below meth c Q D ad o base mi h0 i L st h := by
  obtain ⟨C, hE, hb1, hb2, hN, hJ, mN, mJ, hC⟩ := Y
  simp only [zMatch, Bool.and_eq_true, Bool.or_eq_true, decide_eq_true_eq, hp] at hm
  obtain ⟨⟨nx, rfl⟩, hq⟩ := hm
  rcases hq with rfl | rfl
  · simp only [zStep] at hs
    obtain ⟨a, x, t, rfl, g1⟩ := zAI_i hs
    obtain ⟨j, g2, g3⟩ := zBind_i g1
    obtain ⟨v, g4, g5, g6⟩ := zTyped_i g3
    exact zS_baload (kd := 102) C hd nx (Or.inl rfl) g2 g4 g5 (hN _ _ _ g6)
  · simp only [zStep] at hs
    obtain ⟨a, x, t, rfl, g1⟩ := zAI_i hs
    obtain ⟨j, g2, g3⟩ := zBind_i g1
    obtain ⟨v, g4, g5, g6⟩ := zTyped_i g3
    exact zS_baload (kd := 103) C hd nx (Or.inr rfl) g2 g4 g5 (hN _ _ _ g6)
theorem zM_aaload (Y : zHy p l e R s m args below meth c Q D ad o base mi h0 i r N J Cc) (hp : e1 % 65536 = zPc mi i) (hd : decode (zBy mi) (zPc mi i) = .ok (.aaload, len)) (hm : zMatch mi i (e1, q, ms) (.aaload) len = true) (hs : zStep N J Cc q L st h = some r) : zG p l e R s m args below meth c Q D ad o base mi h0 i L st h := by
  obtain ⟨C, hE, hb1, hb2, hN, hJ, mN, mJ, hC⟩ := Y
  simp only [zMatch, Bool.and_eq_true, Bool.or_eq_true, decide_eq_true_eq, hp] at hm
  obtain ⟨⟨nx, rfl⟩, hq⟩ := hm
  rcases hq with rfl | rfl
  · simp only [zStep] at hs
    obtain ⟨a, x, t, rfl, g1⟩ := zAI_i hs
    obtain ⟨j, g2, g3⟩ := zBind_i g1
    obtain ⟨v, g4, g5, g6⟩ := zTyped_i g3
    exact zS_aaload (kd := 110) C hd nx (Or.inl rfl) g2 g4 g5 (hN _ _ _ g6)
  · simp only [zStep] at hs
    obtain ⟨a, x, t, rfl, g1⟩ := zAI_i hs
    obtain ⟨j, g2, g3⟩ := zBind_i g1
    obtain ⟨v, g4, g5, g6⟩ := zTyped_i g3
    exact zS_aaload (kd := 111) C hd nx (Or.inr rfl) g2 g4 g5 (hN _ _ _ g6)
theorem zM_laload (Y : zHy p l e R s m args below meth c Q D ad o base mi h0 i r N J Cc) (hp : e1 % 65536 = zPc mi i) (hd : decode (zBy mi) (zPc mi i) = .ok (.laload, len)) (hm : zMatch mi i (e1, q, ms) (.laload) len = true) (hs : zStep N J Cc q L st h = some r) : zG p l e R s m args below meth c Q D ad o base mi h0 i L st h := by
  obtain ⟨C, hE, hb1, hb2, hN, hJ, mN, mJ, hC⟩ := Y
  simp only [zMatch, Bool.and_eq_true, Bool.or_eq_true, decide_eq_true_eq, hp] at hm
  obtain ⟨⟨rfl, nx⟩, rfl⟩ := hm
  simp only [zStep] at hs
  obtain ⟨a, x, t, rfl, g1⟩ := zAI_i hs
  obtain ⟨j, g2, g3⟩ := zBind_i g1
  obtain ⟨v, g4, g5, g6⟩ := zTyped_i g3
  exact zS_laload (kd := 101) C hd nx rfl g2 g4 g5 (hN _ _ _ g6)
theorem zM_daload (Y : zHy p l e R s m args below meth c Q D ad o base mi h0 i r N J Cc) (hp : e1 % 65536 = zPc mi i) (hd : decode (zBy mi) (zPc mi i) = .ok (.daload, len)) (hm : zMatch mi i (e1, q, ms) (.daload) len = true) (hs : zStep N J Cc q L st h = some r) : zG p l e R s m args below meth c Q D ad o base mi h0 i L st h := by
  obtain ⟨C, hE, hb1, hb2, hN, hJ, mN, mJ, hC⟩ := Y
  simp only [zMatch, Bool.and_eq_true, Bool.or_eq_true, decide_eq_true_eq, hp] at hm
  obtain ⟨⟨rfl, nx⟩, rfl⟩ := hm
  simp only [zStep] at hs
  obtain ⟨a, x, t, rfl, g1⟩ := zAI_i hs
  obtain ⟨j, g2, g3⟩ := zBind_i g1
  obtain ⟨v, g4, g5, g6⟩ := zTyped_i g3
  exact zS_daload (kd := 105) C hd nx rfl g2 g4 g5 (hN _ _ _ g6)
theorem zM_iastore (Y : zHy p l e R s m args below meth c Q D ad o base mi h0 i r N J Cc) (hp : e1 % 65536 = zPc mi i) (hd : decode (zBy mi) (zPc mi i) = .ok (.iastore, len)) (hm : zMatch mi i (e1, q, ms) (.iastore) len = true) (hs : zStep N J Cc q L st h = some r) : zG p l e R s m args below meth c Q D ad o base mi h0 i L st h := by
  obtain ⟨C, hE, hb1, hb2, hN, hJ, mN, mJ, hC⟩ := Y
  simp only [zMatch, Bool.and_eq_true, Bool.or_eq_true, decide_eq_true_eq, hp] at hm
  obtain ⟨⟨rfl, nx⟩, rfl⟩ := hm
  simp only [zStep] at hs
  obtain ⟨y, t, rfl, g1⟩ := zI1_i hs
  obtain ⟨a, x, t, rfl, g1⟩ := zAI_i g1
  obtain ⟨j, g2, g3⟩ := zBind_i g1
  obtain ⟨h', g4, g5⟩ := zBind_i g3
  exact zS_iastore C hd nx g2 g4 (hN _ _ _ g5)
theorem zM_lastore (Y : zHy p l e R s m args below meth c Q D ad o base mi h0 i r N J Cc) (hp : e1 % 65536 = zPc mi i) (hd : decode (zBy mi) (zPc mi i) = .ok (.lastore, len)) (hm : zMatch mi i (e1, q, ms) (.lastore) len = true) (hs : zStep N J Cc q L st h = some r) : zG p l e R s m args below meth c Q D ad o base mi h0 i L st h := by
  obtain ⟨C, hE, hb1, hb2, hN, hJ, mN, mJ, hC⟩ := Y
  simp only [zMatch, Bool.and_eq_true, Bool.or_eq_true, decide_eq_true_eq, hp] at hm
  obtain ⟨⟨rfl, nx⟩, rfl⟩ := hm
  simp only [zStep] at hs
  obtain ⟨y, t, rfl, g1⟩ := zL1_i hs
  obtain ⟨a, x, t, rfl, g1⟩ := zAI_i g1
  obtain ⟨j, g2, g3⟩ := zBind_i g1
  obtain ⟨h', g4, g5⟩ := zBind_i g3
  exact zS_lastore C hd nx g2 g4 (hN _ _ _ g5)
theorem zM_bastore (Y : zHy p l e R s m args below meth c Q D ad o base mi h0 i r N J Cc) (hp : e1 % 65536 = zPc mi i) (hd : decode (zBy mi) (zPc mi i) = .ok (.bastore, len)) (hm : zMatch mi i (e1, q, ms) (.bastore) len = true) (hs : zStep N J Cc q L st h = some r) : zG p l e R s m args below meth c Q D ad o base mi h0 i L st h := by
  obtain ⟨C, hE, hb1, hb2, hN, hJ, mN, mJ, hC⟩ := Y
  simp only [zMatch, Bool.and_eq_true, Bool.or_eq_true, decide_eq_true_eq, hp] at hm
  obtain ⟨⟨rfl, nx⟩, rfl⟩ := hm
  simp only [zStep] at hs
  obtain ⟨y, t, rfl, g1⟩ := zI1_i hs
  obtain ⟨a, x, t, rfl, g2⟩ := zAI_i g1
  obtain ⟨z, gz, g3⟩ := zBind_i g2
  obtain ⟨j, g4, g5⟩ := zBind_i g3
  obtain ⟨h', g6, g7⟩ := zBind_i g5
  exact zS_bastore C hd nx gz g4 g6 (hN _ _ _ g7)
theorem zM_dastore (Y : zHy p l e R s m args below meth c Q D ad o base mi h0 i r N J Cc) (hp : e1 % 65536 = zPc mi i) (hd : decode (zBy mi) (zPc mi i) = .ok (.dastore, len)) (hm : zMatch mi i (e1, q, ms) (.dastore) len = true) (hs : zStep N J Cc q L st h = some r) : zG p l e R s m args below meth c Q D ad o base mi h0 i L st h := by
  obtain ⟨C, hE, hb1, hb2, hN, hJ, mN, mJ, hC⟩ := Y
  simp only [zMatch, Bool.and_eq_true, Bool.or_eq_true, decide_eq_true_eq, hp] at hm
  obtain ⟨⟨rfl, nx⟩, rfl⟩ := hm
  simp only [zStep] at hs
  obtain ⟨v, t, rfl, g1⟩ := zV1_i hs
  unfold zFit at g1
  dsimp only at g1
  obtain ⟨hy, g2⟩ := zOk_some g1
  rcases zTy_i hy with ⟨y, rfl, e⟩ | ⟨y, rfl, e⟩ | ⟨y, rfl, e⟩ | ⟨y, rfl, e⟩
  · cases e
  · cases e
  · obtain ⟨a, x, t, rfl, g3⟩ := zAI_i g2
    obtain ⟨j, g4, g5⟩ := zBind_i g3
    obtain ⟨h', g6, g7⟩ := zBind_i g5
    exact zS_dastore C hd nx g4 g6 (hN _ _ _ g7)
  · cases e
theorem zM_aastore (Y : zHy p l e R s m args below meth c Q D ad o base mi h0 i r N J Cc) (hp : e1 % 65536 = zPc mi i) (hd : decode (zBy mi) (zPc mi i) = .ok (.aastore, len)) (hm : zMatch mi i (e1, q, ms) (.aastore) len = true) (hs : zStep N J Cc q L st h = some r) : zG p l e R s m args below meth c Q D ad o base mi h0 i L st h := by
  obtain ⟨C, hE, hb1, hb2, hN, hJ, mN, mJ, hC⟩ := Y
  simp only [zMatch, Bool.and_eq_true, Bool.or_eq_true, decide_eq_true_eq, hp] at hm
  obtain ⟨⟨rfl, nx⟩, rfl⟩ := hm
  simp only [zStep] at hs
  obtain ⟨b, t, rfl, g1⟩ := zA1_i hs
  obtain ⟨a, x, t, rfl, g2⟩ := zAI_i g1
  split at g2
  · rename_i hb
    obtain ⟨j, g4, g5⟩ := zBind_i g2
    obtain ⟨h', g6, g7⟩ := zBind_i g5
    exact zS_aastore C hd nx hb g4 g6 (fun _ _ => zAssign _ _) (hN _ _ _ g7)
  · cases g2
theorem zM_arraylength (Y : zHy p l e R s m args below meth c Q D ad o base mi h0 i r N J Cc) (hp : e1 % 65536 = zPc mi i) (hd : decode (zBy mi) (zPc mi i) = .ok (.arraylength, len)) (hm : zMatch mi i (e1, q, ms) (.arraylength) len = true) (hs : zStep N J Cc q L st h = some r) : zG p l e R s m args below meth c Q D ad o base mi h0 i L st h := by
  obtain ⟨C, hE, hb1, hb2, hN, hJ, mN, mJ, hC⟩ := Y
  simp only [zMatch, Bool.and_eq_true, Bool.or_eq_true, decide_eq_true_eq, hp] at hm
  obtain ⟨⟨rfl, nx⟩, rfl⟩ := hm
  simp only [zStep] at hs
  obtain ⟨a, t, rfl, g1⟩ := zA1_i hs
  split at g1
  · rename_i hb
    exact zS_arraylength C hd nx hb (hN _ _ _ g1)
  · cases g1
theorem zM_newarray {a : ArrayType} (Y : zHy p l e R s m args below meth c Q D ad o base mi h0 i r N J Cc) (hp : e1 % 65536 = zPc mi i) (hd : decode (zBy mi) (zPc mi i) = .ok (.newarray a, len)) (hm : zMatch mi i (e1, q, ms) (.newarray a) len = true) (hs : zStep N J Cc q L st h = some r) : zG p l e R s m args below meth c Q D ad o base mi h0 i L st h := by
  obtain ⟨C, hE, hb1, hb2, hN, hJ, mN, mJ, hC⟩ := Y
  simp only [zMatch, Bool.and_eq_true, Bool.or_eq_true, decide_eq_true_eq, hp] at hm
  obtain ⟨⟨nx, rfl⟩, hq⟩ := hm
  cases a <;> first
    | cases hq
    | skip
  · simp only [decide_eq_true_eq] at hq
    subst hq
    simp only [zStep] at hs
    obtain ⟨n, t, rfl, g1⟩ := zI1_i hs
    split at g1
    · cases g1
    · rename_i hn
      have hz := mN _ _ _ _ g1
      have z1 : h.1 + 1 ≤ (zRh r).1 := hz.1
      have z2 : h.2.1 + n.toNatClampNeg ≤ (zRh r).2.1 := hz.2
      exact zS_newarray_boolean C hd nx (fun z => hn (Or.inl z)) (fun z => hn (Or.inr z)) (zHas_in (p := 197) (by decide +kernel)) (by omega) (by omega) (hN _ _ _ g1)
  · simp only [decide_eq_true_eq] at hq
    subst hq
    simp only [zStep] at hs
    obtain ⟨n, t, rfl, g1⟩ := zI1_i hs
    split at g1
    · cases g1
    · rename_i hn
      have hz := mN _ _ _ _ g1
      have z1 : h.1 + 1 ≤ (zRh r).1 := hz.1
      have z2 : h.2.1 + n.toNatClampNeg ≤ (zRh r).2.1 := hz.2
      exact zS_newarray_double C hd nx (fun z => hn (Or.inl z)) (fun z => hn (Or.inr z)) (zHas_in (p := 1821) (by decide +kernel)) (by omega) (by omega) (hN _ _ _ g1)
  · simp only [decide_eq_true_eq] at hq
    subst hq
    simp only [zStep] at hs
    obtain ⟨n, t, rfl, g1⟩ := zI1_i hs
    split at g1
    · cases g1
    · rename_i hn
      have hz := mN _ _ _ _ g1
      have z1 : h.1 + 1 ≤ (zRh r).1 := hz.1
      have z2 : h.2.1 + n.toNatClampNeg ≤ (zRh r).2.1 := hz.2
      exact zS_newarray_int C hd nx (fun z => hn (Or.inl z)) (fun z => hn (Or.inr z)) (zHas_in (p := 195) (by decide +kernel)) (by omega) (by omega) (hN _ _ _ g1)
  · simp only [decide_eq_true_eq] at hq
    subst hq
    simp only [zStep] at hs
    obtain ⟨n, t, rfl, g1⟩ := zI1_i hs
    split at g1
    · cases g1
    · rename_i hn
      have hz := mN _ _ _ _ g1
      have z1 : h.1 + 1 ≤ (zRh r).1 := hz.1
      have z2 : h.2.1 + n.toNatClampNeg ≤ (zRh r).2.1 := hz.2
      exact zS_newarray_long C hd nx (fun z => hn (Or.inl z)) (fun z => hn (Or.inr z)) (zHas_in (p := 196) (by decide +kernel)) (by omega) (by omega) (hN _ _ _ g1)
theorem zM_anewarray {idx : Nat} (Y : zHy p l e R s m args below meth c Q D ad o base mi h0 i r N J Cc) (hp : e1 % 65536 = zPc mi i) (hd : decode (zBy mi) (zPc mi i) = .ok (.anewarray idx, len)) (hm : zMatch mi i (e1, q, ms) (.anewarray idx) len = true) (hs : zStep N J Cc q L st h = some r) : zG p l e R s m args below meth c Q D ad o base mi h0 i L st h := by
  obtain ⟨C, hE, hb1, hb2, hN, hJ, mN, mJ, hC⟩ := Y
  simp only [zMatch, Bool.and_eq_true, Bool.or_eq_true, decide_eq_true_eq, hp] at hm
  obtain ⟨⟨⟨rfl, nx⟩, rfl⟩, hw⟩ := hm
  simp only [zStep] at hs
  obtain ⟨n, t, rfl, g1⟩ := zI1_i hs
  split at g1
  · cases g1
  · rename_i hn
    have hz := mN _ _ _ _ g1
    have z1 : h.1 + 1 ≤ (zRh r).1 := hz.1
    have z2 : h.2.1 + n.toNatClampNeg ≤ (zRh r).2.1 := hz.2
    exact zS_anewarray C hd nx (fun z => hn (Or.inl z)) (fun z => hn (Or.inr z)) (zHas_in hw) (by omega) (by omega) (hN _ _ _ g1)
theorem zM_multianewarray {idx kd : Nat} (Y : zHy p l e R s m args below meth c Q D ad o base mi h0 i r N J Cc) (hp : e1 % 65536 = zPc mi i) (hd : decode (zBy mi) (zPc mi i) = .ok (.multianewarray idx kd, len)) (hm : zMatch mi i (e1, q, ms) (.multianewarray idx kd) len = true) (hs : zStep N J Cc q L st h = some r) : zG p l e R s m args below meth c Q D ad o base mi h0 i L st h := by
  obtain ⟨C, hE, hb1, hb2, hN, hJ, mN, mJ, hC⟩ := Y
  simp only [zMatch, Bool.and_eq_true, Bool.or_eq_true, decide_eq_true_eq, hp] at hm
  obtain ⟨⟨⟨⟨rfl, nx⟩, rfl⟩, rfl⟩, hw⟩ := hm
  simp only [zStep] at hs
  obtain ⟨n, kk, t, rfl, g1⟩ := zII_i hs
  split at g1
  · cases g1
  · rename_i hn
    have hz := mN _ _ _ _ g1
    have z1 : h.1 + 1 + n.toNatClampNeg ≤ (zRh r).1 := hz.1
    have z2 : h.2.1 + n.toNatClampNeg + n.toNatClampNeg * kk.toNatClampNeg ≤ (zRh r).2.1 := hz.2
    exact zS_multianewarray C hd nx (fun z => hn (Or.inl z)) (fun z => hn (Or.inr (Or.inl z))) (fun z => hn (Or.inr (Or.inr (Or.inl z)))) (fun z => hn (Or.inr (Or.inr (Or.inr z)))) (zHas_in hw) (zHas_in (p := 196) (by decide +kernel)) (by omega) (by omega) (hN _ _ _ g1)
end ZSIM2
