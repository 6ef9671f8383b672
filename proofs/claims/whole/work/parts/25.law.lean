/-! The law's frame: what is left is the small machine's answer. -/
section ZLAW
/-- what is owed by the small machine -/
def zPure : Prop := ∀ (L : Nat) (xs : Nat → Int32), L ≤ 3072 → ∃ h', zRun zCode kLaw_law 0 (zInit 9 [.ref 0]) [] (zH0 L xs) = some (.inl (some (.int 1), h')) ∧ h'.1 ≤ 600000 ∧ h'.2.1 ≤ 7000000
theorem zWholeOf (hpure : zPure) (hok : ∀ k, zOkM k = true) (hz : ∀ k, zPc k 0 = 0) {p : Program} {e : Env} {s : State} {m : MethodId} {below : List Frame} {meth : Method} {c : Code} (l : Launch) (hflags : l.flags = flags0) {b L : Nat} {xs : Nat → Int32} (hL : L ≤ 3072) (C0 : lw_At p s m meth c b L xs) : W p l e room_1 s m #[Value.ref b] below meth c s.heap [] 0 0 (lw_Z below #[Value.ref b] s) (entryFrame m ([Value.ref b] : List Value).toArray 9) := by
  obtain ⟨hx, hb, hrt, hml, how, hts, hX, hbl, hlk, hgv⟩ := C0
  obtain ⟨ad, o, ho, ⟨hR, hK, hF⟩, had⟩ := zStart_of hts hgv hX hbl
  obtain ⟨h', hrun, hc1, hs1⟩ := hpure L xs hL
  obtain ⟨n, hn⟩ := zRun_iff.mp hrun
  have hst : l.stackTraces = false := by unfold Launch.stackTraces; rw [hflags]; decide
  have C : zCx p l s m #[Value.ref b] meth c room_1 (zD0 s) ad o s.heap.size kLaw_law := ⟨hx, hb, hml, how, fun w hw => hts w (List.mem_filter.mp hw).1, hlk, hrt, fun z => absurd z (by decide), hst, fun z => absurd rfl z, hK, hF, ho, by decide +kernel, by decide +kernel, rfl, hR.nostat⟩
  have hE : zEnd p l e room_1 s m #[Value.ref b] below meth c (lw_Z below #[Value.ref b] s) (zD0 s) ad o s.heap.size kLaw_law (zH0 L xs) (.inl (some (.int 1), h')) := by
    refine ⟨?_, ⟨(fun kd a h hr => by cases hr), (fun kd h hr => by cases hr)⟩⟩
    intro v h hr H locs cells slots ls pc hR2 hS hc hs hrok
    cases hr
    have e02 : 600000 ≤ room_1.cells := Nat.le_of_ble_eq_true rfl
    have e04 : 7000000 ≤ room_1.slots := Nat.le_of_ble_eq_true rfl
    have hc : cells + 5 = h'.1 := hc
    have hs : slots + 0 = h'.2.1 := hs
    refine va_forget (fun q hq => hS.2.2 q hq) ?_
    refine W.widen (k := room_1.cells) (n := room_1.slots) (by omega) (by omega) ?_
    refine W.base ?_
    have hd0 := Drawn.sameBut.refl s.drawn lw_cs
    rcases hrok with ⟨x, -, hdg, -⟩ | ⟨x, hx9, -⟩ | ⟨x, hx9, -⟩ | ⟨x, hx9, -⟩ | ⟨hx9, -⟩
    · exact lw_ret hd0 hx hb hrt hlk hdg
    · cases hx9
    · cases hx9
    · cases hx9
    · cases hx9
  have e01 : (zH0 L xs).1 = 5 := rfl
  have e02 : 600000 ≤ room_1.cells := Nat.le_of_ble_eq_true rfl
  have e03 : (zH0 L xs).2.1 = 0 := rfl
  have e04 : 7000000 ≤ room_1.slots := Nat.le_of_ble_eq_true rfl
  have G := zWalk (D := zD0 s) (ad := ad) (base := s.heap.size) hst ho hz hok n p e room_1 s m #[Value.ref b] below meth c _ kLaw_law (zH0 L xs) 0 _ [] (zH0 L xs) _ hn C hE (by show h'.1 ≤ (zH0 L xs).1 + room_1.cells; rw [e01]; omega) (by show h'.2.1 ≤ (zH0 L xs).2.1 + room_1.slots; rw [e03]; omega)
  have hLs := zLs.entry (t := zTr ad o) (zTr_cat ho) (as := [.ref 0]) (n := 9) (by decide)
  have := G (by rfl) s.heap [] 0 0 _ hR hLs ⟨Nat.le_refl _, fun _ _ _ => rfl, fun _ z => by cases z⟩ rfl rfl
  rw [hz] at this
  have e1 : ([.ref 0] : List Value).map (zTr ad o) = [.ref b] := by
    show [Value.ref (ad 0)] = _
    rw [had]
  rw [e1] at this
  rw [lg_entry_eq]
  exact this
end ZLAW
