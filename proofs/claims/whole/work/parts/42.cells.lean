/-! Each class's fields and arrays: where they lie, what is read, what a write makes. -/
section ZCELLS
def yP (a : Nat) : Prop := a = 7 ∨ a = 20 ∨ a = 33 ∨ a = 46 ∨ a = 59 ∨ a = 72 ∨ a = 85 ∨ a = 98 ∨ a = 111 ∨ a = 124 ∨ a = 137 ∨ a = 150
theorem yk_P {m : zQ} {a : Nat} (q : yP a) : ((zMk m).2.2 a).1 = 1 := zM_kd (show a < 237 ∧ zKd a = 1 from by rcases q with rfl | rfl | rfl | rfl | rfl | rfl | rfl | rfl | rfl | rfl | rfl | rfl <;> decide)
theorem yg_P0 {m : zQ} {a : Nat} (q : yP a) : zVA (zAt (zMk m) a 1 0) = some (a + 1) := zF_gA (show zOF a 1 0 2 (a + 1) = true from by rcases q with rfl | rfl | rfl | rfl | rfl | rfl | rfl | rfl | rfl | rfl | rfl | rfl <;> rfl)
theorem ykx_P0 {m : zQ} {a : Nat} (q : yP a) : ((zMk m).2.2 (a + 1)).1 = 100 := zA_kd (show zOA (a + 1) 100 81 0 = true from by rcases q with rfl | rfl | rfl | rfl | rfl | rfl | rfl | rfl | rfl | rfl | rfl | rfl <;> rfl)
theorem yln_P0 {m : zQ} {a : Nat} (q : yP a) : ((zMk m).2.2 (a + 1)).2.length = 81 := zA_ln (show zOA (a + 1) 100 81 0 = true from by rcases q with rfl | rfl | rfl | rfl | rfl | rfl | rfl | rfl | rfl | rfl | rfl | rfl <;> rfl)
theorem yix_P0 {m : zQ} {i : Int} {a : Nat} (q : yP a) (h0 : 0 ≤ i) (h1 : i < 81) : zIx (zMk m) (a + 1) 100 (zi i) = some i.toNat := zA_ix (show zOA (a + 1) 100 81 0 = true from by rcases q with rfl | rfl | rfl | rfl | rfl | rfl | rfl | rfl | rfl | rfl | rfl | rfl <;> rfl) h0 h1
theorem yge_P0 {m : zQ} {i : Int} {a : Nat} (q : yP a) (h0 : 0 ≤ i) (h1 : i < 81) : zVI (zAt (zMk m) (a + 1) 100 i.toNat) = some (zi (m.1 (a + 1) i)) := zA_gI (show zOA (a + 1) 100 81 0 = true from by rcases q with rfl | rfl | rfl | rfl | rfl | rfl | rfl | rfl | rfl | rfl | rfl | rfl <;> rfl) h0 h1
theorem ype_P0 {m : zQ} {i x : Int} {a : Nat} (q : yP a) (h0 : 0 ≤ i) (h1 : i < 81) : zPut (zMk m) (a + 1) 100 i.toNat (.int (zi x)) = some (zMk (wI m (a + 1) i x)) := zA_pI (show zOA (a + 1) 100 81 0 = true from by rcases q with rfl | rfl | rfl | rfl | rfl | rfl | rfl | rfl | rfl | rfl | rfl | rfl <;> rfl) h0 h1
theorem yg_P1 {m : zQ} {a : Nat} (q : yP a) : zVA (zAt (zMk m) a 1 1) = some (a + 2) := zF_gA (show zOF a 1 1 2 (a + 2) = true from by rcases q with rfl | rfl | rfl | rfl | rfl | rfl | rfl | rfl | rfl | rfl | rfl | rfl <;> rfl)
theorem ykx_P1 {m : zQ} {a : Nat} (q : yP a) : ((zMk m).2.2 (a + 2)).1 = 100 := zA_kd (show zOA (a + 2) 100 81 0 = true from by rcases q with rfl | rfl | rfl | rfl | rfl | rfl | rfl | rfl | rfl | rfl | rfl | rfl <;> rfl)
theorem yln_P1 {m : zQ} {a : Nat} (q : yP a) : ((zMk m).2.2 (a + 2)).2.length = 81 := zA_ln (show zOA (a + 2) 100 81 0 = true from by rcases q with rfl | rfl | rfl | rfl | rfl | rfl | rfl | rfl | rfl | rfl | rfl | rfl <;> rfl)
theorem yix_P1 {m : zQ} {i : Int} {a : Nat} (q : yP a) (h0 : 0 ≤ i) (h1 : i < 81) : zIx (zMk m) (a + 2) 100 (zi i) = some i.toNat := zA_ix (show zOA (a + 2) 100 81 0 = true from by rcases q with rfl | rfl | rfl | rfl | rfl | rfl | rfl | rfl | rfl | rfl | rfl | rfl <;> rfl) h0 h1
theorem yge_P1 {m : zQ} {i : Int} {a : Nat} (q : yP a) (h0 : 0 ≤ i) (h1 : i < 81) : zVI (zAt (zMk m) (a + 2) 100 i.toNat) = some (zi (m.1 (a + 2) i)) := zA_gI (show zOA (a + 2) 100 81 0 = true from by rcases q with rfl | rfl | rfl | rfl | rfl | rfl | rfl | rfl | rfl | rfl | rfl | rfl <;> rfl) h0 h1
theorem ype_P1 {m : zQ} {i x : Int} {a : Nat} (q : yP a) (h0 : 0 ≤ i) (h1 : i < 81) : zPut (zMk m) (a + 2) 100 i.toNat (.int (zi x)) = some (zMk (wI m (a + 2) i x)) := zA_pI (show zOA (a + 2) 100 81 0 = true from by rcases q with rfl | rfl | rfl | rfl | rfl | rfl | rfl | rfl | rfl | rfl | rfl | rfl <;> rfl) h0 h1
theorem yg_P2 {m : zQ} {a : Nat} (q : yP a) : zVA (zAt (zMk m) a 1 2) = some (a + 3) := zF_gA (show zOF a 1 2 2 (a + 3) = true from by rcases q with rfl | rfl | rfl | rfl | rfl | rfl | rfl | rfl | rfl | rfl | rfl | rfl <;> rfl)
theorem ykx_P2 {m : zQ} {a : Nat} (q : yP a) : ((zMk m).2.2 (a + 3)).1 = 100 := zA_kd (show zOA (a + 3) 100 81 0 = true from by rcases q with rfl | rfl | rfl | rfl | rfl | rfl | rfl | rfl | rfl | rfl | rfl | rfl <;> rfl)
theorem yln_P2 {m : zQ} {a : Nat} (q : yP a) : ((zMk m).2.2 (a + 3)).2.length = 81 := zA_ln (show zOA (a + 3) 100 81 0 = true from by rcases q with rfl | rfl | rfl | rfl | rfl | rfl | rfl | rfl | rfl | rfl | rfl | rfl <;> rfl)
theorem yix_P2 {m : zQ} {i : Int} {a : Nat} (q : yP a) (h0 : 0 ≤ i) (h1 : i < 81) : zIx (zMk m) (a + 3) 100 (zi i) = some i.toNat := zA_ix (show zOA (a + 3) 100 81 0 = true from by rcases q with rfl | rfl | rfl | rfl | rfl | rfl | rfl | rfl | rfl | rfl | rfl | rfl <;> rfl) h0 h1
theorem yge_P2 {m : zQ} {i : Int} {a : Nat} (q : yP a) (h0 : 0 ≤ i) (h1 : i < 81) : zVI (zAt (zMk m) (a + 3) 100 i.toNat) = some (zi (m.1 (a + 3) i)) := zA_gI (show zOA (a + 3) 100 81 0 = true from by rcases q with rfl | rfl | rfl | rfl | rfl | rfl | rfl | rfl | rfl | rfl | rfl | rfl <;> rfl) h0 h1
theorem ype_P2 {m : zQ} {i x : Int} {a : Nat} (q : yP a) (h0 : 0 ≤ i) (h1 : i < 81) : zPut (zMk m) (a + 3) 100 i.toNat (.int (zi x)) = some (zMk (wI m (a + 3) i x)) := zA_pI (show zOA (a + 3) 100 81 0 = true from by rcases q with rfl | rfl | rfl | rfl | rfl | rfl | rfl | rfl | rfl | rfl | rfl | rfl <;> rfl) h0 h1
theorem yg_P3 {m : zQ} {a : Nat} (q : yP a) : zVA (zAt (zMk m) a 1 3) = some (a + 4) := zF_gA (show zOF a 1 3 2 (a + 4) = true from by rcases q with rfl | rfl | rfl | rfl | rfl | rfl | rfl | rfl | rfl | rfl | rfl | rfl <;> rfl)
theorem ykx_P3 {m : zQ} {a : Nat} (q : yP a) : ((zMk m).2.2 (a + 4)).1 = 100 := zA_kd (show zOA (a + 4) 100 81 0 = true from by rcases q with rfl | rfl | rfl | rfl | rfl | rfl | rfl | rfl | rfl | rfl | rfl | rfl <;> rfl)
theorem yln_P3 {m : zQ} {a : Nat} (q : yP a) : ((zMk m).2.2 (a + 4)).2.length = 81 := zA_ln (show zOA (a + 4) 100 81 0 = true from by rcases q with rfl | rfl | rfl | rfl | rfl | rfl | rfl | rfl | rfl | rfl | rfl | rfl <;> rfl)
theorem yix_P3 {m : zQ} {i : Int} {a : Nat} (q : yP a) (h0 : 0 ≤ i) (h1 : i < 81) : zIx (zMk m) (a + 4) 100 (zi i) = some i.toNat := zA_ix (show zOA (a + 4) 100 81 0 = true from by rcases q with rfl | rfl | rfl | rfl | rfl | rfl | rfl | rfl | rfl | rfl | rfl | rfl <;> rfl) h0 h1
theorem yge_P3 {m : zQ} {i : Int} {a : Nat} (q : yP a) (h0 : 0 ≤ i) (h1 : i < 81) : zVI (zAt (zMk m) (a + 4) 100 i.toNat) = some (zi (m.1 (a + 4) i)) := zA_gI (show zOA (a + 4) 100 81 0 = true from by rcases q with rfl | rfl | rfl | rfl | rfl | rfl | rfl | rfl | rfl | rfl | rfl | rfl <;> rfl) h0 h1
theorem ype_P3 {m : zQ} {i x : Int} {a : Nat} (q : yP a) (h0 : 0 ≤ i) (h1 : i < 81) : zPut (zMk m) (a + 4) 100 i.toNat (.int (zi x)) = some (zMk (wI m (a + 4) i x)) := zA_pI (show zOA (a + 4) 100 81 0 = true from by rcases q with rfl | rfl | rfl | rfl | rfl | rfl | rfl | rfl | rfl | rfl | rfl | rfl <;> rfl) h0 h1
theorem yg_P4 {m : zQ} {a : Nat} (q : yP a) : zVA (zAt (zMk m) a 1 4) = some (a + 5) := zF_gA (show zOF a 1 4 2 (a + 5) = true from by rcases q with rfl | rfl | rfl | rfl | rfl | rfl | rfl | rfl | rfl | rfl | rfl | rfl <;> rfl)
theorem ykx_P4 {m : zQ} {a : Nat} (q : yP a) : ((zMk m).2.2 (a + 5)).1 = 100 := zA_kd (show zOA (a + 5) 100 81 0 = true from by rcases q with rfl | rfl | rfl | rfl | rfl | rfl | rfl | rfl | rfl | rfl | rfl | rfl <;> rfl)
theorem yln_P4 {m : zQ} {a : Nat} (q : yP a) : ((zMk m).2.2 (a + 5)).2.length = 81 := zA_ln (show zOA (a + 5) 100 81 0 = true from by rcases q with rfl | rfl | rfl | rfl | rfl | rfl | rfl | rfl | rfl | rfl | rfl | rfl <;> rfl)
theorem yix_P4 {m : zQ} {i : Int} {a : Nat} (q : yP a) (h0 : 0 ≤ i) (h1 : i < 81) : zIx (zMk m) (a + 5) 100 (zi i) = some i.toNat := zA_ix (show zOA (a + 5) 100 81 0 = true from by rcases q with rfl | rfl | rfl | rfl | rfl | rfl | rfl | rfl | rfl | rfl | rfl | rfl <;> rfl) h0 h1
theorem yge_P4 {m : zQ} {i : Int} {a : Nat} (q : yP a) (h0 : 0 ≤ i) (h1 : i < 81) : zVI (zAt (zMk m) (a + 5) 100 i.toNat) = some (zi (m.1 (a + 5) i)) := zA_gI (show zOA (a + 5) 100 81 0 = true from by rcases q with rfl | rfl | rfl | rfl | rfl | rfl | rfl | rfl | rfl | rfl | rfl | rfl <;> rfl) h0 h1
theorem ype_P4 {m : zQ} {i x : Int} {a : Nat} (q : yP a) (h0 : 0 ≤ i) (h1 : i < 81) : zPut (zMk m) (a + 5) 100 i.toNat (.int (zi x)) = some (zMk (wI m (a + 5) i x)) := zA_pI (show zOA (a + 5) 100 81 0 = true from by rcases q with rfl | rfl | rfl | rfl | rfl | rfl | rfl | rfl | rfl | rfl | rfl | rfl <;> rfl) h0 h1
theorem yg_P5 {m : zQ} {a : Nat} (q : yP a) : zVA (zAt (zMk m) a 1 5) = some (a + 6) := zF_gA (show zOF a 1 5 2 (a + 6) = true from by rcases q with rfl | rfl | rfl | rfl | rfl | rfl | rfl | rfl | rfl | rfl | rfl | rfl <;> rfl)
theorem ykx_P5 {m : zQ} {a : Nat} (q : yP a) : ((zMk m).2.2 (a + 6)).1 = 101 := zA_kd (show zOA (a + 6) 101 81 1 = true from by rcases q with rfl | rfl | rfl | rfl | rfl | rfl | rfl | rfl | rfl | rfl | rfl | rfl <;> rfl)
theorem yln_P5 {m : zQ} {a : Nat} (q : yP a) : ((zMk m).2.2 (a + 6)).2.length = 81 := zA_ln (show zOA (a + 6) 101 81 1 = true from by rcases q with rfl | rfl | rfl | rfl | rfl | rfl | rfl | rfl | rfl | rfl | rfl | rfl <;> rfl)
theorem yix_P5 {m : zQ} {i : Int} {a : Nat} (q : yP a) (h0 : 0 ≤ i) (h1 : i < 81) : zIx (zMk m) (a + 6) 101 (zi i) = some i.toNat := zA_ix (show zOA (a + 6) 101 81 1 = true from by rcases q with rfl | rfl | rfl | rfl | rfl | rfl | rfl | rfl | rfl | rfl | rfl | rfl <;> rfl) h0 h1
theorem yge_P5 {m : zQ} {i : Int} {a : Nat} (q : yP a) (h0 : 0 ≤ i) (h1 : i < 81) : zVL (zAt (zMk m) (a + 6) 101 i.toNat) = some (m.2.1 (a + 6) i) := zA_gL (show zOA (a + 6) 101 81 1 = true from by rcases q with rfl | rfl | rfl | rfl | rfl | rfl | rfl | rfl | rfl | rfl | rfl | rfl <;> rfl) h0 h1
theorem ype_P5 {m : zQ} {i : Int} {x : Int64} {a : Nat} (q : yP a) (h0 : 0 ≤ i) (h1 : i < 81) : zPut (zMk m) (a + 6) 101 i.toNat (.long x) = some (zMk (wL m (a + 6) i x)) := zA_pL (show zOA (a + 6) 101 81 1 = true from by rcases q with rfl | rfl | rfl | rfl | rfl | rfl | rfl | rfl | rfl | rfl | rfl | rfl <;> rfl) h0 h1
theorem yg_P6 {m : zQ} {a : Nat} (q : yP a) : zVA (zAt (zMk m) a 1 6) = some (a + 7) := zF_gA (show zOF a 1 6 2 (a + 7) = true from by rcases q with rfl | rfl | rfl | rfl | rfl | rfl | rfl | rfl | rfl | rfl | rfl | rfl <;> rfl)
theorem ykx_P6 {m : zQ} {a : Nat} (q : yP a) : ((zMk m).2.2 (a + 7)).1 = 101 := zA_kd (show zOA (a + 7) 101 81 1 = true from by rcases q with rfl | rfl | rfl | rfl | rfl | rfl | rfl | rfl | rfl | rfl | rfl | rfl <;> rfl)
theorem yln_P6 {m : zQ} {a : Nat} (q : yP a) : ((zMk m).2.2 (a + 7)).2.length = 81 := zA_ln (show zOA (a + 7) 101 81 1 = true from by rcases q with rfl | rfl | rfl | rfl | rfl | rfl | rfl | rfl | rfl | rfl | rfl | rfl <;> rfl)
theorem yix_P6 {m : zQ} {i : Int} {a : Nat} (q : yP a) (h0 : 0 ≤ i) (h1 : i < 81) : zIx (zMk m) (a + 7) 101 (zi i) = some i.toNat := zA_ix (show zOA (a + 7) 101 81 1 = true from by rcases q with rfl | rfl | rfl | rfl | rfl | rfl | rfl | rfl | rfl | rfl | rfl | rfl <;> rfl) h0 h1
theorem yge_P6 {m : zQ} {i : Int} {a : Nat} (q : yP a) (h0 : 0 ≤ i) (h1 : i < 81) : zVL (zAt (zMk m) (a + 7) 101 i.toNat) = some (m.2.1 (a + 7) i) := zA_gL (show zOA (a + 7) 101 81 1 = true from by rcases q with rfl | rfl | rfl | rfl | rfl | rfl | rfl | rfl | rfl | rfl | rfl | rfl <;> rfl) h0 h1
theorem ype_P6 {m : zQ} {i : Int} {x : Int64} {a : Nat} (q : yP a) (h0 : 0 ≤ i) (h1 : i < 81) : zPut (zMk m) (a + 7) 101 i.toNat (.long x) = some (zMk (wL m (a + 7) i x)) := zA_pL (show zOA (a + 7) 101 81 1 = true from by rcases q with rfl | rfl | rfl | rfl | rfl | rfl | rfl | rfl | rfl | rfl | rfl | rfl <;> rfl) h0 h1
theorem yg_P7 {m : zQ} {a : Nat} (q : yP a) : zVA (zAt (zMk m) a 1 7) = some (a + 8) := zF_gA (show zOF a 1 7 2 (a + 8) = true from by rcases q with rfl | rfl | rfl | rfl | rfl | rfl | rfl | rfl | rfl | rfl | rfl | rfl <;> rfl)
theorem ykx_P7 {m : zQ} {a : Nat} (q : yP a) : ((zMk m).2.2 (a + 8)).1 = 102 := zA_kd (show zOA (a + 8) 102 81 4 = true from by rcases q with rfl | rfl | rfl | rfl | rfl | rfl | rfl | rfl | rfl | rfl | rfl | rfl <;> rfl)
theorem yln_P7 {m : zQ} {a : Nat} (q : yP a) : ((zMk m).2.2 (a + 8)).2.length = 81 := zA_ln (show zOA (a + 8) 102 81 4 = true from by rcases q with rfl | rfl | rfl | rfl | rfl | rfl | rfl | rfl | rfl | rfl | rfl | rfl <;> rfl)
theorem yix_P7 {m : zQ} {i : Int} {a : Nat} (q : yP a) (h0 : 0 ≤ i) (h1 : i < 81) : zIx (zMk m) (a + 8) 102 (zi i) = some i.toNat := zA_ix (show zOA (a + 8) 102 81 4 = true from by rcases q with rfl | rfl | rfl | rfl | rfl | rfl | rfl | rfl | rfl | rfl | rfl | rfl <;> rfl) h0 h1
theorem yge_P7 {m : zQ} {i : Int} {a : Nat} (q : yP a) (h0 : 0 ≤ i) (h1 : i < 81) : zVI (zAt (zMk m) (a + 8) 102 i.toNat) = some (zi (if m.1 (a + 8) i = 0 then 0 else 1)) := zA_gB (show zOA (a + 8) 102 81 4 = true from by rcases q with rfl | rfl | rfl | rfl | rfl | rfl | rfl | rfl | rfl | rfl | rfl | rfl <;> rfl) h0 h1
theorem ype_P7 {m : zQ} {i x : Int} {a : Nat} (q : yP a) (h0 : 0 ≤ i) (h1 : i < 81) (hx : x = 0 ∨ x = 1) : zPut (zMk m) (a + 8) 102 i.toNat (.int (zi x)) = some (zMk (wI m (a + 8) i x)) := zA_pB (show zOA (a + 8) 102 81 4 = true from by rcases q with rfl | rfl | rfl | rfl | rfl | rfl | rfl | rfl | rfl | rfl | rfl | rfl <;> rfl) h0 h1 hx
theorem yg_P8 {m : zQ} {a : Nat} (q : yP a) : zVA (zAt (zMk m) a 1 8) = some (a + 9) := zF_gA (show zOF a 1 8 2 (a + 9) = true from by rcases q with rfl | rfl | rfl | rfl | rfl | rfl | rfl | rfl | rfl | rfl | rfl | rfl <;> rfl)
theorem ykx_P8 {m : zQ} {a : Nat} (q : yP a) : ((zMk m).2.2 (a + 9)).1 = 100 := zA_kd (show zOA (a + 9) 100 81 0 = true from by rcases q with rfl | rfl | rfl | rfl | rfl | rfl | rfl | rfl | rfl | rfl | rfl | rfl <;> rfl)
theorem yln_P8 {m : zQ} {a : Nat} (q : yP a) : ((zMk m).2.2 (a + 9)).2.length = 81 := zA_ln (show zOA (a + 9) 100 81 0 = true from by rcases q with rfl | rfl | rfl | rfl | rfl | rfl | rfl | rfl | rfl | rfl | rfl | rfl <;> rfl)
theorem yix_P8 {m : zQ} {i : Int} {a : Nat} (q : yP a) (h0 : 0 ≤ i) (h1 : i < 81) : zIx (zMk m) (a + 9) 100 (zi i) = some i.toNat := zA_ix (show zOA (a + 9) 100 81 0 = true from by rcases q with rfl | rfl | rfl | rfl | rfl | rfl | rfl | rfl | rfl | rfl | rfl | rfl <;> rfl) h0 h1
theorem yge_P8 {m : zQ} {i : Int} {a : Nat} (q : yP a) (h0 : 0 ≤ i) (h1 : i < 81) : zVI (zAt (zMk m) (a + 9) 100 i.toNat) = some (zi (m.1 (a + 9) i)) := zA_gI (show zOA (a + 9) 100 81 0 = true from by rcases q with rfl | rfl | rfl | rfl | rfl | rfl | rfl | rfl | rfl | rfl | rfl | rfl <;> rfl) h0 h1
theorem ype_P8 {m : zQ} {i x : Int} {a : Nat} (q : yP a) (h0 : 0 ≤ i) (h1 : i < 81) : zPut (zMk m) (a + 9) 100 i.toNat (.int (zi x)) = some (zMk (wI m (a + 9) i x)) := zA_pI (show zOA (a + 9) 100 81 0 = true from by rcases q with rfl | rfl | rfl | rfl | rfl | rfl | rfl | rfl | rfl | rfl | rfl | rfl <;> rfl) h0 h1
theorem yg_P9 {m : zQ} {a : Nat} (q : yP a) : zVA (zAt (zMk m) a 1 9) = some (a + 10) := zF_gA (show zOF a 1 9 2 (a + 10) = true from by rcases q with rfl | rfl | rfl | rfl | rfl | rfl | rfl | rfl | rfl | rfl | rfl | rfl <;> rfl)
theorem ykx_P9 {m : zQ} {a : Nat} (q : yP a) : ((zMk m).2.2 (a + 10)).1 = 100 := zA_kd (show zOA (a + 10) 100 12 0 = true from by rcases q with rfl | rfl | rfl | rfl | rfl | rfl | rfl | rfl | rfl | rfl | rfl | rfl <;> rfl)
theorem yln_P9 {m : zQ} {a : Nat} (q : yP a) : ((zMk m).2.2 (a + 10)).2.length = 12 := zA_ln (show zOA (a + 10) 100 12 0 = true from by rcases q with rfl | rfl | rfl | rfl | rfl | rfl | rfl | rfl | rfl | rfl | rfl | rfl <;> rfl)
theorem yix_P9 {m : zQ} {i : Int} {a : Nat} (q : yP a) (h0 : 0 ≤ i) (h1 : i < 12) : zIx (zMk m) (a + 10) 100 (zi i) = some i.toNat := zA_ix (show zOA (a + 10) 100 12 0 = true from by rcases q with rfl | rfl | rfl | rfl | rfl | rfl | rfl | rfl | rfl | rfl | rfl | rfl <;> rfl) h0 h1
theorem yge_P9 {m : zQ} {i : Int} {a : Nat} (q : yP a) (h0 : 0 ≤ i) (h1 : i < 12) : zVI (zAt (zMk m) (a + 10) 100 i.toNat) = some (zi (m.1 (a + 10) i)) := zA_gI (show zOA (a + 10) 100 12 0 = true from by rcases q with rfl | rfl | rfl | rfl | rfl | rfl | rfl | rfl | rfl | rfl | rfl | rfl <;> rfl) h0 h1
theorem ype_P9 {m : zQ} {i x : Int} {a : Nat} (q : yP a) (h0 : 0 ≤ i) (h1 : i < 12) : zPut (zMk m) (a + 10) 100 i.toNat (.int (zi x)) = some (zMk (wI m (a + 10) i x)) := zA_pI (show zOA (a + 10) 100 12 0 = true from by rcases q with rfl | rfl | rfl | rfl | rfl | rfl | rfl | rfl | rfl | rfl | rfl | rfl <;> rfl) h0 h1
theorem yg_P10 {m : zQ} {a : Nat} (q : yP a) : zVA (zAt (zMk m) a 1 10) = some (a + 11) := zF_gA (show zOF a 1 10 2 (a + 11) = true from by rcases q with rfl | rfl | rfl | rfl | rfl | rfl | rfl | rfl | rfl | rfl | rfl | rfl <;> rfl)
theorem ykx_P10 {m : zQ} {a : Nat} (q : yP a) : ((zMk m).2.2 (a + 11)).1 = 100 := zA_kd (show zOA (a + 11) 100 12 0 = true from by rcases q with rfl | rfl | rfl | rfl | rfl | rfl | rfl | rfl | rfl | rfl | rfl | rfl <;> rfl)
theorem yln_P10 {m : zQ} {a : Nat} (q : yP a) : ((zMk m).2.2 (a + 11)).2.length = 12 := zA_ln (show zOA (a + 11) 100 12 0 = true from by rcases q with rfl | rfl | rfl | rfl | rfl | rfl | rfl | rfl | rfl | rfl | rfl | rfl <;> rfl)
theorem yix_P10 {m : zQ} {i : Int} {a : Nat} (q : yP a) (h0 : 0 ≤ i) (h1 : i < 12) : zIx (zMk m) (a + 11) 100 (zi i) = some i.toNat := zA_ix (show zOA (a + 11) 100 12 0 = true from by rcases q with rfl | rfl | rfl | rfl | rfl | rfl | rfl | rfl | rfl | rfl | rfl | rfl <;> rfl) h0 h1
theorem yge_P10 {m : zQ} {i : Int} {a : Nat} (q : yP a) (h0 : 0 ≤ i) (h1 : i < 12) : zVI (zAt (zMk m) (a + 11) 100 i.toNat) = some (zi (m.1 (a + 11) i)) := zA_gI (show zOA (a + 11) 100 12 0 = true from by rcases q with rfl | rfl | rfl | rfl | rfl | rfl | rfl | rfl | rfl | rfl | rfl | rfl <;> rfl) h0 h1
theorem ype_P10 {m : zQ} {i x : Int} {a : Nat} (q : yP a) (h0 : 0 ≤ i) (h1 : i < 12) : zPut (zMk m) (a + 11) 100 i.toNat (.int (zi x)) = some (zMk (wI m (a + 11) i x)) := zA_pI (show zOA (a + 11) 100 12 0 = true from by rcases q with rfl | rfl | rfl | rfl | rfl | rfl | rfl | rfl | rfl | rfl | rfl | rfl <;> rfl) h0 h1
theorem yg_P11 {m : zQ} {a : Nat} (q : yP a) : zVA (zAt (zMk m) a 1 11) = some (a + 12) := zF_gA (show zOF a 1 11 2 (a + 12) = true from by rcases q with rfl | rfl | rfl | rfl | rfl | rfl | rfl | rfl | rfl | rfl | rfl | rfl <;> rfl)
theorem ykx_P11 {m : zQ} {a : Nat} (q : yP a) : ((zMk m).2.2 (a + 12)).1 = 100 := zA_kd (show zOA (a + 12) 100 81 0 = true from by rcases q with rfl | rfl | rfl | rfl | rfl | rfl | rfl | rfl | rfl | rfl | rfl | rfl <;> rfl)
theorem yln_P11 {m : zQ} {a : Nat} (q : yP a) : ((zMk m).2.2 (a + 12)).2.length = 81 := zA_ln (show zOA (a + 12) 100 81 0 = true from by rcases q with rfl | rfl | rfl | rfl | rfl | rfl | rfl | rfl | rfl | rfl | rfl | rfl <;> rfl)
theorem yix_P11 {m : zQ} {i : Int} {a : Nat} (q : yP a) (h0 : 0 ≤ i) (h1 : i < 81) : zIx (zMk m) (a + 12) 100 (zi i) = some i.toNat := zA_ix (show zOA (a + 12) 100 81 0 = true from by rcases q with rfl | rfl | rfl | rfl | rfl | rfl | rfl | rfl | rfl | rfl | rfl | rfl <;> rfl) h0 h1
theorem yge_P11 {m : zQ} {i : Int} {a : Nat} (q : yP a) (h0 : 0 ≤ i) (h1 : i < 81) : zVI (zAt (zMk m) (a + 12) 100 i.toNat) = some (zi (m.1 (a + 12) i)) := zA_gI (show zOA (a + 12) 100 81 0 = true from by rcases q with rfl | rfl | rfl | rfl | rfl | rfl | rfl | rfl | rfl | rfl | rfl | rfl <;> rfl) h0 h1
theorem ype_P11 {m : zQ} {i x : Int} {a : Nat} (q : yP a) (h0 : 0 ≤ i) (h1 : i < 81) : zPut (zMk m) (a + 12) 100 i.toNat (.int (zi x)) = some (zMk (wI m (a + 12) i x)) := zA_pI (show zOA (a + 12) 100 81 0 = true from by rcases q with rfl | rfl | rfl | rfl | rfl | rfl | rfl | rfl | rfl | rfl | rfl | rfl <;> rfl) h0 h1
theorem yg_P12 {m : zQ} {a : Nat} (q : yP a) : zVI (zAt (zMk m) a 1 12) = some (zi (m.1 a 12)) := zF_gI (show zOF a 1 12 0 0 = true from by rcases q with rfl | rfl | rfl | rfl | rfl | rfl | rfl | rfl | rfl | rfl | rfl | rfl <;> rfl)
theorem yp_P12 {m : zQ} {x : Int} {a : Nat} (q : yP a) : zPut (zMk m) a 1 12 (.int (zi x)) = some (zMk (wI m a 12 x)) := zF_pI (show zOF a 1 12 0 0 = true from by rcases q with rfl | rfl | rfl | rfl | rfl | rfl | rfl | rfl | rfl | rfl | rfl | rfl <;> rfl)
theorem yg_P13 {m : zQ} {a : Nat} (q : yP a) : zVI (zAt (zMk m) a 1 13) = some (zi (m.1 a 13)) := zF_gI (show zOF a 1 13 0 0 = true from by rcases q with rfl | rfl | rfl | rfl | rfl | rfl | rfl | rfl | rfl | rfl | rfl | rfl <;> rfl)
theorem yp_P13 {m : zQ} {x : Int} {a : Nat} (q : yP a) : zPut (zMk m) a 1 13 (.int (zi x)) = some (zMk (wI m a 13 x)) := zF_pI (show zOF a 1 13 0 0 = true from by rcases q with rfl | rfl | rfl | rfl | rfl | rfl | rfl | rfl | rfl | rfl | rfl | rfl <;> rfl)
theorem yg_P14 {m : zQ} {a : Nat} (q : yP a) : zVI (zAt (zMk m) a 1 14) = some (zi (m.1 a 14)) := zF_gI (show zOF a 1 14 0 0 = true from by rcases q with rfl | rfl | rfl | rfl | rfl | rfl | rfl | rfl | rfl | rfl | rfl | rfl <;> rfl)
theorem yp_P14 {m : zQ} {x : Int} {a : Nat} (q : yP a) : zPut (zMk m) a 1 14 (.int (zi x)) = some (zMk (wI m a 14 x)) := zF_pI (show zOF a 1 14 0 0 = true from by rcases q with rfl | rfl | rfl | rfl | rfl | rfl | rfl | rfl | rfl | rfl | rfl | rfl <;> rfl)
theorem yg_P15 {m : zQ} {a : Nat} (q : yP a) : zVI (zAt (zMk m) a 1 15) = some (zi (m.1 a 15)) := zF_gI (show zOF a 1 15 0 0 = true from by rcases q with rfl | rfl | rfl | rfl | rfl | rfl | rfl | rfl | rfl | rfl | rfl | rfl <;> rfl)
theorem yp_P15 {m : zQ} {x : Int} {a : Nat} (q : yP a) : zPut (zMk m) a 1 15 (.int (zi x)) = some (zMk (wI m a 15 x)) := zF_pI (show zOF a 1 15 0 0 = true from by rcases q with rfl | rfl | rfl | rfl | rfl | rfl | rfl | rfl | rfl | rfl | rfl | rfl <;> rfl)
theorem yg_P16 {m : zQ} {a : Nat} (q : yP a) : zVI (zAt (zMk m) a 1 16) = some (zi (m.1 a 16)) := zF_gI (show zOF a 1 16 0 0 = true from by rcases q with rfl | rfl | rfl | rfl | rfl | rfl | rfl | rfl | rfl | rfl | rfl | rfl <;> rfl)
theorem yp_P16 {m : zQ} {x : Int} {a : Nat} (q : yP a) : zPut (zMk m) a 1 16 (.int (zi x)) = some (zMk (wI m a 16 x)) := zF_pI (show zOF a 1 16 0 0 = true from by rcases q with rfl | rfl | rfl | rfl | rfl | rfl | rfl | rfl | rfl | rfl | rfl | rfl <;> rfl)
theorem yg_P17 {m : zQ} {a : Nat} (q : yP a) : zVI (zAt (zMk m) a 1 17) = some (zi (m.1 a 17)) := zF_gI (show zOF a 1 17 0 0 = true from by rcases q with rfl | rfl | rfl | rfl | rfl | rfl | rfl | rfl | rfl | rfl | rfl | rfl <;> rfl)
theorem yp_P17 {m : zQ} {x : Int} {a : Nat} (q : yP a) : zPut (zMk m) a 1 17 (.int (zi x)) = some (zMk (wI m a 17 x)) := zF_pI (show zOF a 1 17 0 0 = true from by rcases q with rfl | rfl | rfl | rfl | rfl | rfl | rfl | rfl | rfl | rfl | rfl | rfl <;> rfl)
theorem yk_Tp {m : zQ} : ((zMk m).2.2 163).1 = 2 := zM_kd (show 163 < 237 ∧ zKd 163 = 2 from by decide)
theorem yg_Tp0 {m : zQ} : zVA (zAt (zMk m) 163 2 0) = some 164 := zF_gA (show zOF 163 2 0 2 164 = true from rfl)
theorem ykx_Tp0 {m : zQ} : ((zMk m).2.2 164).1 = 100 := zA_kd (show zOA 164 100 1600 0 = true from rfl)
theorem yln_Tp0 {m : zQ} : ((zMk m).2.2 164).2.length = 1600 := zA_ln (show zOA 164 100 1600 0 = true from rfl)
theorem yix_Tp0 {m : zQ} {i : Int} (h0 : 0 ≤ i) (h1 : i < 1600) : zIx (zMk m) 164 100 (zi i) = some i.toNat := zA_ix (show zOA 164 100 1600 0 = true from rfl) h0 h1
theorem yge_Tp0 {m : zQ} {i : Int} (h0 : 0 ≤ i) (h1 : i < 1600) : zVI (zAt (zMk m) 164 100 i.toNat) = some (zi (m.1 164 i)) := zA_gI (show zOA 164 100 1600 0 = true from rfl) h0 h1
theorem ype_Tp0 {m : zQ} {i x : Int} (h0 : 0 ≤ i) (h1 : i < 1600) : zPut (zMk m) 164 100 i.toNat (.int (zi x)) = some (zMk (wI m 164 i x)) := zA_pI (show zOA 164 100 1600 0 = true from rfl) h0 h1
theorem yg_Tp1 {m : zQ} : zVI (zAt (zMk m) 163 2 1) = some (zi (m.1 163 1)) := zF_gI (show zOF 163 2 1 0 0 = true from rfl)
theorem yp_Tp1 {m : zQ} {x : Int} : zPut (zMk m) 163 2 1 (.int (zi x)) = some (zMk (wI m 163 1 x)) := zF_pI (show zOF 163 2 1 0 0 = true from rfl)
theorem yk_Rd {m : zQ} : ((zMk m).2.2 165).1 = 3 := zM_kd (show 165 < 237 ∧ zKd 165 = 3 from by decide)
theorem yg_Rd0 {m : zQ} : zVA (zAt (zMk m) 165 3 0) = some 166 := zF_gA (show zOF 165 3 0 2 166 = true from rfl)
theorem yg_Rd1 {m : zQ} : zVA (zAt (zMk m) 165 3 1) = some 170 := zF_gA (show zOF 165 3 1 2 170 = true from rfl)
theorem yg_Rd2 {m : zQ} : zVA (zAt (zMk m) 165 3 2) = some 174 := zF_gA (show zOF 165 3 2 2 174 = true from rfl)
theorem yg_Rd3 {m : zQ} : zVI (zAt (zMk m) 165 3 3) = some (zi (m.1 165 3)) := zF_gI (show zOF 165 3 3 0 0 = true from rfl)
theorem yp_Rd3 {m : zQ} {x : Int} : zPut (zMk m) 165 3 3 (.int (zi x)) = some (zMk (wI m 165 3 x)) := zF_pI (show zOF 165 3 3 0 0 = true from rfl)
theorem yg_Rd4 {m : zQ} : zVI (zAt (zMk m) 165 3 4) = some (zi (m.1 165 4)) := zF_gI (show zOF 165 3 4 0 0 = true from rfl)
theorem yp_Rd4 {m : zQ} {x : Int} : zPut (zMk m) 165 3 4 (.int (zi x)) = some (zMk (wI m 165 4 x)) := zF_pI (show zOF 165 3 4 0 0 = true from rfl)
theorem yg_Rd5 {m : zQ} : zVI (zAt (zMk m) 165 3 5) = some (zi (m.1 165 5)) := zF_gI (show zOF 165 3 5 0 0 = true from rfl)
theorem yp_Rd5 {m : zQ} {x : Int} : zPut (zMk m) 165 3 5 (.int (zi x)) = some (zMk (wI m 165 5 x)) := zF_pI (show zOF 165 3 5 0 0 = true from rfl)
theorem yg_Rd6 {m : zQ} : zVI (zAt (zMk m) 165 3 6) = some (zi (m.1 165 6)) := zF_gI (show zOF 165 3 6 0 0 = true from rfl)
theorem yp_Rd6 {m : zQ} {x : Int} : zPut (zMk m) 165 3 6 (.int (zi x)) = some (zMk (wI m 165 6 x)) := zF_pI (show zOF 165 3 6 0 0 = true from rfl)
theorem yg_Rd7 {m : zQ} : zVI (zAt (zMk m) 165 3 7) = some (zi (m.1 165 7)) := zF_gI (show zOF 165 3 7 0 0 = true from rfl)
theorem yp_Rd7 {m : zQ} {x : Int} : zPut (zMk m) 165 3 7 (.int (zi x)) = some (zMk (wI m 165 7 x)) := zF_pI (show zOF 165 3 7 0 0 = true from rfl)
theorem yg_Rd8 {m : zQ} : zVL (zAt (zMk m) 165 3 8) = some (m.2.1 165 8) := zF_gL (show zOF 165 3 8 1 0 = true from rfl)
theorem yp_Rd8 {m : zQ} {x : Int64} : zPut (zMk m) 165 3 8 (.long x) = some (zMk (wL m 165 8 x)) := zF_pL (show zOF 165 3 8 1 0 = true from rfl)
theorem yg_Rd9 {m : zQ} : zVI (zAt (zMk m) 165 3 9) = some (zi (m.1 165 9)) := zF_gI (show zOF 165 3 9 0 0 = true from rfl)
theorem yp_Rd9 {m : zQ} {x : Int} : zPut (zMk m) 165 3 9 (.int (zi x)) = some (zMk (wI m 165 9 x)) := zF_pI (show zOF 165 3 9 0 0 = true from rfl)
theorem yg_Rd10 {m : zQ} : zVL (zAt (zMk m) 165 3 10) = some (m.2.1 165 10) := zF_gL (show zOF 165 3 10 1 0 = true from rfl)
theorem yp_Rd10 {m : zQ} {x : Int64} : zPut (zMk m) 165 3 10 (.long x) = some (zMk (wL m 165 10 x)) := zF_pL (show zOF 165 3 10 1 0 = true from rfl)
theorem yg_Rd11 {m : zQ} : zVI (zAt (zMk m) 165 3 11) = some (zi (m.1 165 11)) := zF_gI (show zOF 165 3 11 0 0 = true from rfl)
theorem yp_Rd11 {m : zQ} {x : Int} : zPut (zMk m) 165 3 11 (.int (zi x)) = some (zMk (wI m 165 11 x)) := zF_pI (show zOF 165 3 11 0 0 = true from rfl)
theorem yg_Rd12 {m : zQ} : zVL (zAt (zMk m) 165 3 12) = some (m.2.1 165 12) := zF_gL (show zOF 165 3 12 1 0 = true from rfl)
theorem yp_Rd12 {m : zQ} {x : Int64} : zPut (zMk m) 165 3 12 (.long x) = some (zMk (wL m 165 12 x)) := zF_pL (show zOF 165 3 12 1 0 = true from rfl)
theorem yk_Tk {m : zQ} : ((zMk m).2.2 166).1 = 4 := zM_kd (show 166 < 237 ∧ zKd 166 = 4 from by decide)
theorem yg_Tk0 {m : zQ} : zVA (zAt (zMk m) 166 4 0) = some 167 := zF_gA (show zOF 166 4 0 2 167 = true from rfl)
theorem ykx_Tk0 {m : zQ} : ((zMk m).2.2 167).1 = 100 := zA_kd (show zOA 167 100 1601 0 = true from rfl)
theorem yln_Tk0 {m : zQ} : ((zMk m).2.2 167).2.length = 1601 := zA_ln (show zOA 167 100 1601 0 = true from rfl)
theorem yix_Tk0 {m : zQ} {i : Int} (h0 : 0 ≤ i) (h1 : i < 1601) : zIx (zMk m) 167 100 (zi i) = some i.toNat := zA_ix (show zOA 167 100 1601 0 = true from rfl) h0 h1
theorem yge_Tk0 {m : zQ} {i : Int} (h0 : 0 ≤ i) (h1 : i < 1601) : zVI (zAt (zMk m) 167 100 i.toNat) = some (zi (m.1 167 i)) := zA_gI (show zOA 167 100 1601 0 = true from rfl) h0 h1
theorem ype_Tk0 {m : zQ} {i x : Int} (h0 : 0 ≤ i) (h1 : i < 1601) : zPut (zMk m) 167 100 i.toNat (.int (zi x)) = some (zMk (wI m 167 i x)) := zA_pI (show zOA 167 100 1601 0 = true from rfl) h0 h1
theorem yg_Tk1 {m : zQ} : zVA (zAt (zMk m) 166 4 1) = some 168 := zF_gA (show zOF 166 4 1 2 168 = true from rfl)
theorem ykx_Tk1 {m : zQ} : ((zMk m).2.2 168).1 = 100 := zA_kd (show zOA 168 100 1601 0 = true from rfl)
theorem yln_Tk1 {m : zQ} : ((zMk m).2.2 168).2.length = 1601 := zA_ln (show zOA 168 100 1601 0 = true from rfl)
theorem yix_Tk1 {m : zQ} {i : Int} (h0 : 0 ≤ i) (h1 : i < 1601) : zIx (zMk m) 168 100 (zi i) = some i.toNat := zA_ix (show zOA 168 100 1601 0 = true from rfl) h0 h1
theorem yge_Tk1 {m : zQ} {i : Int} (h0 : 0 ≤ i) (h1 : i < 1601) : zVI (zAt (zMk m) 168 100 i.toNat) = some (zi (m.1 168 i)) := zA_gI (show zOA 168 100 1601 0 = true from rfl) h0 h1
theorem ype_Tk1 {m : zQ} {i x : Int} (h0 : 0 ≤ i) (h1 : i < 1601) : zPut (zMk m) 168 100 i.toNat (.int (zi x)) = some (zMk (wI m 168 i x)) := zA_pI (show zOA 168 100 1601 0 = true from rfl) h0 h1
theorem yg_Tk2 {m : zQ} : zVA (zAt (zMk m) 166 4 2) = some 169 := zF_gA (show zOF 166 4 2 2 169 = true from rfl)
theorem ykx_Tk2 {m : zQ} : ((zMk m).2.2 169).1 = 101 := zA_kd (show zOA 169 101 1601 1 = true from rfl)
theorem yln_Tk2 {m : zQ} : ((zMk m).2.2 169).2.length = 1601 := zA_ln (show zOA 169 101 1601 1 = true from rfl)
theorem yix_Tk2 {m : zQ} {i : Int} (h0 : 0 ≤ i) (h1 : i < 1601) : zIx (zMk m) 169 101 (zi i) = some i.toNat := zA_ix (show zOA 169 101 1601 1 = true from rfl) h0 h1
theorem yge_Tk2 {m : zQ} {i : Int} (h0 : 0 ≤ i) (h1 : i < 1601) : zVL (zAt (zMk m) 169 101 i.toNat) = some (m.2.1 169 i) := zA_gL (show zOA 169 101 1601 1 = true from rfl) h0 h1
theorem ype_Tk2 {m : zQ} {i : Int} {x : Int64} (h0 : 0 ≤ i) (h1 : i < 1601) : zPut (zMk m) 169 101 i.toNat (.long x) = some (zMk (wL m 169 i x)) := zA_pL (show zOA 169 101 1601 1 = true from rfl) h0 h1
theorem yg_Tk3 {m : zQ} : zVI (zAt (zMk m) 166 4 3) = some (zi (m.1 166 3)) := zF_gI (show zOF 166 4 3 0 0 = true from rfl)
theorem yp_Tk3 {m : zQ} {x : Int} : zPut (zMk m) 166 4 3 (.int (zi x)) = some (zMk (wI m 166 3 x)) := zF_pI (show zOF 166 4 3 0 0 = true from rfl)
theorem yg_Tk4 {m : zQ} : zVI (zAt (zMk m) 166 4 4) = some (zi (m.1 166 4)) := zF_gI (show zOF 166 4 4 0 0 = true from rfl)
theorem yp_Tk4 {m : zQ} {x : Int} : zPut (zMk m) 166 4 4 (.int (zi x)) = some (zMk (wI m 166 4 x)) := zF_pI (show zOF 166 4 4 0 0 = true from rfl)
def yNm (a : Nat) : Prop := a = 170 ∨ a = 174
theorem yk_Nm {m : zQ} {a : Nat} (q : yNm a) : ((zMk m).2.2 a).1 = 5 := zM_kd (show a < 237 ∧ zKd a = 5 from by rcases q with rfl | rfl <;> decide)
theorem yg_Nm0 {m : zQ} {a : Nat} (q : yNm a) : zVA (zAt (zMk m) a 5 0) = some (a + 1) := zF_gA (show zOF a 5 0 2 (a + 1) = true from by rcases q with rfl | rfl <;> rfl)
theorem ykx_Nm0 {m : zQ} {a : Nat} (q : yNm a) : ((zMk m).2.2 (a + 1)).1 = 101 := zA_kd (show zOA (a + 1) 101 12 1 = true from by rcases q with rfl | rfl <;> rfl)
theorem yln_Nm0 {m : zQ} {a : Nat} (q : yNm a) : ((zMk m).2.2 (a + 1)).2.length = 12 := zA_ln (show zOA (a + 1) 101 12 1 = true from by rcases q with rfl | rfl <;> rfl)
theorem yix_Nm0 {m : zQ} {i : Int} {a : Nat} (q : yNm a) (h0 : 0 ≤ i) (h1 : i < 12) : zIx (zMk m) (a + 1) 101 (zi i) = some i.toNat := zA_ix (show zOA (a + 1) 101 12 1 = true from by rcases q with rfl | rfl <;> rfl) h0 h1
theorem yge_Nm0 {m : zQ} {i : Int} {a : Nat} (q : yNm a) (h0 : 0 ≤ i) (h1 : i < 12) : zVL (zAt (zMk m) (a + 1) 101 i.toNat) = some (m.2.1 (a + 1) i) := zA_gL (show zOA (a + 1) 101 12 1 = true from by rcases q with rfl | rfl <;> rfl) h0 h1
theorem ype_Nm0 {m : zQ} {i : Int} {x : Int64} {a : Nat} (q : yNm a) (h0 : 0 ≤ i) (h1 : i < 12) : zPut (zMk m) (a + 1) 101 i.toNat (.long x) = some (zMk (wL m (a + 1) i x)) := zA_pL (show zOA (a + 1) 101 12 1 = true from by rcases q with rfl | rfl <;> rfl) h0 h1
theorem yg_Nm1 {m : zQ} {a : Nat} (q : yNm a) : zVA (zAt (zMk m) a 5 1) = some (a + 2) := zF_gA (show zOF a 5 1 2 (a + 2) = true from by rcases q with rfl | rfl <;> rfl)
theorem ykx_Nm1 {m : zQ} {a : Nat} (q : yNm a) : ((zMk m).2.2 (a + 2)).1 = 100 := zA_kd (show zOA (a + 2) 100 12 0 = true from by rcases q with rfl | rfl <;> rfl)
theorem yln_Nm1 {m : zQ} {a : Nat} (q : yNm a) : ((zMk m).2.2 (a + 2)).2.length = 12 := zA_ln (show zOA (a + 2) 100 12 0 = true from by rcases q with rfl | rfl <;> rfl)
theorem yix_Nm1 {m : zQ} {i : Int} {a : Nat} (q : yNm a) (h0 : 0 ≤ i) (h1 : i < 12) : zIx (zMk m) (a + 2) 100 (zi i) = some i.toNat := zA_ix (show zOA (a + 2) 100 12 0 = true from by rcases q with rfl | rfl <;> rfl) h0 h1
theorem yge_Nm1 {m : zQ} {i : Int} {a : Nat} (q : yNm a) (h0 : 0 ≤ i) (h1 : i < 12) : zVI (zAt (zMk m) (a + 2) 100 i.toNat) = some (zi (m.1 (a + 2) i)) := zA_gI (show zOA (a + 2) 100 12 0 = true from by rcases q with rfl | rfl <;> rfl) h0 h1
theorem ype_Nm1 {m : zQ} {i x : Int} {a : Nat} (q : yNm a) (h0 : 0 ≤ i) (h1 : i < 12) : zPut (zMk m) (a + 2) 100 i.toNat (.int (zi x)) = some (zMk (wI m (a + 2) i x)) := zA_pI (show zOA (a + 2) 100 12 0 = true from by rcases q with rfl | rfl <;> rfl) h0 h1
theorem yg_Nm2 {m : zQ} {a : Nat} (q : yNm a) : zVA (zAt (zMk m) a 5 2) = some (a + 3) := zF_gA (show zOF a 5 2 2 (a + 3) = true from by rcases q with rfl | rfl <;> rfl)
theorem ykx_Nm2 {m : zQ} {a : Nat} (q : yNm a) : ((zMk m).2.2 (a + 3)).1 = 102 := zA_kd (show zOA (a + 3) 102 12 4 = true from by rcases q with rfl | rfl <;> rfl)
theorem yln_Nm2 {m : zQ} {a : Nat} (q : yNm a) : ((zMk m).2.2 (a + 3)).2.length = 12 := zA_ln (show zOA (a + 3) 102 12 4 = true from by rcases q with rfl | rfl <;> rfl)
theorem yix_Nm2 {m : zQ} {i : Int} {a : Nat} (q : yNm a) (h0 : 0 ≤ i) (h1 : i < 12) : zIx (zMk m) (a + 3) 102 (zi i) = some i.toNat := zA_ix (show zOA (a + 3) 102 12 4 = true from by rcases q with rfl | rfl <;> rfl) h0 h1
theorem yge_Nm2 {m : zQ} {i : Int} {a : Nat} (q : yNm a) (h0 : 0 ≤ i) (h1 : i < 12) : zVI (zAt (zMk m) (a + 3) 102 i.toNat) = some (zi (if m.1 (a + 3) i = 0 then 0 else 1)) := zA_gB (show zOA (a + 3) 102 12 4 = true from by rcases q with rfl | rfl <;> rfl) h0 h1
theorem ype_Nm2 {m : zQ} {i x : Int} {a : Nat} (q : yNm a) (h0 : 0 ≤ i) (h1 : i < 12) (hx : x = 0 ∨ x = 1) : zPut (zMk m) (a + 3) 102 i.toNat (.int (zi x)) = some (zMk (wI m (a + 3) i x)) := zA_pB (show zOA (a + 3) 102 12 4 = true from by rcases q with rfl | rfl <;> rfl) h0 h1 hx
theorem yg_Nm3 {m : zQ} {a : Nat} (q : yNm a) : zVI (zAt (zMk m) a 5 3) = some (zi (m.1 a 3)) := zF_gI (show zOF a 5 3 0 0 = true from by rcases q with rfl | rfl <;> rfl)
theorem yp_Nm3 {m : zQ} {x : Int} {a : Nat} (q : yNm a) : zPut (zMk m) a 5 3 (.int (zi x)) = some (zMk (wI m a 3 x)) := zF_pI (show zOF a 5 3 0 0 = true from by rcases q with rfl | rfl <;> rfl)
def yFl (a : Nat) : Prop := a = 178 ∨ a = 187
theorem yk_Fl {m : zQ} {a : Nat} (q : yFl a) : ((zMk m).2.2 a).1 = 6 := zM_kd (show a < 237 ∧ zKd a = 6 from by rcases q with rfl | rfl <;> decide)
theorem yg_Fl0 {m : zQ} {a : Nat} (q : yFl a) : zVA (zAt (zMk m) a 6 0) = some (a + 1) := zF_gA (show zOF a 6 0 2 (a + 1) = true from by rcases q with rfl | rfl <;> rfl)
theorem ykx_Fl0 {m : zQ} {a : Nat} (q : yFl a) : ((zMk m).2.2 (a + 1)).1 = 102 := zA_kd (show zOA (a + 1) 102 80 4 = true from by rcases q with rfl | rfl <;> rfl)
theorem yln_Fl0 {m : zQ} {a : Nat} (q : yFl a) : ((zMk m).2.2 (a + 1)).2.length = 80 := zA_ln (show zOA (a + 1) 102 80 4 = true from by rcases q with rfl | rfl <;> rfl)
theorem yix_Fl0 {m : zQ} {i : Int} {a : Nat} (q : yFl a) (h0 : 0 ≤ i) (h1 : i < 80) : zIx (zMk m) (a + 1) 102 (zi i) = some i.toNat := zA_ix (show zOA (a + 1) 102 80 4 = true from by rcases q with rfl | rfl <;> rfl) h0 h1
theorem yge_Fl0 {m : zQ} {i : Int} {a : Nat} (q : yFl a) (h0 : 0 ≤ i) (h1 : i < 80) : zVI (zAt (zMk m) (a + 1) 102 i.toNat) = some (zi (if m.1 (a + 1) i = 0 then 0 else 1)) := zA_gB (show zOA (a + 1) 102 80 4 = true from by rcases q with rfl | rfl <;> rfl) h0 h1
theorem ype_Fl0 {m : zQ} {i x : Int} {a : Nat} (q : yFl a) (h0 : 0 ≤ i) (h1 : i < 80) (hx : x = 0 ∨ x = 1) : zPut (zMk m) (a + 1) 102 i.toNat (.int (zi x)) = some (zMk (wI m (a + 1) i x)) := zA_pB (show zOA (a + 1) 102 80 4 = true from by rcases q with rfl | rfl <;> rfl) h0 h1 hx
theorem yg_Fl1 {m : zQ} {a : Nat} (q : yFl a) : zVA (zAt (zMk m) a 6 1) = some (a + 2) := zF_gA (show zOF a 6 1 2 (a + 2) = true from by rcases q with rfl | rfl <;> rfl)
theorem ykx_Fl1 {m : zQ} {a : Nat} (q : yFl a) : ((zMk m).2.2 (a + 2)).1 = 100 := zA_kd (show zOA (a + 2) 100 80 0 = true from by rcases q with rfl | rfl <;> rfl)
theorem yln_Fl1 {m : zQ} {a : Nat} (q : yFl a) : ((zMk m).2.2 (a + 2)).2.length = 80 := zA_ln (show zOA (a + 2) 100 80 0 = true from by rcases q with rfl | rfl <;> rfl)
theorem yix_Fl1 {m : zQ} {i : Int} {a : Nat} (q : yFl a) (h0 : 0 ≤ i) (h1 : i < 80) : zIx (zMk m) (a + 2) 100 (zi i) = some i.toNat := zA_ix (show zOA (a + 2) 100 80 0 = true from by rcases q with rfl | rfl <;> rfl) h0 h1
theorem yge_Fl1 {m : zQ} {i : Int} {a : Nat} (q : yFl a) (h0 : 0 ≤ i) (h1 : i < 80) : zVI (zAt (zMk m) (a + 2) 100 i.toNat) = some (zi (m.1 (a + 2) i)) := zA_gI (show zOA (a + 2) 100 80 0 = true from by rcases q with rfl | rfl <;> rfl) h0 h1
theorem ype_Fl1 {m : zQ} {i x : Int} {a : Nat} (q : yFl a) (h0 : 0 ≤ i) (h1 : i < 80) : zPut (zMk m) (a + 2) 100 i.toNat (.int (zi x)) = some (zMk (wI m (a + 2) i x)) := zA_pI (show zOA (a + 2) 100 80 0 = true from by rcases q with rfl | rfl <;> rfl) h0 h1
theorem yg_Fl2 {m : zQ} {a : Nat} (q : yFl a) : zVA (zAt (zMk m) a 6 2) = some (a + 3) := zF_gA (show zOF a 6 2 2 (a + 3) = true from by rcases q with rfl | rfl <;> rfl)
theorem ykx_Fl2 {m : zQ} {a : Nat} (q : yFl a) : ((zMk m).2.2 (a + 3)).1 = 100 := zA_kd (show zOA (a + 3) 100 80 0 = true from by rcases q with rfl | rfl <;> rfl)
theorem yln_Fl2 {m : zQ} {a : Nat} (q : yFl a) : ((zMk m).2.2 (a + 3)).2.length = 80 := zA_ln (show zOA (a + 3) 100 80 0 = true from by rcases q with rfl | rfl <;> rfl)
theorem yix_Fl2 {m : zQ} {i : Int} {a : Nat} (q : yFl a) (h0 : 0 ≤ i) (h1 : i < 80) : zIx (zMk m) (a + 3) 100 (zi i) = some i.toNat := zA_ix (show zOA (a + 3) 100 80 0 = true from by rcases q with rfl | rfl <;> rfl) h0 h1
theorem yge_Fl2 {m : zQ} {i : Int} {a : Nat} (q : yFl a) (h0 : 0 ≤ i) (h1 : i < 80) : zVI (zAt (zMk m) (a + 3) 100 i.toNat) = some (zi (m.1 (a + 3) i)) := zA_gI (show zOA (a + 3) 100 80 0 = true from by rcases q with rfl | rfl <;> rfl) h0 h1
theorem ype_Fl2 {m : zQ} {i x : Int} {a : Nat} (q : yFl a) (h0 : 0 ≤ i) (h1 : i < 80) : zPut (zMk m) (a + 3) 100 i.toNat (.int (zi x)) = some (zMk (wI m (a + 3) i x)) := zA_pI (show zOA (a + 3) 100 80 0 = true from by rcases q with rfl | rfl <;> rfl) h0 h1
theorem yk_Bp {m : zQ} : ((zMk m).2.2 182).1 = 7 := zM_kd (show 182 < 237 ∧ zKd 182 = 7 from by decide)
theorem yg_Bp0 {m : zQ} : zVA (zAt (zMk m) 182 7 0) = some 183 := zF_gA (show zOF 182 7 0 2 183 = true from rfl)
theorem ykx_Bp0 {m : zQ} : ((zMk m).2.2 183).1 = 102 := zA_kd (show zOA 183 102 12 4 = true from rfl)
theorem yln_Bp0 {m : zQ} : ((zMk m).2.2 183).2.length = 12 := zA_ln (show zOA 183 102 12 4 = true from rfl)
theorem yix_Bp0 {m : zQ} {i : Int} (h0 : 0 ≤ i) (h1 : i < 12) : zIx (zMk m) 183 102 (zi i) = some i.toNat := zA_ix (show zOA 183 102 12 4 = true from rfl) h0 h1
theorem yge_Bp0 {m : zQ} {i : Int} (h0 : 0 ≤ i) (h1 : i < 12) : zVI (zAt (zMk m) 183 102 i.toNat) = some (zi (if m.1 183 i = 0 then 0 else 1)) := zA_gB (show zOA 183 102 12 4 = true from rfl) h0 h1
theorem ype_Bp0 {m : zQ} {i x : Int} (h0 : 0 ≤ i) (h1 : i < 12) (hx : x = 0 ∨ x = 1) : zPut (zMk m) 183 102 i.toNat (.int (zi x)) = some (zMk (wI m 183 i x)) := zA_pB (show zOA 183 102 12 4 = true from rfl) h0 h1 hx
theorem yg_Bp1 {m : zQ} : zVA (zAt (zMk m) 182 7 1) = some 184 := zF_gA (show zOF 182 7 1 2 184 = true from rfl)
theorem ykx_Bp1 {m : zQ} : ((zMk m).2.2 184).1 = 101 := zA_kd (show zOA 184 101 12 1 = true from rfl)
theorem yln_Bp1 {m : zQ} : ((zMk m).2.2 184).2.length = 12 := zA_ln (show zOA 184 101 12 1 = true from rfl)
theorem yix_Bp1 {m : zQ} {i : Int} (h0 : 0 ≤ i) (h1 : i < 12) : zIx (zMk m) 184 101 (zi i) = some i.toNat := zA_ix (show zOA 184 101 12 1 = true from rfl) h0 h1
theorem yge_Bp1 {m : zQ} {i : Int} (h0 : 0 ≤ i) (h1 : i < 12) : zVL (zAt (zMk m) 184 101 i.toNat) = some (m.2.1 184 i) := zA_gL (show zOA 184 101 12 1 = true from rfl) h0 h1
theorem ype_Bp1 {m : zQ} {i : Int} {x : Int64} (h0 : 0 ≤ i) (h1 : i < 12) : zPut (zMk m) 184 101 i.toNat (.long x) = some (zMk (wL m 184 i x)) := zA_pL (show zOA 184 101 12 1 = true from rfl) h0 h1
theorem yg_Bp2 {m : zQ} : zVA (zAt (zMk m) 182 7 2) = some 185 := zF_gA (show zOF 182 7 2 2 185 = true from rfl)
theorem ykx_Bp2 {m : zQ} : ((zMk m).2.2 185).1 = 100 := zA_kd (show zOA 185 100 12 0 = true from rfl)
theorem yln_Bp2 {m : zQ} : ((zMk m).2.2 185).2.length = 12 := zA_ln (show zOA 185 100 12 0 = true from rfl)
theorem yix_Bp2 {m : zQ} {i : Int} (h0 : 0 ≤ i) (h1 : i < 12) : zIx (zMk m) 185 100 (zi i) = some i.toNat := zA_ix (show zOA 185 100 12 0 = true from rfl) h0 h1
theorem yge_Bp2 {m : zQ} {i : Int} (h0 : 0 ≤ i) (h1 : i < 12) : zVI (zAt (zMk m) 185 100 i.toNat) = some (zi (m.1 185 i)) := zA_gI (show zOA 185 100 12 0 = true from rfl) h0 h1
theorem ype_Bp2 {m : zQ} {i x : Int} (h0 : 0 ≤ i) (h1 : i < 12) : zPut (zMk m) 185 100 i.toNat (.int (zi x)) = some (zMk (wI m 185 i x)) := zA_pI (show zOA 185 100 12 0 = true from rfl) h0 h1
theorem yk_Fp {m : zQ} : ((zMk m).2.2 186).1 = 8 := zM_kd (show 186 < 237 ∧ zKd 186 = 8 from by decide)
theorem yg_Fp0 {m : zQ} : zVA (zAt (zMk m) 186 8 0) = some 187 := zF_gA (show zOF 186 8 0 2 187 = true from rfl)
def yMc (a : Nat) : Prop := a = 192 ∨ a = 195 ∨ a = 198
theorem yk_Mc {m : zQ} {a : Nat} (q : yMc a) : ((zMk m).2.2 a).1 = 9 := zM_kd (show a < 237 ∧ zKd a = 9 from by rcases q with rfl | rfl | rfl <;> decide)
theorem yg_Mc0 {m : zQ} {a : Nat} (q : yMc a) : zVA (zAt (zMk m) a 9 0) = some (a + 1) := zF_gA (show zOF a 9 0 2 (a + 1) = true from by rcases q with rfl | rfl | rfl <;> rfl)
theorem ykx_Mc0 {m : zQ} {a : Nat} (q : yMc a) : ((zMk m).2.2 (a + 1)).1 = 101 := zA_kd (show zOA (a + 1) 101 12 1 = true from by rcases q with rfl | rfl | rfl <;> rfl)
theorem yln_Mc0 {m : zQ} {a : Nat} (q : yMc a) : ((zMk m).2.2 (a + 1)).2.length = 12 := zA_ln (show zOA (a + 1) 101 12 1 = true from by rcases q with rfl | rfl | rfl <;> rfl)
theorem yix_Mc0 {m : zQ} {i : Int} {a : Nat} (q : yMc a) (h0 : 0 ≤ i) (h1 : i < 12) : zIx (zMk m) (a + 1) 101 (zi i) = some i.toNat := zA_ix (show zOA (a + 1) 101 12 1 = true from by rcases q with rfl | rfl | rfl <;> rfl) h0 h1
theorem yge_Mc0 {m : zQ} {i : Int} {a : Nat} (q : yMc a) (h0 : 0 ≤ i) (h1 : i < 12) : zVL (zAt (zMk m) (a + 1) 101 i.toNat) = some (m.2.1 (a + 1) i) := zA_gL (show zOA (a + 1) 101 12 1 = true from by rcases q with rfl | rfl | rfl <;> rfl) h0 h1
theorem ype_Mc0 {m : zQ} {i : Int} {x : Int64} {a : Nat} (q : yMc a) (h0 : 0 ≤ i) (h1 : i < 12) : zPut (zMk m) (a + 1) 101 i.toNat (.long x) = some (zMk (wL m (a + 1) i x)) := zA_pL (show zOA (a + 1) 101 12 1 = true from by rcases q with rfl | rfl | rfl <;> rfl) h0 h1
theorem yg_Mc1 {m : zQ} {a : Nat} (q : yMc a) : zVA (zAt (zMk m) a 9 1) = some (a + 2) := zF_gA (show zOF a 9 1 2 (a + 2) = true from by rcases q with rfl | rfl | rfl <;> rfl)
theorem ykx_Mc1 {m : zQ} {a : Nat} (q : yMc a) : ((zMk m).2.2 (a + 2)).1 = 101 := zA_kd (show zOA (a + 2) 101 60 1 = true from by rcases q with rfl | rfl | rfl <;> rfl)
theorem yln_Mc1 {m : zQ} {a : Nat} (q : yMc a) : ((zMk m).2.2 (a + 2)).2.length = 60 := zA_ln (show zOA (a + 2) 101 60 1 = true from by rcases q with rfl | rfl | rfl <;> rfl)
theorem yix_Mc1 {m : zQ} {i : Int} {a : Nat} (q : yMc a) (h0 : 0 ≤ i) (h1 : i < 60) : zIx (zMk m) (a + 2) 101 (zi i) = some i.toNat := zA_ix (show zOA (a + 2) 101 60 1 = true from by rcases q with rfl | rfl | rfl <;> rfl) h0 h1
theorem yge_Mc1 {m : zQ} {i : Int} {a : Nat} (q : yMc a) (h0 : 0 ≤ i) (h1 : i < 60) : zVL (zAt (zMk m) (a + 2) 101 i.toNat) = some (m.2.1 (a + 2) i) := zA_gL (show zOA (a + 2) 101 60 1 = true from by rcases q with rfl | rfl | rfl <;> rfl) h0 h1
theorem ype_Mc1 {m : zQ} {i : Int} {x : Int64} {a : Nat} (q : yMc a) (h0 : 0 ≤ i) (h1 : i < 60) : zPut (zMk m) (a + 2) 101 i.toNat (.long x) = some (zMk (wL m (a + 2) i x)) := zA_pL (show zOA (a + 2) 101 60 1 = true from by rcases q with rfl | rfl | rfl <;> rfl) h0 h1
theorem yg_Mc2 {m : zQ} {a : Nat} (q : yMc a) : zVI (zAt (zMk m) a 9 2) = some (zi (m.1 a 2)) := zF_gI (show zOF a 9 2 0 0 = true from by rcases q with rfl | rfl | rfl <;> rfl)
theorem yp_Mc2 {m : zQ} {x : Int} {a : Nat} (q : yMc a) : zPut (zMk m) a 9 2 (.int (zi x)) = some (zMk (wI m a 2 x)) := zF_pI (show zOF a 9 2 0 0 = true from by rcases q with rfl | rfl | rfl <;> rfl)
theorem yg_Mc3 {m : zQ} {a : Nat} (q : yMc a) : zVI (zAt (zMk m) a 9 3) = some (zi (m.1 a 3)) := zF_gI (show zOF a 9 3 0 0 = true from by rcases q with rfl | rfl | rfl <;> rfl)
theorem yp_Mc3 {m : zQ} {x : Int} {a : Nat} (q : yMc a) : zPut (zMk m) a 9 3 (.int (zi x)) = some (zMk (wI m a 3 x)) := zF_pI (show zOF a 9 3 0 0 = true from by rcases q with rfl | rfl | rfl <;> rfl)
theorem yg_Mc4 {m : zQ} {a : Nat} (q : yMc a) : zVI (zAt (zMk m) a 9 4) = some (zi (m.1 a 4)) := zF_gI (show zOF a 9 4 0 0 = true from by rcases q with rfl | rfl | rfl <;> rfl)
theorem yp_Mc4 {m : zQ} {x : Int} {a : Nat} (q : yMc a) : zPut (zMk m) a 9 4 (.int (zi x)) = some (zMk (wI m a 4 x)) := zF_pI (show zOF a 9 4 0 0 = true from by rcases q with rfl | rfl | rfl <;> rfl)
theorem yg_Mc5 {m : zQ} {a : Nat} (q : yMc a) : zVI (zAt (zMk m) a 9 5) = some (zi (if m.1 a 5 = 0 then 0 else 1)) := zF_gB (show zOF a 9 5 4 0 = true from by rcases q with rfl | rfl | rfl <;> rfl)
theorem yp_Mc5 {m : zQ} {x : Int} {a : Nat} (q : yMc a) (hx : x = 0 ∨ x = 1) : zPut (zMk m) a 9 5 (.int (zi x)) = some (zMk (wI m a 5 x)) := zF_pB (show zOF a 9 5 4 0 = true from by rcases q with rfl | rfl | rfl <;> rfl) hx
theorem yk_PF {m : zQ} : ((zMk m).2.2 5).1 = 0 := zM_kd (show 5 < 237 ∧ zKd 5 = 0 from by decide)
theorem yg_PF0 {m : zQ} : zVA (zAt (zMk m) 5 0 0) = some 6 := zF_gA (show zOF 5 0 0 2 6 = true from rfl)
theorem yg_PF1 {m : zQ} : zVI (zAt (zMk m) 5 0 1) = some (zi (m.1 5 1)) := zF_gI (show zOF 5 0 1 0 0 = true from rfl)
theorem yp_PF1 {m : zQ} {x : Int} : zPut (zMk m) 5 0 1 (.int (zi x)) = some (zMk (wI m 5 1 x)) := zF_pI (show zOF 5 0 1 0 0 = true from rfl)
theorem yg_PF2 {m : zQ} : zVA (zAt (zMk m) 5 0 2) = some 163 := zF_gA (show zOF 5 0 2 2 163 = true from rfl)
theorem yg_PF3 {m : zQ} : zVA (zAt (zMk m) 5 0 3) = some 165 := zF_gA (show zOF 5 0 3 2 165 = true from rfl)
theorem yg_PF4 {m : zQ} : zVA (zAt (zMk m) 5 0 4) = some 178 := zF_gA (show zOF 5 0 4 2 178 = true from rfl)
theorem yg_PF5 {m : zQ} : zVA (zAt (zMk m) 5 0 5) = some 182 := zF_gA (show zOF 5 0 5 2 182 = true from rfl)
theorem yg_PF6 {m : zQ} : zVA (zAt (zMk m) 5 0 6) = some 186 := zF_gA (show zOF 5 0 6 2 186 = true from rfl)
theorem yg_PF7 {m : zQ} : zVA (zAt (zMk m) 5 0 7) = some 191 := zF_gA (show zOF 5 0 7 2 191 = true from rfl)
theorem ykx_PF7 {m : zQ} : ((zMk m).2.2 191).1 = 101 := zA_kd (show zOA 191 101 30 1 = true from rfl)
theorem yln_PF7 {m : zQ} : ((zMk m).2.2 191).2.length = 30 := zA_ln (show zOA 191 101 30 1 = true from rfl)
theorem yix_PF7 {m : zQ} {i : Int} (h0 : 0 ≤ i) (h1 : i < 30) : zIx (zMk m) 191 101 (zi i) = some i.toNat := zA_ix (show zOA 191 101 30 1 = true from rfl) h0 h1
theorem yge_PF7 {m : zQ} {i : Int} (h0 : 0 ≤ i) (h1 : i < 30) : zVL (zAt (zMk m) 191 101 i.toNat) = some (m.2.1 191 i) := zA_gL (show zOA 191 101 30 1 = true from rfl) h0 h1
theorem ype_PF7 {m : zQ} {i : Int} {x : Int64} (h0 : 0 ≤ i) (h1 : i < 30) : zPut (zMk m) 191 101 i.toNat (.long x) = some (zMk (wL m 191 i x)) := zA_pL (show zOA 191 101 30 1 = true from rfl) h0 h1
theorem yg_PF8 {m : zQ} : zVI (zAt (zMk m) 5 0 8) = some (zi (m.1 5 8)) := zF_gI (show zOF 5 0 8 0 0 = true from rfl)
theorem yp_PF8 {m : zQ} {x : Int} : zPut (zMk m) 5 0 8 (.int (zi x)) = some (zMk (wI m 5 8 x)) := zF_pI (show zOF 5 0 8 0 0 = true from rfl)
theorem yg_PF9 {m : zQ} : zVA (zAt (zMk m) 5 0 9) = some 192 := zF_gA (show zOF 5 0 9 2 192 = true from rfl)
theorem yg_PF10 {m : zQ} : zVA (zAt (zMk m) 5 0 10) = some 195 := zF_gA (show zOF 5 0 10 2 195 = true from rfl)
theorem yg_PF11 {m : zQ} : zVA (zAt (zMk m) 5 0 11) = some 198 := zF_gA (show zOF 5 0 11 2 198 = true from rfl)
theorem yg_PF12 {m : zQ} : zVA (zAt (zMk m) 5 0 12) = some 201 := zF_gA (show zOF 5 0 12 2 201 = true from rfl)
theorem ykx_PF12 {m : zQ} : ((zMk m).2.2 201).1 = 101 := zA_kd (show zOA 201 101 4 1 = true from rfl)
theorem yln_PF12 {m : zQ} : ((zMk m).2.2 201).2.length = 4 := zA_ln (show zOA 201 101 4 1 = true from rfl)
theorem yix_PF12 {m : zQ} {i : Int} (h0 : 0 ≤ i) (h1 : i < 4) : zIx (zMk m) 201 101 (zi i) = some i.toNat := zA_ix (show zOA 201 101 4 1 = true from rfl) h0 h1
theorem yge_PF12 {m : zQ} {i : Int} (h0 : 0 ≤ i) (h1 : i < 4) : zVL (zAt (zMk m) 201 101 i.toNat) = some (m.2.1 201 i) := zA_gL (show zOA 201 101 4 1 = true from rfl) h0 h1
theorem ype_PF12 {m : zQ} {i : Int} {x : Int64} (h0 : 0 ≤ i) (h1 : i < 4) : zPut (zMk m) 201 101 i.toNat (.long x) = some (zMk (wL m 201 i x)) := zA_pL (show zOA 201 101 4 1 = true from rfl) h0 h1
theorem yk_Md {m : zQ} : ((zMk m).2.2 202).1 = 10 := zM_kd (show 202 < 237 ∧ zKd 202 = 10 from by decide)
theorem yg_Md0 {m : zQ} : zVI (zAt (zMk m) 202 10 0) = some (zi (m.1 202 0)) := zF_gI (show zOF 202 10 0 0 0 = true from rfl)
theorem yp_Md0 {m : zQ} {x : Int} : zPut (zMk m) 202 10 0 (.int (zi x)) = some (zMk (wI m 202 0 x)) := zF_pI (show zOF 202 10 0 0 0 = true from rfl)
theorem yg_Md1 {m : zQ} : zVI (zAt (zMk m) 202 10 1) = some (zi (m.1 202 1)) := zF_gI (show zOF 202 10 1 0 0 = true from rfl)
theorem yp_Md1 {m : zQ} {x : Int} : zPut (zMk m) 202 10 1 (.int (zi x)) = some (zMk (wI m 202 1 x)) := zF_pI (show zOF 202 10 1 0 0 = true from rfl)
theorem yg_Md2 {m : zQ} : zVA (zAt (zMk m) 202 10 2) = some 203 := zF_gA (show zOF 202 10 2 2 203 = true from rfl)
theorem yg_Md3 {m : zQ} : zVA (zAt (zMk m) 202 10 3) = some (m.1 202 3).toNat := zF_gR (show zOF 202 10 3 3 0 = true from rfl)
theorem yp_Md3 {m : zQ} {x : Nat} : zPut (zMk m) 202 10 3 (.ref x) = some (zMk (wI m 202 3 x)) := zF_pR (show zOF 202 10 3 3 0 = true from rfl)
theorem yg_Md4 {m : zQ} : zVA (zAt (zMk m) 202 10 4) = some 217 := zF_gA (show zOF 202 10 4 2 217 = true from rfl)
theorem ykx_Md4 {m : zQ} : ((zMk m).2.2 217).1 = 100 := zA_kd (show zOA 217 100 1600 0 = true from rfl)
theorem yln_Md4 {m : zQ} : ((zMk m).2.2 217).2.length = 1600 := zA_ln (show zOA 217 100 1600 0 = true from rfl)
theorem yix_Md4 {m : zQ} {i : Int} (h0 : 0 ≤ i) (h1 : i < 1600) : zIx (zMk m) 217 100 (zi i) = some i.toNat := zA_ix (show zOA 217 100 1600 0 = true from rfl) h0 h1
theorem yge_Md4 {m : zQ} {i : Int} (h0 : 0 ≤ i) (h1 : i < 1600) : zVI (zAt (zMk m) 217 100 i.toNat) = some (zi (m.1 217 i)) := zA_gI (show zOA 217 100 1600 0 = true from rfl) h0 h1
theorem ype_Md4 {m : zQ} {i x : Int} (h0 : 0 ≤ i) (h1 : i < 1600) : zPut (zMk m) 217 100 i.toNat (.int (zi x)) = some (zMk (wI m 217 i x)) := zA_pI (show zOA 217 100 1600 0 = true from rfl) h0 h1
theorem yg_Md5 {m : zQ} : zVI (zAt (zMk m) 202 10 5) = some (zi (m.1 202 5)) := zF_gI (show zOF 202 10 5 0 0 = true from rfl)
theorem yp_Md5 {m : zQ} {x : Int} : zPut (zMk m) 202 10 5 (.int (zi x)) = some (zMk (wI m 202 5 x)) := zF_pI (show zOF 202 10 5 0 0 = true from rfl)
theorem yg_Md6 {m : zQ} : zVI (zAt (zMk m) 202 10 6) = some (zi (m.1 202 6)) := zF_gI (show zOF 202 10 6 0 0 = true from rfl)
theorem yp_Md6 {m : zQ} {x : Int} : zPut (zMk m) 202 10 6 (.int (zi x)) = some (zMk (wI m 202 6 x)) := zF_pI (show zOF 202 10 6 0 0 = true from rfl)
theorem yg_Md7 {m : zQ} : zVI (zAt (zMk m) 202 10 7) = some (zi (m.1 202 7)) := zF_gI (show zOF 202 10 7 0 0 = true from rfl)
theorem yp_Md7 {m : zQ} {x : Int} : zPut (zMk m) 202 10 7 (.int (zi x)) = some (zMk (wI m 202 7 x)) := zF_pI (show zOF 202 10 7 0 0 = true from rfl)
theorem yg_Md8 {m : zQ} : zVI (zAt (zMk m) 202 10 8) = some (zi (m.1 202 8)) := zF_gI (show zOF 202 10 8 0 0 = true from rfl)
theorem yp_Md8 {m : zQ} {x : Int} : zPut (zMk m) 202 10 8 (.int (zi x)) = some (zMk (wI m 202 8 x)) := zF_pI (show zOF 202 10 8 0 0 = true from rfl)
theorem yg_Md9 {m : zQ} : zVL (zAt (zMk m) 202 10 9) = some (m.2.1 202 9) := zF_gL (show zOF 202 10 9 1 0 = true from rfl)
theorem yp_Md9 {m : zQ} {x : Int64} : zPut (zMk m) 202 10 9 (.long x) = some (zMk (wL m 202 9 x)) := zF_pL (show zOF 202 10 9 1 0 = true from rfl)
theorem yg_Md10 {m : zQ} : zVA (zAt (zMk m) 202 10 10) = some 218 := zF_gA (show zOF 202 10 10 2 218 = true from rfl)
theorem ykx_Md10 {m : zQ} : ((zMk m).2.2 218).1 = 101 := zA_kd (show zOA 218 101 12 1 = true from rfl)
theorem yln_Md10 {m : zQ} : ((zMk m).2.2 218).2.length = 12 := zA_ln (show zOA 218 101 12 1 = true from rfl)
theorem yix_Md10 {m : zQ} {i : Int} (h0 : 0 ≤ i) (h1 : i < 12) : zIx (zMk m) 218 101 (zi i) = some i.toNat := zA_ix (show zOA 218 101 12 1 = true from rfl) h0 h1
theorem yge_Md10 {m : zQ} {i : Int} (h0 : 0 ≤ i) (h1 : i < 12) : zVL (zAt (zMk m) 218 101 i.toNat) = some (m.2.1 218 i) := zA_gL (show zOA 218 101 12 1 = true from rfl) h0 h1
theorem ype_Md10 {m : zQ} {i : Int} {x : Int64} (h0 : 0 ≤ i) (h1 : i < 12) : zPut (zMk m) 218 101 i.toNat (.long x) = some (zMk (wL m 218 i x)) := zA_pL (show zOA 218 101 12 1 = true from rfl) h0 h1
theorem yg_Md11 {m : zQ} : zVA (zAt (zMk m) 202 10 11) = some 219 := zF_gA (show zOF 202 10 11 2 219 = true from rfl)
theorem ykx_Md11 {m : zQ} : ((zMk m).2.2 219).1 = 101 := zA_kd (show zOA 219 101 12 1 = true from rfl)
theorem yln_Md11 {m : zQ} : ((zMk m).2.2 219).2.length = 12 := zA_ln (show zOA 219 101 12 1 = true from rfl)
theorem yix_Md11 {m : zQ} {i : Int} (h0 : 0 ≤ i) (h1 : i < 12) : zIx (zMk m) 219 101 (zi i) = some i.toNat := zA_ix (show zOA 219 101 12 1 = true from rfl) h0 h1
theorem yge_Md11 {m : zQ} {i : Int} (h0 : 0 ≤ i) (h1 : i < 12) : zVL (zAt (zMk m) 219 101 i.toNat) = some (m.2.1 219 i) := zA_gL (show zOA 219 101 12 1 = true from rfl) h0 h1
theorem ype_Md11 {m : zQ} {i : Int} {x : Int64} (h0 : 0 ≤ i) (h1 : i < 12) : zPut (zMk m) 219 101 i.toNat (.long x) = some (zMk (wL m 219 i x)) := zA_pL (show zOA 219 101 12 1 = true from rfl) h0 h1
theorem yg_Md12 {m : zQ} : zVA (zAt (zMk m) 202 10 12) = some 220 := zF_gA (show zOF 202 10 12 2 220 = true from rfl)
theorem ykx_Md12 {m : zQ} : ((zMk m).2.2 220).1 = 102 := zA_kd (show zOA 220 102 12 4 = true from rfl)
theorem yln_Md12 {m : zQ} : ((zMk m).2.2 220).2.length = 12 := zA_ln (show zOA 220 102 12 4 = true from rfl)
theorem yix_Md12 {m : zQ} {i : Int} (h0 : 0 ≤ i) (h1 : i < 12) : zIx (zMk m) 220 102 (zi i) = some i.toNat := zA_ix (show zOA 220 102 12 4 = true from rfl) h0 h1
theorem yge_Md12 {m : zQ} {i : Int} (h0 : 0 ≤ i) (h1 : i < 12) : zVI (zAt (zMk m) 220 102 i.toNat) = some (zi (if m.1 220 i = 0 then 0 else 1)) := zA_gB (show zOA 220 102 12 4 = true from rfl) h0 h1
theorem ype_Md12 {m : zQ} {i x : Int} (h0 : 0 ≤ i) (h1 : i < 12) (hx : x = 0 ∨ x = 1) : zPut (zMk m) 220 102 i.toNat (.int (zi x)) = some (zMk (wI m 220 i x)) := zA_pB (show zOA 220 102 12 4 = true from rfl) h0 h1 hx
theorem yg_Md13 {m : zQ} : zVA (zAt (zMk m) 202 10 13) = some 221 := zF_gA (show zOF 202 10 13 2 221 = true from rfl)
theorem ykx_Md13 {m : zQ} : ((zMk m).2.2 221).1 = 100 := zA_kd (show zOA 221 100 12 0 = true from rfl)
theorem yln_Md13 {m : zQ} : ((zMk m).2.2 221).2.length = 12 := zA_ln (show zOA 221 100 12 0 = true from rfl)
theorem yix_Md13 {m : zQ} {i : Int} (h0 : 0 ≤ i) (h1 : i < 12) : zIx (zMk m) 221 100 (zi i) = some i.toNat := zA_ix (show zOA 221 100 12 0 = true from rfl) h0 h1
theorem yge_Md13 {m : zQ} {i : Int} (h0 : 0 ≤ i) (h1 : i < 12) : zVI (zAt (zMk m) 221 100 i.toNat) = some (zi (m.1 221 i)) := zA_gI (show zOA 221 100 12 0 = true from rfl) h0 h1
theorem ype_Md13 {m : zQ} {i x : Int} (h0 : 0 ≤ i) (h1 : i < 12) : zPut (zMk m) 221 100 i.toNat (.int (zi x)) = some (zMk (wI m 221 i x)) := zA_pI (show zOA 221 100 12 0 = true from rfl) h0 h1
theorem yg_Md14 {m : zQ} : zVI (zAt (zMk m) 202 10 14) = some (zi (m.1 202 14)) := zF_gI (show zOF 202 10 14 0 0 = true from rfl)
theorem yp_Md14 {m : zQ} {x : Int} : zPut (zMk m) 202 10 14 (.int (zi x)) = some (zMk (wI m 202 14 x)) := zF_pI (show zOF 202 10 14 0 0 = true from rfl)
theorem yg_Md15 {m : zQ} : zVA (zAt (zMk m) 202 10 15) = some 222 := zF_gA (show zOF 202 10 15 2 222 = true from rfl)
theorem ykx_Md15 {m : zQ} : ((zMk m).2.2 222).1 = 100 := zA_kd (show zOA 222 100 81 0 = true from rfl)
theorem yln_Md15 {m : zQ} : ((zMk m).2.2 222).2.length = 81 := zA_ln (show zOA 222 100 81 0 = true from rfl)
theorem yix_Md15 {m : zQ} {i : Int} (h0 : 0 ≤ i) (h1 : i < 81) : zIx (zMk m) 222 100 (zi i) = some i.toNat := zA_ix (show zOA 222 100 81 0 = true from rfl) h0 h1
theorem yge_Md15 {m : zQ} {i : Int} (h0 : 0 ≤ i) (h1 : i < 81) : zVI (zAt (zMk m) 222 100 i.toNat) = some (zi (m.1 222 i)) := zA_gI (show zOA 222 100 81 0 = true from rfl) h0 h1
theorem ype_Md15 {m : zQ} {i x : Int} (h0 : 0 ≤ i) (h1 : i < 81) : zPut (zMk m) 222 100 i.toNat (.int (zi x)) = some (zMk (wI m 222 i x)) := zA_pI (show zOA 222 100 81 0 = true from rfl) h0 h1
theorem yg_Md16 {m : zQ} : zVA (zAt (zMk m) 202 10 16) = some 223 := zF_gA (show zOF 202 10 16 2 223 = true from rfl)
theorem ykx_Md16 {m : zQ} : ((zMk m).2.2 223).1 = 102 := zA_kd (show zOA 223 102 81 4 = true from rfl)
theorem yln_Md16 {m : zQ} : ((zMk m).2.2 223).2.length = 81 := zA_ln (show zOA 223 102 81 4 = true from rfl)
theorem yix_Md16 {m : zQ} {i : Int} (h0 : 0 ≤ i) (h1 : i < 81) : zIx (zMk m) 223 102 (zi i) = some i.toNat := zA_ix (show zOA 223 102 81 4 = true from rfl) h0 h1
theorem yge_Md16 {m : zQ} {i : Int} (h0 : 0 ≤ i) (h1 : i < 81) : zVI (zAt (zMk m) 223 102 i.toNat) = some (zi (if m.1 223 i = 0 then 0 else 1)) := zA_gB (show zOA 223 102 81 4 = true from rfl) h0 h1
theorem ype_Md16 {m : zQ} {i x : Int} (h0 : 0 ≤ i) (h1 : i < 81) (hx : x = 0 ∨ x = 1) : zPut (zMk m) 223 102 i.toNat (.int (zi x)) = some (zMk (wI m 223 i x)) := zA_pB (show zOA 223 102 81 4 = true from rfl) h0 h1 hx
theorem yg_Md17 {m : zQ} : zVA (zAt (zMk m) 202 10 17) = some 224 := zF_gA (show zOF 202 10 17 2 224 = true from rfl)
theorem ykx_Md17 {m : zQ} : ((zMk m).2.2 224).1 = 102 := zA_kd (show zOA 224 102 12 4 = true from rfl)
theorem yln_Md17 {m : zQ} : ((zMk m).2.2 224).2.length = 12 := zA_ln (show zOA 224 102 12 4 = true from rfl)
theorem yix_Md17 {m : zQ} {i : Int} (h0 : 0 ≤ i) (h1 : i < 12) : zIx (zMk m) 224 102 (zi i) = some i.toNat := zA_ix (show zOA 224 102 12 4 = true from rfl) h0 h1
theorem yge_Md17 {m : zQ} {i : Int} (h0 : 0 ≤ i) (h1 : i < 12) : zVI (zAt (zMk m) 224 102 i.toNat) = some (zi (if m.1 224 i = 0 then 0 else 1)) := zA_gB (show zOA 224 102 12 4 = true from rfl) h0 h1
theorem ype_Md17 {m : zQ} {i x : Int} (h0 : 0 ≤ i) (h1 : i < 12) (hx : x = 0 ∨ x = 1) : zPut (zMk m) 224 102 i.toNat (.int (zi x)) = some (zMk (wI m 224 i x)) := zA_pB (show zOA 224 102 12 4 = true from rfl) h0 h1 hx
theorem yg_Md18 {m : zQ} : zVA (zAt (zMk m) 202 10 18) = some 225 := zF_gA (show zOF 202 10 18 2 225 = true from rfl)
theorem ykx_Md18 {m : zQ} : ((zMk m).2.2 225).1 = 101 := zA_kd (show zOA 225 101 12 1 = true from rfl)
theorem yln_Md18 {m : zQ} : ((zMk m).2.2 225).2.length = 12 := zA_ln (show zOA 225 101 12 1 = true from rfl)
theorem yix_Md18 {m : zQ} {i : Int} (h0 : 0 ≤ i) (h1 : i < 12) : zIx (zMk m) 225 101 (zi i) = some i.toNat := zA_ix (show zOA 225 101 12 1 = true from rfl) h0 h1
theorem yge_Md18 {m : zQ} {i : Int} (h0 : 0 ≤ i) (h1 : i < 12) : zVL (zAt (zMk m) 225 101 i.toNat) = some (m.2.1 225 i) := zA_gL (show zOA 225 101 12 1 = true from rfl) h0 h1
theorem ype_Md18 {m : zQ} {i : Int} {x : Int64} (h0 : 0 ≤ i) (h1 : i < 12) : zPut (zMk m) 225 101 i.toNat (.long x) = some (zMk (wL m 225 i x)) := zA_pL (show zOA 225 101 12 1 = true from rfl) h0 h1
theorem yg_Md19 {m : zQ} : zVA (zAt (zMk m) 202 10 19) = some 226 := zF_gA (show zOF 202 10 19 2 226 = true from rfl)
theorem ykx_Md19 {m : zQ} : ((zMk m).2.2 226).1 = 100 := zA_kd (show zOA 226 100 12 0 = true from rfl)
theorem yln_Md19 {m : zQ} : ((zMk m).2.2 226).2.length = 12 := zA_ln (show zOA 226 100 12 0 = true from rfl)
theorem yix_Md19 {m : zQ} {i : Int} (h0 : 0 ≤ i) (h1 : i < 12) : zIx (zMk m) 226 100 (zi i) = some i.toNat := zA_ix (show zOA 226 100 12 0 = true from rfl) h0 h1
theorem yge_Md19 {m : zQ} {i : Int} (h0 : 0 ≤ i) (h1 : i < 12) : zVI (zAt (zMk m) 226 100 i.toNat) = some (zi (m.1 226 i)) := zA_gI (show zOA 226 100 12 0 = true from rfl) h0 h1
theorem ype_Md19 {m : zQ} {i x : Int} (h0 : 0 ≤ i) (h1 : i < 12) : zPut (zMk m) 226 100 i.toNat (.int (zi x)) = some (zMk (wI m 226 i x)) := zA_pI (show zOA 226 100 12 0 = true from rfl) h0 h1
theorem yg_Md20 {m : zQ} : zVI (zAt (zMk m) 202 10 20) = some (zi (m.1 202 20)) := zF_gI (show zOF 202 10 20 0 0 = true from rfl)
theorem yp_Md20 {m : zQ} {x : Int} : zPut (zMk m) 202 10 20 (.int (zi x)) = some (zMk (wI m 202 20 x)) := zF_pI (show zOF 202 10 20 0 0 = true from rfl)
theorem yg_Md21 {m : zQ} : zVA (zAt (zMk m) 202 10 21) = some 227 := zF_gA (show zOF 202 10 21 2 227 = true from rfl)
theorem ykx_Md21 {m : zQ} : ((zMk m).2.2 227).1 = 101 := zA_kd (show zOA 227 101 30 1 = true from rfl)
theorem yln_Md21 {m : zQ} : ((zMk m).2.2 227).2.length = 30 := zA_ln (show zOA 227 101 30 1 = true from rfl)
theorem yix_Md21 {m : zQ} {i : Int} (h0 : 0 ≤ i) (h1 : i < 30) : zIx (zMk m) 227 101 (zi i) = some i.toNat := zA_ix (show zOA 227 101 30 1 = true from rfl) h0 h1
theorem yge_Md21 {m : zQ} {i : Int} (h0 : 0 ≤ i) (h1 : i < 30) : zVL (zAt (zMk m) 227 101 i.toNat) = some (m.2.1 227 i) := zA_gL (show zOA 227 101 30 1 = true from rfl) h0 h1
theorem ype_Md21 {m : zQ} {i : Int} {x : Int64} (h0 : 0 ≤ i) (h1 : i < 30) : zPut (zMk m) 227 101 i.toNat (.long x) = some (zMk (wL m 227 i x)) := zA_pL (show zOA 227 101 30 1 = true from rfl) h0 h1
theorem yg_Md22 {m : zQ} : zVA (zAt (zMk m) 202 10 22) = some 228 := zF_gA (show zOF 202 10 22 2 228 = true from rfl)
theorem ykx_Md22 {m : zQ} : ((zMk m).2.2 228).1 = 101 := zA_kd (show zOA 228 101 12 1 = true from rfl)
theorem yln_Md22 {m : zQ} : ((zMk m).2.2 228).2.length = 12 := zA_ln (show zOA 228 101 12 1 = true from rfl)
theorem yix_Md22 {m : zQ} {i : Int} (h0 : 0 ≤ i) (h1 : i < 12) : zIx (zMk m) 228 101 (zi i) = some i.toNat := zA_ix (show zOA 228 101 12 1 = true from rfl) h0 h1
theorem yge_Md22 {m : zQ} {i : Int} (h0 : 0 ≤ i) (h1 : i < 12) : zVL (zAt (zMk m) 228 101 i.toNat) = some (m.2.1 228 i) := zA_gL (show zOA 228 101 12 1 = true from rfl) h0 h1
theorem ype_Md22 {m : zQ} {i : Int} {x : Int64} (h0 : 0 ≤ i) (h1 : i < 12) : zPut (zMk m) 228 101 i.toNat (.long x) = some (zMk (wL m 228 i x)) := zA_pL (show zOA 228 101 12 1 = true from rfl) h0 h1
theorem yg_Md23 {m : zQ} : zVA (zAt (zMk m) 202 10 23) = some 229 := zF_gA (show zOF 202 10 23 2 229 = true from rfl)
theorem ykx_Md23 {m : zQ} : ((zMk m).2.2 229).1 = 101 := zA_kd (show zOA 229 101 60 1 = true from rfl)
theorem yln_Md23 {m : zQ} : ((zMk m).2.2 229).2.length = 60 := zA_ln (show zOA 229 101 60 1 = true from rfl)
theorem yix_Md23 {m : zQ} {i : Int} (h0 : 0 ≤ i) (h1 : i < 60) : zIx (zMk m) 229 101 (zi i) = some i.toNat := zA_ix (show zOA 229 101 60 1 = true from rfl) h0 h1
theorem yge_Md23 {m : zQ} {i : Int} (h0 : 0 ≤ i) (h1 : i < 60) : zVL (zAt (zMk m) 229 101 i.toNat) = some (m.2.1 229 i) := zA_gL (show zOA 229 101 60 1 = true from rfl) h0 h1
theorem ype_Md23 {m : zQ} {i : Int} {x : Int64} (h0 : 0 ≤ i) (h1 : i < 60) : zPut (zMk m) 229 101 i.toNat (.long x) = some (zMk (wL m 229 i x)) := zA_pL (show zOA 229 101 60 1 = true from rfl) h0 h1
theorem yg_Md24 {m : zQ} : zVI (zAt (zMk m) 202 10 24) = some (zi (m.1 202 24)) := zF_gI (show zOF 202 10 24 0 0 = true from rfl)
theorem yp_Md24 {m : zQ} {x : Int} : zPut (zMk m) 202 10 24 (.int (zi x)) = some (zMk (wI m 202 24 x)) := zF_pI (show zOF 202 10 24 0 0 = true from rfl)
theorem yg_Md25 {m : zQ} : zVI (zAt (zMk m) 202 10 25) = some (zi (m.1 202 25)) := zF_gI (show zOF 202 10 25 0 0 = true from rfl)
theorem yp_Md25 {m : zQ} {x : Int} : zPut (zMk m) 202 10 25 (.int (zi x)) = some (zMk (wI m 202 25 x)) := zF_pI (show zOF 202 10 25 0 0 = true from rfl)
theorem yg_Md26 {m : zQ} : zVI (zAt (zMk m) 202 10 26) = some (zi (m.1 202 26)) := zF_gI (show zOF 202 10 26 0 0 = true from rfl)
theorem yp_Md26 {m : zQ} {x : Int} : zPut (zMk m) 202 10 26 (.int (zi x)) = some (zMk (wI m 202 26 x)) := zF_pI (show zOF 202 10 26 0 0 = true from rfl)
theorem yg_Md27 {m : zQ} : zVA (zAt (zMk m) 202 10 27) = some 230 := zF_gA (show zOF 202 10 27 2 230 = true from rfl)
theorem ykx_Md27 {m : zQ} : ((zMk m).2.2 230).1 = 101 := zA_kd (show zOA 230 101 12 1 = true from rfl)
theorem yln_Md27 {m : zQ} : ((zMk m).2.2 230).2.length = 12 := zA_ln (show zOA 230 101 12 1 = true from rfl)
theorem yix_Md27 {m : zQ} {i : Int} (h0 : 0 ≤ i) (h1 : i < 12) : zIx (zMk m) 230 101 (zi i) = some i.toNat := zA_ix (show zOA 230 101 12 1 = true from rfl) h0 h1
theorem yge_Md27 {m : zQ} {i : Int} (h0 : 0 ≤ i) (h1 : i < 12) : zVL (zAt (zMk m) 230 101 i.toNat) = some (m.2.1 230 i) := zA_gL (show zOA 230 101 12 1 = true from rfl) h0 h1
theorem ype_Md27 {m : zQ} {i : Int} {x : Int64} (h0 : 0 ≤ i) (h1 : i < 12) : zPut (zMk m) 230 101 i.toNat (.long x) = some (zMk (wL m 230 i x)) := zA_pL (show zOA 230 101 12 1 = true from rfl) h0 h1
theorem yg_Md28 {m : zQ} : zVA (zAt (zMk m) 202 10 28) = some 231 := zF_gA (show zOF 202 10 28 2 231 = true from rfl)
theorem ykx_Md28 {m : zQ} : ((zMk m).2.2 231).1 = 101 := zA_kd (show zOA 231 101 60 1 = true from rfl)
theorem yln_Md28 {m : zQ} : ((zMk m).2.2 231).2.length = 60 := zA_ln (show zOA 231 101 60 1 = true from rfl)
theorem yix_Md28 {m : zQ} {i : Int} (h0 : 0 ≤ i) (h1 : i < 60) : zIx (zMk m) 231 101 (zi i) = some i.toNat := zA_ix (show zOA 231 101 60 1 = true from rfl) h0 h1
theorem yge_Md28 {m : zQ} {i : Int} (h0 : 0 ≤ i) (h1 : i < 60) : zVL (zAt (zMk m) 231 101 i.toNat) = some (m.2.1 231 i) := zA_gL (show zOA 231 101 60 1 = true from rfl) h0 h1
theorem ype_Md28 {m : zQ} {i : Int} {x : Int64} (h0 : 0 ≤ i) (h1 : i < 60) : zPut (zMk m) 231 101 i.toNat (.long x) = some (zMk (wL m 231 i x)) := zA_pL (show zOA 231 101 60 1 = true from rfl) h0 h1
theorem yg_Md29 {m : zQ} : zVA (zAt (zMk m) 202 10 29) = some 232 := zF_gA (show zOF 202 10 29 2 232 = true from rfl)
theorem ykx_Md29 {m : zQ} : ((zMk m).2.2 232).1 = 100 := zA_kd (show zOA 232 100 3 0 = true from rfl)
theorem yln_Md29 {m : zQ} : ((zMk m).2.2 232).2.length = 3 := zA_ln (show zOA 232 100 3 0 = true from rfl)
theorem yix_Md29 {m : zQ} {i : Int} (h0 : 0 ≤ i) (h1 : i < 3) : zIx (zMk m) 232 100 (zi i) = some i.toNat := zA_ix (show zOA 232 100 3 0 = true from rfl) h0 h1
theorem yge_Md29 {m : zQ} {i : Int} (h0 : 0 ≤ i) (h1 : i < 3) : zVI (zAt (zMk m) 232 100 i.toNat) = some (zi (m.1 232 i)) := zA_gI (show zOA 232 100 3 0 = true from rfl) h0 h1
theorem ype_Md29 {m : zQ} {i x : Int} (h0 : 0 ≤ i) (h1 : i < 3) : zPut (zMk m) 232 100 i.toNat (.int (zi x)) = some (zMk (wI m 232 i x)) := zA_pI (show zOA 232 100 3 0 = true from rfl) h0 h1
theorem yg_Md30 {m : zQ} : zVA (zAt (zMk m) 202 10 30) = some 233 := zF_gA (show zOF 202 10 30 2 233 = true from rfl)
theorem ykx_Md30 {m : zQ} : ((zMk m).2.2 233).1 = 101 := zA_kd (show zOA 233 101 4 1 = true from rfl)
theorem yln_Md30 {m : zQ} : ((zMk m).2.2 233).2.length = 4 := zA_ln (show zOA 233 101 4 1 = true from rfl)
theorem yix_Md30 {m : zQ} {i : Int} (h0 : 0 ≤ i) (h1 : i < 4) : zIx (zMk m) 233 101 (zi i) = some i.toNat := zA_ix (show zOA 233 101 4 1 = true from rfl) h0 h1
theorem yge_Md30 {m : zQ} {i : Int} (h0 : 0 ≤ i) (h1 : i < 4) : zVL (zAt (zMk m) 233 101 i.toNat) = some (m.2.1 233 i) := zA_gL (show zOA 233 101 4 1 = true from rfl) h0 h1
theorem ype_Md30 {m : zQ} {i : Int} {x : Int64} (h0 : 0 ≤ i) (h1 : i < 4) : zPut (zMk m) 233 101 i.toNat (.long x) = some (zMk (wL m 233 i x)) := zA_pL (show zOA 233 101 4 1 = true from rfl) h0 h1
theorem yg_Md31 {m : zQ} : zVA (zAt (zMk m) 202 10 31) = some 234 := zF_gA (show zOF 202 10 31 2 234 = true from rfl)
theorem ykx_Md31 {m : zQ} : ((zMk m).2.2 234).1 = 101 := zA_kd (show zOA 234 101 60 1 = true from rfl)
theorem yln_Md31 {m : zQ} : ((zMk m).2.2 234).2.length = 60 := zA_ln (show zOA 234 101 60 1 = true from rfl)
theorem yix_Md31 {m : zQ} {i : Int} (h0 : 0 ≤ i) (h1 : i < 60) : zIx (zMk m) 234 101 (zi i) = some i.toNat := zA_ix (show zOA 234 101 60 1 = true from rfl) h0 h1
theorem yge_Md31 {m : zQ} {i : Int} (h0 : 0 ≤ i) (h1 : i < 60) : zVL (zAt (zMk m) 234 101 i.toNat) = some (m.2.1 234 i) := zA_gL (show zOA 234 101 60 1 = true from rfl) h0 h1
theorem ype_Md31 {m : zQ} {i : Int} {x : Int64} (h0 : 0 ≤ i) (h1 : i < 60) : zPut (zMk m) 234 101 i.toNat (.long x) = some (zMk (wL m 234 i x)) := zA_pL (show zOA 234 101 60 1 = true from rfl) h0 h1
theorem yT_oa {t : Nat} (q1 : 204 ≤ t) (q2 : t ≤ 216) : zOA t 101 570 1 = true := by
  have q : t = 204 ∨ t = 205 ∨ t = 206 ∨ t = 207 ∨ t = 208 ∨ t = 209 ∨ t = 210 ∨ t = 211 ∨ t = 212 ∨ t = 213 ∨ t = 214 ∨ t = 215 ∨ t = 216 := by omega
  rcases q with rfl | rfl | rfl | rfl | rfl | rfl | rfl | rfl | rfl | rfl | rfl | rfl | rfl <;> rfl
theorem ykx_T {m : zQ} {t : Nat} (q1 : 204 ≤ t) (q2 : t ≤ 216) : ((zMk m).2.2 t).1 = 101 := zA_kd (yT_oa q1 q2)
theorem yln_T {m : zQ} {t : Nat} (q1 : 204 ≤ t) (q2 : t ≤ 216) : ((zMk m).2.2 t).2.length = 570 := zA_ln (yT_oa q1 q2)
theorem yix_T {m : zQ} {t : Nat} (q1 : 204 ≤ t) (q2 : t ≤ 216) {i : Int} (h0 : 0 ≤ i) (h1 : i < 570) : zIx (zMk m) t 101 (zi i) = some i.toNat := zA_ix (yT_oa q1 q2) h0 h1
theorem yge_T {m : zQ} {t : Nat} (q1 : 204 ≤ t) (q2 : t ≤ 216) {i : Int} (h0 : 0 ≤ i) (h1 : i < 570) : zVL (zAt (zMk m) t 101 i.toNat) = some (m.2.1 t i) := zA_gL (yT_oa q1 q2) h0 h1
theorem ype_T {m : zQ} {t : Nat} (q1 : 204 ≤ t) (q2 : t ≤ 216) {i : Int} {x : Int64} (h0 : 0 ≤ i) (h1 : i < 570) : zPut (zMk m) t 101 i.toNat (.long x) = some (zMk (wL m t i x)) := zA_pL (yT_oa q1 q2) h0 h1
theorem yix_row {m : zQ} {i : Int} (h0 : 0 ≤ i) (h1 : i < 12) : zIx (zMk m) 6 110 (zi i) = some i.toNat := zM_ix (by decide) rfl (zLn_of (by decide) rfl) (by decide) h0 h1
theorem yrow_cases {i : Int} (h0 : 0 ≤ i) (h1 : i < 12) : i = 0 ∨ i = 1 ∨ i = 2 ∨ i = 3 ∨ i = 4 ∨ i = 5 ∨ i = 6 ∨ i = 7 ∨ i = 8 ∨ i = 9 ∨ i = 10 ∨ i = 11 := by omega
theorem yge_row {m : zQ} {i : Int} (h0 : 0 ≤ i) (h1 : i < 12) : zVA (zAt (zMk m) 6 110 i.toNat) = some (7 + 13 * i.toNat) := by
  rcases yrow_cases h0 h1 with rfl | rfl | rfl | rfl | rfl | rfl | rfl | rfl | rfl | rfl | rfl | rfl <;> exact zF_gA (show zOF 6 110 _ 2 _ = true from rfl)
theorem yP_row {i : Int} (h0 : 0 ≤ i) (h1 : i < 12) : yP (7 + 13 * i.toNat) := by
  unfold yP
  rcases yrow_cases h0 h1 with rfl | rfl | rfl | rfl | rfl | rfl | rfl | rfl | rfl | rfl | rfl | rfl <;> decide
theorem yix_tab {m : zQ} {i : Int} (h0 : 0 ≤ i) (h1 : i < 12) : zIx (zMk m) 203 111 (zi i) = some i.toNat := zM_ix (by decide) rfl (zLn_of (by decide) rfl) (by decide) h0 h1
theorem yge_tab {m : zQ} {i : Int} (h0 : 0 ≤ i) (h1 : i < 12) : zVA (zAt (zMk m) 203 111 i.toNat) = some (204 + i.toNat) := by
  rcases yrow_cases h0 h1 with rfl | rfl | rfl | rfl | rfl | rfl | rfl | rfl | rfl | rfl | rfl | rfl <;> exact zF_gA (show zOF 203 111 _ 2 _ = true from rfl)
theorem yln_row {m : zQ} : ((zMk m).2.2 6).2.length = 12 := zM_ln (by decide)
theorem ykx_row {m : zQ} : ((zMk m).2.2 6).1 = 110 := zM_kd (by decide)
theorem yln_tab {m : zQ} : ((zMk m).2.2 203).2.length = 12 := zM_ln (by decide)
theorem ykx_tab {m : zQ} : ((zMk m).2.2 203).1 = 111 := zM_kd (by decide)
end ZCELLS
