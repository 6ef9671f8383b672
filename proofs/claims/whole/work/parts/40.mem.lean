/-! Heaps as they lie after the law's constructors: numbers at places (I: ints, L: longs), the cells behind them (G), the counts. -/
section ZMEM
abbrev zQ : Type := (Nat → Int → Int) × (Nat → Int → Int64) × (Nat → zC) × Nat × Nat

def yKL : List Nat := [106, 12, 103, 12, 103, 0, 110, 1, 100, 100, 100, 100, 100, 101, 101, 102, 100, 100, 100, 100, 1, 100, 100, 100, 100, 100, 101, 101, 102, 100, 100, 100, 100, 1, 100, 100, 100, 100, 100, 101, 101, 102, 100, 100, 100, 100, 1, 100, 100, 100, 100, 100, 101, 101, 102, 100, 100, 100, 100, 1, 100, 100, 100, 100, 100, 101, 101, 102, 100, 100, 100, 100, 1, 100, 100, 100, 100, 100, 101, 101, 102, 100, 100, 100, 100, 1, 100, 100, 100, 100, 100, 101, 101, 102, 100, 100, 100, 100, 1, 100, 100, 100, 100, 100, 101, 101, 102, 100, 100, 100, 100, 1, 100, 100, 100, 100, 100, 101, 101, 102, 100, 100, 100, 100, 1, 100, 100, 100, 100, 100, 101, 101, 102, 100, 100, 100, 100, 1, 100, 100, 100, 100, 100, 101, 101, 102, 100, 100, 100, 100, 1, 100, 100, 100, 100, 100, 101, 101, 102, 100, 100, 100, 100, 2, 100, 3, 4, 100, 100, 101, 5, 101, 100, 102, 5, 101, 100, 102, 6, 102, 100, 100, 7, 102, 101, 100, 8, 6, 102, 100, 100, 101, 9, 101, 101, 9, 101, 101, 9, 101, 101, 101, 10, 111, 101, 101, 101, 101, 101, 101, 101, 101, 101, 101, 101, 101, 101, 100, 101, 101, 102, 100, 100, 102, 102, 101, 100, 101, 101, 101, 101, 101, 100, 101, 101, 101, 105]
def yLL : List Nat := [0, 2, 10, 2, 20, 13, 12, 18, 81, 81, 81, 81, 81, 81, 81, 81, 81, 12, 12, 81, 18, 81, 81, 81, 81, 81, 81, 81, 81, 81, 12, 12, 81, 18, 81, 81, 81, 81, 81, 81, 81, 81, 81, 12, 12, 81, 18, 81, 81, 81, 81, 81, 81, 81, 81, 81, 12, 12, 81, 18, 81, 81, 81, 81, 81, 81, 81, 81, 81, 12, 12, 81, 18, 81, 81, 81, 81, 81, 81, 81, 81, 81, 12, 12, 81, 18, 81, 81, 81, 81, 81, 81, 81, 81, 81, 12, 12, 81, 18, 81, 81, 81, 81, 81, 81, 81, 81, 81, 12, 12, 81, 18, 81, 81, 81, 81, 81, 81, 81, 81, 81, 12, 12, 81, 18, 81, 81, 81, 81, 81, 81, 81, 81, 81, 12, 12, 81, 18, 81, 81, 81, 81, 81, 81, 81, 81, 81, 12, 12, 81, 18, 81, 81, 81, 81, 81, 81, 81, 81, 81, 12, 12, 81, 2, 1600, 13, 5, 1601, 1601, 1601, 4, 12, 12, 12, 4, 12, 12, 12, 3, 80, 80, 80, 3, 12, 12, 12, 1, 3, 80, 80, 80, 30, 6, 12, 60, 6, 12, 60, 6, 12, 60, 4, 32, 12, 570, 570, 570, 570, 570, 570, 570, 570, 570, 570, 570, 570, 570, 1600, 12, 12, 12, 12, 81, 81, 12, 12, 12, 30, 12, 60, 12, 60, 3, 4, 60, 1, 1]
def yOL : List (List (Nat × Nat)) := [[], [(2, 2), (0, 0)], [], [(2, 4), (0, 0)], [], [(2, 6), (0, 0), (2, 163), (2, 165), (2, 178), (2, 182), (2, 186), (2, 191), (0, 0), (2, 192), (2, 195), (2, 198), (2, 201)], [(2, 7), (2, 20), (2, 33), (2, 46), (2, 59), (2, 72), (2, 85), (2, 98), (2, 111), (2, 124), (2, 137), (2, 150)], [(2, 8), (2, 9), (2, 10), (2, 11), (2, 12), (2, 13), (2, 14), (2, 15), (2, 16), (2, 17), (2, 18), (2, 19), (0, 0), (0, 0), (0, 0), (0, 0), (0, 0), (0, 0)], [], [], [], [], [], [], [], [], [], [], [], [], [(2, 21), (2, 22), (2, 23), (2, 24), (2, 25), (2, 26), (2, 27), (2, 28), (2, 29), (2, 30), (2, 31), (2, 32), (0, 0), (0, 0), (0, 0), (0, 0), (0, 0), (0, 0)], [], [], [], [], [], [], [], [], [], [], [], [], [(2, 34), (2, 35), (2, 36), (2, 37), (2, 38), (2, 39), (2, 40), (2, 41), (2, 42), (2, 43), (2, 44), (2, 45), (0, 0), (0, 0), (0, 0), (0, 0), (0, 0), (0, 0)], [], [], [], [], [], [], [], [], [], [], [], [], [(2, 47), (2, 48), (2, 49), (2, 50), (2, 51), (2, 52), (2, 53), (2, 54), (2, 55), (2, 56), (2, 57), (2, 58), (0, 0), (0, 0), (0, 0), (0, 0), (0, 0), (0, 0)], [], [], [], [], [], [], [], [], [], [], [], [], [(2, 60), (2, 61), (2, 62), (2, 63), (2, 64), (2, 65), (2, 66), (2, 67), (2, 68), (2, 69), (2, 70), (2, 71), (0, 0), (0, 0), (0, 0), (0, 0), (0, 0), (0, 0)], [], [], [], [], [], [], [], [], [], [], [], [], [(2, 73), (2, 74), (2, 75), (2, 76), (2, 77), (2, 78), (2, 79), (2, 80), (2, 81), (2, 82), (2, 83), (2, 84), (0, 0), (0, 0), (0, 0), (0, 0), (0, 0), (0, 0)], [], [], [], [], [], [], [], [], [], [], [], [], [(2, 86), (2, 87), (2, 88), (2, 89), (2, 90), (2, 91), (2, 92), (2, 93), (2, 94), (2, 95), (2, 96), (2, 97), (0, 0), (0, 0), (0, 0), (0, 0), (0, 0), (0, 0)], [], [], [], [], [], [], [], [], [], [], [], [], [(2, 99), (2, 100), (2, 101), (2, 102), (2, 103), (2, 104), (2, 105), (2, 106), (2, 107), (2, 108), (2, 109), (2, 110), (0, 0), (0, 0), (0, 0), (0, 0), (0, 0), (0, 0)], [], [], [], [], [], [], [], [], [], [], [], [], [(2, 112), (2, 113), (2, 114), (2, 115), (2, 116), (2, 117), (2, 118), (2, 119), (2, 120), (2, 121), (2, 122), (2, 123), (0, 0), (0, 0), (0, 0), (0, 0), (0, 0), (0, 0)], [], [], [], [], [], [], [], [], [], [], [], [], [(2, 125), (2, 126), (2, 127), (2, 128), (2, 129), (2, 130), (2, 131), (2, 132), (2, 133), (2, 134), (2, 135), (2, 136), (0, 0), (0, 0), (0, 0), (0, 0), (0, 0), (0, 0)], [], [], [], [], [], [], [], [], [], [], [], [], [(2, 138), (2, 139), (2, 140), (2, 141), (2, 142), (2, 143), (2, 144), (2, 145), (2, 146), (2, 147), (2, 148), (2, 149), (0, 0), (0, 0), (0, 0), (0, 0), (0, 0), (0, 0)], [], [], [], [], [], [], [], [], [], [], [], [], [(2, 151), (2, 152), (2, 153), (2, 154), (2, 155), (2, 156), (2, 157), (2, 158), (2, 159), (2, 160), (2, 161), (2, 162), (0, 0), (0, 0), (0, 0), (0, 0), (0, 0), (0, 0)], [], [], [], [], [], [], [], [], [], [], [], [], [(2, 164), (0, 0)], [], [(2, 166), (2, 170), (2, 174), (0, 0), (0, 0), (0, 0), (0, 0), (0, 0), (1, 0), (0, 0), (1, 0), (0, 0), (1, 0)], [(2, 167), (2, 168), (2, 169), (0, 0), (0, 0)], [], [], [], [(2, 171), (2, 172), (2, 173), (0, 0)], [], [], [], [(2, 175), (2, 176), (2, 177), (0, 0)], [], [], [], [(2, 179), (2, 180), (2, 181)], [], [], [], [(2, 183), (2, 184), (2, 185)], [], [], [], [(2, 187)], [(2, 188), (2, 189), (2, 190)], [], [], [], [], [(2, 193), (2, 194), (0, 0), (0, 0), (0, 0), (4, 0)], [], [], [(2, 196), (2, 197), (0, 0), (0, 0), (0, 0), (4, 0)], [], [], [(2, 199), (2, 200), (0, 0), (0, 0), (0, 0), (4, 0)], [], [], [], [(0, 0), (0, 0), (2, 203), (3, 0), (2, 217), (0, 0), (0, 0), (0, 0), (0, 0), (1, 0), (2, 218), (2, 219), (2, 220), (2, 221), (0, 0), (2, 222), (2, 223), (2, 224), (2, 225), (2, 226), (0, 0), (2, 227), (2, 228), (2, 229), (0, 0), (0, 0), (0, 0), (2, 230), (2, 231), (2, 232), (2, 233), (2, 234)], [(2, 204), (2, 205), (2, 206), (2, 207), (2, 208), (2, 209), (2, 210), (2, 211), (2, 212), (2, 213), (2, 214), (2, 215)], [], [], [], [], [], [], [], [], [], [], [], [], [], [], [], [], [], [], [], [], [], [], [], [], [], [], [], [], [], [], [], [], []]
def zKd (a : Nat) : Nat := yKL.getD a 50
def zLn (I : Nat → Int → Int) (a : Nat) : Nat := if a = 0 then (I 0 (-1)).toNat else yLL.getD a 0
/-- what kind of value: 0 int, 1 long, 2 a cell for good, 3 a cell that changes, 4 boolean, 5 double -/
def zTp (a j : Nat) : Nat × Nat := match zKd a with
  | 100 => (0, 0)
  | 101 => (1, 0)
  | 102 => (4, 0)
  | 103 => (0, 0)
  | 105 => (5, 0)
  | 106 => (0, 0)
  | _ => (yOL.getD a []).getD j (0, 0)
def zVal (I : Nat → Int → Int) (L : Nat → Int → Int64) (a j : Nat) : Value := match zTp a j with
  | (0, _) => .int (zi (I a j))
  | (1, _) => .long (L a j)
  | (2, r) => .ref r
  | (3, _) => .ref (I a j).toNat
  | (4, _) => .int (zi (if I a j = 0 then 0 else 1))
  | _ => .double (L a j).toUInt64
def zCel (I : Nat → Int → Int) (L : Nat → Int → Int64) (a : Nat) : zC := (zKd a, (List.range (zLn I a)).map (zVal I L a))
def zMk (m : zQ) : zH := (237 + m.2.2.2.1, m.2.2.2.2, fun a => if a < 237 then zCel m.1 m.2.1 a else m.2.2.1 a)
def wI (m : zQ) (a : Nat) (j x : Int) : zQ := (fun b k => if b = a ∧ k = j then x else m.1 b k, m.2)
def wL (m : zQ) (a : Nat) (j : Int) (x : Int64) : zQ := (m.1, fun b k => if b = a ∧ k = j then x else m.2.1 b k, m.2.2)
theorem wI_eq (m : zQ) (a : Nat) (j x : Int) : (wI m a j x).1 a j = x := by simp [wI]
theorem wI_ne {m : zQ} {a b : Nat} {j k x : Int} (h : ¬ (b = a ∧ k = j)) : (wI m a j x).1 b k = m.1 b k := by simp only [wI, if_neg h]
theorem wL_eq (m : zQ) (a : Nat) (j : Int) (x : Int64) : (wL m a j x).2.1 a j = x := by simp [wL]
theorem wL_ne {m : zQ} {a b : Nat} {j k : Int} {x : Int64} (h : ¬ (b = a ∧ k = j)) : (wL m a j x).2.1 b k = m.2.1 b k := by simp only [wL, if_neg h]
theorem wI_2 (m : zQ) (a : Nat) (j x : Int) : (wI m a j x).2 = m.2 := rfl
theorem wL_1 (m : zQ) (a : Nat) (j : Int) (x : Int64) : (wL m a j x).1 = m.1 := rfl
theorem wL_2 (m : zQ) (a : Nat) (j : Int) (x : Int64) : (wL m a j x).2.2 = m.2.2 := rfl
theorem zMk_n (m : zQ) : (zMk m).1 = 237 + m.2.2.2.1 := rfl
theorem zMk_c {m : zQ} {a : Nat} (h : a < 237) : (zMk m).2.2 a = zCel m.1 m.2.1 a := if_pos h
theorem zM_at {m : zQ} {a kd j : Nat} (h1 : a < 237) (h2 : zKd a = kd) (h3 : j < zLn m.1 a) : zAt (zMk m) a kd j = some (zVal m.1 m.2.1 a j) := by
  unfold zAt
  rw [zMk_c h1]
  simp only [zCel, h2, if_true]
  rw [List.getElem?_map, List.getElem?_range h3]
  rfl
theorem zM_ix {m : zQ} {a kd n : Nat} {i : Int} (h1 : a < 237) (h2 : zKd a = kd) (h3 : zLn m.1 a = n) (hn : n < 2147483648) (h0 : 0 ≤ i) (hi : i < n) : zIx (zMk m) a kd (zi i) = some i.toNat := by
  have e1 : ¬ (zi i < 0) := by
    show ¬ (zi i < zi 0)
    rw [zi, zi, Int32.lt_iff_toInt_lt, Int32.toInt_ofInt_of_le (by simp; omega) (by simp; omega), Int32.toInt_ofInt_of_le (by decide) (by decide)]
    omega
  have e2 : (zi i).toNatClampNeg = i.toNat := by
    rw [zi, Int32.toNatClampNeg, Int32.toInt_ofInt_of_le (by simp; omega) (by simp; omega)]
  unfold zIx
  rw [zMk_c h1, e2]
  simp only [zCel, h2, List.length_map, List.length_range, h3]
  have e3 : ¬ (zi i < 0 ∨ n ≤ i.toNat) := fun q => q.elim e1 (by omega)
  rw [if_pos ⟨trivial, e3⟩]
theorem zM_set {m m' : zQ} {a kd j : Nat} {v : Value} (h1 : a < 237) (h0 : a ≠ 0) (h2 : zKd a = kd) (h3 : j < zLn m.1 a) (e2 : m'.2.2 = m.2.2) (eo : ∀ b k, b ≠ a → zVal m'.1 m'.2.1 b k = zVal m.1 m.2.1 b k) (e0 : m'.1 0 (-1) = m.1 0 (-1)) (ea : zVal m'.1 m'.2.1 a j = v) (ek : ∀ k, k ≠ j → zVal m'.1 m'.2.1 a k = zVal m.1 m.2.1 a k) : zPut (zMk m) a kd j v = some (zMk m') := by
  have el : ∀ b, zLn m'.1 b = zLn m.1 b := fun b => by unfold zLn; split <;> simp only [e0]
  unfold zPut
  rw [zMk_c h1]
  simp only [zCel, h2, List.length_map, List.length_range, true_and, if_pos h3]
  refine congrArg some ?_
  unfold zSet zMk
  rw [e2]
  refine Prod.ext rfl (Prod.ext rfl (funext fun b => ?_))
  show zUpd _ a _ b = _
  unfold zUpd
  by_cases hb : b = a
  · subst hb
    simp only [if_true, if_pos h1, zCel, h2, el]
    refine Prod.ext rfl (List.ext_getElem? fun k => ?_)
    simp only [List.getElem?_set, List.length_map, List.length_range, List.getElem?_map]
    by_cases hk : j = k
    · subst hk
      simp only [if_true, if_pos h3, List.getElem?_range h3, Option.map_some, ea]
    · simp only [if_neg hk]
      by_cases hl : k < zLn m.1 b
      · simp only [List.getElem?_range hl, Option.map_some, ek k (fun z => hk z.symm)]
      · rw [List.getElem?_eq_none (by simp; omega)]; rfl
  · simp only [if_neg hb]
    split
    · unfold zCel
      rw [el]
      refine Prod.ext rfl (List.ext_getElem? fun k => ?_)
      simp only [List.getElem?_map]
      rw [show zVal m'.1 m'.2.1 b = zVal m.1 m.2.1 b from funext fun k => eo b k hb]
    · rfl
theorem zVal_oI {I I' : Nat → Int → Int} {L L' : Nat → Int → Int64} {b k : Nat} (h1 : I' b k = I b k) (h2 : L' b k = L b k) : zVal I' L' b k = zVal I L b k := by
  unfold zVal
  rw [h1, h2]
theorem zM_wI {m : zQ} {a kd j : Nat} {x : Int} (h : a < 237 ∧ a ≠ 0 ∧ zKd a = kd ∧ zTp a j = (0, 0)) (h3 : j < zLn m.1 a) : zPut (zMk m) a kd j (.int (zi x)) = some (zMk (wI m a j x)) := by
  refine zM_set h.1 h.2.1 h.2.2.1 h3 rfl (fun b k hb => zVal_oI (wI_ne fun z => hb z.1) rfl) (wI_ne fun z => h.2.1 z.1.symm) ?_ (fun k hk => zVal_oI (wI_ne fun z => hk (by omega)) rfl)
  simp only [zVal, h.2.2.2, wI_eq]
theorem zM_wB {m : zQ} {a kd j : Nat} {x : Int} (h : a < 237 ∧ a ≠ 0 ∧ zKd a = kd ∧ zTp a j = (4, 0)) (h3 : j < zLn m.1 a) (hx : x = 0 ∨ x = 1) : zPut (zMk m) a kd j (.int (zi x)) = some (zMk (wI m a j x)) := by
  refine zM_set h.1 h.2.1 h.2.2.1 h3 rfl (fun b k hb => zVal_oI (wI_ne fun z => hb z.1) rfl) (wI_ne fun z => h.2.1 z.1.symm) ?_ (fun k hk => zVal_oI (wI_ne fun z => hk (by omega)) rfl)
  simp only [zVal, h.2.2.2, wI_eq]
  rcases hx with rfl | rfl <;> rfl
theorem zM_wA {m : zQ} {a kd j : Nat} {x : Nat} (h : a < 237 ∧ a ≠ 0 ∧ zKd a = kd ∧ zTp a j = (3, 0)) (h3 : j < zLn m.1 a) : zPut (zMk m) a kd j (.ref x) = some (zMk (wI m a j x)) := by
  refine zM_set h.1 h.2.1 h.2.2.1 h3 rfl (fun b k hb => zVal_oI (wI_ne fun z => hb z.1) rfl) (wI_ne fun z => h.2.1 z.1.symm) ?_ (fun k hk => zVal_oI (wI_ne fun z => hk (by omega)) rfl)
  simp only [zVal, h.2.2.2, wI_eq, Int.toNat_natCast]
theorem zM_wL {m : zQ} {a kd j : Nat} {x : Int64} (h : a < 237 ∧ a ≠ 0 ∧ zKd a = kd ∧ zTp a j = (1, 0)) (h3 : j < zLn m.1 a) : zPut (zMk m) a kd j (.long x) = some (zMk (wL m a j x)) := by
  refine zM_set h.1 h.2.1 h.2.2.1 h3 rfl (fun b k hb => zVal_oI rfl (wL_ne fun z => hb z.1)) rfl ?_ (fun k hk => zVal_oI rfl (wL_ne fun z => hk (by omega)))
  simp only [zVal, h.2.2.2, wL_eq]
theorem zM_VI {m : zQ} {a kd j : Nat} (h : a < 237 ∧ zKd a = kd ∧ zTp a j = (0, 0)) (h3 : j < zLn m.1 a) : zVI (zAt (zMk m) a kd j) = some (zi (m.1 a j)) := by
  rw [zM_at h.1 h.2.1 h3]; simp only [zVal, h.2.2, zVI]
theorem zM_VB {m : zQ} {a kd j : Nat} (h : a < 237 ∧ zKd a = kd ∧ zTp a j = (4, 0)) (h3 : j < zLn m.1 a) : zVI (zAt (zMk m) a kd j) = some (zi (if m.1 a j = 0 then 0 else 1)) := by
  rw [zM_at h.1 h.2.1 h3]; simp only [zVal, h.2.2, zVI]
theorem zM_VL {m : zQ} {a kd j : Nat} (h : a < 237 ∧ zKd a = kd ∧ zTp a j = (1, 0)) (h3 : j < zLn m.1 a) : zVL (zAt (zMk m) a kd j) = some (m.2.1 a j) := by
  rw [zM_at h.1 h.2.1 h3]; simp only [zVal, h.2.2, zVL]
theorem zM_VA {m : zQ} {a kd j r : Nat} (h : a < 237 ∧ zKd a = kd ∧ zTp a j = (2, r)) (h3 : j < zLn m.1 a) : zVA (zAt (zMk m) a kd j) = some r := by
  rw [zM_at h.1 h.2.1 h3]; simp only [zVal, h.2.2, zVA]
theorem zM_VR {m : zQ} {a kd j : Nat} (h : a < 237 ∧ zKd a = kd ∧ zTp a j = (3, 0)) (h3 : j < zLn m.1 a) : zVA (zAt (zMk m) a kd j) = some (m.1 a j).toNat := by
  rw [zM_at h.1 h.2.1 h3]; simp only [zVal, h.2.2, zVA]
theorem zM_VD {m : zQ} {a kd j : Nat} (h : a < 237 ∧ zKd a = kd ∧ zTp a j = (5, 0)) (h3 : j < zLn m.1 a) : zVD (zAt (zMk m) a kd j) = some (m.2.1 a j).toUInt64 := by
  rw [zM_at h.1 h.2.1 h3]; simp only [zVal, h.2.2, zVD]
theorem zM_wD {m : zQ} {a kd j : Nat} {x : UInt64} (h : a < 237 ∧ a ≠ 0 ∧ zKd a = kd ∧ zTp a j = (5, 0)) (h3 : j < zLn m.1 a) : zPut (zMk m) a kd j (.double x) = some (zMk (wL m a j x.toInt64)) := by
  refine zM_set h.1 h.2.1 h.2.2.1 h3 rfl (fun b k hb => zVal_oI rfl (wL_ne fun z => hb z.1)) rfl ?_ (fun k hk => zVal_oI rfl (wL_ne fun z => hk (by omega)))
  simp only [zVal, h.2.2.2, wL_eq]
  rfl
theorem zM_kd {m : zQ} {a kd : Nat} (h : a < 237 ∧ zKd a = kd) : ((zMk m).2.2 a).1 = kd := by
  rw [zMk_c h.1]; exact h.2
theorem zM_ln {m : zQ} {a n : Nat} (h : a < 237 ∧ a ≠ 0 ∧ yLL.getD a 0 = n) : ((zMk m).2.2 a).2.length = n := by
  rw [zMk_c h.1]; simp only [zCel, List.length_map, List.length_range, zLn, if_neg h.2.1, h.2.2]
theorem zLn_of {I : Nat → Int → Int} {a n : Nat} (h0 : a ≠ 0) (h : yLL.getD a 0 = n) : zLn I a = n := by unfold zLn; rw [if_neg h0, h]
/-- one check for an array of a kind and a length; one for a field -/
def zOA (a kd n ty : Nat) : Bool := Nat.ble 1 a && Nat.ble (a + 1) 237 && Nat.beq (zKd a) kd && Nat.beq (yLL.getD a 0) n && Nat.ble n 2000 && ((ty == 0 && kd == 100) || (ty == 1 && kd == 101) || (ty == 4 && kd == 102) || (ty == 0 && kd == 103) || (ty == 5 && kd == 105))
def zOF (a kd j ty r : Nat) : Bool := Nat.ble 1 a && Nat.ble (a + 1) 237 && Nat.beq (zKd a) kd && Nat.ble (j + 1) (yLL.getD a 0) && (zTp a j == (ty, r))
theorem zOA_of {a kd n ty : Nat} (h : zOA a kd n ty = true) : a < 237 ∧ a ≠ 0 ∧ zKd a = kd ∧ (∀ j, zTp a j = (ty, 0)) ∧ (∀ I, zLn I a = n) ∧ n ≤ 2000 ∧ yLL.getD a 0 = n := by
  simp only [zOA, Bool.and_eq_true, Bool.or_eq_true, Nat.ble_eq, Nat.beq_eq, beq_iff_eq] at h
  obtain ⟨⟨⟨⟨⟨h1, h2⟩, h3⟩, h4⟩, h5⟩, h6⟩ := h
  refine ⟨by omega, by omega, h3, fun j => ?_, fun I => zLn_of (by omega) h4, h5, h4⟩
  unfold zTp
  rw [h3]
  rcases h6 with ((((⟨rfl, rfl⟩ | ⟨rfl, rfl⟩) | ⟨rfl, rfl⟩) | ⟨rfl, rfl⟩) | ⟨rfl, rfl⟩) <;> rfl
theorem zOF_of {a kd j ty r : Nat} (h : zOF a kd j ty r = true) : a < 237 ∧ a ≠ 0 ∧ zKd a = kd ∧ zTp a j = (ty, r) ∧ (∀ I, j < zLn I a) := by
  simp only [zOF, Bool.and_eq_true, Nat.ble_eq, Nat.beq_eq, beq_iff_eq] at h
  obtain ⟨⟨⟨⟨h1, h2⟩, h3⟩, h4⟩, h5⟩ := h
  refine ⟨by omega, by omega, h3, h5, fun I => ?_⟩
  rw [zLn_of (by omega) rfl]; omega
theorem zA_ix {m : zQ} {a kd n ty : Nat} {i : Int} (h : zOA a kd n ty = true) (h0 : 0 ≤ i) (hi : i < n) : zIx (zMk m) a kd (zi i) = some i.toNat := by
  obtain ⟨h1, h2, h3, h4, h5, h6, h7⟩ := zOA_of h
  exact zM_ix h1 h3 (h5 _) (by omega) h0 hi
theorem zA_gI {m : zQ} {a kd n : Nat} {i : Int} (h : zOA a kd n 0 = true) (h0 : 0 ≤ i) (hi : i < n) : zVI (zAt (zMk m) a kd i.toNat) = some (zi (m.1 a i)) := by
  obtain ⟨h1, h2, h3, h4, h5, h6, h7⟩ := zOA_of h
  rw [zM_VI ⟨h1, h3, h4 _⟩ (by rw [h5]; omega), Int.toNat_of_nonneg h0]
theorem zA_gB {m : zQ} {a kd n : Nat} {i : Int} (h : zOA a kd n 4 = true) (h0 : 0 ≤ i) (hi : i < n) : zVI (zAt (zMk m) a kd i.toNat) = some (zi (if m.1 a i = 0 then 0 else 1)) := by
  obtain ⟨h1, h2, h3, h4, h5, h6, h7⟩ := zOA_of h
  rw [zM_VB ⟨h1, h3, h4 _⟩ (by rw [h5]; omega), Int.toNat_of_nonneg h0]
theorem zA_gL {m : zQ} {a kd n : Nat} {i : Int} (h : zOA a kd n 1 = true) (h0 : 0 ≤ i) (hi : i < n) : zVL (zAt (zMk m) a kd i.toNat) = some (m.2.1 a i) := by
  obtain ⟨h1, h2, h3, h4, h5, h6, h7⟩ := zOA_of h
  rw [zM_VL ⟨h1, h3, h4 _⟩ (by rw [h5]; omega), Int.toNat_of_nonneg h0]
theorem zA_pI {m : zQ} {a kd n : Nat} {i x : Int} (h : zOA a kd n 0 = true) (h0 : 0 ≤ i) (hi : i < n) : zPut (zMk m) a kd i.toNat (.int (zi x)) = some (zMk (wI m a i x)) := by
  obtain ⟨h1, h2, h3, h4, h5, h6, h7⟩ := zOA_of h
  rw [zM_wI ⟨h1, h2, h3, h4 _⟩ (by rw [h5]; omega), Int.toNat_of_nonneg h0]
theorem zA_pB {m : zQ} {a kd n : Nat} {i x : Int} (h : zOA a kd n 4 = true) (h0 : 0 ≤ i) (hi : i < n) (hx : x = 0 ∨ x = 1) : zPut (zMk m) a kd i.toNat (.int (zi x)) = some (zMk (wI m a i x)) := by
  obtain ⟨h1, h2, h3, h4, h5, h6, h7⟩ := zOA_of h
  rw [zM_wB ⟨h1, h2, h3, h4 _⟩ (by rw [h5]; omega) hx, Int.toNat_of_nonneg h0]
theorem zA_pL {m : zQ} {a kd n : Nat} {i : Int} {x : Int64} (h : zOA a kd n 1 = true) (h0 : 0 ≤ i) (hi : i < n) : zPut (zMk m) a kd i.toNat (.long x) = some (zMk (wL m a i x)) := by
  obtain ⟨h1, h2, h3, h4, h5, h6, h7⟩ := zOA_of h
  rw [zM_wL ⟨h1, h2, h3, h4 _⟩ (by rw [h5]; omega), Int.toNat_of_nonneg h0]
theorem zA_kd {m : zQ} {a kd n ty : Nat} (h : zOA a kd n ty = true) : ((zMk m).2.2 a).1 = kd := by
  obtain ⟨h1, h2, h3, h4, h5, h6, h7⟩ := zOA_of h
  exact zM_kd ⟨h1, h3⟩
theorem zA_ln {m : zQ} {a kd n ty : Nat} (h : zOA a kd n ty = true) : ((zMk m).2.2 a).2.length = n := by
  obtain ⟨h1, h2, h3, h4, h5, h6, h7⟩ := zOA_of h
  exact zM_ln ⟨h1, h2, h7⟩
theorem zF_gI {m : zQ} {a kd j : Nat} (h : zOF a kd j 0 0 = true) : zVI (zAt (zMk m) a kd j) = some (zi (m.1 a j)) := by
  obtain ⟨h1, h2, h3, h4, h5⟩ := zOF_of h
  exact zM_VI ⟨h1, h3, h4⟩ (h5 _)
theorem zF_gB {m : zQ} {a kd j : Nat} (h : zOF a kd j 4 0 = true) : zVI (zAt (zMk m) a kd j) = some (zi (if m.1 a j = 0 then 0 else 1)) := by
  obtain ⟨h1, h2, h3, h4, h5⟩ := zOF_of h
  exact zM_VB ⟨h1, h3, h4⟩ (h5 _)
theorem zF_gL {m : zQ} {a kd j : Nat} (h : zOF a kd j 1 0 = true) : zVL (zAt (zMk m) a kd j) = some (m.2.1 a j) := by
  obtain ⟨h1, h2, h3, h4, h5⟩ := zOF_of h
  exact zM_VL ⟨h1, h3, h4⟩ (h5 _)
theorem zF_gA {m : zQ} {a kd j r : Nat} (h : zOF a kd j 2 r = true) : zVA (zAt (zMk m) a kd j) = some r := by
  obtain ⟨h1, h2, h3, h4, h5⟩ := zOF_of h
  exact zM_VA ⟨h1, h3, h4⟩ (h5 _)
theorem zF_gR {m : zQ} {a kd j : Nat} (h : zOF a kd j 3 0 = true) : zVA (zAt (zMk m) a kd j) = some (m.1 a j).toNat := by
  obtain ⟨h1, h2, h3, h4, h5⟩ := zOF_of h
  exact zM_VR ⟨h1, h3, h4⟩ (h5 _)
theorem zF_pI {m : zQ} {a kd j : Nat} {x : Int} (h : zOF a kd j 0 0 = true) : zPut (zMk m) a kd j (.int (zi x)) = some (zMk (wI m a j x)) := by
  obtain ⟨h1, h2, h3, h4, h5⟩ := zOF_of h
  exact zM_wI ⟨h1, h2, h3, h4⟩ (h5 _)
theorem zF_pB {m : zQ} {a kd j : Nat} {x : Int} (h : zOF a kd j 4 0 = true) (hx : x = 0 ∨ x = 1) : zPut (zMk m) a kd j (.int (zi x)) = some (zMk (wI m a j x)) := by
  obtain ⟨h1, h2, h3, h4, h5⟩ := zOF_of h
  exact zM_wB ⟨h1, h2, h3, h4⟩ (h5 _) hx
theorem zF_pL {m : zQ} {a kd j : Nat} {x : Int64} (h : zOF a kd j 1 0 = true) : zPut (zMk m) a kd j (.long x) = some (zMk (wL m a j x)) := by
  obtain ⟨h1, h2, h3, h4, h5⟩ := zOF_of h
  exact zM_wL ⟨h1, h2, h3, h4⟩ (h5 _)
theorem zF_pR {m : zQ} {a kd j : Nat} {x : Nat} (h : zOF a kd j 3 0 = true) : zPut (zMk m) a kd j (.ref x) = some (zMk (wI m a j x)) := by
  obtain ⟨h1, h2, h3, h4, h5⟩ := zOF_of h
  exact zM_wA ⟨h1, h2, h3, h4⟩ (h5 _)
theorem zF_kd {m : zQ} {a kd j ty r : Nat} (h : zOF a kd j ty r = true) : ((zMk m).2.2 a).1 = kd := by
  obtain ⟨h1, h2, h3, h4, h5⟩ := zOF_of h
  exact zM_kd ⟨h1, h3⟩
end ZMEM
