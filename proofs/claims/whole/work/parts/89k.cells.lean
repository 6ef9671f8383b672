/-! The cells after the constructors are those of zMk. -/
section YCELLS
variable {S : Int → Int} {I : Nat → Int → Int} {Y : Nat → Int → Int64} {a n i a2 : Nat} {f : Nat → zC} {c : zC} {l l1 l2 : List zC} {b : Nat → zC} {s : Nat}
def yI0 (S : Int → Int) (a : Nat) (j : Int) : Int := if a = 0 then S j else if a = 2 then yOps j else if a = 4 then yKeys j else if a = 165 then (if j = 4 then -1 else 0) else if a = 202 then (if j = 14 then -1 else if j = 3 then 216 else 0) else 0
def yL0 (_ : Nat) (_ : Int) : Int64 := 0
theorem yz_i (h1 : zKd a = 100) (h2 : a ≠ 0 ∧ yLL.getD a 0 = n) (h3 : ∀ j : Nat, I a j = 0) : zCel I Y a = (100, List.replicate n (.int 0)) := by
  have e : zVal I Y a = fun _ => .int 0 := funext fun j => by
    unfold zVal zTp
    rw [h1]
    show Value.int (zi (I a j)) = _
    rw [h3]; rfl
  unfold zCel zLn
  rw [h1, if_neg h2.1, h2.2, e, List.map_const', List.length_range]
theorem yz_l (h1 : zKd a = 101) (h2 : a ≠ 0 ∧ yLL.getD a 0 = n) (h3 : ∀ j : Nat, Y a j = 0) : zCel I Y a = (101, List.replicate n (.long 0)) := by
  have e : zVal I Y a = fun _ => .long 0 := funext fun j => by
    unfold zVal zTp
    rw [h1]
    show Value.long (Y a j) = _
    rw [h3]
  unfold zCel zLn
  rw [h1, if_neg h2.1, h2.2, e, List.map_const', List.length_range]
theorem yz_z (h1 : zKd a = 102) (h2 : a ≠ 0 ∧ yLL.getD a 0 = n) (h3 : ∀ j : Nat, I a j = 0) : zCel I Y a = (102, List.replicate n (.int 0)) := by
  have e : zVal I Y a = fun _ => .int 0 := funext fun j => by
    unfold zVal zTp
    rw [h1]
    show Value.int (zi (if I a j = 0 then 0 else 1)) = _
    rw [h3]; rfl
  unfold zCel zLn
  rw [h1, if_neg h2.1, h2.2, e, List.map_const', List.length_range]
def yMq (f : Nat → zC) : Nat → List zC → Prop
  | _, [] => True
  | a, c :: l => f a = c ∧ yMq f (a + 1) l
theorem yMq_app : ∀ {l1 : List zC} {a : Nat}, yMq f a l1 → a + l1.length = a2 → yMq f a2 l2 → yMq f a (l1 ++ l2)
  | [], a, _, h, g => by
    have e : a = a2 := by rw [← h]; rfl
    subst e; exact g
  | c :: l, a, h1, h, g => ⟨h1.1, yMq_app (l1 := l) h1.2 (by rw [List.length_cons] at h; omega) g⟩
theorem yMq_get : ∀ {l : List zC} {a i : Nat}, yMq f a l → i < l.length → l.getD i (50, []) = f (a + i)
  | [], _, _, _, h => absurd h (Nat.not_lt_zero _)
  | c :: l, a, 0, h, _ => h.1.symm
  | c :: l, a, i + 1, h, g => by
    have := yMq_get (l := l) (a := a + 1) (i := i) h.2 (by rw [List.length_cons] at g; omega)
    rw [List.getD_cons_succ, this, show a + 1 + i = a + (i + 1) by omega]
theorem yMq_heap (hb : ∀ a, a < 5 → b a = zCel I Y a) (h : yMq (zCel I Y) 5 l) (hl : l.length = 232) : yHl b l s = zMk (I, Y, (fun _ => (50, [])), 0, s) := by
  unfold yHl zMk
  refine Prod.ext (by show 5 + l.length = 237 + 0; omega) (Prod.ext rfl (funext fun a => ?_))
  show (if a < 5 then b a else l.getD (a - 5) (50, [])) = if a < 237 then zCel I Y a else (50, [])
  by_cases h1 : a < 5
  · rw [if_pos h1, if_pos (by omega), hb a h1]
  · rw [if_neg h1]
    by_cases h2 : a < 237
    · rw [if_pos h2, yMq_get h (by omega), show 5 + (a - 5) = a by omega]
    · rw [if_neg h2, List.getD_eq_getElem?_getD, List.getElem?_eq_none (by omega)]; rfl
theorem yf_5 : zCel (yI0 S) yL0 5 = (0, [.ref 6, .int 0, .ref 163, .ref 165, .ref 178, .ref 182, .ref 186, .ref 191, .int 0, .ref 192, .ref 195, .ref 198, .ref 201]) := rfl
theorem yf_6 : zCel (yI0 S) yL0 6 = (110, [.ref 7, .ref 20, .ref 33, .ref 46, .ref 59, .ref 72, .ref 85, .ref 98, .ref 111, .ref 124, .ref 137, .ref 150]) := rfl
theorem yf_7 : zCel (yI0 S) yL0 7 = (1, [.ref 8, .ref 9, .ref 10, .ref 11, .ref 12, .ref 13, .ref 14, .ref 15, .ref 16, .ref 17, .ref 18, .ref 19, .int 0, .int 0, .int 0, .int 0, .int 0, .int 0]) := rfl
theorem yf_8 : zCel (yI0 S) yL0 8 = (100, List.replicate 81 (.int 0)) := yz_i rfl ⟨by decide, rfl⟩ fun _ => rfl
theorem yf_9 : zCel (yI0 S) yL0 9 = (100, List.replicate 81 (.int 0)) := yz_i rfl ⟨by decide, rfl⟩ fun _ => rfl
theorem yf_10 : zCel (yI0 S) yL0 10 = (100, List.replicate 81 (.int 0)) := yz_i rfl ⟨by decide, rfl⟩ fun _ => rfl
theorem yf_11 : zCel (yI0 S) yL0 11 = (100, List.replicate 81 (.int 0)) := yz_i rfl ⟨by decide, rfl⟩ fun _ => rfl
theorem yf_12 : zCel (yI0 S) yL0 12 = (100, List.replicate 81 (.int 0)) := yz_i rfl ⟨by decide, rfl⟩ fun _ => rfl
theorem yf_13 : zCel (yI0 S) yL0 13 = (101, List.replicate 81 (.long 0)) := yz_l rfl ⟨by decide, rfl⟩ fun _ => rfl
theorem yf_14 : zCel (yI0 S) yL0 14 = (101, List.replicate 81 (.long 0)) := yz_l rfl ⟨by decide, rfl⟩ fun _ => rfl
theorem yf_15 : zCel (yI0 S) yL0 15 = (102, List.replicate 81 (.int 0)) := yz_z rfl ⟨by decide, rfl⟩ fun _ => rfl
theorem yf_16 : zCel (yI0 S) yL0 16 = (100, List.replicate 81 (.int 0)) := yz_i rfl ⟨by decide, rfl⟩ fun _ => rfl
theorem yf_17 : zCel (yI0 S) yL0 17 = (100, List.replicate 12 (.int 0)) := yz_i rfl ⟨by decide, rfl⟩ fun _ => rfl
theorem yf_18 : zCel (yI0 S) yL0 18 = (100, List.replicate 12 (.int 0)) := yz_i rfl ⟨by decide, rfl⟩ fun _ => rfl
theorem yf_19 : zCel (yI0 S) yL0 19 = (100, List.replicate 81 (.int 0)) := yz_i rfl ⟨by decide, rfl⟩ fun _ => rfl
theorem yf_20 : zCel (yI0 S) yL0 20 = (1, [.ref 21, .ref 22, .ref 23, .ref 24, .ref 25, .ref 26, .ref 27, .ref 28, .ref 29, .ref 30, .ref 31, .ref 32, .int 0, .int 0, .int 0, .int 0, .int 0, .int 0]) := rfl
theorem yf_21 : zCel (yI0 S) yL0 21 = (100, List.replicate 81 (.int 0)) := yz_i rfl ⟨by decide, rfl⟩ fun _ => rfl
theorem yf_22 : zCel (yI0 S) yL0 22 = (100, List.replicate 81 (.int 0)) := yz_i rfl ⟨by decide, rfl⟩ fun _ => rfl
theorem yf_23 : zCel (yI0 S) yL0 23 = (100, List.replicate 81 (.int 0)) := yz_i rfl ⟨by decide, rfl⟩ fun _ => rfl
theorem yf_24 : zCel (yI0 S) yL0 24 = (100, List.replicate 81 (.int 0)) := yz_i rfl ⟨by decide, rfl⟩ fun _ => rfl
theorem yf_25 : zCel (yI0 S) yL0 25 = (100, List.replicate 81 (.int 0)) := yz_i rfl ⟨by decide, rfl⟩ fun _ => rfl
theorem yf_26 : zCel (yI0 S) yL0 26 = (101, List.replicate 81 (.long 0)) := yz_l rfl ⟨by decide, rfl⟩ fun _ => rfl
theorem yf_27 : zCel (yI0 S) yL0 27 = (101, List.replicate 81 (.long 0)) := yz_l rfl ⟨by decide, rfl⟩ fun _ => rfl
theorem yf_28 : zCel (yI0 S) yL0 28 = (102, List.replicate 81 (.int 0)) := yz_z rfl ⟨by decide, rfl⟩ fun _ => rfl
theorem yf_29 : zCel (yI0 S) yL0 29 = (100, List.replicate 81 (.int 0)) := yz_i rfl ⟨by decide, rfl⟩ fun _ => rfl
theorem yf_30 : zCel (yI0 S) yL0 30 = (100, List.replicate 12 (.int 0)) := yz_i rfl ⟨by decide, rfl⟩ fun _ => rfl
theorem yf_31 : zCel (yI0 S) yL0 31 = (100, List.replicate 12 (.int 0)) := yz_i rfl ⟨by decide, rfl⟩ fun _ => rfl
theorem yf_32 : zCel (yI0 S) yL0 32 = (100, List.replicate 81 (.int 0)) := yz_i rfl ⟨by decide, rfl⟩ fun _ => rfl
theorem yf_33 : zCel (yI0 S) yL0 33 = (1, [.ref 34, .ref 35, .ref 36, .ref 37, .ref 38, .ref 39, .ref 40, .ref 41, .ref 42, .ref 43, .ref 44, .ref 45, .int 0, .int 0, .int 0, .int 0, .int 0, .int 0]) := rfl
theorem yf_34 : zCel (yI0 S) yL0 34 = (100, List.replicate 81 (.int 0)) := yz_i rfl ⟨by decide, rfl⟩ fun _ => rfl
theorem yf_35 : zCel (yI0 S) yL0 35 = (100, List.replicate 81 (.int 0)) := yz_i rfl ⟨by decide, rfl⟩ fun _ => rfl
theorem yf_36 : zCel (yI0 S) yL0 36 = (100, List.replicate 81 (.int 0)) := yz_i rfl ⟨by decide, rfl⟩ fun _ => rfl
theorem yf_37 : zCel (yI0 S) yL0 37 = (100, List.replicate 81 (.int 0)) := yz_i rfl ⟨by decide, rfl⟩ fun _ => rfl
theorem yf_38 : zCel (yI0 S) yL0 38 = (100, List.replicate 81 (.int 0)) := yz_i rfl ⟨by decide, rfl⟩ fun _ => rfl
theorem yf_39 : zCel (yI0 S) yL0 39 = (101, List.replicate 81 (.long 0)) := yz_l rfl ⟨by decide, rfl⟩ fun _ => rfl
theorem yf_40 : zCel (yI0 S) yL0 40 = (101, List.replicate 81 (.long 0)) := yz_l rfl ⟨by decide, rfl⟩ fun _ => rfl
theorem yf_41 : zCel (yI0 S) yL0 41 = (102, List.replicate 81 (.int 0)) := yz_z rfl ⟨by decide, rfl⟩ fun _ => rfl
theorem yf_42 : zCel (yI0 S) yL0 42 = (100, List.replicate 81 (.int 0)) := yz_i rfl ⟨by decide, rfl⟩ fun _ => rfl
theorem yf_43 : zCel (yI0 S) yL0 43 = (100, List.replicate 12 (.int 0)) := yz_i rfl ⟨by decide, rfl⟩ fun _ => rfl
theorem yf_44 : zCel (yI0 S) yL0 44 = (100, List.replicate 12 (.int 0)) := yz_i rfl ⟨by decide, rfl⟩ fun _ => rfl
theorem yf_45 : zCel (yI0 S) yL0 45 = (100, List.replicate 81 (.int 0)) := yz_i rfl ⟨by decide, rfl⟩ fun _ => rfl
theorem yf_46 : zCel (yI0 S) yL0 46 = (1, [.ref 47, .ref 48, .ref 49, .ref 50, .ref 51, .ref 52, .ref 53, .ref 54, .ref 55, .ref 56, .ref 57, .ref 58, .int 0, .int 0, .int 0, .int 0, .int 0, .int 0]) := rfl
theorem yf_47 : zCel (yI0 S) yL0 47 = (100, List.replicate 81 (.int 0)) := yz_i rfl ⟨by decide, rfl⟩ fun _ => rfl
theorem yf_48 : zCel (yI0 S) yL0 48 = (100, List.replicate 81 (.int 0)) := yz_i rfl ⟨by decide, rfl⟩ fun _ => rfl
theorem yf_49 : zCel (yI0 S) yL0 49 = (100, List.replicate 81 (.int 0)) := yz_i rfl ⟨by decide, rfl⟩ fun _ => rfl
theorem yf_50 : zCel (yI0 S) yL0 50 = (100, List.replicate 81 (.int 0)) := yz_i rfl ⟨by decide, rfl⟩ fun _ => rfl
theorem yf_51 : zCel (yI0 S) yL0 51 = (100, List.replicate 81 (.int 0)) := yz_i rfl ⟨by decide, rfl⟩ fun _ => rfl
theorem yf_52 : zCel (yI0 S) yL0 52 = (101, List.replicate 81 (.long 0)) := yz_l rfl ⟨by decide, rfl⟩ fun _ => rfl
theorem yf_53 : zCel (yI0 S) yL0 53 = (101, List.replicate 81 (.long 0)) := yz_l rfl ⟨by decide, rfl⟩ fun _ => rfl
theorem yf_54 : zCel (yI0 S) yL0 54 = (102, List.replicate 81 (.int 0)) := yz_z rfl ⟨by decide, rfl⟩ fun _ => rfl
theorem yf_55 : zCel (yI0 S) yL0 55 = (100, List.replicate 81 (.int 0)) := yz_i rfl ⟨by decide, rfl⟩ fun _ => rfl
theorem yf_56 : zCel (yI0 S) yL0 56 = (100, List.replicate 12 (.int 0)) := yz_i rfl ⟨by decide, rfl⟩ fun _ => rfl
theorem yf_57 : zCel (yI0 S) yL0 57 = (100, List.replicate 12 (.int 0)) := yz_i rfl ⟨by decide, rfl⟩ fun _ => rfl
theorem yf_58 : zCel (yI0 S) yL0 58 = (100, List.replicate 81 (.int 0)) := yz_i rfl ⟨by decide, rfl⟩ fun _ => rfl
theorem yf_59 : zCel (yI0 S) yL0 59 = (1, [.ref 60, .ref 61, .ref 62, .ref 63, .ref 64, .ref 65, .ref 66, .ref 67, .ref 68, .ref 69, .ref 70, .ref 71, .int 0, .int 0, .int 0, .int 0, .int 0, .int 0]) := rfl
theorem yf_60 : zCel (yI0 S) yL0 60 = (100, List.replicate 81 (.int 0)) := yz_i rfl ⟨by decide, rfl⟩ fun _ => rfl
theorem yf_61 : zCel (yI0 S) yL0 61 = (100, List.replicate 81 (.int 0)) := yz_i rfl ⟨by decide, rfl⟩ fun _ => rfl
theorem yf_62 : zCel (yI0 S) yL0 62 = (100, List.replicate 81 (.int 0)) := yz_i rfl ⟨by decide, rfl⟩ fun _ => rfl
theorem yf_63 : zCel (yI0 S) yL0 63 = (100, List.replicate 81 (.int 0)) := yz_i rfl ⟨by decide, rfl⟩ fun _ => rfl
theorem yf_64 : zCel (yI0 S) yL0 64 = (100, List.replicate 81 (.int 0)) := yz_i rfl ⟨by decide, rfl⟩ fun _ => rfl
theorem yf_65 : zCel (yI0 S) yL0 65 = (101, List.replicate 81 (.long 0)) := yz_l rfl ⟨by decide, rfl⟩ fun _ => rfl
theorem yf_66 : zCel (yI0 S) yL0 66 = (101, List.replicate 81 (.long 0)) := yz_l rfl ⟨by decide, rfl⟩ fun _ => rfl
theorem yf_67 : zCel (yI0 S) yL0 67 = (102, List.replicate 81 (.int 0)) := yz_z rfl ⟨by decide, rfl⟩ fun _ => rfl
theorem yf_68 : zCel (yI0 S) yL0 68 = (100, List.replicate 81 (.int 0)) := yz_i rfl ⟨by decide, rfl⟩ fun _ => rfl
theorem yf_69 : zCel (yI0 S) yL0 69 = (100, List.replicate 12 (.int 0)) := yz_i rfl ⟨by decide, rfl⟩ fun _ => rfl
theorem yf_70 : zCel (yI0 S) yL0 70 = (100, List.replicate 12 (.int 0)) := yz_i rfl ⟨by decide, rfl⟩ fun _ => rfl
theorem yf_71 : zCel (yI0 S) yL0 71 = (100, List.replicate 81 (.int 0)) := yz_i rfl ⟨by decide, rfl⟩ fun _ => rfl
theorem yf_72 : zCel (yI0 S) yL0 72 = (1, [.ref 73, .ref 74, .ref 75, .ref 76, .ref 77, .ref 78, .ref 79, .ref 80, .ref 81, .ref 82, .ref 83, .ref 84, .int 0, .int 0, .int 0, .int 0, .int 0, .int 0]) := rfl
theorem yf_73 : zCel (yI0 S) yL0 73 = (100, List.replicate 81 (.int 0)) := yz_i rfl ⟨by decide, rfl⟩ fun _ => rfl
theorem yf_74 : zCel (yI0 S) yL0 74 = (100, List.replicate 81 (.int 0)) := yz_i rfl ⟨by decide, rfl⟩ fun _ => rfl
theorem yf_75 : zCel (yI0 S) yL0 75 = (100, List.replicate 81 (.int 0)) := yz_i rfl ⟨by decide, rfl⟩ fun _ => rfl
theorem yf_76 : zCel (yI0 S) yL0 76 = (100, List.replicate 81 (.int 0)) := yz_i rfl ⟨by decide, rfl⟩ fun _ => rfl
theorem yf_77 : zCel (yI0 S) yL0 77 = (100, List.replicate 81 (.int 0)) := yz_i rfl ⟨by decide, rfl⟩ fun _ => rfl
theorem yf_78 : zCel (yI0 S) yL0 78 = (101, List.replicate 81 (.long 0)) := yz_l rfl ⟨by decide, rfl⟩ fun _ => rfl
theorem yf_79 : zCel (yI0 S) yL0 79 = (101, List.replicate 81 (.long 0)) := yz_l rfl ⟨by decide, rfl⟩ fun _ => rfl
theorem yf_80 : zCel (yI0 S) yL0 80 = (102, List.replicate 81 (.int 0)) := yz_z rfl ⟨by decide, rfl⟩ fun _ => rfl
theorem yf_81 : zCel (yI0 S) yL0 81 = (100, List.replicate 81 (.int 0)) := yz_i rfl ⟨by decide, rfl⟩ fun _ => rfl
theorem yf_82 : zCel (yI0 S) yL0 82 = (100, List.replicate 12 (.int 0)) := yz_i rfl ⟨by decide, rfl⟩ fun _ => rfl
theorem yf_83 : zCel (yI0 S) yL0 83 = (100, List.replicate 12 (.int 0)) := yz_i rfl ⟨by decide, rfl⟩ fun _ => rfl
theorem yf_84 : zCel (yI0 S) yL0 84 = (100, List.replicate 81 (.int 0)) := yz_i rfl ⟨by decide, rfl⟩ fun _ => rfl
theorem yf_85 : zCel (yI0 S) yL0 85 = (1, [.ref 86, .ref 87, .ref 88, .ref 89, .ref 90, .ref 91, .ref 92, .ref 93, .ref 94, .ref 95, .ref 96, .ref 97, .int 0, .int 0, .int 0, .int 0, .int 0, .int 0]) := rfl
theorem yf_86 : zCel (yI0 S) yL0 86 = (100, List.replicate 81 (.int 0)) := yz_i rfl ⟨by decide, rfl⟩ fun _ => rfl
theorem yf_87 : zCel (yI0 S) yL0 87 = (100, List.replicate 81 (.int 0)) := yz_i rfl ⟨by decide, rfl⟩ fun _ => rfl
theorem yf_88 : zCel (yI0 S) yL0 88 = (100, List.replicate 81 (.int 0)) := yz_i rfl ⟨by decide, rfl⟩ fun _ => rfl
theorem yf_89 : zCel (yI0 S) yL0 89 = (100, List.replicate 81 (.int 0)) := yz_i rfl ⟨by decide, rfl⟩ fun _ => rfl
theorem yf_90 : zCel (yI0 S) yL0 90 = (100, List.replicate 81 (.int 0)) := yz_i rfl ⟨by decide, rfl⟩ fun _ => rfl
theorem yf_91 : zCel (yI0 S) yL0 91 = (101, List.replicate 81 (.long 0)) := yz_l rfl ⟨by decide, rfl⟩ fun _ => rfl
theorem yf_92 : zCel (yI0 S) yL0 92 = (101, List.replicate 81 (.long 0)) := yz_l rfl ⟨by decide, rfl⟩ fun _ => rfl
theorem yf_93 : zCel (yI0 S) yL0 93 = (102, List.replicate 81 (.int 0)) := yz_z rfl ⟨by decide, rfl⟩ fun _ => rfl
theorem yf_94 : zCel (yI0 S) yL0 94 = (100, List.replicate 81 (.int 0)) := yz_i rfl ⟨by decide, rfl⟩ fun _ => rfl
theorem yf_95 : zCel (yI0 S) yL0 95 = (100, List.replicate 12 (.int 0)) := yz_i rfl ⟨by decide, rfl⟩ fun _ => rfl
theorem yf_96 : zCel (yI0 S) yL0 96 = (100, List.replicate 12 (.int 0)) := yz_i rfl ⟨by decide, rfl⟩ fun _ => rfl
theorem yf_97 : zCel (yI0 S) yL0 97 = (100, List.replicate 81 (.int 0)) := yz_i rfl ⟨by decide, rfl⟩ fun _ => rfl
theorem yf_98 : zCel (yI0 S) yL0 98 = (1, [.ref 99, .ref 100, .ref 101, .ref 102, .ref 103, .ref 104, .ref 105, .ref 106, .ref 107, .ref 108, .ref 109, .ref 110, .int 0, .int 0, .int 0, .int 0, .int 0, .int 0]) := rfl
theorem yf_99 : zCel (yI0 S) yL0 99 = (100, List.replicate 81 (.int 0)) := yz_i rfl ⟨by decide, rfl⟩ fun _ => rfl
theorem yf_100 : zCel (yI0 S) yL0 100 = (100, List.replicate 81 (.int 0)) := yz_i rfl ⟨by decide, rfl⟩ fun _ => rfl
theorem yf_101 : zCel (yI0 S) yL0 101 = (100, List.replicate 81 (.int 0)) := yz_i rfl ⟨by decide, rfl⟩ fun _ => rfl
theorem yf_102 : zCel (yI0 S) yL0 102 = (100, List.replicate 81 (.int 0)) := yz_i rfl ⟨by decide, rfl⟩ fun _ => rfl
theorem yf_103 : zCel (yI0 S) yL0 103 = (100, List.replicate 81 (.int 0)) := yz_i rfl ⟨by decide, rfl⟩ fun _ => rfl
theorem yf_104 : zCel (yI0 S) yL0 104 = (101, List.replicate 81 (.long 0)) := yz_l rfl ⟨by decide, rfl⟩ fun _ => rfl
theorem yf_105 : zCel (yI0 S) yL0 105 = (101, List.replicate 81 (.long 0)) := yz_l rfl ⟨by decide, rfl⟩ fun _ => rfl
theorem yf_106 : zCel (yI0 S) yL0 106 = (102, List.replicate 81 (.int 0)) := yz_z rfl ⟨by decide, rfl⟩ fun _ => rfl
theorem yf_107 : zCel (yI0 S) yL0 107 = (100, List.replicate 81 (.int 0)) := yz_i rfl ⟨by decide, rfl⟩ fun _ => rfl
theorem yf_108 : zCel (yI0 S) yL0 108 = (100, List.replicate 12 (.int 0)) := yz_i rfl ⟨by decide, rfl⟩ fun _ => rfl
theorem yf_109 : zCel (yI0 S) yL0 109 = (100, List.replicate 12 (.int 0)) := yz_i rfl ⟨by decide, rfl⟩ fun _ => rfl
theorem yf_110 : zCel (yI0 S) yL0 110 = (100, List.replicate 81 (.int 0)) := yz_i rfl ⟨by decide, rfl⟩ fun _ => rfl
theorem yf_111 : zCel (yI0 S) yL0 111 = (1, [.ref 112, .ref 113, .ref 114, .ref 115, .ref 116, .ref 117, .ref 118, .ref 119, .ref 120, .ref 121, .ref 122, .ref 123, .int 0, .int 0, .int 0, .int 0, .int 0, .int 0]) := rfl
theorem yf_112 : zCel (yI0 S) yL0 112 = (100, List.replicate 81 (.int 0)) := yz_i rfl ⟨by decide, rfl⟩ fun _ => rfl
theorem yf_113 : zCel (yI0 S) yL0 113 = (100, List.replicate 81 (.int 0)) := yz_i rfl ⟨by decide, rfl⟩ fun _ => rfl
theorem yf_114 : zCel (yI0 S) yL0 114 = (100, List.replicate 81 (.int 0)) := yz_i rfl ⟨by decide, rfl⟩ fun _ => rfl
theorem yf_115 : zCel (yI0 S) yL0 115 = (100, List.replicate 81 (.int 0)) := yz_i rfl ⟨by decide, rfl⟩ fun _ => rfl
theorem yf_116 : zCel (yI0 S) yL0 116 = (100, List.replicate 81 (.int 0)) := yz_i rfl ⟨by decide, rfl⟩ fun _ => rfl
theorem yf_117 : zCel (yI0 S) yL0 117 = (101, List.replicate 81 (.long 0)) := yz_l rfl ⟨by decide, rfl⟩ fun _ => rfl
theorem yf_118 : zCel (yI0 S) yL0 118 = (101, List.replicate 81 (.long 0)) := yz_l rfl ⟨by decide, rfl⟩ fun _ => rfl
theorem yf_119 : zCel (yI0 S) yL0 119 = (102, List.replicate 81 (.int 0)) := yz_z rfl ⟨by decide, rfl⟩ fun _ => rfl
theorem yf_120 : zCel (yI0 S) yL0 120 = (100, List.replicate 81 (.int 0)) := yz_i rfl ⟨by decide, rfl⟩ fun _ => rfl
theorem yf_121 : zCel (yI0 S) yL0 121 = (100, List.replicate 12 (.int 0)) := yz_i rfl ⟨by decide, rfl⟩ fun _ => rfl
theorem yf_122 : zCel (yI0 S) yL0 122 = (100, List.replicate 12 (.int 0)) := yz_i rfl ⟨by decide, rfl⟩ fun _ => rfl
theorem yf_123 : zCel (yI0 S) yL0 123 = (100, List.replicate 81 (.int 0)) := yz_i rfl ⟨by decide, rfl⟩ fun _ => rfl
theorem yf_124 : zCel (yI0 S) yL0 124 = (1, [.ref 125, .ref 126, .ref 127, .ref 128, .ref 129, .ref 130, .ref 131, .ref 132, .ref 133, .ref 134, .ref 135, .ref 136, .int 0, .int 0, .int 0, .int 0, .int 0, .int 0]) := rfl
theorem yf_125 : zCel (yI0 S) yL0 125 = (100, List.replicate 81 (.int 0)) := yz_i rfl ⟨by decide, rfl⟩ fun _ => rfl
theorem yf_126 : zCel (yI0 S) yL0 126 = (100, List.replicate 81 (.int 0)) := yz_i rfl ⟨by decide, rfl⟩ fun _ => rfl
theorem yf_127 : zCel (yI0 S) yL0 127 = (100, List.replicate 81 (.int 0)) := yz_i rfl ⟨by decide, rfl⟩ fun _ => rfl
theorem yf_128 : zCel (yI0 S) yL0 128 = (100, List.replicate 81 (.int 0)) := yz_i rfl ⟨by decide, rfl⟩ fun _ => rfl
theorem yf_129 : zCel (yI0 S) yL0 129 = (100, List.replicate 81 (.int 0)) := yz_i rfl ⟨by decide, rfl⟩ fun _ => rfl
theorem yf_130 : zCel (yI0 S) yL0 130 = (101, List.replicate 81 (.long 0)) := yz_l rfl ⟨by decide, rfl⟩ fun _ => rfl
theorem yf_131 : zCel (yI0 S) yL0 131 = (101, List.replicate 81 (.long 0)) := yz_l rfl ⟨by decide, rfl⟩ fun _ => rfl
theorem yf_132 : zCel (yI0 S) yL0 132 = (102, List.replicate 81 (.int 0)) := yz_z rfl ⟨by decide, rfl⟩ fun _ => rfl
theorem yf_133 : zCel (yI0 S) yL0 133 = (100, List.replicate 81 (.int 0)) := yz_i rfl ⟨by decide, rfl⟩ fun _ => rfl
theorem yf_134 : zCel (yI0 S) yL0 134 = (100, List.replicate 12 (.int 0)) := yz_i rfl ⟨by decide, rfl⟩ fun _ => rfl
theorem yf_135 : zCel (yI0 S) yL0 135 = (100, List.replicate 12 (.int 0)) := yz_i rfl ⟨by decide, rfl⟩ fun _ => rfl
theorem yf_136 : zCel (yI0 S) yL0 136 = (100, List.replicate 81 (.int 0)) := yz_i rfl ⟨by decide, rfl⟩ fun _ => rfl
theorem yf_137 : zCel (yI0 S) yL0 137 = (1, [.ref 138, .ref 139, .ref 140, .ref 141, .ref 142, .ref 143, .ref 144, .ref 145, .ref 146, .ref 147, .ref 148, .ref 149, .int 0, .int 0, .int 0, .int 0, .int 0, .int 0]) := rfl
theorem yf_138 : zCel (yI0 S) yL0 138 = (100, List.replicate 81 (.int 0)) := yz_i rfl ⟨by decide, rfl⟩ fun _ => rfl
theorem yf_139 : zCel (yI0 S) yL0 139 = (100, List.replicate 81 (.int 0)) := yz_i rfl ⟨by decide, rfl⟩ fun _ => rfl
theorem yf_140 : zCel (yI0 S) yL0 140 = (100, List.replicate 81 (.int 0)) := yz_i rfl ⟨by decide, rfl⟩ fun _ => rfl
theorem yf_141 : zCel (yI0 S) yL0 141 = (100, List.replicate 81 (.int 0)) := yz_i rfl ⟨by decide, rfl⟩ fun _ => rfl
theorem yf_142 : zCel (yI0 S) yL0 142 = (100, List.replicate 81 (.int 0)) := yz_i rfl ⟨by decide, rfl⟩ fun _ => rfl
theorem yf_143 : zCel (yI0 S) yL0 143 = (101, List.replicate 81 (.long 0)) := yz_l rfl ⟨by decide, rfl⟩ fun _ => rfl
theorem yf_144 : zCel (yI0 S) yL0 144 = (101, List.replicate 81 (.long 0)) := yz_l rfl ⟨by decide, rfl⟩ fun _ => rfl
theorem yf_145 : zCel (yI0 S) yL0 145 = (102, List.replicate 81 (.int 0)) := yz_z rfl ⟨by decide, rfl⟩ fun _ => rfl
theorem yf_146 : zCel (yI0 S) yL0 146 = (100, List.replicate 81 (.int 0)) := yz_i rfl ⟨by decide, rfl⟩ fun _ => rfl
theorem yf_147 : zCel (yI0 S) yL0 147 = (100, List.replicate 12 (.int 0)) := yz_i rfl ⟨by decide, rfl⟩ fun _ => rfl
theorem yf_148 : zCel (yI0 S) yL0 148 = (100, List.replicate 12 (.int 0)) := yz_i rfl ⟨by decide, rfl⟩ fun _ => rfl
theorem yf_149 : zCel (yI0 S) yL0 149 = (100, List.replicate 81 (.int 0)) := yz_i rfl ⟨by decide, rfl⟩ fun _ => rfl
theorem yf_150 : zCel (yI0 S) yL0 150 = (1, [.ref 151, .ref 152, .ref 153, .ref 154, .ref 155, .ref 156, .ref 157, .ref 158, .ref 159, .ref 160, .ref 161, .ref 162, .int 0, .int 0, .int 0, .int 0, .int 0, .int 0]) := rfl
theorem yf_151 : zCel (yI0 S) yL0 151 = (100, List.replicate 81 (.int 0)) := yz_i rfl ⟨by decide, rfl⟩ fun _ => rfl
theorem yf_152 : zCel (yI0 S) yL0 152 = (100, List.replicate 81 (.int 0)) := yz_i rfl ⟨by decide, rfl⟩ fun _ => rfl
theorem yf_153 : zCel (yI0 S) yL0 153 = (100, List.replicate 81 (.int 0)) := yz_i rfl ⟨by decide, rfl⟩ fun _ => rfl
theorem yf_154 : zCel (yI0 S) yL0 154 = (100, List.replicate 81 (.int 0)) := yz_i rfl ⟨by decide, rfl⟩ fun _ => rfl
theorem yf_155 : zCel (yI0 S) yL0 155 = (100, List.replicate 81 (.int 0)) := yz_i rfl ⟨by decide, rfl⟩ fun _ => rfl
theorem yf_156 : zCel (yI0 S) yL0 156 = (101, List.replicate 81 (.long 0)) := yz_l rfl ⟨by decide, rfl⟩ fun _ => rfl
theorem yf_157 : zCel (yI0 S) yL0 157 = (101, List.replicate 81 (.long 0)) := yz_l rfl ⟨by decide, rfl⟩ fun _ => rfl
theorem yf_158 : zCel (yI0 S) yL0 158 = (102, List.replicate 81 (.int 0)) := yz_z rfl ⟨by decide, rfl⟩ fun _ => rfl
theorem yf_159 : zCel (yI0 S) yL0 159 = (100, List.replicate 81 (.int 0)) := yz_i rfl ⟨by decide, rfl⟩ fun _ => rfl
theorem yf_160 : zCel (yI0 S) yL0 160 = (100, List.replicate 12 (.int 0)) := yz_i rfl ⟨by decide, rfl⟩ fun _ => rfl
theorem yf_161 : zCel (yI0 S) yL0 161 = (100, List.replicate 12 (.int 0)) := yz_i rfl ⟨by decide, rfl⟩ fun _ => rfl
theorem yf_162 : zCel (yI0 S) yL0 162 = (100, List.replicate 81 (.int 0)) := yz_i rfl ⟨by decide, rfl⟩ fun _ => rfl
theorem yf_163 : zCel (yI0 S) yL0 163 = (2, [.ref 164, .int 0]) := rfl
theorem yf_164 : zCel (yI0 S) yL0 164 = (100, List.replicate 1600 (.int 0)) := yz_i rfl ⟨by decide, rfl⟩ fun _ => rfl
theorem yf_165 : zCel (yI0 S) yL0 165 = (3, [.ref 166, .ref 170, .ref 174, .int 0, .int (zi (-1)), .int 0, .int 0, .int 0, .long 0, .int 0, .long 0, .int 0, .long 0]) := rfl
theorem yf_166 : zCel (yI0 S) yL0 166 = (4, [.ref 167, .ref 168, .ref 169, .int 0, .int 0]) := rfl
theorem yf_167 : zCel (yI0 S) yL0 167 = (100, List.replicate 1601 (.int 0)) := yz_i rfl ⟨by decide, rfl⟩ fun _ => rfl
theorem yf_168 : zCel (yI0 S) yL0 168 = (100, List.replicate 1601 (.int 0)) := yz_i rfl ⟨by decide, rfl⟩ fun _ => rfl
theorem yf_169 : zCel (yI0 S) yL0 169 = (101, List.replicate 1601 (.long 0)) := yz_l rfl ⟨by decide, rfl⟩ fun _ => rfl
theorem yf_170 : zCel (yI0 S) yL0 170 = (5, [.ref 171, .ref 172, .ref 173, .int 0]) := rfl
theorem yf_171 : zCel (yI0 S) yL0 171 = (101, List.replicate 12 (.long 0)) := yz_l rfl ⟨by decide, rfl⟩ fun _ => rfl
theorem yf_172 : zCel (yI0 S) yL0 172 = (100, List.replicate 12 (.int 0)) := yz_i rfl ⟨by decide, rfl⟩ fun _ => rfl
theorem yf_173 : zCel (yI0 S) yL0 173 = (102, List.replicate 12 (.int 0)) := yz_z rfl ⟨by decide, rfl⟩ fun _ => rfl
theorem yf_174 : zCel (yI0 S) yL0 174 = (5, [.ref 175, .ref 176, .ref 177, .int 0]) := rfl
theorem yf_175 : zCel (yI0 S) yL0 175 = (101, List.replicate 12 (.long 0)) := yz_l rfl ⟨by decide, rfl⟩ fun _ => rfl
theorem yf_176 : zCel (yI0 S) yL0 176 = (100, List.replicate 12 (.int 0)) := yz_i rfl ⟨by decide, rfl⟩ fun _ => rfl
theorem yf_177 : zCel (yI0 S) yL0 177 = (102, List.replicate 12 (.int 0)) := yz_z rfl ⟨by decide, rfl⟩ fun _ => rfl
theorem yf_178 : zCel (yI0 S) yL0 178 = (6, [.ref 179, .ref 180, .ref 181]) := rfl
theorem yf_179 : zCel (yI0 S) yL0 179 = (102, List.replicate 80 (.int 0)) := yz_z rfl ⟨by decide, rfl⟩ fun _ => rfl
theorem yf_180 : zCel (yI0 S) yL0 180 = (100, List.replicate 80 (.int 0)) := yz_i rfl ⟨by decide, rfl⟩ fun _ => rfl
theorem yf_181 : zCel (yI0 S) yL0 181 = (100, List.replicate 80 (.int 0)) := yz_i rfl ⟨by decide, rfl⟩ fun _ => rfl
theorem yf_182 : zCel (yI0 S) yL0 182 = (7, [.ref 183, .ref 184, .ref 185]) := rfl
theorem yf_183 : zCel (yI0 S) yL0 183 = (102, List.replicate 12 (.int 0)) := yz_z rfl ⟨by decide, rfl⟩ fun _ => rfl
theorem yf_184 : zCel (yI0 S) yL0 184 = (101, List.replicate 12 (.long 0)) := yz_l rfl ⟨by decide, rfl⟩ fun _ => rfl
theorem yf_185 : zCel (yI0 S) yL0 185 = (100, List.replicate 12 (.int 0)) := yz_i rfl ⟨by decide, rfl⟩ fun _ => rfl
theorem yf_186 : zCel (yI0 S) yL0 186 = (8, [.ref 187]) := rfl
theorem yf_187 : zCel (yI0 S) yL0 187 = (6, [.ref 188, .ref 189, .ref 190]) := rfl
theorem yf_188 : zCel (yI0 S) yL0 188 = (102, List.replicate 80 (.int 0)) := yz_z rfl ⟨by decide, rfl⟩ fun _ => rfl
theorem yf_189 : zCel (yI0 S) yL0 189 = (100, List.replicate 80 (.int 0)) := yz_i rfl ⟨by decide, rfl⟩ fun _ => rfl
theorem yf_190 : zCel (yI0 S) yL0 190 = (100, List.replicate 80 (.int 0)) := yz_i rfl ⟨by decide, rfl⟩ fun _ => rfl
theorem yf_191 : zCel (yI0 S) yL0 191 = (101, List.replicate 30 (.long 0)) := yz_l rfl ⟨by decide, rfl⟩ fun _ => rfl
theorem yf_192 : zCel (yI0 S) yL0 192 = (9, [.ref 193, .ref 194, .int 0, .int 0, .int 0, .int 0]) := rfl
theorem yf_193 : zCel (yI0 S) yL0 193 = (101, List.replicate 12 (.long 0)) := yz_l rfl ⟨by decide, rfl⟩ fun _ => rfl
theorem yf_194 : zCel (yI0 S) yL0 194 = (101, List.replicate 60 (.long 0)) := yz_l rfl ⟨by decide, rfl⟩ fun _ => rfl
theorem yf_195 : zCel (yI0 S) yL0 195 = (9, [.ref 196, .ref 197, .int 0, .int 0, .int 0, .int 0]) := rfl
theorem yf_196 : zCel (yI0 S) yL0 196 = (101, List.replicate 12 (.long 0)) := yz_l rfl ⟨by decide, rfl⟩ fun _ => rfl
theorem yf_197 : zCel (yI0 S) yL0 197 = (101, List.replicate 60 (.long 0)) := yz_l rfl ⟨by decide, rfl⟩ fun _ => rfl
theorem yf_198 : zCel (yI0 S) yL0 198 = (9, [.ref 199, .ref 200, .int 0, .int 0, .int 0, .int 0]) := rfl
theorem yf_199 : zCel (yI0 S) yL0 199 = (101, List.replicate 12 (.long 0)) := yz_l rfl ⟨by decide, rfl⟩ fun _ => rfl
theorem yf_200 : zCel (yI0 S) yL0 200 = (101, List.replicate 60 (.long 0)) := yz_l rfl ⟨by decide, rfl⟩ fun _ => rfl
theorem yf_201 : zCel (yI0 S) yL0 201 = (101, List.replicate 4 (.long 0)) := yz_l rfl ⟨by decide, rfl⟩ fun _ => rfl
theorem yf_202 : zCel (yI0 S) yL0 202 = (10, [.int 0, .int 0, .ref 203, .ref 216, .ref 217, .int 0, .int 0, .int 0, .int 0, .long 0, .ref 218, .ref 219, .ref 220, .ref 221, .int (zi (-1)), .ref 222, .ref 223, .ref 224, .ref 225, .ref 226, .int 0, .ref 227, .ref 228, .ref 229, .int 0, .int 0, .int 0, .ref 230, .ref 231, .ref 232, .ref 233, .ref 234]) := rfl
theorem yf_203 : zCel (yI0 S) yL0 203 = (111, [.ref 204, .ref 205, .ref 206, .ref 207, .ref 208, .ref 209, .ref 210, .ref 211, .ref 212, .ref 213, .ref 214, .ref 215]) := rfl
theorem yf_204 : zCel (yI0 S) yL0 204 = (101, List.replicate 570 (.long 0)) := yz_l rfl ⟨by decide, rfl⟩ fun _ => rfl
theorem yf_205 : zCel (yI0 S) yL0 205 = (101, List.replicate 570 (.long 0)) := yz_l rfl ⟨by decide, rfl⟩ fun _ => rfl
theorem yf_206 : zCel (yI0 S) yL0 206 = (101, List.replicate 570 (.long 0)) := yz_l rfl ⟨by decide, rfl⟩ fun _ => rfl
theorem yf_207 : zCel (yI0 S) yL0 207 = (101, List.replicate 570 (.long 0)) := yz_l rfl ⟨by decide, rfl⟩ fun _ => rfl
theorem yf_208 : zCel (yI0 S) yL0 208 = (101, List.replicate 570 (.long 0)) := yz_l rfl ⟨by decide, rfl⟩ fun _ => rfl
theorem yf_209 : zCel (yI0 S) yL0 209 = (101, List.replicate 570 (.long 0)) := yz_l rfl ⟨by decide, rfl⟩ fun _ => rfl
theorem yf_210 : zCel (yI0 S) yL0 210 = (101, List.replicate 570 (.long 0)) := yz_l rfl ⟨by decide, rfl⟩ fun _ => rfl
theorem yf_211 : zCel (yI0 S) yL0 211 = (101, List.replicate 570 (.long 0)) := yz_l rfl ⟨by decide, rfl⟩ fun _ => rfl
theorem yf_212 : zCel (yI0 S) yL0 212 = (101, List.replicate 570 (.long 0)) := yz_l rfl ⟨by decide, rfl⟩ fun _ => rfl
theorem yf_213 : zCel (yI0 S) yL0 213 = (101, List.replicate 570 (.long 0)) := yz_l rfl ⟨by decide, rfl⟩ fun _ => rfl
theorem yf_214 : zCel (yI0 S) yL0 214 = (101, List.replicate 570 (.long 0)) := yz_l rfl ⟨by decide, rfl⟩ fun _ => rfl
theorem yf_215 : zCel (yI0 S) yL0 215 = (101, List.replicate 570 (.long 0)) := yz_l rfl ⟨by decide, rfl⟩ fun _ => rfl
theorem yf_216 : zCel (yI0 S) yL0 216 = (101, List.replicate 570 (.long 0)) := yz_l rfl ⟨by decide, rfl⟩ fun _ => rfl
theorem yf_217 : zCel (yI0 S) yL0 217 = (100, List.replicate 1600 (.int 0)) := yz_i rfl ⟨by decide, rfl⟩ fun _ => rfl
theorem yf_218 : zCel (yI0 S) yL0 218 = (101, List.replicate 12 (.long 0)) := yz_l rfl ⟨by decide, rfl⟩ fun _ => rfl
theorem yf_219 : zCel (yI0 S) yL0 219 = (101, List.replicate 12 (.long 0)) := yz_l rfl ⟨by decide, rfl⟩ fun _ => rfl
theorem yf_220 : zCel (yI0 S) yL0 220 = (102, List.replicate 12 (.int 0)) := yz_z rfl ⟨by decide, rfl⟩ fun _ => rfl
theorem yf_221 : zCel (yI0 S) yL0 221 = (100, List.replicate 12 (.int 0)) := yz_i rfl ⟨by decide, rfl⟩ fun _ => rfl
theorem yf_222 : zCel (yI0 S) yL0 222 = (100, List.replicate 81 (.int 0)) := yz_i rfl ⟨by decide, rfl⟩ fun _ => rfl
theorem yf_223 : zCel (yI0 S) yL0 223 = (102, List.replicate 81 (.int 0)) := yz_z rfl ⟨by decide, rfl⟩ fun _ => rfl
theorem yf_224 : zCel (yI0 S) yL0 224 = (102, List.replicate 12 (.int 0)) := yz_z rfl ⟨by decide, rfl⟩ fun _ => rfl
theorem yf_225 : zCel (yI0 S) yL0 225 = (101, List.replicate 12 (.long 0)) := yz_l rfl ⟨by decide, rfl⟩ fun _ => rfl
theorem yf_226 : zCel (yI0 S) yL0 226 = (100, List.replicate 12 (.int 0)) := yz_i rfl ⟨by decide, rfl⟩ fun _ => rfl
theorem yf_227 : zCel (yI0 S) yL0 227 = (101, List.replicate 30 (.long 0)) := yz_l rfl ⟨by decide, rfl⟩ fun _ => rfl
theorem yf_228 : zCel (yI0 S) yL0 228 = (101, List.replicate 12 (.long 0)) := yz_l rfl ⟨by decide, rfl⟩ fun _ => rfl
theorem yf_229 : zCel (yI0 S) yL0 229 = (101, List.replicate 60 (.long 0)) := yz_l rfl ⟨by decide, rfl⟩ fun _ => rfl
theorem yf_230 : zCel (yI0 S) yL0 230 = (101, List.replicate 12 (.long 0)) := yz_l rfl ⟨by decide, rfl⟩ fun _ => rfl
theorem yf_231 : zCel (yI0 S) yL0 231 = (101, List.replicate 60 (.long 0)) := yz_l rfl ⟨by decide, rfl⟩ fun _ => rfl
theorem yf_232 : zCel (yI0 S) yL0 232 = (100, List.replicate 3 (.int 0)) := yz_i rfl ⟨by decide, rfl⟩ fun _ => rfl
theorem yf_233 : zCel (yI0 S) yL0 233 = (101, List.replicate 4 (.long 0)) := yz_l rfl ⟨by decide, rfl⟩ fun _ => rfl
theorem yf_234 : zCel (yI0 S) yL0 234 = (101, List.replicate 60 (.long 0)) := yz_l rfl ⟨by decide, rfl⟩ fun _ => rfl
theorem yf_235 : zCel (yI0 S) yL0 235 = (101, List.replicate 1 (.long 0)) := yz_l rfl ⟨by decide, rfl⟩ fun _ => rfl
theorem yf_236 : zCel (yI0 S) yL0 236 = (105, [.double 0]) := rfl
end YCELLS
