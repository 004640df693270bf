/-- what is not a number: how many cells; which addresses begin a Yard made later; whether the second text is the living one; where the row of tours lies; the yards of the past; the slots -/
abbrev fl_D : Type := Nat × (Nat → Bool) × Bool × Nat × (Nat → Option Nat) × (Nat → Option Nat)
abbrev fl_I : Type := Nat → Nat → Int32
abbrev fl_L : Type := Nat → Nat → Int64
/-- the cells that stand from the start on -/
def fl_s (D : fl_D) (f : Nat → Int32) (g : Nat → Int64) (q : Nat) : Option ab_E := match q with
  | 0 => some (.inr (11, [.ref 1, .ref 3, .ref (if D.2.2.1 then 20 else 9), .ref (if D.2.2.1 then 9 else 20), .ref 31, .ref 37, .ref 43, .ref 45, .int (f 8), .ref 46, .ref 51, .ref 55, .ref 57, .ref 59, .int (f 14)]))
  | 1 => some (.inr (4, [.ref 2, .int (f 1)]))
  | 2 => some (.inl (2, 2000, .inl f))
  | 3 => some (.inr (3, [.int (f 0), .ref 4, .int (f 2), .int (f 3), .int (f 4), .int (f 5), .int (f 6), .long (g 7)]))
  | 4 => some (.inr (6, [.ref 5, .ref 6, .ref 7, .ref 8, .int (f 4)]))
  | 5 => some (.inl (0, 401, .inl f))
  | 6 => some (.inl (0, 401, .inl f))
  | 7 => some (.inl (1, 401, .inr (.inl g)))
  | 8 => some (.inl (1, 21, .inr (.inl g)))
  | 9 => some (.inr (5, [.int (f 0), .int (f 1), .int (f 2), .int (f 3), .ref 10, .ref 11, .ref 12, .ref 13, .ref 14, .ref 15, .ref 16, .ref 17, .ref 18, .ref 19, .int (f 14), .int (f 15), .int (f 16), .int (f 17), .int (f 18)]))
  | 10 => some (.inl (1, 4, .inr (.inl g)))
  | 11 => some (.inl (1, 8, .inr (.inl g)))
  | 12 => some (.inl (1, 4, .inr (.inl g)))
  | 13 => some (.inl (0, 32, .inl f))
  | 14 => some (.inl (0, 32, .inl f))
  | 15 => some (.inl (0, 32, .inl f))
  | 16 => some (.inl (0, 4, .inl f))
  | 17 => some (.inl (0, 4, .inl f))
  | 18 => some (.inl (0, 408, .inl f))
  | 19 => some (.inl (0, 3, .inl f))
  | 20 => some (.inr (5, [.int (f 0), .int (f 1), .int (f 2), .int (f 3), .ref 21, .ref 22, .ref 23, .ref 24, .ref 25, .ref 26, .ref 27, .ref 28, .ref 29, .ref 30, .int (f 14), .int (f 15), .int (f 16), .int (f 17), .int (f 18)]))
  | 21 => some (.inl (1, 4, .inr (.inl g)))
  | 22 => some (.inl (1, 8, .inr (.inl g)))
  | 23 => some (.inl (1, 4, .inr (.inl g)))
  | 24 => some (.inl (0, 32, .inl f))
  | 25 => some (.inl (0, 32, .inl f))
  | 26 => some (.inl (0, 32, .inl f))
  | 27 => some (.inl (0, 4, .inl f))
  | 28 => some (.inl (0, 4, .inl f))
  | 29 => some (.inl (0, 408, .inl f))
  | 30 => some (.inl (0, 3, .inl f))
  | 31 => some (.inr (10, [.int (f 0), .int (f 1), .int (f 2), .ref 32, .ref 33, .ref 34, .ref 35, .ref 36]))
  | 32 => some (.inl (0, 32, .inl f))
  | 33 => some (.inl (0, 32, .inl f))
  | 34 => some (.inl (0, 4, .inl f))
  | 35 => some (.inl (0, 4, .inl f))
  | 36 => some (.inl (0, 4, .inl f))
  | 37 => some (.inr (10, [.int (f 0), .int (f 1), .int (f 2), .ref 38, .ref 39, .ref 40, .ref 41, .ref 42]))
  | 38 => some (.inl (0, 32, .inl f))
  | 39 => some (.inl (0, 32, .inl f))
  | 40 => some (.inl (0, 4, .inl f))
  | 41 => some (.inl (0, 4, .inl f))
  | 42 => some (.inl (0, 4, .inl f))
  | 43 => some (.inr (2, [.int (f 0), .ref 44, .int (f 2)]))
  | 44 => some (.inl (4, 40, .inr (.inr (.inr (.inr D.2.2.2.2.1)))))
  | 45 => some (.inl (4, 3, .inr (.inr (.inr (.inr D.2.2.2.2.2)))))
  | 46 => some (.inr (9, [.ref 47, .ref 50]))
  | 47 => some (.inr (1, [.ref 48, .ref 49]))
  | 48 => some (.inl (0, 9, .inl f))
  | 49 => some (.inl (0, 32, .inl f))
  | 50 => some (.inl (0, 80, .inl f))
  | 51 => some (.inr (8, [.int (f 0), .ref 52, .ref 53, .ref D.2.2.2.1]))
  | 52 => some (.inl (0, 10, .inl f))
  | 53 => some (.inl (0, 80, .inl f))
  | 54 => some (.inl (0, 0, .inl f))
  | 55 => some (.inr (0, [.ref 56]))
  | 56 => some (.inl (0, 32, .inl f))
  | 57 => some (.inr (7, [.int (f 0), .ref 58]))
  | 58 => some (.inl (0, 20, .inl f))
  | 59 => some (.inl (0, 80, .inl f))
  | 60 => some (.inr (12, [.int (f 0), .ref 61, .int (f 2), .ref 62, .int (f 4), .ref 63, .ref 64, .ref 65, .ref 66, .ref 67, .int (f 10), .int (f 11), .int (f 12), .int (f 13), .int (f 14), .int (f 15), .int (f 16), .int (f 17), .int (f 18), .int (f 19), .ref 68, .ref 69, .ref 70, .ref 71, .ref 72, .ref 73, .ref 74, .ref 75, .ref 76, .ref 77, .ref 78, .ref 79, .ref 80, .ref 81, .ref 82, .ref 83, .int (f 36), .ref 84, .ref 85, .ref 86, .ref 87, .ref 88, .int (f 42), .ref 89, .ref 90, .ref 91, .int (f 46), .ref 92, .ref 93, .int (f 49), .ref 94, .ref 95, .int (f 52), .int (f 53), .int (f 54), .ref 96, .ref 97, .ref 98, .int (f 58), .ref 99, .int (f 60), .ref 100, .ref 101, .int (f 63), .ref 102, .int (f 65), .ref 103, .ref 104, .ref 105, .ref 106]))
  | 61 => some (.inl (2, 2000, .inl f))
  | 62 => some (.inl (2, 2000, .inl f))
  | 63 => some (.inl (0, 403, .inl f))
  | 64 => some (.inl (0, 403, .inl f))
  | 65 => some (.inl (0, 403, .inl f))
  | 66 => some (.inl (1, 403, .inr (.inl g)))
  | 67 => some (.inl (1, 21, .inr (.inl g)))
  | 68 => some (.inl (0, 2, .inl f))
  | 69 => some (.inl (1, 8, .inr (.inl g)))
  | 70 => some (.inl (0, 8, .inl f))
  | 71 => some (.inl (0, 8, .inl f))
  | 72 => some (.inl (0, 2, .inl f))
  | 73 => some (.inl (1, 16, .inr (.inl g)))
  | 74 => some (.inl (0, 2, .inl f))
  | 75 => some (.inl (1, 8, .inr (.inl g)))
  | 76 => some (.inl (0, 8, .inl f))
  | 77 => some (.inl (0, 8, .inl f))
  | 78 => some (.inl (0, 8, .inl f))
  | 79 => some (.inl (0, 4, .inl f))
  | 80 => some (.inl (0, 2, .inl f))
  | 81 => some (.inl (0, 2, .inl f))
  | 82 => some (.inl (0, 6, .inl f))
  | 83 => some (.inl (0, 6, .inl f))
  | 84 => some (.inl (3, 260, .inl f))
  | 85 => some (.inl (0, 260, .inl f))
  | 86 => some (.inl (0, 260, .inl f))
  | 87 => some (.inl (0, 260, .inl f))
  | 88 => some (.inl (0, 260, .inl f))
  | 89 => some (.inl (0, 840, .inl f))
  | 90 => some (.inl (0, 840, .inl f))
  | 91 => some (.inl (0, 64, .inl f))
  | 92 => some (.inl (0, 9, .inl f))
  | 93 => some (.inl (0, 400, .inl f))
  | 94 => some (.inl (0, 141, .inl f))
  | 95 => some (.inl (0, 141, .inl f))
  | 96 => some (.inl (0, 32, .inl f))
  | 97 => some (.inl (0, 32, .inl f))
  | 98 => some (.inl (3, 32, .inl f))
  | 99 => some (.inl (0, 5640, .inl f))
  | 100 => some (.inl (0, 80, .inl f))
  | 101 => some (.inl (0, 10240, .inl f))
  | 102 => some (.inl (0, 27, .inl f))
  | 103 => some (.inl (0, 20, .inl f))
  | 104 => some (.inl (3, 20, .inl f))
  | 105 => some (.inl (3, 3, .inl f))
  | 106 => some (.inl (0, 423, .inl f))
  | _ => none
/-- Yards made later, and the row of tours -/
def fl_y (D : fl_D) (f : Nat → Int32) (q : Nat) : Option ab_E :=
  if D.2.1 q then some (.inr (10, [.int (f 0), .int (f 1), .int (f 2), .ref (q + 1), .ref (q + 2), .ref (q + 3), .ref (q + 4), .ref (q + 5)]))
  else if D.2.1 (q - 1) || D.2.1 (q - 2) then some (.inl (0, 32, .inl f))
  else if D.2.1 (q - 3) || (D.2.1 (q - 4) || D.2.1 (q - 5)) then some (.inl (0, 4, .inl f))
  else if q = D.2.2.2.1 then some (.inl (0, 10240, .inl f)) else none
def cl (D : fl_D) (q : Nat) (f : Nat → Int32) (g : Nat → Int64) : Option ab_E := if q < 107 then fl_s D f g q else fl_y D f q
def hp (D : fl_D) (s : fl_I) (l : fl_L) : ab_H := (fun q => cl D q (s q) (l q), D.1)
def su (s : fl_I) (q : Nat) (f : Nat → Int32) : fl_I := fun j => if j = q then f else s j
def sl (l : fl_L) (q : Nat) (g : Nat → Int64) : fl_L := fun j => if j = q then g else l j
theorem su_same (s : fl_I) (q : Nat) (f : Nat → Int32) : su s q f q = f := if_pos rfl
theorem su_ne (s : fl_I) {q j : Nat} (f : Nat → Int32) (h : j ≠ q) : su s q f j = s j := if_neg h
theorem sl_same (l : fl_L) (q : Nat) (g : Nat → Int64) : sl l q g q = g := if_pos rfl
theorem sl_ne (l : fl_L) {q j : Nat} (g : Nat → Int64) (h : j ≠ q) : sl l q g j = l j := if_neg h
theorem su_su (s : fl_I) (q : Nat) (f f' : Nat → Int32) : su (su s q f) q f' = su s q f' := by
  funext j
  by_cases h : j = q <;> simp [su, h]
/-- one number written; one long; a stretch copied -/
def wi (s : fl_I) (q i : Nat) (v : Int32) : fl_I := su s q (upd (s q) i v)
def wl (l : fl_L) (q i : Nat) (v : Int64) : fl_L := sl l q (vp_updL (l q) i v)
def wc (s : fl_I) (q0 q sp dp n : Nat) : fl_I := su s q (va_cpy (s q0) (s q) sp dp n)
def fl_fill (v : Int32) (q z : Nat) (s : fl_I) (l : fl_L) : fl_I × fl_L := (su s q (fun j => if j < z then v else s q j), l)
def fu : Nat := 20000
theorem nar_b {v : Int32} (h : v = 0 ∨ v = 1) : narrow .boolean (.int v) = .int v := by rcases h with rfl | rfl <;> rfl
theorem hp_u {D : fl_D} {s : fl_I} {l : fl_L} {q : Nat} {f : Nat → Int32} {e : ab_E} (h : cl D q f (l q) = some e) : ab_u (hp D s l) q e = hp D (su s q f) l := by
  unfold ab_u hp
  congr 1
  funext j
  by_cases hj : j = q
  · subst hj; rw [if_pos rfl, su_same]; exact h.symm
  · rw [if_neg hj, su_ne _ _ hj]
theorem hp_l {D : fl_D} {s : fl_I} {l : fl_L} {q : Nat} {g : Nat → Int64} {e : ab_E} (h : cl D q (s q) g = some e) : ab_u (hp D s l) q e = hp D s (sl l q g) := by
  unfold ab_u hp
  congr 1
  funext j
  by_cases hj : j = q
  · subst hj; rw [if_pos rfl, sl_same]; exact h.symm
  · rw [if_neg hj, sl_ne _ _ hj]
theorem cc_0 (D : fl_D) (f : Nat → Int32) (g : Nat → Int64) : cl D 0 f g = some (.inr (11, [.ref 1, .ref 3, .ref (if D.2.2.1 then 20 else 9), .ref (if D.2.2.1 then 9 else 20), .ref 31, .ref 37, .ref 43, .ref 45, .int (f 8), .ref 46, .ref 51, .ref 55, .ref 57, .ref 59, .int (f 14)])) := rfl
theorem cc_1 (D : fl_D) (f : Nat → Int32) (g : Nat → Int64) : cl D 1 f g = some (.inr (4, [.ref 2, .int (f 1)])) := rfl
theorem cc_2 (D : fl_D) (f : Nat → Int32) (g : Nat → Int64) : cl D 2 f g = some (.inl (2, 2000, .inl f)) := rfl
theorem cc_3 (D : fl_D) (f : Nat → Int32) (g : Nat → Int64) : cl D 3 f g = some (.inr (3, [.int (f 0), .ref 4, .int (f 2), .int (f 3), .int (f 4), .int (f 5), .int (f 6), .long (g 7)])) := rfl
theorem cc_4 (D : fl_D) (f : Nat → Int32) (g : Nat → Int64) : cl D 4 f g = some (.inr (6, [.ref 5, .ref 6, .ref 7, .ref 8, .int (f 4)])) := rfl
theorem cc_5 (D : fl_D) (f : Nat → Int32) (g : Nat → Int64) : cl D 5 f g = some (.inl (0, 401, .inl f)) := rfl
theorem cc_6 (D : fl_D) (f : Nat → Int32) (g : Nat → Int64) : cl D 6 f g = some (.inl (0, 401, .inl f)) := rfl
theorem cc_7 (D : fl_D) (f : Nat → Int32) (g : Nat → Int64) : cl D 7 f g = some (.inl (1, 401, .inr (.inl g))) := rfl
theorem cc_8 (D : fl_D) (f : Nat → Int32) (g : Nat → Int64) : cl D 8 f g = some (.inl (1, 21, .inr (.inl g))) := rfl
theorem cc_9 (D : fl_D) (f : Nat → Int32) (g : Nat → Int64) : cl D 9 f g = some (.inr (5, [.int (f 0), .int (f 1), .int (f 2), .int (f 3), .ref 10, .ref 11, .ref 12, .ref 13, .ref 14, .ref 15, .ref 16, .ref 17, .ref 18, .ref 19, .int (f 14), .int (f 15), .int (f 16), .int (f 17), .int (f 18)])) := rfl
theorem cc_10 (D : fl_D) (f : Nat → Int32) (g : Nat → Int64) : cl D 10 f g = some (.inl (1, 4, .inr (.inl g))) := rfl
theorem cc_11 (D : fl_D) (f : Nat → Int32) (g : Nat → Int64) : cl D 11 f g = some (.inl (1, 8, .inr (.inl g))) := rfl
theorem cc_12 (D : fl_D) (f : Nat → Int32) (g : Nat → Int64) : cl D 12 f g = some (.inl (1, 4, .inr (.inl g))) := rfl
theorem cc_13 (D : fl_D) (f : Nat → Int32) (g : Nat → Int64) : cl D 13 f g = some (.inl (0, 32, .inl f)) := rfl
theorem cc_14 (D : fl_D) (f : Nat → Int32) (g : Nat → Int64) : cl D 14 f g = some (.inl (0, 32, .inl f)) := rfl
theorem cc_15 (D : fl_D) (f : Nat → Int32) (g : Nat → Int64) : cl D 15 f g = some (.inl (0, 32, .inl f)) := rfl
theorem cc_16 (D : fl_D) (f : Nat → Int32) (g : Nat → Int64) : cl D 16 f g = some (.inl (0, 4, .inl f)) := rfl
theorem cc_17 (D : fl_D) (f : Nat → Int32) (g : Nat → Int64) : cl D 17 f g = some (.inl (0, 4, .inl f)) := rfl
theorem cc_18 (D : fl_D) (f : Nat → Int32) (g : Nat → Int64) : cl D 18 f g = some (.inl (0, 408, .inl f)) := rfl
theorem cc_19 (D : fl_D) (f : Nat → Int32) (g : Nat → Int64) : cl D 19 f g = some (.inl (0, 3, .inl f)) := rfl
theorem cc_20 (D : fl_D) (f : Nat → Int32) (g : Nat → Int64) : cl D 20 f g = some (.inr (5, [.int (f 0), .int (f 1), .int (f 2), .int (f 3), .ref 21, .ref 22, .ref 23, .ref 24, .ref 25, .ref 26, .ref 27, .ref 28, .ref 29, .ref 30, .int (f 14), .int (f 15), .int (f 16), .int (f 17), .int (f 18)])) := rfl
theorem cc_21 (D : fl_D) (f : Nat → Int32) (g : Nat → Int64) : cl D 21 f g = some (.inl (1, 4, .inr (.inl g))) := rfl
theorem cc_22 (D : fl_D) (f : Nat → Int32) (g : Nat → Int64) : cl D 22 f g = some (.inl (1, 8, .inr (.inl g))) := rfl
theorem cc_23 (D : fl_D) (f : Nat → Int32) (g : Nat → Int64) : cl D 23 f g = some (.inl (1, 4, .inr (.inl g))) := rfl
theorem cc_24 (D : fl_D) (f : Nat → Int32) (g : Nat → Int64) : cl D 24 f g = some (.inl (0, 32, .inl f)) := rfl
theorem cc_25 (D : fl_D) (f : Nat → Int32) (g : Nat → Int64) : cl D 25 f g = some (.inl (0, 32, .inl f)) := rfl
theorem cc_26 (D : fl_D) (f : Nat → Int32) (g : Nat → Int64) : cl D 26 f g = some (.inl (0, 32, .inl f)) := rfl
theorem cc_27 (D : fl_D) (f : Nat → Int32) (g : Nat → Int64) : cl D 27 f g = some (.inl (0, 4, .inl f)) := rfl
theorem cc_28 (D : fl_D) (f : Nat → Int32) (g : Nat → Int64) : cl D 28 f g = some (.inl (0, 4, .inl f)) := rfl
theorem cc_29 (D : fl_D) (f : Nat → Int32) (g : Nat → Int64) : cl D 29 f g = some (.inl (0, 408, .inl f)) := rfl
theorem cc_30 (D : fl_D) (f : Nat → Int32) (g : Nat → Int64) : cl D 30 f g = some (.inl (0, 3, .inl f)) := rfl
theorem cc_31 (D : fl_D) (f : Nat → Int32) (g : Nat → Int64) : cl D 31 f g = some (.inr (10, [.int (f 0), .int (f 1), .int (f 2), .ref 32, .ref 33, .ref 34, .ref 35, .ref 36])) := rfl
theorem cc_32 (D : fl_D) (f : Nat → Int32) (g : Nat → Int64) : cl D 32 f g = some (.inl (0, 32, .inl f)) := rfl
theorem cc_33 (D : fl_D) (f : Nat → Int32) (g : Nat → Int64) : cl D 33 f g = some (.inl (0, 32, .inl f)) := rfl
theorem cc_34 (D : fl_D) (f : Nat → Int32) (g : Nat → Int64) : cl D 34 f g = some (.inl (0, 4, .inl f)) := rfl
theorem cc_35 (D : fl_D) (f : Nat → Int32) (g : Nat → Int64) : cl D 35 f g = some (.inl (0, 4, .inl f)) := rfl
theorem cc_36 (D : fl_D) (f : Nat → Int32) (g : Nat → Int64) : cl D 36 f g = some (.inl (0, 4, .inl f)) := rfl
theorem cc_37 (D : fl_D) (f : Nat → Int32) (g : Nat → Int64) : cl D 37 f g = some (.inr (10, [.int (f 0), .int (f 1), .int (f 2), .ref 38, .ref 39, .ref 40, .ref 41, .ref 42])) := rfl
theorem cc_38 (D : fl_D) (f : Nat → Int32) (g : Nat → Int64) : cl D 38 f g = some (.inl (0, 32, .inl f)) := rfl
theorem cc_39 (D : fl_D) (f : Nat → Int32) (g : Nat → Int64) : cl D 39 f g = some (.inl (0, 32, .inl f)) := rfl
theorem cc_40 (D : fl_D) (f : Nat → Int32) (g : Nat → Int64) : cl D 40 f g = some (.inl (0, 4, .inl f)) := rfl
theorem cc_41 (D : fl_D) (f : Nat → Int32) (g : Nat → Int64) : cl D 41 f g = some (.inl (0, 4, .inl f)) := rfl
theorem cc_42 (D : fl_D) (f : Nat → Int32) (g : Nat → Int64) : cl D 42 f g = some (.inl (0, 4, .inl f)) := rfl
theorem cc_43 (D : fl_D) (f : Nat → Int32) (g : Nat → Int64) : cl D 43 f g = some (.inr (2, [.int (f 0), .ref 44, .int (f 2)])) := rfl
theorem cc_44 (D : fl_D) (f : Nat → Int32) (g : Nat → Int64) : cl D 44 f g = some (.inl (4, 40, .inr (.inr (.inr (.inr D.2.2.2.2.1))))) := rfl
theorem cc_45 (D : fl_D) (f : Nat → Int32) (g : Nat → Int64) : cl D 45 f g = some (.inl (4, 3, .inr (.inr (.inr (.inr D.2.2.2.2.2))))) := rfl
theorem cc_46 (D : fl_D) (f : Nat → Int32) (g : Nat → Int64) : cl D 46 f g = some (.inr (9, [.ref 47, .ref 50])) := rfl
theorem cc_47 (D : fl_D) (f : Nat → Int32) (g : Nat → Int64) : cl D 47 f g = some (.inr (1, [.ref 48, .ref 49])) := rfl
theorem cc_48 (D : fl_D) (f : Nat → Int32) (g : Nat → Int64) : cl D 48 f g = some (.inl (0, 9, .inl f)) := rfl
theorem cc_49 (D : fl_D) (f : Nat → Int32) (g : Nat → Int64) : cl D 49 f g = some (.inl (0, 32, .inl f)) := rfl
theorem cc_50 (D : fl_D) (f : Nat → Int32) (g : Nat → Int64) : cl D 50 f g = some (.inl (0, 80, .inl f)) := rfl
theorem cc_51 (D : fl_D) (f : Nat → Int32) (g : Nat → Int64) : cl D 51 f g = some (.inr (8, [.int (f 0), .ref 52, .ref 53, .ref D.2.2.2.1])) := rfl
theorem cc_52 (D : fl_D) (f : Nat → Int32) (g : Nat → Int64) : cl D 52 f g = some (.inl (0, 10, .inl f)) := rfl
theorem cc_53 (D : fl_D) (f : Nat → Int32) (g : Nat → Int64) : cl D 53 f g = some (.inl (0, 80, .inl f)) := rfl
theorem cc_54 (D : fl_D) (f : Nat → Int32) (g : Nat → Int64) : cl D 54 f g = some (.inl (0, 0, .inl f)) := rfl
theorem cc_55 (D : fl_D) (f : Nat → Int32) (g : Nat → Int64) : cl D 55 f g = some (.inr (0, [.ref 56])) := rfl
theorem cc_56 (D : fl_D) (f : Nat → Int32) (g : Nat → Int64) : cl D 56 f g = some (.inl (0, 32, .inl f)) := rfl
theorem cc_57 (D : fl_D) (f : Nat → Int32) (g : Nat → Int64) : cl D 57 f g = some (.inr (7, [.int (f 0), .ref 58])) := rfl
theorem cc_58 (D : fl_D) (f : Nat → Int32) (g : Nat → Int64) : cl D 58 f g = some (.inl (0, 20, .inl f)) := rfl
theorem cc_59 (D : fl_D) (f : Nat → Int32) (g : Nat → Int64) : cl D 59 f g = some (.inl (0, 80, .inl f)) := rfl
theorem cc_60 (D : fl_D) (f : Nat → Int32) (g : Nat → Int64) : cl D 60 f g = some (.inr (12, [.int (f 0), .ref 61, .int (f 2), .ref 62, .int (f 4), .ref 63, .ref 64, .ref 65, .ref 66, .ref 67, .int (f 10), .int (f 11), .int (f 12), .int (f 13), .int (f 14), .int (f 15), .int (f 16), .int (f 17), .int (f 18), .int (f 19), .ref 68, .ref 69, .ref 70, .ref 71, .ref 72, .ref 73, .ref 74, .ref 75, .ref 76, .ref 77, .ref 78, .ref 79, .ref 80, .ref 81, .ref 82, .ref 83, .int (f 36), .ref 84, .ref 85, .ref 86, .ref 87, .ref 88, .int (f 42), .ref 89, .ref 90, .ref 91, .int (f 46), .ref 92, .ref 93, .int (f 49), .ref 94, .ref 95, .int (f 52), .int (f 53), .int (f 54), .ref 96, .ref 97, .ref 98, .int (f 58), .ref 99, .int (f 60), .ref 100, .ref 101, .int (f 63), .ref 102, .int (f 65), .ref 103, .ref 104, .ref 105, .ref 106])) := rfl
theorem cc_61 (D : fl_D) (f : Nat → Int32) (g : Nat → Int64) : cl D 61 f g = some (.inl (2, 2000, .inl f)) := rfl
theorem cc_62 (D : fl_D) (f : Nat → Int32) (g : Nat → Int64) : cl D 62 f g = some (.inl (2, 2000, .inl f)) := rfl
theorem cc_63 (D : fl_D) (f : Nat → Int32) (g : Nat → Int64) : cl D 63 f g = some (.inl (0, 403, .inl f)) := rfl
theorem cc_64 (D : fl_D) (f : Nat → Int32) (g : Nat → Int64) : cl D 64 f g = some (.inl (0, 403, .inl f)) := rfl
theorem cc_65 (D : fl_D) (f : Nat → Int32) (g : Nat → Int64) : cl D 65 f g = some (.inl (0, 403, .inl f)) := rfl
theorem cc_66 (D : fl_D) (f : Nat → Int32) (g : Nat → Int64) : cl D 66 f g = some (.inl (1, 403, .inr (.inl g))) := rfl
theorem cc_67 (D : fl_D) (f : Nat → Int32) (g : Nat → Int64) : cl D 67 f g = some (.inl (1, 21, .inr (.inl g))) := rfl
theorem cc_68 (D : fl_D) (f : Nat → Int32) (g : Nat → Int64) : cl D 68 f g = some (.inl (0, 2, .inl f)) := rfl
theorem cc_69 (D : fl_D) (f : Nat → Int32) (g : Nat → Int64) : cl D 69 f g = some (.inl (1, 8, .inr (.inl g))) := rfl
theorem cc_70 (D : fl_D) (f : Nat → Int32) (g : Nat → Int64) : cl D 70 f g = some (.inl (0, 8, .inl f)) := rfl
theorem cc_71 (D : fl_D) (f : Nat → Int32) (g : Nat → Int64) : cl D 71 f g = some (.inl (0, 8, .inl f)) := rfl
theorem cc_72 (D : fl_D) (f : Nat → Int32) (g : Nat → Int64) : cl D 72 f g = some (.inl (0, 2, .inl f)) := rfl
theorem cc_73 (D : fl_D) (f : Nat → Int32) (g : Nat → Int64) : cl D 73 f g = some (.inl (1, 16, .inr (.inl g))) := rfl
theorem cc_74 (D : fl_D) (f : Nat → Int32) (g : Nat → Int64) : cl D 74 f g = some (.inl (0, 2, .inl f)) := rfl
theorem cc_75 (D : fl_D) (f : Nat → Int32) (g : Nat → Int64) : cl D 75 f g = some (.inl (1, 8, .inr (.inl g))) := rfl
theorem cc_76 (D : fl_D) (f : Nat → Int32) (g : Nat → Int64) : cl D 76 f g = some (.inl (0, 8, .inl f)) := rfl
theorem cc_77 (D : fl_D) (f : Nat → Int32) (g : Nat → Int64) : cl D 77 f g = some (.inl (0, 8, .inl f)) := rfl
theorem cc_78 (D : fl_D) (f : Nat → Int32) (g : Nat → Int64) : cl D 78 f g = some (.inl (0, 8, .inl f)) := rfl
theorem cc_79 (D : fl_D) (f : Nat → Int32) (g : Nat → Int64) : cl D 79 f g = some (.inl (0, 4, .inl f)) := rfl
theorem cc_80 (D : fl_D) (f : Nat → Int32) (g : Nat → Int64) : cl D 80 f g = some (.inl (0, 2, .inl f)) := rfl
theorem cc_81 (D : fl_D) (f : Nat → Int32) (g : Nat → Int64) : cl D 81 f g = some (.inl (0, 2, .inl f)) := rfl
theorem cc_82 (D : fl_D) (f : Nat → Int32) (g : Nat → Int64) : cl D 82 f g = some (.inl (0, 6, .inl f)) := rfl
theorem cc_83 (D : fl_D) (f : Nat → Int32) (g : Nat → Int64) : cl D 83 f g = some (.inl (0, 6, .inl f)) := rfl
theorem cc_84 (D : fl_D) (f : Nat → Int32) (g : Nat → Int64) : cl D 84 f g = some (.inl (3, 260, .inl f)) := rfl
theorem cc_85 (D : fl_D) (f : Nat → Int32) (g : Nat → Int64) : cl D 85 f g = some (.inl (0, 260, .inl f)) := rfl
theorem cc_86 (D : fl_D) (f : Nat → Int32) (g : Nat → Int64) : cl D 86 f g = some (.inl (0, 260, .inl f)) := rfl
theorem cc_87 (D : fl_D) (f : Nat → Int32) (g : Nat → Int64) : cl D 87 f g = some (.inl (0, 260, .inl f)) := rfl
theorem cc_88 (D : fl_D) (f : Nat → Int32) (g : Nat → Int64) : cl D 88 f g = some (.inl (0, 260, .inl f)) := rfl
theorem cc_89 (D : fl_D) (f : Nat → Int32) (g : Nat → Int64) : cl D 89 f g = some (.inl (0, 840, .inl f)) := rfl
theorem cc_90 (D : fl_D) (f : Nat → Int32) (g : Nat → Int64) : cl D 90 f g = some (.inl (0, 840, .inl f)) := rfl
theorem cc_91 (D : fl_D) (f : Nat → Int32) (g : Nat → Int64) : cl D 91 f g = some (.inl (0, 64, .inl f)) := rfl
theorem cc_92 (D : fl_D) (f : Nat → Int32) (g : Nat → Int64) : cl D 92 f g = some (.inl (0, 9, .inl f)) := rfl
theorem cc_93 (D : fl_D) (f : Nat → Int32) (g : Nat → Int64) : cl D 93 f g = some (.inl (0, 400, .inl f)) := rfl
theorem cc_94 (D : fl_D) (f : Nat → Int32) (g : Nat → Int64) : cl D 94 f g = some (.inl (0, 141, .inl f)) := rfl
theorem cc_95 (D : fl_D) (f : Nat → Int32) (g : Nat → Int64) : cl D 95 f g = some (.inl (0, 141, .inl f)) := rfl
theorem cc_96 (D : fl_D) (f : Nat → Int32) (g : Nat → Int64) : cl D 96 f g = some (.inl (0, 32, .inl f)) := rfl
theorem cc_97 (D : fl_D) (f : Nat → Int32) (g : Nat → Int64) : cl D 97 f g = some (.inl (0, 32, .inl f)) := rfl
theorem cc_98 (D : fl_D) (f : Nat → Int32) (g : Nat → Int64) : cl D 98 f g = some (.inl (3, 32, .inl f)) := rfl
theorem cc_99 (D : fl_D) (f : Nat → Int32) (g : Nat → Int64) : cl D 99 f g = some (.inl (0, 5640, .inl f)) := rfl
theorem cc_100 (D : fl_D) (f : Nat → Int32) (g : Nat → Int64) : cl D 100 f g = some (.inl (0, 80, .inl f)) := rfl
theorem cc_101 (D : fl_D) (f : Nat → Int32) (g : Nat → Int64) : cl D 101 f g = some (.inl (0, 10240, .inl f)) := rfl
theorem cc_102 (D : fl_D) (f : Nat → Int32) (g : Nat → Int64) : cl D 102 f g = some (.inl (0, 27, .inl f)) := rfl
theorem cc_103 (D : fl_D) (f : Nat → Int32) (g : Nat → Int64) : cl D 103 f g = some (.inl (0, 20, .inl f)) := rfl
theorem cc_104 (D : fl_D) (f : Nat → Int32) (g : Nat → Int64) : cl D 104 f g = some (.inl (3, 20, .inl f)) := rfl
theorem cc_105 (D : fl_D) (f : Nat → Int32) (g : Nat → Int64) : cl D 105 f g = some (.inl (3, 3, .inl f)) := rfl
theorem cc_106 (D : fl_D) (f : Nat → Int32) (g : Nat → Int64) : cl D 106 f g = some (.inl (0, 423, .inl f)) := rfl
/-- a Yard stands at a -/
def isY (D : fl_D) (a : Nat) : Prop := a = 31 ∨ a = 37 ∨ (107 ≤ a ∧ D.2.1 a = true ∧ D.2.1 (a + 1) = false ∧ D.2.1 (a + 2) = false ∧ D.2.1 (a + 3) = false ∧ D.2.1 (a + 4) = false ∧ D.2.1 (a + 5) = false)
/-- a Text stands at t -/
def isT (t : Nat) : Prop := t = 9 ∨ t = 20
theorem cY_0 {D : fl_D} {a : Nat} (h : isY D a) (f : Nat → Int32) (g : Nat → Int64) : cl D a f g = some (.inr (10, [.int (f 0), .int (f 1), .int (f 2), .ref (a + 1), .ref (a + 2), .ref (a + 3), .ref (a + 4), .ref (a + 5)])) := by
  rcases h with rfl | rfl | ⟨h0, h1, -⟩
  · rfl
  · rfl
  · unfold cl fl_y
    rw [if_neg (by omega), if_pos h1]
theorem cY_1 {D : fl_D} {a : Nat} (h : isY D a) (f : Nat → Int32) (g : Nat → Int64) : cl D (a + 1) f g = some (.inl (0, 32, .inl f)) := by
  rcases h with rfl | rfl | ⟨h0, h1, h2, h3, h4, h5, h6⟩
  · rfl
  · rfl
  · unfold cl fl_y
    rw [if_neg (by omega)]
    simp [show a + 1 - 1 = a by omega, h1, h2, h3, h4, h5, h6]
theorem cY_2 {D : fl_D} {a : Nat} (h : isY D a) (f : Nat → Int32) (g : Nat → Int64) : cl D (a + 2) f g = some (.inl (0, 32, .inl f)) := by
  rcases h with rfl | rfl | ⟨h0, h1, h2, h3, h4, h5, h6⟩
  · rfl
  · rfl
  · unfold cl fl_y
    rw [if_neg (by omega)]
    simp [show a + 2 - 1 = a + 1 by omega, show a + 2 - 2 = a by omega, h1, h2, h3, h4, h5, h6]
theorem cY_3 {D : fl_D} {a : Nat} (h : isY D a) (f : Nat → Int32) (g : Nat → Int64) : cl D (a + 3) f g = some (.inl (0, 4, .inl f)) := by
  rcases h with rfl | rfl | ⟨h0, h1, h2, h3, h4, h5, h6⟩
  · rfl
  · rfl
  · unfold cl fl_y
    rw [if_neg (by omega)]
    simp [show a + 3 - 1 = a + 2 by omega, show a + 3 - 2 = a + 1 by omega, show a + 3 - 3 = a by omega, h1, h2, h3, h4, h5, h6]
theorem cY_4 {D : fl_D} {a : Nat} (h : isY D a) (f : Nat → Int32) (g : Nat → Int64) : cl D (a + 4) f g = some (.inl (0, 4, .inl f)) := by
  rcases h with rfl | rfl | ⟨h0, h1, h2, h3, h4, h5, h6⟩
  · rfl
  · rfl
  · unfold cl fl_y
    rw [if_neg (by omega)]
    simp [show a + 4 - 1 = a + 3 by omega, show a + 4 - 2 = a + 2 by omega, show a + 4 - 3 = a + 1 by omega, show a + 4 - 4 = a by omega, h1, h2, h3, h4, h5, h6]
theorem cY_5 {D : fl_D} {a : Nat} (h : isY D a) (f : Nat → Int32) (g : Nat → Int64) : cl D (a + 5) f g = some (.inl (0, 4, .inl f)) := by
  rcases h with rfl | rfl | ⟨h0, h1, h2, h3, h4, h5, h6⟩
  · rfl
  · rfl
  · unfold cl fl_y
    rw [if_neg (by omega)]
    simp [show a + 5 - 1 = a + 4 by omega, show a + 5 - 2 = a + 3 by omega, show a + 5 - 3 = a + 2 by omega, show a + 5 - 4 = a + 1 by omega, show a + 5 - 5 = a by omega, h1, h2, h3, h4, h5, h6]
theorem cT_0 {D : fl_D} {t : Nat} (h : isT t) (f : Nat → Int32) (g : Nat → Int64) : cl D t f g = some (.inr (5, [.int (f 0), .int (f 1), .int (f 2), .int (f 3), .ref (t + 1), .ref (t + 2), .ref (t + 3), .ref (t + 4), .ref (t + 5), .ref (t + 6), .ref (t + 7), .ref (t + 8), .ref (t + 9), .ref (t + 10), .int (f 14), .int (f 15), .int (f 16), .int (f 17), .int (f 18)])) := by
  rcases h with rfl | rfl
  · rfl
  · rfl
theorem cT_1 {D : fl_D} {t : Nat} (h : isT t) (f : Nat → Int32) (g : Nat → Int64) : cl D (t + 1) f g = some (.inl (1, 4, .inr (.inl g))) := by
  rcases h with rfl | rfl
  · rfl
  · rfl
theorem cT_2 {D : fl_D} {t : Nat} (h : isT t) (f : Nat → Int32) (g : Nat → Int64) : cl D (t + 2) f g = some (.inl (1, 8, .inr (.inl g))) := by
  rcases h with rfl | rfl
  · rfl
  · rfl
theorem cT_3 {D : fl_D} {t : Nat} (h : isT t) (f : Nat → Int32) (g : Nat → Int64) : cl D (t + 3) f g = some (.inl (1, 4, .inr (.inl g))) := by
  rcases h with rfl | rfl
  · rfl
  · rfl
theorem cT_4 {D : fl_D} {t : Nat} (h : isT t) (f : Nat → Int32) (g : Nat → Int64) : cl D (t + 4) f g = some (.inl (0, 32, .inl f)) := by
  rcases h with rfl | rfl
  · rfl
  · rfl
theorem cT_5 {D : fl_D} {t : Nat} (h : isT t) (f : Nat → Int32) (g : Nat → Int64) : cl D (t + 5) f g = some (.inl (0, 32, .inl f)) := by
  rcases h with rfl | rfl
  · rfl
  · rfl
theorem cT_6 {D : fl_D} {t : Nat} (h : isT t) (f : Nat → Int32) (g : Nat → Int64) : cl D (t + 6) f g = some (.inl (0, 32, .inl f)) := by
  rcases h with rfl | rfl
  · rfl
  · rfl
theorem cT_7 {D : fl_D} {t : Nat} (h : isT t) (f : Nat → Int32) (g : Nat → Int64) : cl D (t + 7) f g = some (.inl (0, 4, .inl f)) := by
  rcases h with rfl | rfl
  · rfl
  · rfl
theorem cT_8 {D : fl_D} {t : Nat} (h : isT t) (f : Nat → Int32) (g : Nat → Int64) : cl D (t + 8) f g = some (.inl (0, 4, .inl f)) := by
  rcases h with rfl | rfl
  · rfl
  · rfl
theorem cT_9 {D : fl_D} {t : Nat} (h : isT t) (f : Nat → Int32) (g : Nat → Int64) : cl D (t + 9) f g = some (.inl (0, 408, .inl f)) := by
  rcases h with rfl | rfl
  · rfl
  · rfl
theorem cT_10 {D : fl_D} {t : Nat} (h : isT t) (f : Nat → Int32) (g : Nat → Int64) : cl D (t + 10) f g = some (.inl (0, 3, .inl f)) := by
  rcases h with rfl | rfl
  · rfl
  · rfl
section fl_rules
variable {G : ab_G} {d kc ks : Nat} {M : ab_M} {pc n x y : Nat} {cv : Value} {nm : MethodName} {L : List (Option Value)} {st : List Value} {D : fl_D} {s : fl_I} {l : fl_L} {Q : Option Value → ab_H → Prop}
theorem w_iast {q z : Nat} {i w : Int32} (ho : ab_op M pc = some (.iastore, n, x, y, cv, nm)) (hc : ∀ f g, cl D q f g = some (.inl (0, z, .inl f))) (hi : vp_in i z) (k : ab_C G d kc ks M n L st (hp D (wi s q i.toNatClampNeg w) l) Q) : ab_C G d kc ks M pc L (.int w :: .int i :: .ref q :: st) (hp D s l) Q := by
  refine r_iast ho (hc (s q) (l q)) hi ?_
  rw [hp_u (f := upd (s q) i.toNatClampNeg w) (hc _ _)]
  exact k
theorem w_bast {q z : Nat} {i w : Int32} (ho : ab_op M pc = some (.bastore, n, x, y, cv, nm)) (hc : ∀ f g, cl D q f g = some (.inl (2, z, .inl f))) (hi : vp_in i z) (k : ab_C G d kc ks M n L st (hp D (wi s q i.toNatClampNeg (vp_nar .byte w)) l) Q) : ab_C G d kc ks M pc L (.int w :: .int i :: .ref q :: st) (hp D s l) Q := by
  refine r_bast ho (hc (s q) (l q)) hi ?_
  rw [hp_u (f := upd (s q) i.toNatClampNeg (vp_nar .byte w)) (hc _ _)]
  exact k
theorem w_zast {q z : Nat} {i w : Int32} (ho : ab_op M pc = some (.bastore, n, x, y, cv, nm)) (hc : ∀ f g, cl D q f g = some (.inl (3, z, .inl f))) (hi : vp_in i z) (k : ab_C G d kc ks M n L st (hp D (wi s q i.toNatClampNeg (vp_nar .boolean w)) l) Q) : ab_C G d kc ks M pc L (.int w :: .int i :: .ref q :: st) (hp D s l) Q := by
  refine r_zast ho (hc (s q) (l q)) hi ?_
  rw [hp_u (f := upd (s q) i.toNatClampNeg (vp_nar .boolean w)) (hc _ _)]
  exact k
theorem w_last {q z : Nat} {i : Int32} {w : Int64} (ho : ab_op M pc = some (.lastore, n, x, y, cv, nm)) (hc : ∀ f g, cl D q f g = some (.inl (1, z, .inr (.inl g)))) (hi : vp_in i z) (k : ab_C G d kc ks M n L st (hp D s (wl l q i.toNatClampNeg w)) Q) : ab_C G d kc ks M pc L (.long w :: .int i :: .ref q :: st) (hp D s l) Q := by
  refine r_last ho (hc (s q) (l q)) hi ?_
  rw [hp_l (g := vp_updL (l q) i.toNatClampNeg w) (hc _ _)]
  exact k
theorem w_copy {i q0 q z0 z1 : Nat} {sp dp w : Int32} (ho : ab_op M pc = some (.invokestatic i, n, 0, y, cv, arraycopyName)) (h0 : ∀ f g, cl D q0 f g = some (.inl (0, z0, .inl f))) (h1 : ∀ f g, cl D q f g = some (.inl (0, z1, .inl f))) (g1 : ¬ sp < 0) (g2 : ¬ dp < 0) (g3 : ¬ w < 0) (g4 : sp.toNatClampNeg + w.toNatClampNeg ≤ z0) (g5 : dp.toNatClampNeg + w.toNatClampNeg ≤ z1) (hrs : (st.map fun v => v.category).sum ≤ 8)
    (k : ab_C G d kc ks M n L st (hp D (wc s q0 q sp.toNatClampNeg dp.toNatClampNeg w.toNatClampNeg) l) Q) : ab_C G d kc ks M pc L (.int w :: .int dp :: .ref q :: .int sp :: .ref q0 :: st) (hp D s l) Q := by
  refine r_copy ho (h0 (s q0) (l q0)) (h1 (s q) (l q)) g1 g2 g3 g4 g5 hrs ?_
  rw [hp_u (f := va_cpy (s q0) (s q) sp.toNatClampNeg dp.toNatClampNeg w.toNatClampNeg) (h1 _ _)]
  exact k
/-- a number put into a field -/
theorem w_put {q i : Nat} {w : Int32} {fl : (Nat → Int32) → (Nat → Int64) → List Value} (ho : ab_op M pc = some (.putfield i, n, x, y, cv, nm)) (hc : ∀ f g, cl D q f g = some (.inr (x, fl f g))) (hfin : ab_fin x y = false) (hty : ab_ty x y = .int) (hlen : ∀ f g, y < (fl f g).length) (hset : ∀ f g, (fl f g).set y (.int w) = fl (upd f y w) g) (k : ab_C G d kc ks M n L st (hp D (wi s q y w) l) Q) : ab_C G d kc ks M pc L (.int w :: .ref q :: st) (hp D s l) Q := by
  refine r_putfield ho (hc (s q) (l q)) hfin hty rfl rfl (hlen _ _) (hset _ _) ?_
  rw [hp_u (f := upd (s q) y w) (hc _ _)]
  exact k
theorem w_putZ {q i : Nat} {w : Int32} {fl : (Nat → Int32) → (Nat → Int64) → List Value} (ho : ab_op M pc = some (.putfield i, n, x, y, cv, nm)) (hc : ∀ f g, cl D q f g = some (.inr (x, fl f g))) (hfin : ab_fin x y = false) (hty : ab_ty x y = .boolean) (hw : w = 0 ∨ w = 1) (hlen : ∀ f g, y < (fl f g).length) (hset : ∀ f g, (fl f g).set y (.int w) = fl (upd f y w) g) (k : ab_C G d kc ks M n L st (hp D (wi s q y w) l) Q) : ab_C G d kc ks M pc L (.int w :: .ref q :: st) (hp D s l) Q := by
  refine r_putfield ho (hc (s q) (l q)) hfin hty ?_ ?_ (hlen _ _) (hset _ _) ?_
  · rcases hw with rfl | rfl <;> rfl
  · rcases hw with rfl | rfl <;> rfl
  rw [hp_u (f := upd (s q) y w) (hc _ _)]
  exact k
theorem w_putL {q i : Nat} {w : Int64} {fl : (Nat → Int32) → (Nat → Int64) → List Value} (ho : ab_op M pc = some (.putfield i, n, x, y, cv, nm)) (hc : ∀ f g, cl D q f g = some (.inr (x, fl f g))) (hfin : ab_fin x y = false) (hty : ab_ty x y = .long) (hlen : ∀ f g, y < (fl f g).length) (hset : ∀ f g, (fl f g).set y (.long w) = fl f (vp_updL g y w)) (k : ab_C G d kc ks M n L st (hp D s (wl l q y w)) Q) : ab_C G d kc ks M pc L (.long w :: .ref q :: st) (hp D s l) Q := by
  refine r_putfield ho (hc (s q) (l q)) hfin hty rfl rfl (hlen _ _) (hset _ _) ?_
  rw [hp_l (g := vp_updL (l q) y w) (hc _ _)]
  exact k
theorem q_getfield {q i : Nat} {v : Value} {fl : (Nat → Int32) → (Nat → Int64) → List Value} (ho : ab_op M pc = some (.getfield i, n, x, y, cv, nm)) (hc : ∀ f g, cl D q f g = some (.inr (x, fl f g))) (hv : (fl (s q) (l q))[y]? = some v) (k : ab_C G d kc ks M n L (v :: st) (hp D s l) Q) : ab_C G d kc ks M pc L (.ref q :: st) (hp D s l) Q := r_getfield ho (hc (s q) (l q)) hv k
theorem q_iald {q z : Nat} {i : Int32} (ho : ab_op M pc = some (.iaload, n, x, y, cv, nm)) (hc : ∀ f g, cl D q f g = some (.inl (0, z, .inl f))) (hi : vp_in i z) (k : ab_C G d kc ks M n L (.int (s q i.toNatClampNeg) :: st) (hp D s l) Q) : ab_C G d kc ks M pc L (.int i :: .ref q :: st) (hp D s l) Q := r_iald ho (hc (s q) (l q)) hi k
theorem q_bald {q z : Nat} {i : Int32} (ho : ab_op M pc = some (.baload, n, x, y, cv, nm)) (hc : ∀ f g, cl D q f g = some (.inl (2, z, .inl f))) (hi : vp_in i z) (k : ab_C G d kc ks M n L (.int (s q i.toNatClampNeg) :: st) (hp D s l) Q) : ab_C G d kc ks M pc L (.int i :: .ref q :: st) (hp D s l) Q := r_bald ho (hc (s q) (l q)) hi k
theorem q_zald {q z : Nat} {i : Int32} (ho : ab_op M pc = some (.baload, n, x, y, cv, nm)) (hc : ∀ f g, cl D q f g = some (.inl (3, z, .inl f))) (hi : vp_in i z) (k : ab_C G d kc ks M n L (.int (s q i.toNatClampNeg) :: st) (hp D s l) Q) : ab_C G d kc ks M pc L (.int i :: .ref q :: st) (hp D s l) Q := r_zald ho (hc (s q) (l q)) hi k
theorem q_lald {q z : Nat} {i : Int32} (ho : ab_op M pc = some (.laload, n, x, y, cv, nm)) (hc : ∀ f g, cl D q f g = some (.inl (1, z, .inr (.inl g)))) (hi : vp_in i z) (k : ab_C G d kc ks M n L (.long (l q i.toNatClampNeg) :: st) (hp D s l) Q) : ab_C G d kc ks M pc L (.int i :: .ref q :: st) (hp D s l) Q := r_lald ho (hc (s q) (l q)) hi k
theorem q_aald {q z : Nat} {i : Int32} {f : Nat → Option Nat} (ho : ab_op M pc = some (.aaload, n, x, y, cv, nm)) (hc : ∀ u g, cl D q u g = some (.inl (4, z, .inr (.inr (.inr (.inr f)))))) (hi : vp_in i z) (k : ab_C G d kc ks M n L (va_rf (f i.toNatClampNeg) :: st) (hp D s l) Q) : ab_C G d kc ks M pc L (.int i :: .ref q :: st) (hp D s l) Q := r_aald ho (hc (s q) (l q)) hi k
theorem q_alen {q kd z : Nat} {w : (Nat → Int32) → (Nat → Int64) → ((Nat → Int32) ⊕ (Nat → Int64) ⊕ (Nat → UInt32) ⊕ (Nat → UInt64) ⊕ (Nat → Option Nat))} {v : Int32} (ho : ab_op M pc = some (.arraylength, n, x, y, cv, nm)) (hc : ∀ f g, cl D q f g = some (.inl (kd, z, w f g))) (hkd : kd < 5) (hv : Int32.ofNat z = v) (k : ab_C G d kc ks M n L (.int v :: st) (hp D s l) Q) : ab_C G d kc ks M pc L (.ref q :: st) (hp D s l) Q := r_alen ho (hc (s q) (l q)) hkd hv k
end fl_rules
theorem ft_2_0 : ab_ty 2 0 = .int := by decide +kernel
theorem ff_2_0 : ab_fin 2 0 = false := by decide +kernel
theorem ft_2_2 : ab_ty 2 2 = .int := by decide +kernel
theorem ff_2_2 : ab_fin 2 2 = false := by decide +kernel
theorem ft_3_0 : ab_ty 3 0 = .int := by decide +kernel
theorem ff_3_0 : ab_fin 3 0 = false := by decide +kernel
theorem ft_3_2 : ab_ty 3 2 = .int := by decide +kernel
theorem ff_3_2 : ab_fin 3 2 = false := by decide +kernel
theorem ft_3_3 : ab_ty 3 3 = .int := by decide +kernel
theorem ff_3_3 : ab_fin 3 3 = false := by decide +kernel
theorem ft_3_4 : ab_ty 3 4 = .int := by decide +kernel
theorem ff_3_4 : ab_fin 3 4 = false := by decide +kernel
theorem ft_3_5 : ab_ty 3 5 = .int := by decide +kernel
theorem ff_3_5 : ab_fin 3 5 = false := by decide +kernel
theorem ft_3_6 : ab_ty 3 6 = .int := by decide +kernel
theorem ff_3_6 : ab_fin 3 6 = false := by decide +kernel
theorem ft_3_7 : ab_ty 3 7 = .long := by decide +kernel
theorem ff_3_7 : ab_fin 3 7 = false := by decide +kernel
theorem ft_4_1 : ab_ty 4 1 = .int := by decide +kernel
theorem ff_4_1 : ab_fin 4 1 = false := by decide +kernel
theorem ft_5_0 : ab_ty 5 0 = .int := by decide +kernel
theorem ff_5_0 : ab_fin 5 0 = false := by decide +kernel
theorem ft_5_1 : ab_ty 5 1 = .int := by decide +kernel
theorem ff_5_1 : ab_fin 5 1 = false := by decide +kernel
theorem ft_5_2 : ab_ty 5 2 = .int := by decide +kernel
theorem ff_5_2 : ab_fin 5 2 = false := by decide +kernel
theorem ft_5_3 : ab_ty 5 3 = .int := by decide +kernel
theorem ff_5_3 : ab_fin 5 3 = false := by decide +kernel
theorem ft_5_14 : ab_ty 5 14 = .int := by decide +kernel
theorem ff_5_14 : ab_fin 5 14 = false := by decide +kernel
theorem ft_5_15 : ab_ty 5 15 = .int := by decide +kernel
theorem ff_5_15 : ab_fin 5 15 = false := by decide +kernel
theorem ft_5_16 : ab_ty 5 16 = .int := by decide +kernel
theorem ff_5_16 : ab_fin 5 16 = false := by decide +kernel
theorem ft_5_17 : ab_ty 5 17 = .int := by decide +kernel
theorem ff_5_17 : ab_fin 5 17 = false := by decide +kernel
theorem ft_5_18 : ab_ty 5 18 = .int := by decide +kernel
theorem ff_5_18 : ab_fin 5 18 = false := by decide +kernel
theorem ft_6_4 : ab_ty 6 4 = .int := by decide +kernel
theorem ff_6_4 : ab_fin 6 4 = false := by decide +kernel
theorem ft_7_0 : ab_ty 7 0 = .int := by decide +kernel
theorem ff_7_0 : ab_fin 7 0 = false := by decide +kernel
theorem ft_8_0 : ab_ty 8 0 = .int := by decide +kernel
theorem ff_8_0 : ab_fin 8 0 = false := by decide +kernel
theorem ft_10_0 : ab_ty 10 0 = .int := by decide +kernel
theorem ff_10_0 : ab_fin 10 0 = false := by decide +kernel
theorem ft_10_1 : ab_ty 10 1 = .int := by decide +kernel
theorem ff_10_1 : ab_fin 10 1 = false := by decide +kernel
theorem ft_10_2 : ab_ty 10 2 = .int := by decide +kernel
theorem ff_10_2 : ab_fin 10 2 = false := by decide +kernel
theorem ft_11_8 : ab_ty 11 8 = .int := by decide +kernel
theorem ff_11_8 : ab_fin 11 8 = false := by decide +kernel
theorem ft_11_14 : ab_ty 11 14 = .int := by decide +kernel
theorem ff_11_14 : ab_fin 11 14 = false := by decide +kernel
theorem ft_12_0 : ab_ty 12 0 = .int := by decide +kernel
theorem ff_12_0 : ab_fin 12 0 = false := by decide +kernel
theorem ft_12_2 : ab_ty 12 2 = .int := by decide +kernel
theorem ff_12_2 : ab_fin 12 2 = false := by decide +kernel
theorem ft_12_4 : ab_ty 12 4 = .int := by decide +kernel
theorem ff_12_4 : ab_fin 12 4 = false := by decide +kernel
theorem ft_12_10 : ab_ty 12 10 = .int := by decide +kernel
theorem ff_12_10 : ab_fin 12 10 = false := by decide +kernel
theorem ft_12_11 : ab_ty 12 11 = .int := by decide +kernel
theorem ff_12_11 : ab_fin 12 11 = false := by decide +kernel
theorem ft_12_12 : ab_ty 12 12 = .int := by decide +kernel
theorem ff_12_12 : ab_fin 12 12 = false := by decide +kernel
theorem ft_12_13 : ab_ty 12 13 = .int := by decide +kernel
theorem ff_12_13 : ab_fin 12 13 = false := by decide +kernel
theorem ft_12_14 : ab_ty 12 14 = .int := by decide +kernel
theorem ff_12_14 : ab_fin 12 14 = false := by decide +kernel
theorem ft_12_15 : ab_ty 12 15 = .int := by decide +kernel
theorem ff_12_15 : ab_fin 12 15 = false := by decide +kernel
theorem ft_12_16 : ab_ty 12 16 = .int := by decide +kernel
theorem ff_12_16 : ab_fin 12 16 = false := by decide +kernel
theorem ft_12_17 : ab_ty 12 17 = .int := by decide +kernel
theorem ff_12_17 : ab_fin 12 17 = false := by decide +kernel
theorem ft_12_18 : ab_ty 12 18 = .int := by decide +kernel
theorem ff_12_18 : ab_fin 12 18 = false := by decide +kernel
theorem ft_12_19 : ab_ty 12 19 = .int := by decide +kernel
theorem ff_12_19 : ab_fin 12 19 = false := by decide +kernel
theorem ft_12_36 : ab_ty 12 36 = .int := by decide +kernel
theorem ff_12_36 : ab_fin 12 36 = false := by decide +kernel
theorem ft_12_42 : ab_ty 12 42 = .int := by decide +kernel
theorem ff_12_42 : ab_fin 12 42 = false := by decide +kernel
theorem ft_12_46 : ab_ty 12 46 = .int := by decide +kernel
theorem ff_12_46 : ab_fin 12 46 = false := by decide +kernel
theorem ft_12_49 : ab_ty 12 49 = .boolean := by decide +kernel
theorem ff_12_49 : ab_fin 12 49 = false := by decide +kernel
theorem ft_12_52 : ab_ty 12 52 = .int := by decide +kernel
theorem ff_12_52 : ab_fin 12 52 = false := by decide +kernel
theorem ft_12_53 : ab_ty 12 53 = .boolean := by decide +kernel
theorem ff_12_53 : ab_fin 12 53 = false := by decide +kernel
theorem ft_12_54 : ab_ty 12 54 = .int := by decide +kernel
theorem ff_12_54 : ab_fin 12 54 = false := by decide +kernel
theorem ft_12_58 : ab_ty 12 58 = .int := by decide +kernel
theorem ff_12_58 : ab_fin 12 58 = false := by decide +kernel
theorem ft_12_60 : ab_ty 12 60 = .int := by decide +kernel
theorem ff_12_60 : ab_fin 12 60 = false := by decide +kernel
theorem ft_12_63 : ab_ty 12 63 = .int := by decide +kernel
theorem ff_12_63 : ab_fin 12 63 = false := by decide +kernel
theorem ft_12_65 : ab_ty 12 65 = .int := by decide +kernel
theorem ff_12_65 : ab_fin 12 65 = false := by decide +kernel
