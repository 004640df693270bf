/-! What holds at the start -/
theorem tc_0 : (0 : Int32).toNatClampNeg = 0 := by decide
theorem tc_1 : (1 : Int32).toNatClampNeg = 1 := by decide
theorem tc_2 : (2 : Int32).toNatClampNeg = 2 := by decide
theorem tc_3 : (3 : Int32).toNatClampNeg = 3 := by decide
theorem tc_4 : (4 : Int32).toNatClampNeg = 4 := by decide
theorem tc_5 : (5 : Int32).toNatClampNeg = 5 := by decide
theorem tc_6 : (6 : Int32).toNatClampNeg = 6 := by decide
theorem tc_7 : (7 : Int32).toNatClampNeg = 7 := by decide
theorem tc_8 : (8 : Int32).toNatClampNeg = 8 := by decide
theorem tc_9 : (9 : Int32).toNatClampNeg = 9 := by decide
theorem tc_10 : (10 : Int32).toNatClampNeg = 10 := by decide
theorem tc_11 : (11 : Int32).toNatClampNeg = 11 := by decide
theorem tc_12 : (12 : Int32).toNatClampNeg = 12 := by decide
theorem tc_13 : (13 : Int32).toNatClampNeg = 13 := by decide
theorem tc_14 : (14 : Int32).toNatClampNeg = 14 := by decide
theorem tc_15 : (15 : Int32).toNatClampNeg = 15 := by decide
theorem tc_16 : (16 : Int32).toNatClampNeg = 16 := by decide
theorem tc_17 : (17 : Int32).toNatClampNeg = 17 := by decide
theorem tc_18 : (18 : Int32).toNatClampNeg = 18 := by decide
theorem tc_19 : (19 : Int32).toNatClampNeg = 19 := by decide
theorem tc_20 : (20 : Int32).toNatClampNeg = 20 := by decide
section ini
variable {fu : Nat}
theorem x12_f {s s2 : fl_I} {l : fl_L} (h : (f_X12_plain fu (1 : Int32) (f_X12_plain fu (0 : Int32) s l).1 (f_X12_plain fu (0 : Int32) s l).2) = (s2, l)) : f_X12_init fu s l = f_X12_keepsRow fu (f_X12_begins fu s2 (kyL fu l)).1 (f_X12_begins fu s2 (kyL fu l)).2 := by
  unfold f_X12_init
  rw [h]
  simp only [tc_0, tc_1, tc_2, tc_3, tc_4, tc_5, tc_6, tc_7, tc_8, tc_9, tc_10, tc_11, tc_12, tc_13, tc_14, tc_15, tc_16, tc_17, tc_18, tc_19, tc_20]
  rfl
theorem x12_p {s s1 s2 : fl_I} {l : fl_L} (h0 : f_X12_plain fu (0 : Int32) s l = (s1, l)) (h : f_X12_plain fu (1 : Int32) s1 l = (s2, l)) (p0 : p_X12_plain fu (0 : Int32) s l) (p1 : p_X12_plain fu (1 : Int32) s1 l) (pb : p_X12_begins fu s2 (kyL fu l)) (pk : p_X12_keepsRow fu (f_X12_begins fu s2 (kyL fu l)).1 (f_X12_begins fu s2 (kyL fu l)).2) : p_X12_init fu s l := by
  unfold p_X12_init
  rw [h0]
  dsimp only
  rw [h]
  simp only [tc_0, tc_1, tc_2, tc_3, tc_4, tc_5, tc_6, tc_7, tc_8, tc_9, tc_10, tc_11, tc_12, tc_13, tc_14, tc_15, tc_16, tc_17, tc_18, tc_19, tc_20, p_wordT, p0, p1, true_and, and_true]
  exact ⟨pb, pk⟩
theorem s11_0 {j : Nat} : s11 fu 0 j = if j = 14 then -1 else 0 := rfl
theorem s11_9 {q : Nat} (h : 9 ≤ q) (h2 : q < 20) : s11 fu q = t_s fu 9 q := by unfold s11 sG; rw [if_neg (by omega), if_pos ⟨h, h2⟩]
theorem s11_z {q j : Nat} (h : 0 < q) (h2 : q < 9 ∨ 30 < q) : s11 fu q j = 0 := by unfold s11 sG; rw [if_neg (by omega), if_neg (by omega), if_neg (by omega)]
theorem s12_c {S : fl_I} {q : Nat} (h : q < 60) : s12 S q = S q := if_pos h
theorem s12_60 {S : fl_I} {j : Nat} : s12 S 60 j = if j = 17 then -1 else 0 := rfl
theorem s12_z {S : fl_I} {q j : Nat} (h : 60 < q) : s12 S q j = 0 := by unfold s12; rw [if_neg (by omega), if_neg (by omega)]
theorem l12_c {T : fl_L} {q : Nat} (h : q < 60) : l12 T q = T q := if_pos h
theorem lG_8 {w8 : Nat → Int64} {v9 v20 : fl_L} : lG w8 v9 v20 8 = w8 := rfl
theorem l11_8 : l11 fu 8 = st_q := lG_8
theorem st_kw' {k : Nat} (h : k < 21) : st_q k = lN (p5 (kw k)) := st_kw ⟨k, h⟩
theorem start_INV (hfu : 20000 ≤ fu) : p_X12_init fu (s12 (S11 fu)) (l12 (L11 fu)) ∧ INV fu D0 (f_X12_init fu (s12 (S11 fu)) (l12 (L11 fu))).1 (f_X12_init fu (s12 (S11 fu)) (l12 (L11 fu))).2 := by
  -- the class
  obtain ⟨s9, f1, p1, ⟨a0, a1, a2, a3, a14⟩, ⟨a15, a16, a17, a18⟩, ⟨b0, b1, b2, b3⟩, ⟨c0, c1, c2⟩, fr⟩ := c_clear (fu := fu) (t := 9) (s := fun _ _ => 0) (l := fun _ _ => 0) (.inl rfl)
  have e9 : t_s fu 9 = s9 := by unfold t_s; rw [f1]
  have g9 : ∀ q, 9 ≤ q → q < 20 → s11 fu q = s9 q := fun q a b => by rw [s11_9 a b, e9]
  obtain ⟨sB, B1, B2, B3⟩ := c_begin (fu := fu) (t := 9) (s := s11 fu) (l := l11 fu) (P := 0) (np := 0) (fc := fun _ => 0) (pc := fun _ => 0) (.inl rfl) (by rw [g9 9 (by omega) (by omega)]; exact a3) (by rw [g9 9 (by omega) (by omega)]; exact a2) (by omega) (by omega) (fun i hi => absurd hi (Nat.not_lt_zero i)) (fun i hi => absurd hi (Nat.not_lt_zero i))
  have eS : S11 fu = sB := by unfold S11; rw [B1]
  have eL : L11 fu = l11 fu := by unfold L11; rw [B1]
  have cS : ∀ q, q < 60 → (q < 31 ∨ 36 < q) → s12 (S11 fu) q = s11 fu q := fun q a b => by rw [s12_c a, eS, B3 q b]
  -- the reference
  obtain ⟨s1, d1, d2, d3, d4, d5, d6, d7, d8, d9, d10, d11, d12⟩ := r_plain (fu := fu) (sd := 0) (s := s12 (S11 fu)) (l := l12 (L11 fu)) hfu (by omega)
  obtain ⟨s2, e1, e2, e3, e4, e5, e6, e7, e8, e9', e10, e11, e12⟩ := r_plain (fu := fu) (sd := 1) (s := s1) (l := l12 (L11 fu)) hfu (by omega)
  have o0 : ∀ q, q < 68 ∨ 90 < q → q ≠ 60 → q ≠ 91 → s2 q = s12 (S11 fu) q := fun q a b c => funext fun j => by rw [e11.1 q j b c (by rw [sw_a a]; omega), d11.1 q j b c (by rw [sw_a a]; omega)]
  have o60 : s2 60 = s12 (S11 fu) 60 := e12.trans d12
  have x0 : ∀ q j, q ≠ 60 → q ≠ 91 → j < sw q → s2 q j = s1 q j := fun q j a b c => e11.1 q j a b (.inl (by omega))
  have z60 : ∀ j, j ≠ 17 → s2 60 j = nI 0 := fun j hj => by rw [o60, s12_60, if_neg hj]; rfl
  obtain ⟨s3, b1', b2', q1, q2, q3, q4, q5, q6, q7, q8⟩ := r_begins (fu := fu) (sd := 0) (s := s2) (l := kyL fu (l12 (L11 fu))) (L := L0) (K := K0) (N := N0) hfu (by omega) (z60 18 (by omega)) ⟨by rw [x0 68 0 (by omega) (by omega) (by show 0 < 1; omega)]; exact d3, fun i hi => absurd hi (Nat.not_lt_zero i)⟩ ⟨by rw [x0 74 0 (by omega) (by omega) (by show 0 < 1; omega)]; exact d5, fun i hi => absurd hi (Nat.not_lt_zero i)⟩ ⟨by rw [x0 79 _ (by omega) (by omega) (by show 2 * 0 < 2; omega)]; exact d6, by rw [x0 79 _ (by omega) (by omega) (by show 2 * 0 + 1 < 2; omega)]; exact d7, by rw [x0 80 0 (by omega) (by omega) (by show 0 < 1; omega)]; exact d8, by rw [x0 81 0 (by omega) (by omega) (by show 0 < 1; omega)]; exact d9⟩ TJ0.1 TJ0.2.2.1
  obtain ⟨s4, k1, k2, k3, k4⟩ := r_keeps (fu := fu) (s := s3) (l := kyL fu (l12 (L11 fu))) hfu
  have d1' : f_X12_plain fu (0 : Int32) (s12 (S11 fu)) (l12 (L11 fu)) = (s1, l12 (L11 fu)) := d1
  have e1' : f_X12_plain fu (1 : Int32) s1 (l12 (L11 fu)) = (s2, l12 (L11 fu)) := e1
  have F : f_X12_init fu (s12 (S11 fu)) (l12 (L11 fu)) = (s4, kyL fu (l12 (L11 fu))) := by
    rw [x12_f (s2 := s2) (by rw [d1']; exact e1'), b1']; exact k1
  refine ⟨x12_p d1' e1' d2 e2 b2' (by rw [b1']; exact k2), ?_⟩
  rw [F]
  show INV fu D0 s4 (kyL fu (l12 (L11 fu)))
  have m : ∀ q, q ≠ 60 → q ≠ 94 → q ≠ 95 → q ≠ 96 → q ≠ 97 → s4 q = s2 q := fun q a b c d e => by rw [k4 q b, q7 q a c d e]
  have m60 : ∀ j, j ≠ 52 → j ≠ 53 → j ≠ 54 → s4 60 j = s2 60 j := fun j a b c => by rw [k4 60 (by omega), q8 j a b c]
  have mc : ∀ q, q < 60 → s4 q = s12 (S11 fu) q := fun q h => by rw [m q (by omega) (by omega) (by omega) (by omega) (by omega), o0 q (by omega) (by omega) (by omega)]
  have mt : ∀ q, 9 ≤ q → q < 20 → s4 q = s9 q := fun q a b => by rw [mc q (by omega), cS q (by omega) (by omega), g9 q a b]
  have mz : ∀ q j, 0 < q → q < 60 → (q < 9 ∨ 36 < q) → s4 q j = nI 0 := fun q j a b c => by rw [mc q b, cS q b (by omega), s11_z a (by omega)]; rfl
  have cl : cLw 9 Q0.1 Q0.2 s4 := by
    intro k hk
    rw [mt (9 + 9) (by omega) (by omega), mt (9 + 10) (by omega) (by omega)]
    have cd : ∀ p x, s9 (9 + 9) p = nI x → x < 20000 → cds (s9 (9 + 9)) p [x] := fun p x h hx i hi => by
      have : i = 0 := by rw [List.length_singleton] at hi; omega
      subst this
      show s9 (9 + 9) p = cI x
      unfold cI; rw [if_pos hx]; exact h
    have : k = 0 ∨ k = 1 ∨ k = 2 := by omega
    rcases this with rfl | rfl | rfl
    · exact ⟨0, 2, c0, ⟨cd 0 0 b0 (by omega), b1, rfl⟩, (by omega)⟩
    · exact ⟨2, 4, c1, ⟨cd 2 1 b2 (by omega), b3, rfl⟩, (by omega)⟩
    · exact ⟨2, 4, c2, ⟨cd 2 1 b2 (by omega), b3, rfl⟩, (by omega)⟩
  have tq := TJ0.2.2.2.2
  have yw : YW 0 0 (fun _ => 0) (Y0 (fun _ => 0) (fun _ => 0)) := ⟨(by omega), (by omega), fun i hi => absurd hi (Nat.not_lt_zero i), fun i hi => absurd hi (Nat.not_lt_zero i)⟩
  have tb : TB 0 0 0 0 (fun _ => 0) (fun _ => 0) (fun _ => 0) (fun _ => []) (nI 0) (nI 0) := ⟨(by omega), (by omega), (by omega), (by omega), fun i hi => absurd hi (Nat.not_lt_zero i), fun i hi => absurd hi (Nat.not_lt_zero i), fun i hi => absurd hi (Nat.not_lt_zero i), ⟨0, (by omega), rfl⟩, 0, (by omega), rfl⟩
  refine ⟨9, 0, 0, 0, 0, 0, fun _ => 0, fun _ => 0, fun _ => 0, fun _ => [], nI 1, nI 0, nI 0, nI 0, fun k v => if k < 3 then evP (Q0.1 k) (Q0.2 k) v else nI 0, Y0 (fun _ => 0) (fun _ => 0), 0, fun _ => Y0 (fun _ => 0) (fun _ => 0), 0, fun _ => Y0 (fun _ => 0) (fun _ => 0), 0, fun _ => 0, fun _ => false, 0, rfl, ⟨.inl rfl, ⟨⟨?_, ?_, ?_, ?_⟩, fun i hi => absurd hi (Nat.not_lt_zero i), fun i hi => absurd hi (Nat.not_lt_zero i), ⟨?_, ?_, ?_, ?_⟩, fun i hi => absurd hi (Nat.not_lt_zero i)⟩, c_LC hfu (.inl rfl) (fun k hk => (tq k hk).1) cl, LW_c (fun k hk => (tq k hk).1), yC_keep (s := sB) (fun k hk => by rw [mc (31 + k) (by omega), s12_c (by omega), eS]) B2, yw, tb⟩, ⟨⟨(by omega), ?_, ?_, ?_, fun i hi => absurd hi (Nat.not_lt_zero i), fun i hi => absurd hi (Nat.not_lt_zero i), ?_, ?_, ?_, ?_⟩, ⟨?_, ?_, fun i hi => absurd hi (Nat.not_lt_zero i), fun i hi => absurd hi (Nat.not_lt_zero i)⟩, r_LR (lv := 0) (M := 0) (br := 0) hfu (by omega) (fun k hk => ⟨(tq k hk).1, by have := (tq k hk).2; omega⟩) (fun k hk => .inl ⟨?_, ?_, rfl, rfl⟩) (by omega) (by omega) ?_, LW_c (fun k hk => (tq k hk).1), ⟨?_, fun i hi => absurd hi (Nat.not_lt_zero i), fun i hi => absurd hi (Nat.not_lt_zero i)⟩, yw, tb⟩, ?_, ⟨⟨(by omega), ?_, 0, (by omega), ?_, fun j hj => absurd hj (Nat.not_lt_zero j)⟩, ⟨?_, fun k hk => absurd hk (Nat.not_lt_zero k)⟩, fun k hk => absurd hk (Nat.not_lt_zero k)⟩, ⟨⟨(by omega), ?_, fun k _ hb => ?_⟩, fun k hk => ⟨?_, fun hb => ?_⟩, fun k _ hb => ?_⟩, ⟨⟨?_, fun k hk => absurd hk (Nat.not_lt_zero k)⟩, ⟨?_, fun k hk => absurd hk (Nat.not_lt_zero k)⟩, ⟨(by omega), fun k hk => absurd hk (Nat.not_lt_zero k)⟩⟩, ⟨(by omega), ?_, ?_, fun i hi => absurd hi (Nat.not_lt_zero i)⟩, ?_, fun k hk => ⟨?_, kyL_67 hk⟩⟩
  · rw [mt 9 (by omega) (by omega)]; exact a0
  · rw [mt 9 (by omega) (by omega)]; exact a1
  · rw [mt 9 (by omega) (by omega)]; exact a2
  · rw [mt 9 (by omega) (by omega)]; exact a3
  · rw [mt 9 (by omega) (by omega)]; exact a15
  · rw [mt 9 (by omega) (by omega)]; exact a16
  · rw [mt 9 (by omega) (by omega)]; exact a17
  · rw [mt 9 (by omega) (by omega)]; exact a18
  · rw [m60 18 (by omega) (by omega) (by omega)]; exact z60 18 (by omega)
  · rw [k4 60 (by omega)]; exact q1
  · rw [m 74 (by omega) (by omega) (by omega) (by omega) (by omega), x0 74 0 (by omega) (by omega) (by show 0 < 1; omega)]; exact d5
  · rw [m 79 (by omega) (by omega) (by omega) (by omega) (by omega), x0 79 _ (by omega) (by omega) (by show 2 * 0 < 2; omega)]; exact d6
  · rw [m 79 (by omega) (by omega) (by omega) (by omega) (by omega), x0 79 _ (by omega) (by omega) (by show 2 * 0 + 1 < 2; omega)]; exact d7
  · rw [m 80 (by omega) (by omega) (by omega) (by omega) (by omega), x0 80 0 (by omega) (by omega) (by show 0 < 1; omega)]; exact d8
  · rw [m 81 (by omega) (by omega) (by omega) (by omega) (by omega), x0 81 0 (by omega) (by omega) (by show 0 < 1; omega)]; exact d9
  · rw [m 68 (by omega) (by omega) (by omega) (by omega) (by omega), x0 68 0 (by omega) (by omega) (by show 0 < 1; omega)]; exact d3
  · rw [m 72 (by omega) (by omega) (by omega) (by omega) (by omega), x0 72 0 (by omega) (by omega) (by show 0 < 1; omega)]; exact d4
  · rw [m 82 (by omega) (by omega) (by omega) (by omega) (by omega), x0 82 _ (by omega) (by omega) (by show 3 * 0 + k < 3; omega)]; exact (d10 k hk).1
  · rw [m 83 (by omega) (by omega) (by omega) (by omega) (by omega), x0 83 _ (by omega) (by omega) (by show 3 * 0 + k < 3; omega)]; exact (d10 k hk).2
  · rw [m60 18 (by omega) (by omega) (by omega)]; exact z60 18 (by omega)
  · rw [k3 140 (by omega), q3 140 (by omega) (by omega)]; rfl
  · exact ⟨⟨Nat.le_refl _, fun a h => absurd h (fun h => by injection h)⟩, .inl rfl, fun i p h => absurd h (fun h => by injection h), fun i p h => absurd h (fun h => by injection h), fun i j p h => absurd h (fun h => by injection h), fun i j p h => absurd h (fun h => by injection h), fun i j p h => absurd h (fun h => by injection h)⟩
  · exact mz 43 0 (by omega) (by omega) (by omega)
  · exact mz 43 2 (by omega) (by omega) (by omega)
  · rw [m60 58 (by omega) (by omega) (by omega)]; exact z60 58 (by omega)
  · rw [mc 0 (by omega), cS 0 (by omega) (by omega), s11_0, if_neg (by omega)]; rfl
  · unfold bt at hb; rw [Nat.zero_div] at hb; exact absurd hb (by omega)
  · rw [m 105 (by omega) (by omega) (by omega) (by omega) (by omega), o0 105 (by omega) (by omega) (by omega), s12_z (by omega)]; unfold bt; rw [Nat.zero_div]; rfl
  · unfold bt at hb; rw [Nat.zero_div] at hb; exact absurd hb (by omega)
  · unfold bt at hb; rw [Nat.zero_div] at hb; exact absurd hb (by omega)
  · exact mz 57 0 (by omega) (by omega) (by omega)
  · rw [m60 65 (by omega) (by omega) (by omega)]; exact z60 65 (by omega)
  · exact mz 1 1 (by omega) (by omega) (by omega)
  · rw [m60 2 (by omega) (by omega) (by omega)]; exact z60 2 (by omega)
  · rw [mc 0 (by omega), cS 0 (by omega) (by omega), s11_0, m60 17 (by omega) (by omega) (by omega), o60, s12_60, if_pos rfl, if_pos rfl]
  · rw [kyL_o (by omega), l12_c (by omega), eL, l11_8]
    exact st_kw' hk
end ini
