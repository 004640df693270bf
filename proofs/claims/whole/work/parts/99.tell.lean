/-! Laws, told to both -/
section tel3
variable {B : Nat → Nat} {a b c e i j k m n p q t z f lf lj lf' lj' sd M br y hi o r : Nat} {s s1 s2 sC sR : fl_I} {l l1 l2 lC lR : fl_L} {fu : Nat} {x : Int32} {v : Int64} {L : Lt} {W : Wt} {K : Kt} {N : Nt} {Q : Qt}
theorem r_tell23 (hy : y < 3) (h63 : s 63 k = nI (23 + y)) (h11 : s 60 11 = nI k) (hk : k ≤ 400) (h13 : s 60 13 = nI 0) (g1 : f_X12_goesOn fu s l = (s1, l)) (g2 : p_X12_goesOn fu s l) : f_X12_tellOne fu s l = f_X12_tellLaw fu (nI y) s1 l ∧ (p_X12_tellLaw fu (nI y) s1 l → p_X12_tellOne fu s l) := by
  have e0 : nI (23 + y) - nI 23 = nI y := by rw [pk_sub (by omega), Nat.add_sub_cancel_left]
  have T : f_X12_tellOne_332 fu (nI y) s l = f_X12_tellLaw fu (nI y) s1 l := by
    unfold f_X12_tellOne_332 f_X12_tellOne_344 f_X12_tellOne_349
    simp (disch := omega) only [ln_, leT, ar_t, ar_f, it_t, it_f, true_and, and_true, not_true_eq_false, not_false_eq_true, implies_true, and_self, eq_self, h13, g1]
  have P : p_X12_tellLaw fu (nI y) s1 l → p_X12_tellOne_332 fu (nI y) s l := by
    intro g
    unfold p_X12_tellOne_332 p_X12_tellOne_344 p_X12_tellOne_349
    simp (disch := omega) only [ln_, leT, ar_t, ar_f, it_t, it_f, true_and, and_true, not_true_eq_false, not_false_eq_true, implies_true, and_self, eq_self, h13, g1, g2]
    exact g
  have hy' : y = 0 ∨ y = 1 ∨ y = 2 := by omega
  constructor
  · rw [← T]
    unfold f_X12_tellOne
    rcases hy' with rfl | rfl | rfl <;> simp (disch := omega) only [ln_, eqF, eqT, ltF, leT, nI_clamp, ar_t, ar_f, it_t, it_f, true_and, and_true, not_true_eq_false, not_false_eq_true, implies_true, and_self, eq_self, h63, h11, e0]
  · intro g
    have g := P g
    unfold p_X12_tellOne
    rcases hy' with rfl | rfl | rfl <;> simp (disch := omega) only [ln_, eqF, eqT, ltF, leT, nI_clamp, vpT, ar_t, ar_f, it_t, it_f, true_and, and_true, not_true_eq_false, not_false_eq_true, implies_true, and_self, eq_self, h63, h11, e0] <;> exact g
theorem tl_law (hfu : 20000 ≤ fu) (ht : t = 9 ∨ t = 20) (hsd : sd ≤ 1) (hy : y < 3) (c : CJ B n t k m lf lj L W K N Q sC lC) (r : RJ B n sd k M br lf lj L W K N Q sR lR) (T : TJ lf L W K N Q) (hT : tK B n k = 259 + y) : Out B n t sd k sR lR (f_X3_lawTold fu (nI y) t sC lC) (p_X3_lawTold fu (nI y) t sC lC) (f_X12_tellOne fu sR lR) (p_X12_tellOne fu sR lR) := by
  obtain ⟨c1, cm, cL, cW, cK, cN, cQ⟩ := c
  obtain ⟨r1, rL, rW, rK, rN', rQ', rM1, rM2, rb1, rb2⟩ := r
  obtain ⟨tl, tw, tk, tn, tq⟩ := T
  obtain ⟨h63, h11, hk4, h13, h19⟩ := rJ63 r1
  have hr : rk (tK B n k) = 23 + y := by
    have := (rkF r1.1.1.1 k).2.2.2.2.2.2.2.2.2.2.2.2.2.1 (by omega)
    omega
  rw [hr] at h63
  obtain ⟨s1, g1, g2, g3, g4⟩ := sGo (fu := fu) r1 hT (by omega)
  obtain ⟨T0, P0⟩ := r_tell23 hy h63 h11 hk4 h13 g1 g2
  rw [T0]
  have k36 : s1 60 36 = nI br := by rw [g3.2 36 (by omega) (by omega) (by omega) (by omega) (by omega)]; exact r1.1.2.2.2.1
  have Lb := Nat.le_refl br
  have LM := Nat.le_refl M
  -- behind a fault at the first token
  obtain ⟨pC, C⟩ := c_law hfu ht hy c1.1 cm
  rcases C with ⟨a, bs, D, sC', lw, fC, ⟨v1, v2, v3, v4, ⟨qm, v5, v6, v7⟩, vg, v8, v9⟩, hka⟩ | ⟨e, a, bs, D, sC', lw, fC, bC⟩
  · rcases lw with ⟨e0, _⟩ | ⟨k1, hE, lw⟩
    · exact absurd rfl e0
    obtain ⟨_, _, rfl⟩ := tkE_0 hE
    rw [hE] at g4
    have J := g4.1 rfl
    obtain ⟨sR', x1, x2, x3, ⟨M', u1, u2, u3, u4⟩, u5, u6, u7⟩ := (r_law (fu := fu) hfu hsd hy lw J.1 rM1 (by show M ≤ 420 * sd + (k + 1); omega) (by omega)).1 rfl
    have fs : ∀ q, q ≠ 3 → q ≠ t → q ≠ t + 9 → q ≠ t + 10 → sC' q = sC q := v1.1
    have ft : ∀ j, j ≠ 14 → sC' t j = sC t j := v1.2.2
    have y4 : ∀ q, q ≠ 60 → q ≠ 91 → (q < 82 ∨ 90 < q) → sR' q = sR q := fun q a b c => by rw [x3.1 q a b c, g3.1 q a]
    refine outG (a := a) (m := qm) (lf := lf) (lj := lj) (M := M') (br := br + bs.length + 1) (L := L) (W := W) (K := K) (N := N) (Q := (up1 Q.1 y bs, up1 Q.2 y D)) pC (P0 x2) fC x1 (rGF_tr (rGF_N g3) (rGF_l x3 rb1 rM1)) (by omega) ⟨⟨v5, ⟨?_, ?_⟩, c1.2.2⟩, v6, gL_k (ft 0 (by omega)) (ft 3 (by omega)) (fs (t + 4) (by omega) (by omega) (by omega) (by omega)) (fs (t + 5) (by omega) (by omega) (by omega) (by omega)) (fs (t + 6) (by omega) (by omega) (by omega) (by omega)) rfl cL, gW_k (ft 1 (by omega)) rfl cW, gK_k (ft 2 (by omega)) (fs (t + 7) (by omega) (by omega) (by omega) (by omega)) (fs (t + 8) (by omega) (by omega) (by omega) (by omega)) rfl cK, gN_k (ft 15 (by omega)) (ft 16 (by omega)) (ft 17 (by omega)) (ft 18 (by omega)) cN, fun k' hk' => ?_⟩ ⟨⟨u3, ⟨?_, ?_⟩, r1.2.2.1, fun h => ?_, r1.2.2.2.2⟩, hL_k (y4 68 (by omega) (by omega) (by omega)) (y4 70 (by omega) (by omega) (by omega)) (y4 71 (by omega) (by omega) (by omega)) rfl rL, hW_k (y4 72 (by omega) (by omega) (by omega)) rfl rW, hK_k (y4 74 (by omega) (by omega) (by omega)) (y4 76 (by omega) (by omega) (by omega)) (y4 77 (by omega) (by omega) (by omega)) (y4 78 (by omega) (by omega) (by omega)) rfl rK, hN_k (y4 79 (by omega) (by omega) (by omega)) (y4 80 (by omega) (by omega) (by omega)) (y4 81 (by omega) (by omega) (by omega)) rN', fun k' hk' => ?_, by omega, u2, by omega, by omega⟩ ⟨tl, tw, tk, tn, fun k' hk' => ?_⟩
    · rw [v1.2.1 4 (by omega) (by omega) (by omega)]; exact c1.2.1.1
    · rw [v1.2.1 5 (by omega) (by omega) (by omega)]; exact c1.2.1.2
    · show ∃ p q, _ = nI p ∧ cPr _ p (up1 Q.1 y bs k') (up1 Q.2 y D k') q ∧ _
      by_cases ek : k' = y
      · rw [ek, up1_s, up1_s]; exact ⟨m, qm, v8, v7, Nat.le_refl qm⟩
      · rw [up1_n ek, up1_n ek]
        obtain ⟨p, q, h1, h2, h3⟩ := cQ k' hk'
        have := cPr_q v7
        exact ⟨p, q, by rw [v9 k' ek]; exact h1, cPr_k h2 (fun j _ b => v4 j (by omega)), by omega⟩
    · rw [x3.2.2.2.2 15 (by omega) (by omega) (by omega) (by omega) (by omega) (by omega) (by omega)]; exact J.2.1.1
    · rw [x3.2.2.2.2 16 (by omega) (by omega) (by omega) (by omega) (by omega) (by omega) (by omega)]; exact J.2.1.2
    · have := r1.2.2.2.1 h; omega
    · show (_ ∧ _ ∧ up1 Q.1 y bs k' = [] ∧ up1 Q.2 y D k' = _) ∨ ∃ b e, _ ∧ _ ∧ rPr sd M' sR' b (up1 Q.1 y bs k') (up1 Q.2 y D k') e ∧ _
      by_cases ek : k' = y
      · rw [ek, up1_s, up1_s]
        exact .inr ⟨br, br + bs.length + 1, u5, u6, u4, rb1, Nat.le_refl _⟩
      · rw [up1_n ek, up1_n ek, (u7 (3 * sd + k') (by omega)).1, (u7 (3 * sd + k') (by omega)).2, g3.1 82 (by omega), g3.1 83 (by omega)]
        rcases rQ' k' hk' with h | ⟨b, e, h1, h2, h3, h4, h5⟩
        · exact .inl h
        · refine .inr ⟨b, e, h1, h2, rPr_keep h3 u1 (fun q j x y' z w => ?_) (fun q j x y' z w => ?_), h4, by omega⟩
          · rw [x3.2.2.1 q j x y' (by omega), g3.1 q (by omega)]
          · rw [x3.2.2.2.1 q j x y' (by omega), g3.1 q (by omega)]
    · show gdP (up1 Q.1 y bs k') (up1 Q.2 y D k') ∧ (up1 Q.1 y bs k').length ≤ 4
      by_cases ek : k' = y
      · rw [ek, up1_s, up1_s]; exact ⟨vg, v2⟩
      · rw [up1_n ek, up1_n ek]; exact tq k' hk'
  · rcases lw with ⟨e0, hE⟩ | ⟨k1, hE, lw⟩
    · rw [hE] at g4
      have rb := (g4.2 e0).1
      obtain ⟨m1, m2⟩ := r_mustB (fu := fu) (x := nI 5) (l := lR) rb
      obtain ⟨sY, y1, y2, y3, y4⟩ := rb_12 (fu := fu) (l := lR) (M := M) (x1 := nI y) (x2 := s1 60 36) (x3 := nI 0) (f := fu) (sd := sd) rb k36 (by omega) hsd (by omega)
      refine outB (lC' := lC) pC (P0 ?_) fC ?_ (rGF_tr (rGF_N g3) (rGF_l y4 rb1 rM1)) bC.2.2.2.1 bC.2.2.2.2 y3
      · unfold p_X12_tellLaw p_X12_tellLaw_5
        rw [show (5 : Int32) = nI 5 from rfl, m1]
        exact ⟨m2, y2⟩
      · unfold f_X12_tellLaw f_X12_tellLaw_5
        rw [show (5 : Int32) = nI 5 from rfl, m1]
        exact y1
    · obtain ⟨_, _, rfl⟩ := tkE_0 hE
      rw [hE] at g4
      have J := g4.1 rfl
      obtain ⟨sR', x1, x2, x3, x4⟩ := (r_law (fu := fu) hfu hsd hy lw J.1 rM1 (by show M ≤ 420 * sd + (k + 1); omega) (by omega)).2 bC.1
      exact outB (lC' := lC) pC (P0 x2) fC x1 (rGF_tr (rGF_N g3) (rGF_l x4 rb1 rM1)) bC.2.2.2.1 bC.2.2.2.2 x3
end tel3
