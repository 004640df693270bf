/-! Letters, told to both; one thing told, of any kind -/
section tel7
variable {B : Nat → Nat} {a b c e i j k m n p q t z f lf lj lf' lj' sd M br y hi o r x P0 nl : Nat} {s s1 s2 sC sR : fl_I} {l l1 l2 lC lR : fl_L} {fu : Nat} {w : List Nat} {L : Lt} {W : Wt} {K : Kt} {N : Nt} {Q : Qt} {st : Nat × Nat} {T : Nat → Nat}
theorem tl_lett (hfu : 20000 ≤ fu) (ht : t = 9 ∨ t = 20) (hsd : sd ≤ 1) (c : CJ B n t k m lf lj L W K N Q sC lC) (r : RJ B n sd k M br lf lj L W K N Q sR lR) (T : TJ lf L W K N Q) (hT : tK B n k = 256) : Out B n t sd k sR lR (f_X3_letterTold fu t sC lC) (p_X3_letterTold fu t sC lC) (f_X12_tellOne fu sR lR) (p_X12_tellOne fu sR lR) := by
  obtain ⟨c1, cm, cL, cW, cK, cN, cQ⟩ := c
  obtain ⟨r1, rL, rW, rK, rN', rQ', rM1, rM2, rb1, rb2⟩ := r
  obtain ⟨tl, tw, tk, tn, tq⟩ := T
  have w1 := cL.1
  have w4 := tl.1
  by_cases h4 : L.1 < 4
  · obtain ⟨sR', lR', lfa, lja, lfb, ljb, lfc, ljc, x1, x2, x3, x4, x5⟩ := r_lettT (fu := fu) hfu hsd r1 rL tl h4 hT
    unfold f_X3_letterTold p_X3_letterTold f_X3_letterTold_21 p_X3_letterTold_21 f_X3_letterTold_36 p_X3_letterTold_36 f_X3_letterTold_46 p_X3_letterTold_46 f_X3_letterTold_63 p_X3_letterTold_63 f_X3_letterTold_72 p_X3_letterTold_72
    obtain ⟨pp1, ⟨T1, s1, f1, r1', _, j1⟩ | ⟨e, a, s1, T1, f1, b1⟩⟩ := cT2 (fu := fu) (c := 256) ht c1 (by omega) (by omega)
    rotate_left
    · rw [T1, stq_n (st := (e, a)) b1.1, stq_n (st := (e, a)) b1.1, stq_n (st := (e, a)) b1.1, stq_n (st := (e, a)) b1.1] at x4
      exact outB (lC' := lC) (by simp (disch := omega) only [ln_, ltT, ar_t, ar_f, it_t, it_f, true_and, and_true, not_true_eq_false, not_false_eq_true, implies_true, and_self, eq_self, w1, f1, pp1, p_X3_letterTold_49]) x2 (by simp (disch := omega) only [ln_, ltT, ar_t, ar_f, it_t, it_f, true_and, and_true, not_true_eq_false, not_false_eq_true, implies_true, and_self, eq_self, w1, f1, f_X3_letterTold_49]) x1 x3 b1.2.2.1 b1.2.2.2.1 (x4 b1.1)
    rw [T1] at x4 x5
    have k1 : s1 t 0 = nI L.1 := by rw [r1' t (by omega)]; exact w1
    obtain ⟨pp2, ⟨s2, l2, lf1, lj1, T2, f2, r2, q2, v2, ok2, nt2, j2⟩ | ⟨e, a, s2, l2, T2, f2, b2⟩⟩ := cN2 (fu := fu) (q := t + 1) (cn := L.1) (z := 4) (wn := L.2.1) hfu ht j1 (by omega) (by omega) (by omega) (fun i hi => ⟨cL.2.2.1 i hi, (tl.2.1 i hi).1⟩)
    rotate_left
    · rw [stq_z, T2, stq_n (st := (e, a)) b2.1, stq_n (st := (e, a)) b2.1, stq_n (st := (e, a)) b2.1] at x4
      exact outB (lC' := l2) (by simp (disch := omega) only [ln_, ltT, eqF, ar_t, ar_f, it_t, it_f, true_and, and_true, not_true_eq_false, not_false_eq_true, implies_true, and_self, eq_self, w1, f1, pp1, k1, f2, pp2, p_X3_letterTold_49]) x2 (by simp (disch := omega) only [ln_, ltT, eqF, ar_t, ar_f, it_t, it_f, true_and, and_true, not_true_eq_false, not_false_eq_true, implies_true, and_self, eq_self, w1, f1, k1, f2, f_X3_letterTold_49]) x1 x3 b2.2.2.1 b2.2.2.2.1 (x4 b2.1)
    rw [stq_z, T2] at x4 x5
    obtain ⟨pp3, ⟨s3, lf3, lj3, T3, f3, r3, v3, hv3, nt3, j3⟩ | ⟨e, a, s3, T3, f3, b3⟩⟩ := cI2 (fu := fu) (lo := 0) (hi := 9) ht j2 (by omega) (by omega)
    rotate_left
    · rw [stq_z, T3, stq_n (st := (e, a)) b3.1, stq_n (st := (e, a)) b3.1] at x4
      exact outB (lC' := l2) (by simp (disch := omega) only [ln_, ltT, eqF, ar_t, ar_f, it_t, it_f, true_and, and_true, not_true_eq_false, not_false_eq_true, implies_true, and_self, eq_self, w1, f1, pp1, k1, f2, pp2, f3, pp3, p_X3_letterTold_49]) x2 (by simp (disch := omega) only [ln_, ltT, eqF, ar_t, ar_f, it_t, it_f, true_and, and_true, not_true_eq_false, not_false_eq_true, implies_true, and_self, eq_self, w1, f1, k1, f2, f3, f_X3_letterTold_49]) x1 x3 b3.2.2.1 b3.2.2.2.1 (x4 b3.1)
    rw [stq_z, T3] at x4 x5
    obtain ⟨pp4, ⟨s4, lf4, lj4, T4, f4, r4, v4, hv4, nt4, j4⟩ | ⟨e, a, s4, T4, f4, b4⟩⟩ := cI2 (fu := fu) (lo := 0) (hi := 7) ht j3 (by omega) (by omega)
    rotate_left
    · rw [stq_z, T4, stq_n (st := (e, a)) b4.1] at x4
      exact outB (lC' := l2) (by simp (disch := omega) only [ln_, ltT, eqF, ar_t, ar_f, it_t, it_f, true_and, and_true, not_true_eq_false, not_false_eq_true, implies_true, and_self, eq_self, w1, f1, pp1, k1, f2, pp2, f3, pp3, f4, pp4, p_X3_letterTold_75]) x2 (by simp (disch := omega) only [ln_, ltT, eqF, ar_t, ar_f, it_t, it_f, true_and, and_true, not_true_eq_false, not_false_eq_true, implies_true, and_self, eq_self, w1, f1, k1, f2, f3, f4, f_X3_letterTold_75]) x1 x3 b4.2.2.1 b4.2.2.2.1 (x4 b4.1)
    rw [stq_z, T4] at x4 x5
    obtain ⟨pp6, ⟨T6, s6, f6, r6, g66, j6⟩ | ⟨e, a, s6, T6, f6, b6⟩⟩ := cT2 (fu := fu) (c := 59) ht j4 (by omega) (by omega)
    rotate_left
    · rw [stq_z, T6] at x4
      exact outB (lC' := l2) (by simp (disch := omega) only [ln_, ltT, eqF, ar_t, ar_f, it_t, it_f, true_and, and_true, not_true_eq_false, not_false_eq_true, implies_true, and_self, eq_self, w1, f1, pp1, k1, f2, pp2, f3, pp3, f4, pp4, f6, pp6, p_X3_letterTold_75]) x2 (by simp (disch := omega) only [ln_, ltT, eqF, ar_t, ar_f, it_t, it_f, true_and, and_true, not_true_eq_false, not_false_eq_true, implies_true, and_self, eq_self, w1, f1, k1, f2, f3, f4, f6, f_X3_letterTold_75]) x1 x3 b6.2.2.1 b6.2.2.2.1 (x4 b6.1)
    rw [stq_z, T6] at x5
    obtain ⟨y1, n1, n2, n3, y3, y4, y5⟩ := x5 rfl
    obtain ⟨rfl, rfl⟩ := nt_u nt2 n1
    obtain ⟨rfl, rfl⟩ := nt_u nt3 n2
    obtain ⟨rfl, rfl⟩ := nt_u nt4 n3
    have fr : sF sC s6 := sF_tr r1' (sF_tr r2 (sF_tr r3 (sF_tr r4 r6)))
    have k3 : s6 t 0 = nI L.1 := by rw [fr t (by omega)]; exact w1
    have kP : s6 t 3 = nI (off L.2.1 L.1) := by rw [fr t (by omega)]; exact cL.2.1
    have k6 : s6 3 6 = nI (tV B n (k + 1 + 1 + 1)) := by rw [g66, v4]
    have o8 := off_le (L := L) (j := L.1) (fun i hi => (tl.2.1 i hi).1)
    have l8 := ok2.2.1
    obtain ⟨sD, A1, A2, A3, A4, A5, A6, A7, A8⟩ := c_addL (fu := fu) (l := l2) (x := tV B n (k + 1 + 1)) (y := tV B n (k + 1 + 1 + 1)) hfu ok2 k3 h4 kP (by omega) hv3 hv4
    rw [← v2] at A1 A2
    have fs : ∀ q, q ≠ 3 → q ≠ t → q ≠ t + 4 → q ≠ t + 5 → q ≠ t + 6 → sD q = sC q := fun q a b c d e => by rw [A6 q b c d e, fr q a]
    have ft : ∀ j, j ≠ 0 → j ≠ 3 → sD t j = sC t j := fun j a b => by rw [A5 j a b, fr t (by omega)]
    have fl : ∀ q, q ≠ 3 → q ≠ t + 1 → wl l2 (t + 1) L.1 (l2 3 7) q = lC q := fun q a b => by rw [wl_o b, q2 q a]
    have d0 : ∀ h : lfc = 0, lf = 0 := fun h => (nt_0 nt2 (by omega) (nt_0 nt3 (by omega) (nt_0 nt4 (by omega) h).1).1).1
    have oc : ∀ j, j ≤ L.1 → off (up1 L.2.1 L.1 (tW B n (k + 1))) j = off L.2.1 j := fun j hj => off_cg (fun i hi => up1_n (by omega))
    refine outG (a := k + 1 + 1 + 1 + 1 + 1) (m := m) (W := W) (K := K) (N := N) (Q := Q) (by simp (disch := omega) only [ln_, ltT, eqF, ar_t, ar_f, it_t, it_f, true_and, and_true, not_true_eq_false, not_false_eq_true, implies_true, and_self, eq_self, w1, f1, pp1, k1, f2, pp2, f3, pp3, f4, pp4, f6, pp6, v3, k6, A2, p_X3_letterTold_90]) x2 (by simp (disch := omega) only [ln_, ltT, eqF, ar_t, ar_f, it_t, it_f, true_and, and_true, not_true_eq_false, not_false_eq_true, implies_true, and_self, eq_self, w1, f1, k1, f2, f3, f4, f6, v3, k6, A1, f_X3_letterTold_90]) x1 x3 (by omega) ⟨cAt_x (wl_o (by omega)) (A6 5 (by omega) (by omega) (by omega) (by omega)) (A6 6 (by omega) (by omega) (by omega) (by omega)) (A6 3 (by omega) (by omega) (by omega) (by omega)) (A5 14 (by omega) (by omega)) j6, by omega, ⟨A3, ?_, fun i hi => ?_, fun j hj i hi => ?_⟩, gW_k (ft 1 (by omega) (by omega)) (fl (t + 2) (by omega) (by omega)) cW, gK_k (ft 2 (by omega) (by omega)) (fs (t + 7) (by omega) (by omega) (by omega) (by omega) (by omega)) (fs (t + 8) (by omega) (by omega) (by omega) (by omega) (by omega)) (fl (t + 3) (by omega) (by omega)) cK, gN_k (ft 15 (by omega) (by omega)) (ft 16 (by omega) (by omega)) (ft 17 (by omega) (by omega)) (ft 18 (by omega) (by omega)) cN, gQ_k (fun j _ => by rw [fs (t + 9) (by omega) (by omega) (by omega) (by omega) (by omega)]) (fs (t + 10) (by omega) (by omega) (by omega) (by omega) (by omega)) (Nat.le_refl m) cQ⟩ ⟨y1, y3, hW_k (y4 72 (by omega) (by omega) (by omega) (by omega)) (y5 73 (by omega)) rW, hK_k (y4 74 (by omega) (by omega) (by omega) (by omega)) (y4 76 (by omega) (by omega) (by omega) (by omega)) (y4 77 (by omega) (by omega) (by omega) (by omega)) (y4 78 (by omega) (by omega) (by omega) (by omega)) (y5 75 (by omega)) rK, hN_k (y4 79 (by omega) (by omega) (by omega) (by omega)) (y4 80 (by omega) (by omega) (by omega) (by omega)) (y4 81 (by omega) (by omega) (by omega) (by omega)) rN', rLw_k (fun q a b => y4 q (by omega) (by omega) (by omega) (by omega)) rQ', rM1, by omega, rb1, by omega⟩ ⟨⟨by show L.1 + 1 ≤ 4; omega, fun i hi => ?_, fun h i hi => ?_⟩, tw, tK_l tk d0, tN_l tn d0, tq⟩
    · show sD t 3 = nI (off (up1 L.2.1 L.1 (tW B n (k + 1))) L.1 + (up1 L.2.1 L.1 (tW B n (k + 1)) L.1).length)
      rw [oc L.1 (Nat.le_refl _), up1_s]; exact A4
    · show wl l2 (t + 1) L.1 (l2 3 7) (t + 1) i = lN (p5 (up1 L.2.1 L.1 (tW B n (k + 1)) i))
      have hi : i < L.1 + 1 := hi
      by_cases ei : i = L.1
      · rw [ei, wl_e, up1_s, v2]
      · rw [wl_x ei, up1_n ei, q2 (t + 1) (by omega)]
        exact cL.2.2.1 i (by omega)
    · have hj : j < L.1 + 1 := hj
      have hi : i < (up1 L.2.1 L.1 (tW B n (k + 1)) j).length := hi
      show sD (t + 4) (off (up1 L.2.1 L.1 (tW B n (k + 1))) j + i) = nI (sgn (up1 L.2.1 L.1 (tW B n (k + 1)) j) i) ∧ sD (t + 5) (off (up1 L.2.1 L.1 (tW B n (k + 1))) j + i) = nI j ∧ sD (t + 6) (off (up1 L.2.1 L.1 (tW B n (k + 1))) j + i) = nI (10 * up1 L.2.2.2 L.1 (tV B n (k + 3)) j + (up1 L.2.2.1 L.1 (tV B n (k + 2)) j + i) % 10)
      rw [oc j (by omega)]
      by_cases ej : j = L.1
      · rw [ej, up1_s] at hi
        rw [ej, up1_s, up1_s, up1_s]
        exact A8 i hi
      · rw [up1_n ej] at hi
        rw [up1_n ej, up1_n ej, up1_n ej]
        have := off_mono (ln := L.2.1) (i := j) (j := L.1) (by omega)
        obtain ⟨e4, e5, e6⟩ := A7 (off L.2.1 j + i) (by omega)
        rw [e4, e5, e6, fr (t + 4) (by omega), fr (t + 5) (by omega), fr (t + 6) (by omega)]
        exact cL.2.2.2 j (by omega) i hi
    · show okW (up1 L.2.1 L.1 (tW B n (k + 1)) i) ∧ up1 L.2.2.1 L.1 (tV B n (k + 2)) i ≤ 9999 ∧ up1 L.2.2.2 L.1 (tV B n (k + 3)) i ≤ 9999
      have hi : i < L.1 + 1 := hi
      by_cases ei : i = L.1
      · rw [ei, up1_s, up1_s, up1_s]; exact ⟨ok2, hv3, hv4⟩
      · rw [up1_n ei, up1_n ei, up1_n ei]; exact tl.2.1 i (by omega)
    · show up1 L.2.2.1 L.1 (tV B n (k + 2)) i ≤ 9 ∧ up1 L.2.2.2 L.1 (tV B n (k + 3)) i ≤ 7
      have hi : i < L.1 + 1 := hi
      by_cases ei : i = L.1
      · rw [ei, up1_s, up1_s]
        have z4 := nt_0 nt4 (by omega) h
        have z3 := nt_0 nt3 (by omega) z4.1
        have a4 := z4.2
        have a3 := z3.2
        show tV B n (k + 1 + 1) ≤ 9 ∧ tV B n (k + 1 + 1 + 1) ≤ 7
        omega
      · rw [up1_n ei, up1_n ei]; exact tl.2.2 (d0 h) i (by omega)
  · have h8 : L.1 = 4 := by omega
    rw [h8] at w1
    obtain ⟨h63, h11, hk4, h13, h19⟩ := rJ63 r1
    have hr : rk (tK B n k) = 20 := by rw [hT]; rfl
    rw [hr] at h63
    have h72 := rL.1
    rw [h8] at h72
    obtain ⟨s1, g1, g2, g3, g4⟩ := r_room0 (fu := fu) (x := nI 4) (c := 4) r1 rfl
    obtain ⟨k13, _, _⟩ := rBd_13 g4
    obtain ⟨⟨u0, u1, u2, u3, _, u4⟩, up⟩ := c_stop (fu := fu) (e := 2) (C := []) ht c1.1 (.inr rfl)
    rw [if_neg (by omega)] at u2
    have u4 := u4 (by omega)
    refine outB (lC' := lC) ?_ ?_ ?_ ?_ (rGF_N g3) u4.1 u4.2 g4
    · unfold p_X3_letterTold p_X3_letterTold_13
      simp (disch := omega) only [ln_, ltF, ar_t, ar_f, it_t, it_f, true_and, and_true, not_true_eq_false, not_false_eq_true, implies_true, and_self, eq_self, w1, u2, up, true_or]
    · unfold p_X12_tellOne p_X12_tellOne_74 p_X12_tellOne_349
      simp (disch := omega) only [ln_, eqF, nI_clamp, vpT, ar_t, ar_f, it_t, it_f, true_and, and_true, not_true_eq_false, not_false_eq_true, implies_true, and_self, eq_self, h63, h11, h19, h72, g1, g2, k13]
    · unfold f_X3_letterTold f_X3_letterTold_13
      simp (disch := omega) only [ln_, ltF, ar_t, ar_f, it_t, it_f, true_and, and_true, not_true_eq_false, not_false_eq_true, implies_true, and_self, eq_self, w1, u2]
    · unfold f_X12_tellOne f_X12_tellOne_74 f_X12_tellOne_349
      simp (disch := omega) only [ln_, eqF, nI_clamp, ar_t, ar_f, it_t, it_f, true_and, and_true, not_true_eq_false, not_false_eq_true, implies_true, and_self, eq_self, h63, h11, h19, h72, g1, k13]
/-- nothing that can be told -/
theorem tl_none (ht : t = 9 ∨ t = 20) (c : CJ B n t k m lf lj L W K N Q sC lC) (r : RJ B n sd k M br lf lj L W K N Q sR lR) (hT : tK B n k < 256 ∨ 264 < tK B n k) : Out B n t sd k sR lR (f_X3_plainTold fu t sC lC) (p_X3_plainTold fu t sC lC) (f_X12_tellOne fu sR lR) (p_X12_tellOne fu sR lR) := by
  obtain ⟨c1, cm, cL, cW, cK, cN, cQ⟩ := c
  obtain ⟨r1, rL, rW, rK, rN', rQ', rM1, rM2, rb1, rb2⟩ := r
  obtain ⟨h63, h11, hk4, h13, h19⟩ := rJ63 r1
  obtain ⟨k1, k2⟩ := c_kindNow (fu := fu) c1.1
  have hlt := tK_lt (k := k) c1.1.1
  obtain ⟨⟨u0, u1, u2, u3, _, u4⟩, up⟩ := c_stop (fu := fu) (e := 1) (C := []) ht c1.1 (.inl rfl)
  rw [if_neg (by omega)] at u2
  have u4 := u4 (by omega)
  obtain ⟨s', g1, g2, g3, g4⟩ := r_failP (fu := fu) (e := 1) r1.1.1 (.inl rfl)
  obtain ⟨k13, _, _⟩ := rBd_13 g3
  have R := rkF r1.1.1.1 k
  have R1 := R.2.2.2.2.2.2.2.2.2.2.2.2.1
  have R2 := R.2.2.2.2.2.2.2.2.2.2.2.2.2.1
  have R3 := R.2.2.2.2.2.2.2.2.2.2.2.2.2.2
  have hk : rk (tK B n k) < 20 ∨ 28 < rk (tK B n k) := by
    rcases hT with h | h
    · left
      rcases Nat.lt_or_ge (rk (tK B n k)) 20 with g | g
      · exact g
      · exact absurd (R1.mp g) (by omega)
    · right; have := R2 (by omega); omega
  have T327 : ∀ x, f_X12_tellOne_327 fu x sR lR = (s', lR) ∧ p_X12_tellOne_327 fu x sR lR := by
    intro x
    unfold f_X12_tellOne_327 p_X12_tellOne_327 f_X12_tellOne_332 p_X12_tellOne_332
    simp (disch := omega) only [ln_, leF, ar_t, ar_f, it_t, it_f, true_and, and_true, not_true_eq_false, not_false_eq_true, implies_true, and_self, eq_self, g1, g2, k13]
  refine outB (lC' := lC) ?_ ?_ ?_ ?_ (rGF_N (rN_P g4)) u4.1 u4.2 g3
  · unfold p_X3_plainTold
    simp (disch := omega) only [ln_, eqF, ar_t, ar_f, it_t, it_f, true_and, and_true, not_true_eq_false, not_false_eq_true, implies_true, and_self, eq_self, k1, k2, u2, up, true_or]
  · unfold p_X12_tellOne
    rcases hk with hk | hk
    · have e0 : (nI (rk (tK B n k)) - nI 23 < nI 0) = True := by
        refine eq_true ?_
        rw [Int32.lt_iff_toInt_lt, pk_sub_toInt (by omega) (by omega)]
        show _ < (0 : Int)
        omega
      simp (disch := omega) only [ln_, eqF, nI_clamp, vpT, ar_t, ar_f, it_t, it_f, true_and, and_true, not_true_eq_false, not_false_eq_true, implies_true, and_self, eq_self, h63, h11, e0, (T327 _).2]
    · have e0 : nI (rk (tK B n k)) - nI 23 = nI (rk (tK B n k) - 23) := pk_sub (by omega)
      simp (disch := omega) only [ln_, eqF, ltF, leF, nI_clamp, vpT, ar_t, ar_f, it_t, it_f, true_and, and_true, not_true_eq_false, not_false_eq_true, implies_true, and_self, eq_self, h63, h11, e0, (T327 _).2]
  · unfold f_X3_plainTold
    simp (disch := omega) only [ln_, eqF, ar_t, ar_f, it_t, it_f, true_and, and_true, not_true_eq_false, not_false_eq_true, implies_true, and_self, eq_self, k1, u2]
  · unfold f_X12_tellOne
    rcases hk with hk | hk
    · have e0 : (nI (rk (tK B n k)) - nI 23 < nI 0) = True := by
        refine eq_true ?_
        rw [Int32.lt_iff_toInt_lt, pk_sub_toInt (by omega) (by omega)]
        show _ < (0 : Int)
        omega
      simp (disch := omega) only [ln_, eqF, nI_clamp, ar_t, ar_f, it_t, it_f, true_and, and_true, not_true_eq_false, not_false_eq_true, implies_true, and_self, eq_self, h63, h11, e0, (T327 _).1]
    · have e0 : nI (rk (tK B n k)) - nI 23 = nI (rk (tK B n k) - 23) := pk_sub (by omega)
      simp (disch := omega) only [ln_, eqF, ltF, leF, nI_clamp, ar_t, ar_f, it_t, it_f, true_and, and_true, not_true_eq_false, not_false_eq_true, implies_true, and_self, eq_self, h63, h11, e0, (T327 _).1]
end tel7
