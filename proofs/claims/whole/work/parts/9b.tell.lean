/-! Pickers, told to both -/
section tel5
variable {B : Nat → Nat} {a b c e i j k m n p q t z f lf lj lf' lj' sd M br y hi o r : Nat} {s s1 s2 sC sR : fl_I} {l l1 l2 lC lR : fl_L} {fu : Nat} {x : Int32} {v : Int64} {L : Lt} {W : Wt} {K : Kt} {N : Nt} {Q : Qt} {st : Nat × Nat} {T : Nat → Nat}
theorem tkE_st (h : (tkE T c k).1 = 0) : tkE T c k = (0, k + 1) := by
  have e2 : tkE T c k = (0, (tkE T c k).2) := Prod.ext h rfl
  rw [e2, (tkE_0 e2).2.2]
theorem r_pickT (hfu : 20000 ≤ fu) (hsd : sd ≤ 1) (h : rJt B n sd k M br lf lj s l) (hk : hK sd K s l) (tk : tKp lf K) (h4 : K.1 < 4) (hT : tK B n k = 258) :
    ∃ s' l' lfa lja lfb ljb lfc ljc lfd ljd, f_X12_tellOne fu s l = (s', l') ∧ p_X12_tellOne fu s l ∧ rGF sd s l s' l' ∧ ((stq (tK B n) 59 (stq (tK B n) 3 (stq (tK B n) 3 (stq (tK B n) 3 (stq (tK B n) 2 (tkE (tK B n) 258 k)))))).1 ≠ 0 → rBd B n (stq (tK B n) 59 (stq (tK B n) 3 (stq (tK B n) 3 (stq (tK B n) 3 (stq (tK B n) 2 (tkE (tK B n) 258 k)))))).1 (stq (tK B n) 59 (stq (tK B n) 3 (stq (tK B n) 3 (stq (tK B n) 3 (stq (tK B n) 2 (tkE (tK B n) 258 k)))))).2 s') ∧ ((stq (tK B n) 59 (stq (tK B n) 3 (stq (tK B n) 3 (stq (tK B n) 3 (stq (tK B n) 2 (tkE (tK B n) 258 k)))))).1 = 0 → rJt B n sd (k + 6) M br lfd ljd s' l' ∧ nt lf lj 3 (k + 1) (∃ i, i < K.1 ∧ K.2.1 i = tW B n (k + 1)) lfa lja ∧ nt lfa lja 5 (k + 2) (tV B n (k + 2) < 0 ∨ 9 < tV B n (k + 2)) lfb ljb ∧ nt lfb ljb 5 (k + 3) (tV B n (k + 3) < 0 ∨ 7 < tV B n (k + 3)) lfc ljc ∧ nt lfc ljc 5 (k + 4) (tV B n (k + 4) < 1 ∨ 32 < tV B n (k + 4)) lfd ljd ∧ hK sd (K.1 + 1, up1 K.2.1 K.1 (tW B n (k + 1)), up1 K.2.2.1 K.1 (tV B n (k + 2)), up1 K.2.2.2.1 K.1 (tV B n (k + 3)), up1 K.2.2.2.2 K.1 (tV B n (k + 4))) s' l' ∧ (∀ q, q ≠ 60 → q ≠ 74 → q ≠ 76 → q ≠ 77 → q ≠ 78 → s' q = s q) ∧ ∀ q, q ≠ 75 → l' q = l q) := by
  obtain ⟨h63, h11, hk4, h13, h19⟩ := rJ63 h
  have hr : rk (tK B n k) = 22 := by rw [hT]; rfl
  rw [hr] at h63
  have h74 := hk.1
  obtain ⟨s1, g1, g2, g3, g4⟩ := r_room1 (fu := fu) (x := nI K.1) (c := 4) h rfl h4 (by omega) hT (by omega)
  have T0 : f_X12_tellOne fu s l = f_X12_tellOne_199 fu s1 l := by
    unfold f_X12_tellOne
    simp (disch := omega) only [ln_, eqF, nI_clamp, ar_t, ar_f, it_t, it_f, true_and, and_true, not_true_eq_false, not_false_eq_true, implies_true, and_self, eq_self, h63, h11, h19, h74, g1]
  have P0 : p_X12_tellOne_199 fu s1 l → p_X12_tellOne fu s l := by
    intro g
    unfold p_X12_tellOne
    simp (disch := omega) only [ln_, eqF, nI_clamp, vpT, ar_t, ar_f, it_t, it_f, true_and, and_true, not_true_eq_false, not_false_eq_true, implies_true, and_self, eq_self, h63, h11, h19, h74, g1, g2]
    exact g
  rw [T0]
  obtain ⟨k13, k13'⟩ := rSt_13 g4
  have k19 := rSt_19 g4
  have k74 : s1 74 sd = nI K.1 := by rw [g3.1 74 (by omega)]; exact h74
  by_cases e0 : (tkE (tK B n) 258 k).1 = 0
  · rw [e0] at k13
    obtain ⟨v, s2, lfa, lja, m1, m2, m3, m4, m5⟩ := sN (fu := fu) (fm := 4 * sd) (cn := K.1) (q := 75) (z := 8) (wn := K.2.1) hfu g4 (by omega) (by omega) (fun i hi => ⟨(hk.2 i hi).1, (tk.2.1 i hi).1⟩)
    have m4' := rSt_l (q := 75) (j := 4 * sd + K.1) (v := v) (by omega) m4
    obtain ⟨va, s3, lfb, ljb, n1, n2, n3, n4, n5⟩ := sI (fu := fu) (lo := 0) (hi := 9) m4' (by omega) (by omega)
    have n4' := rSt_w (q := 76) (j := 4 * sd + K.1) (x := va) (by omega) (by omega) (by omega) (by omega) n4
    obtain ⟨vb, s4, lfc, ljc, o1, o2, o3, o4, o5⟩ := sI (fu := fu) (lo := 0) (hi := 7) n4' (by omega) (by omega)
    have o4' := rSt_w (q := 77) (j := 4 * sd + K.1) (x := vb) (by omega) (by omega) (by omega) (by omega) o4
    obtain ⟨vc, s5, lfd, ljd, q1, q2, q3, q4, q5⟩ := sI (fu := fu) (lo := 1) (hi := 32) o4' (by omega) (by omega)
    have q4' := rSt_w (q := 78) (j := 4 * sd + K.1) (x := vc) (by omega) (by omega) (by omega) (by omega) q4
    obtain ⟨s6, u1, u2, u3, u4⟩ := sM (fu := fu) (b := 4) (c := 59) q4' (by omega) (fun hr k => rk59 hr k) (by omega)
    obtain ⟨j13, j13'⟩ := rSt_13 u4
    have j19 := rSt_19 u4
    have e4 : nI 4 * nI sd = nI (4 * sd) := by rw [pk_mul]
    have f74 : ∀ q, q ≠ 60 → q ≠ 76 → q ≠ 77 → q ≠ 78 → s6 q = s q := fun q a b c d => by rw [u3.1 q a, wi_c d, q3.1 q a, wi_c c, o3.1 q a, wi_c b, n3.1 q a, m3.1 q a, g3.1 q a]
    have j74 : s6 74 sd = nI K.1 := by rw [f74 74 (by omega) (by omega) (by omega) (by omega)]; exact h74
    have T1 : f_X12_tellOne_199 fu s1 l = f_X12_tellPicker_90 fu s6 (wl l 75 (4 * sd + K.1) v) := by
      unfold f_X12_tellOne_199 f_X12_tellOne_210 f_X12_tellOne_349 f_X12_tellPicker f_X12_tellPicker_45 f_X12_tellPicker_58 f_X12_tellPicker_71 f_X12_tellPicker_84
      simp (disch := omega) only [ln_, nI_clamp, ar_t, ar_f, it_t, it_f, true_and, and_true, not_true_eq_false, not_false_eq_true, implies_true, and_self, eq_self, k13, k19, k74, e4, nI_add, m1, n1, o1, q1, u1]
    have P1 : p_X12_tellPicker_90 fu s6 (wl l 75 (4 * sd + K.1) v) → p_X12_tellOne fu s l := by
      intro g
      refine P0 ?_
      unfold p_X12_tellOne_199 p_X12_tellOne_210 p_X12_tellOne_349 p_X12_tellPicker p_X12_tellPicker_45 p_X12_tellPicker_58 p_X12_tellPicker_71 p_X12_tellPicker_84
      simp (disch := omega) only [ln_, nI_clamp, vpT, ar_t, ar_f, it_t, it_f, true_and, and_true, not_true_eq_false, not_false_eq_true, implies_true, and_self, eq_self, k13, k19, k74, e4, nI_add, m1, m2, n1, n2, o1, o2, q1, q2, u1, u2]
      exact g
    have in4 : ∀ q, sw q = 4 → sw q * sd ≤ 4 * sd + K.1 ∧ 4 * sd + K.1 < sw q * sd + sw q := fun q e => by rw [e]; omega
    have gf : rGF sd s l s6 (wl l 75 (4 * sd + K.1) v) := rGF_tr (rGF_N g3) (rGF_tr (rGF_N m3) (rGF_tr (rGF_wl (by show 4 * sd ≤ _; omega) (by show _ < 4 * sd + 4; omega)) (rGF_tr (rGF_N n3) (rGF_tr (rGF_w (by omega) (in4 76 rfl).1 (in4 76 rfl).2) (rGF_tr (rGF_N o3) (rGF_tr (rGF_w (by omega) (in4 77 rfl).1 (in4 77 rfl).2) (rGF_tr (rGF_N q3) (rGF_tr (rGF_w (by omega) (in4 78 rfl).1 (in4 78 rfl).2) (rGF_N u3)))))))))
    rw [T1]
    by_cases e1 : (stq (tK B n) 59 (stq (tK B n) 3 (stq (tK B n) 3 (stq (tK B n) 3 (stq (tK B n) 2 (tkE (tK B n) 258 k)))))).1 = 0
    · rw [e1] at j13
      obtain ⟨a6, _, _, b6⟩ := stq_e e1
      obtain ⟨a5, _, _, b5⟩ := stq_e a6
      obtain ⟨a4, _, _, b4⟩ := stq_e a5
      obtain ⟨a3, _, _, b3⟩ := stq_e a4
      obtain ⟨a2, _, _, b2⟩ := stq_e a3
      have b1 := tkE_st a2
      rw [b1] at b2 m5
      rw [b1, b2] at b3 n5
      rw [b1, b2, b3] at b4 o5
      rw [b1, b2, b3, b4] at b5 q5
      rw [b1, b2, b3, b4, b5] at b6
      have nJ := u4.1 e1
      rw [b1, b2, b3, b4, b5, b6] at nJ
      obtain ⟨x1, x2⟩ := m5 (by rw [b2])
      obtain ⟨x3, x4⟩ := n5 (by rw [b3])
      obtain ⟨x5, x6⟩ := o5 (by rw [b4])
      obtain ⟨x7, x8⟩ := q5 (by rw [b5])
      have rw1 : rSt B n sd M br (0, k + 6) lfd ljd (wi s6 74 sd (nI (K.1 + 1))) (wl l 75 (4 * sd + K.1) v) := rSt_w (by omega) (by omega) (by omega) (by omega) ⟨fun _ => nJ, fun h => absurd rfl h⟩
      refine ⟨wi s6 74 sd (nI (K.1 + 1)), wl l 75 (4 * sd + K.1) v, lfa, lja, lfb, ljb, lfc, ljc, lfd, ljd, ?_, P1 ?_, rGF_tr gf (rGF_w (by omega) (by show 1 * sd ≤ sd; omega) (by show sd < 1 * sd + 1; omega)), fun h => absurd e1 h, fun _ => ⟨rw1.1 rfl, x2, x4, x6, x8, ⟨by rw [wi_u, upd_s], fun i hi => ?_⟩, fun q a b c d e => by rw [wi_c b, f74 q a c d e], fun q hq => wl_o hq⟩⟩
      · unfold f_X12_tellPicker_90 f_X12_tellPicker_110
        simp (disch := omega) only [ln_, nI_clamp, nI_add, ar_t, ar_f, it_t, it_f, true_and, and_true, not_true_eq_false, not_false_eq_true, implies_true, and_self, eq_self, j13, j19, j74]
      · unfold p_X12_tellPicker_90 p_X12_tellPicker_110
        simp (disch := omega) only [ln_, nI_clamp, vpT, ar_t, ar_f, it_t, it_f, true_and, and_true, not_true_eq_false, not_false_eq_true, implies_true, and_self, eq_self, j13, j19, j74]
      · have hi : i < K.1 + 1 := hi
        show wl l 75 (4 * sd + K.1) v 75 (4 * sd + i) = lN (p27 (up1 K.2.1 K.1 (tW B n (k + 1)) i).reverse) ∧ wi s6 74 sd (nI (K.1 + 1)) 76 (4 * sd + i) = nI (up1 K.2.2.1 K.1 (tV B n (k + 2)) i) ∧ wi s6 74 sd (nI (K.1 + 1)) 77 (4 * sd + i) = nI (up1 K.2.2.2.1 K.1 (tV B n (k + 3)) i) ∧ wi s6 74 sd (nI (K.1 + 1)) 78 (4 * sd + i) = nI (up1 K.2.2.2.2 K.1 (tV B n (k + 4)) i)
        have z6 : wi s6 74 sd (nI (K.1 + 1)) 76 = wi s3 76 (4 * sd + K.1) va 76 := by rw [wi_c (by omega), u3.1 76 (by omega), wi_c (by omega), q3.1 76 (by omega), wi_c (by omega), o3.1 76 (by omega)]
        have z7 : wi s6 74 sd (nI (K.1 + 1)) 77 = wi s4 77 (4 * sd + K.1) vb 77 := by rw [wi_c (by omega), u3.1 77 (by omega), wi_c (by omega), q3.1 77 (by omega)]
        have z8 : wi s6 74 sd (nI (K.1 + 1)) 78 = wi s5 78 (4 * sd + K.1) vc 78 := by rw [wi_c (by omega), u3.1 78 (by omega)]
        rw [z6, z7, z8, wi_u, wi_u, wi_u]
        by_cases ei : i = K.1
        · rw [ei, wl_e, up1_s, up1_s, up1_s, up1_s, upd_s, upd_s, upd_s, x1, x3, x5, x7]; exact ⟨rfl, rfl, rfl, rfl⟩
        · rw [wl_x (by omega), up1_n ei, up1_n ei, up1_n ei, up1_n ei, upd_n (by omega), upd_n (by omega), upd_n (by omega), n3.1 76 (by omega), m3.1 76 (by omega), g3.1 76 (by omega), o3.1 77 (by omega), wi_c (by omega), n3.1 77 (by omega), m3.1 77 (by omega), g3.1 77 (by omega), q3.1 78 (by omega), wi_c (by omega), o3.1 78 (by omega), wi_c (by omega), n3.1 78 (by omega), m3.1 78 (by omega), g3.1 78 (by omega)]
          exact hk.2 i (by omega)
    · have rb := (u4.2 e1).1
      refine ⟨s6, _, lf, lj, lf, lj, lf, lj, lf, lj, ?_, P1 ?_, gf, fun _ => rb, fun h => absurd h e1⟩
      · unfold f_X12_tellPicker_90 f_X12_tellPicker_110
        simp (disch := omega) only [ln_, eqF, ar_t, ar_f, it_t, it_f, true_and, and_true, not_true_eq_false, not_false_eq_true, implies_true, and_self, eq_self, j13]
      · unfold p_X12_tellPicker_90 p_X12_tellPicker_110
        simp (disch := omega) only [ln_, eqF, ar_t, ar_f, it_t, it_f, true_and, and_true, not_true_eq_false, not_false_eq_true, implies_true, and_self, eq_self, j13]
  · have rb := (g4.2 e0).1
    have es : stq (tK B n) 59 (stq (tK B n) 3 (stq (tK B n) 3 (stq (tK B n) 3 (stq (tK B n) 2 (tkE (tK B n) 258 k))))) = tkE (tK B n) 258 k := by rw [stq_n (st := tkE (tK B n) 258 k) e0, stq_n e0, stq_n e0, stq_n e0, stq_n e0]
    rw [es]
    refine ⟨s1, l, lf, lj, lf, lj, lf, lj, lf, lj, ?_, P0 ?_, rGF_N g3, fun _ => rb, fun h => absurd h e0⟩
    · unfold f_X12_tellOne_199 f_X12_tellOne_349
      simp (disch := omega) only [ln_, eqF, ar_t, ar_f, it_t, it_f, true_and, and_true, not_true_eq_false, not_false_eq_true, implies_true, and_self, eq_self, k13]
    · unfold p_X12_tellOne_199 p_X12_tellOne_349
      simp (disch := omega) only [ln_, eqF, ar_t, ar_f, it_t, it_f, true_and, and_true, not_true_eq_false, not_false_eq_true, implies_true, and_self, eq_self, k13]
theorem tl_pick (hfu : 20000 ≤ fu) (ht : t = 9 ∨ t = 20) (hsd : sd ≤ 1) (c : CJ B n t k m lf lj L W K N Q sC lC) (r : RJ B n sd k M br lf lj L W K N Q sR lR) (T : TJ lf L W K N Q) (hT : tK B n k = 258) : Out B n t sd k sR lR (f_X3_pickerTold fu t sC lC) (p_X3_pickerTold fu t sC lC) (f_X12_tellOne fu sR lR) (p_X12_tellOne fu sR lR) := by
  obtain ⟨c1, cm, cL, cW, cK, cN, cQ⟩ := c
  obtain ⟨r1, rL, rW, rK, rN', rQ', rM1, rM2, rb1, rb2⟩ := r
  obtain ⟨tl, tw, tk, tn, tq⟩ := T
  have w1 := cK.1
  have w4 := tk.1
  by_cases h4 : K.1 < 4
  · obtain ⟨sR', lR', lfa, lja, lfb, ljb, lfc, ljc, lfd, ljd, x1, x2, x3, x4, x5⟩ := r_pickT (fu := fu) hfu hsd r1 rK tk h4 hT
    unfold f_X3_pickerTold p_X3_pickerTold f_X3_pickerTold_21 p_X3_pickerTold_21 f_X3_pickerTold_36 p_X3_pickerTold_36 f_X3_pickerTold_46 p_X3_pickerTold_46 f_X3_pickerTold_63 p_X3_pickerTold_63 f_X3_pickerTold_80 p_X3_pickerTold_80 f_X3_pickerTold_89 p_X3_pickerTold_89
    obtain ⟨p1, ⟨T1, s1, f1, r1', _, j1⟩ | ⟨e, a, s1, T1, f1, b1⟩⟩ := cT2 (fu := fu) (c := 258) ht c1 (by omega) (by omega)
    rotate_left
    · rw [T1, stq_n (st := (e, a)) b1.1, stq_n (st := (e, a)) b1.1, stq_n (st := (e, a)) b1.1, stq_n (st := (e, a)) b1.1, stq_n (st := (e, a)) b1.1] at x4
      exact outB (lC' := lC) (by simp (disch := omega) only [ln_, ltT, ar_t, ar_f, it_t, it_f, true_and, and_true, not_true_eq_false, not_false_eq_true, implies_true, and_self, eq_self, w1, f1, p1, p_X3_pickerTold_49]) x2 (by simp (disch := omega) only [ln_, ltT, ar_t, ar_f, it_t, it_f, true_and, and_true, not_true_eq_false, not_false_eq_true, implies_true, and_self, eq_self, w1, f1, f_X3_pickerTold_49]) x1 x3 b1.2.2.1 b1.2.2.2.1 (x4 b1.1)
    rw [T1] at x4 x5
    have k1 : s1 t 2 = nI K.1 := by rw [r1' t (by omega)]; exact w1
    obtain ⟨p2, ⟨s2, l2, lf1, lj1, T2, f2, r2, q2, v2, ok2, nt2, j2⟩ | ⟨e, a, s2, l2, T2, f2, b2⟩⟩ := cN2 (fu := fu) (q := t + 3) (cn := K.1) (z := 4) (wn := K.2.1) hfu ht j1 (by omega) (by omega) (by omega) (fun i hi => ⟨cK.2.1 i hi, (tk.2.1 i hi).1⟩)
    rotate_left
    · rw [stq_z, T2, stq_n (st := (e, a)) b2.1, stq_n (st := (e, a)) b2.1, stq_n (st := (e, a)) b2.1, stq_n (st := (e, a)) b2.1] at x4
      exact outB (lC' := l2) (by simp (disch := omega) only [ln_, ltT, eqF, ar_t, ar_f, it_t, it_f, true_and, and_true, not_true_eq_false, not_false_eq_true, implies_true, and_self, eq_self, w1, f1, p1, k1, f2, p2, p_X3_pickerTold_49]) x2 (by simp (disch := omega) only [ln_, ltT, eqF, ar_t, ar_f, it_t, it_f, true_and, and_true, not_true_eq_false, not_false_eq_true, implies_true, and_self, eq_self, w1, f1, k1, f2, f_X3_pickerTold_49]) x1 x3 b2.2.2.1 b2.2.2.2.1 (x4 b2.1)
    rw [stq_z, T2] at x4 x5
    obtain ⟨p3, ⟨s3, lf3, lj3, T3, f3, r3, v3, hv3, nt3, j3⟩ | ⟨e, a, s3, T3, f3, b3⟩⟩ := cI2 (fu := fu) (lo := 0) (hi := 9) ht j2 (by omega) (by omega)
    rotate_left
    · rw [stq_z, T3, stq_n (st := (e, a)) b3.1, stq_n (st := (e, a)) b3.1, stq_n (st := (e, a)) b3.1] at x4
      exact outB (lC' := l2) (by simp (disch := omega) only [ln_, ltT, eqF, ar_t, ar_f, it_t, it_f, true_and, and_true, not_true_eq_false, not_false_eq_true, implies_true, and_self, eq_self, w1, f1, p1, k1, f2, p2, f3, p3, p_X3_pickerTold_49]) x2 (by simp (disch := omega) only [ln_, ltT, eqF, ar_t, ar_f, it_t, it_f, true_and, and_true, not_true_eq_false, not_false_eq_true, implies_true, and_self, eq_self, w1, f1, k1, f2, f3, f_X3_pickerTold_49]) x1 x3 b3.2.2.1 b3.2.2.2.1 (x4 b3.1)
    rw [stq_z, T3] at x4 x5
    obtain ⟨p4, ⟨s4, lf4, lj4, T4, f4, r4, v4, hv4, nt4, j4⟩ | ⟨e, a, s4, T4, f4, b4⟩⟩ := cI2 (fu := fu) (lo := 0) (hi := 7) ht j3 (by omega) (by omega)
    rotate_left
    · rw [stq_z, T4, stq_n (st := (e, a)) b4.1, stq_n (st := (e, a)) b4.1] at x4
      exact outB (lC' := l2) (by simp (disch := omega) only [ln_, ltT, eqF, ar_t, ar_f, it_t, it_f, true_and, and_true, not_true_eq_false, not_false_eq_true, implies_true, and_self, eq_self, w1, f1, p1, k1, f2, p2, f3, p3, f4, p4]) x2 (by simp (disch := omega) only [ln_, ltT, eqF, ar_t, ar_f, it_t, it_f, true_and, and_true, not_true_eq_false, not_false_eq_true, implies_true, and_self, eq_self, w1, f1, k1, f2, f3, f4]) x1 x3 b4.2.2.1 b4.2.2.2.1 (x4 b4.1)
    rw [stq_z, T4] at x4 x5
    obtain ⟨pp5, ⟨s5, lf5, lj5, T5, f5, r5, v5, hv5, nt5, j5⟩ | ⟨e, a, s5, T5, f5, b5⟩⟩ := cI2 (fu := fu) (lo := 1) (hi := 32) ht j4 (by omega) (by omega)
    rotate_left
    · rw [stq_z, T5, stq_n (st := (e, a)) b5.1] at x4
      exact outB (lC' := l2) (by simp (disch := omega) only [ln_, ltT, eqF, ar_t, ar_f, it_t, it_f, true_and, and_true, not_true_eq_false, not_false_eq_true, implies_true, and_self, eq_self, w1, f1, p1, k1, f2, p2, f3, p3, f4, p4, f5, pp5, p_X3_pickerTold_92]) x2 (by simp (disch := omega) only [ln_, ltT, eqF, ar_t, ar_f, it_t, it_f, true_and, and_true, not_true_eq_false, not_false_eq_true, implies_true, and_self, eq_self, w1, f1, k1, f2, f3, f4, f5, f_X3_pickerTold_92]) x1 x3 b5.2.2.1 b5.2.2.2.1 (x4 b5.1)
    rw [stq_z, T5] at x4 x5
    obtain ⟨p6, ⟨T6, s6, f6, r6, g66, j6⟩ | ⟨e, a, s6, T6, f6, b6⟩⟩ := cT2 (fu := fu) (c := 59) ht j5 (by omega) (by omega)
    rotate_left
    · rw [stq_z, T6] at x4
      exact outB (lC' := l2) (by simp (disch := omega) only [ln_, ltT, eqF, ar_t, ar_f, it_t, it_f, true_and, and_true, not_true_eq_false, not_false_eq_true, implies_true, and_self, eq_self, w1, f1, p1, k1, f2, p2, f3, p3, f4, p4, f5, pp5, f6, p6, p_X3_pickerTold_92]) x2 (by simp (disch := omega) only [ln_, ltT, eqF, ar_t, ar_f, it_t, it_f, true_and, and_true, not_true_eq_false, not_false_eq_true, implies_true, and_self, eq_self, w1, f1, k1, f2, f3, f4, f5, f6, f_X3_pickerTold_92]) x1 x3 b6.2.2.1 b6.2.2.2.1 (x4 b6.1)
    rw [stq_z, T6] at x5
    obtain ⟨y1, n1, n2, n3, n4, y3, y4, y5⟩ := x5 rfl
    obtain ⟨rfl, rfl⟩ := nt_u nt2 n1
    obtain ⟨rfl, rfl⟩ := nt_u nt3 n2
    obtain ⟨rfl, rfl⟩ := nt_u nt4 n3
    obtain ⟨rfl, rfl⟩ := nt_u nt5 n4
    have fr : sF sC s6 := sF_tr r1' (sF_tr r2 (sF_tr r3 (sF_tr r4 (sF_tr r5 r6))))
    have k3 : s6 t 2 = nI K.1 := by rw [fr t (by omega)]; exact w1
    have k6 : s6 3 6 = nI (tV B n (k + 1 + 1 + 1 + 1)) := by rw [g66, v5]
    have ec : nI 10 * nI (tV B n (k + 1 + 1 + 1)) + nI (tV B n (k + 1 + 1)) = nI (10 * tV B n (k + 1 + 1 + 1) + tV B n (k + 1 + 1)) := by rw [pk_mul, nI_add]
    have A1 : f_X5_addPicker fu (l2 3 7) (nI (10 * tV B n (k + 1 + 1 + 1) + tV B n (k + 1 + 1))) (nI (tV B n (k + 1 + 1 + 1 + 1))) t s6 l2 = (wi (wi (wi s6 (t + 7) K.1 (nI (10 * tV B n (k + 1 + 1 + 1) + tV B n (k + 1 + 1)))) (t + 8) K.1 (nI (tV B n (k + 1 + 1 + 1 + 1)))) t 2 (nI (K.1 + 1)), wl l2 (t + 3) K.1 (l2 3 7)) := by
      unfold f_X5_addPicker
      simp (disch := omega) only [ln_, ltF, leF, nI_clamp, nI_add, ar_t, ar_f, it_t, it_f, true_and, and_true, not_true_eq_false, not_false_eq_true, implies_true, and_self, eq_self, wi_c, wi_u, upd_s, upd_n, su_r, su_c, k3]
    have A2 : p_X5_addPicker fu (l2 3 7) (nI (10 * tV B n (k + 1 + 1 + 1) + tV B n (k + 1 + 1))) (nI (tV B n (k + 1 + 1 + 1 + 1))) t s6 l2 := by
      unfold p_X5_addPicker
      simp (disch := omega) only [ln_, ltF, leF, vpT, nI_clamp, ar_t, ar_f, it_t, it_f, true_and, and_true, not_true_eq_false, not_false_eq_true, implies_true, and_self, eq_self, wi_c, wi_u, upd_s, upd_n, su_r, su_c, k3]
    have fs : ∀ q, q ≠ 3 → q ≠ t → q ≠ t + 7 → q ≠ t + 8 → wi (wi (wi s6 (t + 7) K.1 (nI (10 * tV B n (k + 1 + 1 + 1) + tV B n (k + 1 + 1)))) (t + 8) K.1 (nI (tV B n (k + 1 + 1 + 1 + 1)))) t 2 (nI (K.1 + 1)) q = sC q := fun q a b c d => by rw [wi_c b, wi_c d, wi_c c, fr q a]
    have ft : ∀ j, j ≠ 2 → wi (wi (wi s6 (t + 7) K.1 (nI (10 * tV B n (k + 1 + 1 + 1) + tV B n (k + 1 + 1)))) (t + 8) K.1 (nI (tV B n (k + 1 + 1 + 1 + 1)))) t 2 (nI (K.1 + 1)) t j = sC t j := fun j hj => by rw [wi_u, upd_n hj, wi_c (by omega), wi_c (by omega), fr t (by omega)]
    have fl : ∀ q, q ≠ 3 → q ≠ t + 3 → wl l2 (t + 3) K.1 (l2 3 7) q = lC q := fun q a b => by rw [wl_o b, q2 q a]
    have d0 : ∀ h : lfd = 0, lf = 0 := fun h => (nt_0 nt2 (by omega) (nt_0 nt3 (by omega) (nt_0 nt4 (by omega) (nt_0 nt5 (by omega) h).1).1).1).1
    refine outG (a := k + 1 + 1 + 1 + 1 + 1 + 1) (m := m) (L := L) (W := W) (N := N) (Q := Q) (by simp (disch := omega) only [ln_, ltT, eqF, ar_t, ar_f, it_t, it_f, true_and, and_true, not_true_eq_false, not_false_eq_true, implies_true, and_self, eq_self, w1, f1, p1, k1, f2, p2, f3, p3, f4, p4, f5, pp5, f6, p6, v3, v4, k6, ec, A2, p_X3_pickerTold_112]) x2 (by simp (disch := omega) only [ln_, ltT, eqF, ar_t, ar_f, it_t, it_f, true_and, and_true, not_true_eq_false, not_false_eq_true, implies_true, and_self, eq_self, w1, f1, k1, f2, f3, f4, f5, f6, v3, v4, k6, ec, A1, f_X3_pickerTold_112]) x1 x3 (by omega) ⟨cAt_x (wl_o (by omega)) (by rw [wi_c (by omega), wi_c (by omega), wi_c (by omega)]) (by rw [wi_c (by omega), wi_c (by omega), wi_c (by omega)]) (by rw [wi_c (by omega), wi_c (by omega), wi_c (by omega)]) (by rw [wi_u, upd_n (by omega), wi_c (by omega), wi_c (by omega)]) j6, by omega, gL_k (ft 0 (by omega)) (ft 3 (by omega)) (fs (t + 4) (by omega) (by omega) (by omega) (by omega)) (fs (t + 5) (by omega) (by omega) (by omega) (by omega)) (fs (t + 6) (by omega) (by omega) (by omega) (by omega)) (fl (t + 1) (by omega) (by omega)) cL, gW_k (ft 1 (by omega)) (fl (t + 2) (by omega) (by omega)) cW, ⟨by rw [wi_u, upd_s], fun i hi => ?_, fun i hi => ?_⟩, gN_k (ft 15 (by omega)) (ft 16 (by omega)) (ft 17 (by omega)) (ft 18 (by omega)) cN, gQ_k (fun j _ => by rw [fs (t + 9) (by omega) (by omega) (by omega) (by omega)]) (fs (t + 10) (by omega) (by omega) (by omega) (by omega)) (Nat.le_refl m) cQ⟩ ⟨y1, hL_k (y4 68 (by omega) (by omega) (by omega) (by omega) (by omega)) (y4 70 (by omega) (by omega) (by omega) (by omega) (by omega)) (y4 71 (by omega) (by omega) (by omega) (by omega) (by omega)) (y5 69 (by omega)) rL, hW_k (y4 72 (by omega) (by omega) (by omega) (by omega) (by omega)) (y5 73 (by omega)) rW, y3, hN_k (y4 79 (by omega) (by omega) (by omega) (by omega) (by omega)) (y4 80 (by omega) (by omega) (by omega) (by omega) (by omega)) (y4 81 (by omega) (by omega) (by omega) (by omega) (by omega)) rN', rLw_k (fun q a b => y4 q (by omega) (by omega) (by omega) (by omega) (by omega)) rQ', rM1, by omega, rb1, by omega⟩ ⟨tL_l tl d0, tw, ⟨by show K.1 + 1 ≤ 4; omega, fun i hi => ?_, fun h i hi => ?_⟩, tN_l tn d0, tq⟩
    · show wl l2 (t + 3) K.1 (l2 3 7) (t + 3) i = lN (p5 (up1 K.2.1 K.1 (tW B n (k + 1)) i))
      have hi : i < K.1 + 1 := hi
      by_cases ei : i = K.1
      · rw [ei, wl_e, up1_s, v2]
      · rw [wl_x ei, up1_n ei, q2 (t + 3) (by omega)]
        exact cK.2.1 i (by omega)
    · show _ = nI (10 * up1 K.2.2.2.1 K.1 (tV B n (k + 3)) i + up1 K.2.2.1 K.1 (tV B n (k + 2)) i) ∧ _ = nI (up1 K.2.2.2.2 K.1 (tV B n (k + 4)) i)
      have hi : i < K.1 + 1 := hi
      by_cases ei : i = K.1
      · rw [ei, up1_s, up1_s, up1_s]
        simp (disch := omega) only [wi_c, wi_u, upd_s, upd_n, su_r, su_c, true_and]
      · rw [up1_n ei, up1_n ei, up1_n ei]
        simp (disch := omega) only [wi_c, wi_u, upd_s, upd_n, su_r, su_c]
        rw [fr (t + 7) (by omega), fr (t + 8) (by omega)]
        exact cK.2.2 i (by omega)
    · show okW (up1 K.2.1 K.1 (tW B n (k + 1)) i) ∧ up1 K.2.2.1 K.1 (tV B n (k + 2)) i ≤ 9999 ∧ up1 K.2.2.2.1 K.1 (tV B n (k + 3)) i ≤ 9999 ∧ up1 K.2.2.2.2 K.1 (tV B n (k + 4)) i ≤ 9999
      have hi : i < K.1 + 1 := hi
      by_cases ei : i = K.1
      · rw [ei, up1_s, up1_s, up1_s, up1_s]; exact ⟨ok2, hv3, hv4, hv5⟩
      · rw [up1_n ei, up1_n ei, up1_n ei, up1_n ei]; exact tk.2.1 i (by omega)
    · show up1 K.2.2.1 K.1 (tV B n (k + 2)) i ≤ 9 ∧ up1 K.2.2.2.1 K.1 (tV B n (k + 3)) i ≤ 7 ∧ 1 ≤ up1 K.2.2.2.2 K.1 (tV B n (k + 4)) i ∧ up1 K.2.2.2.2 K.1 (tV B n (k + 4)) i ≤ 32
      have hi : i < K.1 + 1 := hi
      by_cases ei : i = K.1
      · rw [ei, up1_s, up1_s, up1_s]
        have z5 := nt_0 nt5 (by omega) h
        have z4 := nt_0 nt4 (by omega) z5.1
        have z3 := nt_0 nt3 (by omega) z4.1
        have a5 := z5.2
        have a4 := z4.2
        have a3 := z3.2
        show tV B n (k + 1 + 1) ≤ 9 ∧ tV B n (k + 1 + 1 + 1) ≤ 7 ∧ 1 ≤ tV B n (k + 1 + 1 + 1 + 1) ∧ tV B n (k + 1 + 1 + 1 + 1) ≤ 32
        omega
      · rw [up1_n ei, up1_n ei, up1_n ei]; exact tk.2.2 (d0 h) i (by omega)
  · have h8 : K.1 = 4 := by omega
    rw [h8] at w1
    obtain ⟨h63, h11, hk4, h13, h19⟩ := rJ63 r1
    have hr : rk (tK B n k) = 22 := by rw [hT]; rfl
    rw [hr] at h63
    have h72 := rK.1
    rw [h8] at h72
    obtain ⟨s1, g1, g2, g3, g4⟩ := r_room0 (fu := fu) (x := nI 4) (c := 4) r1 rfl
    obtain ⟨k13, _, _⟩ := rBd_13 g4
    obtain ⟨⟨u0, u1, u2, u3, _, u4⟩, up⟩ := c_stop (fu := fu) (e := 2) (C := []) ht c1.1 (.inr rfl)
    rw [if_neg (by omega)] at u2
    have u4 := u4 (by omega)
    refine outB (lC' := lC) ?_ ?_ ?_ ?_ (rGF_N g3) u4.1 u4.2 g4
    · unfold p_X3_pickerTold p_X3_pickerTold_13
      simp (disch := omega) only [ln_, ltF, ar_t, ar_f, it_t, it_f, true_and, and_true, not_true_eq_false, not_false_eq_true, implies_true, and_self, eq_self, w1, u2, up, true_or]
    · unfold p_X12_tellOne p_X12_tellOne_199 p_X12_tellOne_349
      simp (disch := omega) only [ln_, eqF, nI_clamp, vpT, ar_t, ar_f, it_t, it_f, true_and, and_true, not_true_eq_false, not_false_eq_true, implies_true, and_self, eq_self, h63, h11, h19, h72, g1, g2, k13]
    · unfold f_X3_pickerTold f_X3_pickerTold_13
      simp (disch := omega) only [ln_, ltF, ar_t, ar_f, it_t, it_f, true_and, and_true, not_true_eq_false, not_false_eq_true, implies_true, and_self, eq_self, w1, u2]
    · unfold f_X12_tellOne f_X12_tellOne_199 f_X12_tellOne_349
      simp (disch := omega) only [ln_, eqF, nI_clamp, ar_t, ar_f, it_t, it_f, true_and, and_true, not_true_eq_false, not_false_eq_true, implies_true, and_self, eq_self, h63, h11, h19, h72, g1, k13]
end tel5
