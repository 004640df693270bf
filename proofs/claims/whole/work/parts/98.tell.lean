/-! Rain, seed and laws, told to both -/
section tel2
variable {B : Nat → Nat} {a b c e i j k m n p q t z f lf lj lf' lj' sd M br y hi o r : Nat} {s s1 s2 sC sR : fl_I} {l l1 l2 lC lR : fl_L} {fu : Nat} {x : Int32} {v : Int64} {L : Lt} {W : Wt} {K : Kt} {N : Nt} {Q : Qt}
/-- a number of its own, in the reference: field q -/
theorem r_num (hsd : sd ≤ 1) (h : rJt B n sd k M br lf lj s l) (hT : tK B n k = c) (hc : 2 ≤ c) (hhi : hi < 10000) :
    ∃ v s' lf' lj', f_X12_toldInt fu (nI 0) (nI hi) s l = (v, s', l) ∧ p_X12_toldInt fu (nI 0) (nI hi) s l ∧ rN s s' ∧ ((stq (tK B n) 59 (stq (tK B n) 3 (tkE (tK B n) c k))).1 ≠ 0 → rBd B n (stq (tK B n) 59 (stq (tK B n) 3 (tkE (tK B n) c k))).1 (stq (tK B n) 59 (stq (tK B n) 3 (tkE (tK B n) c k))).2 s') ∧ ((stq (tK B n) 59 (stq (tK B n) 3 (tkE (tK B n) c k))).1 = 0 → rJt B n sd (k + 3) M br lf' lj' s' l ∧ v = nI (tV B n (k + 1)) ∧ nt lf lj 5 (k + 1) (tV B n (k + 1) < 0 ∨ hi < tV B n (k + 1)) lf' lj') := by
  obtain ⟨s1, g1, g2, g3, g4⟩ := sGo (fu := fu) h hT hc
  obtain ⟨v, s2, lf2, lj2, m1, m2, m3, m4, m5⟩ := sI (fu := fu) (lo := 0) (hi := hi) g4 (by omega) hhi
  obtain ⟨s3, n1, n2, n3, n4⟩ := sM (fu := fu) (b := 4) (c := 59) m4 (by omega) (fun hr k => rk59 hr k) (by omega)
  refine ⟨v, s3, lf2, lj2, ?_, ?_, rN_tr g3 (rN_tr m3 n3), fun h => (n4.2 h).1, fun e1 => ?_⟩
  · unfold f_X12_toldInt
    simp (disch := omega) only [ln_, g1, m1, n1]
  · unfold p_X12_toldInt
    simp (disch := omega) only [ln_, ar_t, ar_f, it_t, it_f, true_and, and_true, not_true_eq_false, not_false_eq_true, implies_true, and_self, eq_self, g1, g2, m1, m2, n1, n2]
  · obtain ⟨a0, a1, a2, a3⟩ := stq_e e1
    obtain ⟨b0, b1, b2, b3⟩ := stq_e a0
    have c0 : tkE (tK B n) c k = (0, k + 1) := by
      have e2 : tkE (tK B n) c k = (0, (tkE (tK B n) c k).2) := Prod.ext b0 rfl
      rw [e2, (tkE_0 e2).2.2]
    rw [c0] at m5 b3
    rw [c0, b3] at a3
    obtain ⟨v1, v2⟩ := m5 (by rw [b3])
    have nJ := n4.1 e1
    rw [c0, b3, a3] at nJ
    exact ⟨nJ, v1, v2⟩
theorem tl_rain (ht : t = 9 ∨ t = 20) (hsd : sd ≤ 1) (c : CJ B n t k m lf lj L W K N Q sC lC) (r : RJ B n sd k M br lf lj L W K N Q sR lR) (T : TJ lf L W K N Q) (hT : tK B n k = 263) : Out B n t sd k sR lR (f_X3_rainTold fu t sC lC) (p_X3_rainTold fu t sC lC) (f_X12_tellOne fu sR lR) (p_X12_tellOne fu sR lR) := by
  obtain ⟨c1, cm, cL, cW, cK, cN, cQ⟩ := c
  obtain ⟨r1, rL, rW, rK, rN', rQ', rM1, rM2, rb1, rb2⟩ := r
  obtain ⟨tl, tw, tk, tn, tq⟩ := T
  obtain ⟨h63, h11, hk4, h13, h19⟩ := rJ63 r1
  have hr : rk (tK B n k) = 27 := by rw [hT]; rfl
  rw [hr] at h63
  obtain ⟨v, s1, lf2, lj2, x1, x2, x3, x4, x5⟩ := r_num (fu := fu) (hi := 100) hsd r1 hT (by omega) (by omega)
  have T0 : f_X12_tellOne fu sR lR = (wi s1 80 sd v, lR) := by
    unfold f_X12_tellOne f_X12_tellOne_272 f_X12_tellOne_349
    simp (disch := omega) only [ln_, eqF, nI_clamp, ar_t, ar_f, it_t, it_f, true_and, and_true, not_true_eq_false, not_false_eq_true, implies_true, and_self, eq_self, h63, h11, h19, x1]
  have P0 : p_X12_tellOne fu sR lR := by
    unfold p_X12_tellOne p_X12_tellOne_272 p_X12_tellOne_349
    simp (disch := omega) only [ln_, eqF, nI_clamp, vpT, ar_t, ar_f, it_t, it_f, true_and, and_true, not_true_eq_false, not_false_eq_true, implies_true, and_self, eq_self, h63, h11, h19, x1, x2]
  have gf : rGF sd sR lR (wi s1 80 sd v) lR := rGF_tr (rGF_N x3) (rGF_w (by omega) (by show 1 * sd ≤ sd; omega) (by show sd < 1 * sd + 1; omega))
  unfold f_X3_rainTold p_X3_rainTold
  obtain ⟨p1, ⟨T1, s1', f1, r1', g6, j1⟩ | ⟨e, a, s1', T1, f1, b1⟩⟩ := cT2 (fu := fu) (c := 263) ht c1 (by omega) (by omega)
  rotate_left
  · rw [T1, stq_n (st := (e, a)) b1.1, stq_n (st := (e, a)) b1.1] at x4
    exact outB (lC' := lC) (by simp (disch := omega) only [ln_, ar_t, ar_f, it_t, it_f, true_and, and_true, not_true_eq_false, not_false_eq_true, implies_true, and_self, eq_self, f1, p1]) P0 (by simp (disch := omega) only [ln_, ar_t, ar_f, it_t, it_f, true_and, and_true, not_true_eq_false, not_false_eq_true, implies_true, and_self, eq_self, f1]) T0 gf b1.2.2.1 b1.2.2.2.1 (rBd_w (x4 b1.1) (by omega))
  rw [T1] at x4 x5
  obtain ⟨p2, ⟨s2, lf1, lj1, T2, f2, r2, v2, hv2, nt2, j2⟩ | ⟨e, a, s2, T2, f2, b2⟩⟩ := cI2 (fu := fu) (lo := 0) (hi := 100) ht j1 (by omega) (by omega)
  rotate_left
  · rw [stq_z, T2, stq_n (st := (e, a)) b2.1] at x4
    exact outB (lC' := lC) (by simp (disch := omega) only [ln_, eqF, ar_t, ar_f, it_t, it_f, true_and, and_true, not_true_eq_false, not_false_eq_true, implies_true, and_self, eq_self, f1, p1, f2, p2]) P0 (by simp (disch := omega) only [ln_, eqF, ar_t, ar_f, it_t, it_f, true_and, and_true, not_true_eq_false, not_false_eq_true, implies_true, and_self, eq_self, f1, f2]) T0 gf b2.2.2.1 b2.2.2.2.1 (rBd_w (x4 b2.1) (by omega))
  rw [stq_z, T2] at x4 x5
  obtain ⟨p3, ⟨T3, s3, f3, r3, g36, j3⟩ | ⟨e, a, s3, T3, f3, b3⟩⟩ := cT2 (fu := fu) (c := 59) ht j2 (by omega) (by omega)
  rotate_left
  · rw [stq_z, T3] at x4
    exact outB (lC' := lC) (by simp (disch := omega) only [ln_, eqF, ar_t, ar_f, it_t, it_f, true_and, and_true, not_true_eq_false, not_false_eq_true, implies_true, and_self, eq_self, f1, p1, f2, p2, f3, p3]) P0 (by simp (disch := omega) only [ln_, eqF, ar_t, ar_f, it_t, it_f, true_and, and_true, not_true_eq_false, not_false_eq_true, implies_true, and_self, eq_self, f1, f2, f3]) T0 gf b3.2.2.1 b3.2.2.2.1 (rBd_w (x4 b3.1) (by omega))
  rw [stq_z, T3] at x5
  obtain ⟨y1, y2, y3⟩ := x5 rfl
  obtain ⟨rfl, rfl⟩ := nt_u nt2 y3
  have fr : sF sC s3 := sF_tr r1' (sF_tr r2 r3)
  have k6 : s3 3 6 = nI (tV B n (k + 1)) := by rw [g36, v2]
  have fs : ∀ q, q ≠ 3 → q ≠ t → wi s3 t 17 (nI (tV B n (k + 1))) q = sC q := fun q a b => by rw [wi_c b, fr q a]
  have ft : ∀ j, j ≠ 17 → wi s3 t 17 (nI (tV B n (k + 1))) t j = sC t j := fun j hj => by rw [wi_u, upd_n hj, fr t (by omega)]
  have y4 : ∀ q, q ≠ 60 → q ≠ 80 → wi s1 80 sd v q = sR q := fun q a b => by rw [wi_c b, x3.1 q a]
  have rj : rSt B n sd M br (0, k + 3) lf2 lj2 (wi s1 80 sd v) lR := rSt_w (by omega) (by omega) (by omega) (by omega) ⟨fun _ => y1, fun h => absurd rfl h⟩
  refine outG (a := k + 1 + 1 + 1) (m := m) (L := L) (W := W) (K := K) (N := (N.1, N.2.1, tV B n (k + 1), N.2.2.2)) (Q := Q) (lC' := lC) (by simp (disch := omega) only [ln_, eqF, ar_t, ar_f, it_t, it_f, true_and, and_true, not_true_eq_false, not_false_eq_true, implies_true, and_self, eq_self, f1, p1, f2, p2, f3, p3]) P0 (by simp (disch := omega) only [ln_, eqF, ar_t, ar_f, it_t, it_f, true_and, and_true, not_true_eq_false, not_false_eq_true, implies_true, and_self, eq_self, f1, f2, f3, k6]) T0 gf (by omega) ⟨cAt_x rfl (wi_c (by omega)) (wi_c (by omega)) (wi_c (by omega)) (by rw [wi_u, upd_n (by omega)]) j3, by omega, gL_k (ft 0 (by omega)) (ft 3 (by omega)) (fs (t + 4) (by omega) (by omega)) (fs (t + 5) (by omega) (by omega)) (fs (t + 6) (by omega) (by omega)) rfl cL, gW_k (ft 1 (by omega)) rfl cW, gK_k (ft 2 (by omega)) (fs (t + 7) (by omega) (by omega)) (fs (t + 8) (by omega) (by omega)) rfl cK, ⟨by rw [ft 15 (by omega)]; exact cN.1, by rw [ft 16 (by omega)]; exact cN.2.1, by rw [wi_u, upd_s], by rw [ft 18 (by omega)]; exact cN.2.2.2⟩, gQ_k (fun j _ => by rw [fs (t + 9) (by omega) (by omega)]) (fs (t + 10) (by omega) (by omega)) (Nat.le_refl m) cQ⟩ ⟨rj.1 rfl, hL_k (y4 68 (by omega) (by omega)) (y4 70 (by omega) (by omega)) (y4 71 (by omega) (by omega)) rfl rL, hW_k (y4 72 (by omega) (by omega)) rfl rW, hK_k (y4 74 (by omega) (by omega)) (y4 76 (by omega) (by omega)) (y4 77 (by omega) (by omega)) (y4 78 (by omega) (by omega)) rfl rK, ⟨by rw [y4 79 (by omega) (by omega)]; exact rN'.1, by rw [y4 79 (by omega) (by omega)]; exact rN'.2.1, by rw [wi_u, upd_s, y2], by rw [y4 81 (by omega) (by omega)]; exact rN'.2.2.2⟩, rLw_k (fun q a b => y4 q (by omega) (by omega)) rQ', rM1, by omega, rb1, by omega⟩ ⟨tL_l tl (fun h => (nt_0 nt2 (by omega) h).1), tw, tK_l tk (fun h => (nt_0 nt2 (by omega) h).1), ⟨hv2, tn.2.1, fun h => ?_⟩, tq⟩
  have := (nt_0 nt2 (by omega) h).2
  show tV B n (k + 1) ≤ 100
  omega
theorem tl_seed (ht : t = 9 ∨ t = 20) (hsd : sd ≤ 1) (c : CJ B n t k m lf lj L W K N Q sC lC) (r : RJ B n sd k M br lf lj L W K N Q sR lR) (T : TJ lf L W K N Q) (hT : tK B n k = 264) : Out B n t sd k sR lR (f_X3_seedTold fu t sC lC) (p_X3_seedTold fu t sC lC) (f_X12_tellOne fu sR lR) (p_X12_tellOne fu sR lR) := by
  obtain ⟨c1, cm, cL, cW, cK, cN, cQ⟩ := c
  obtain ⟨r1, rL, rW, rK, rN', rQ', rM1, rM2, rb1, rb2⟩ := r
  obtain ⟨tl, tw, tk, tn, tq⟩ := T
  obtain ⟨h63, h11, hk4, h13, h19⟩ := rJ63 r1
  have hr : rk (tK B n k) = 28 := by rw [hT]; rfl
  rw [hr] at h63
  obtain ⟨v, s1, lf2, lj2, x1, x2, x3, x4, x5⟩ := r_num (fu := fu) (hi := 9999) hsd r1 hT (by omega) (by omega)
  have T0 : f_X12_tellOne fu sR lR = (wi s1 81 sd v, lR) := by
    unfold f_X12_tellOne f_X12_tellOne_292 f_X12_tellOne_349
    simp (disch := omega) only [ln_, eqF, nI_clamp, ar_t, ar_f, it_t, it_f, true_and, and_true, not_true_eq_false, not_false_eq_true, implies_true, and_self, eq_self, h63, h11, h19, x1]
  have P0 : p_X12_tellOne fu sR lR := by
    unfold p_X12_tellOne p_X12_tellOne_292 p_X12_tellOne_349
    simp (disch := omega) only [ln_, eqF, nI_clamp, vpT, ar_t, ar_f, it_t, it_f, true_and, and_true, not_true_eq_false, not_false_eq_true, implies_true, and_self, eq_self, h63, h11, h19, x1, x2]
  have gf : rGF sd sR lR (wi s1 81 sd v) lR := rGF_tr (rGF_N x3) (rGF_w (by omega) (by show 1 * sd ≤ sd; omega) (by show sd < 1 * sd + 1; omega))
  unfold f_X3_seedTold p_X3_seedTold
  obtain ⟨p1, ⟨T1, s1', f1, r1', g6, j1⟩ | ⟨e, a, s1', T1, f1, b1⟩⟩ := cT2 (fu := fu) (c := 264) ht c1 (by omega) (by omega)
  rotate_left
  · rw [T1, stq_n (st := (e, a)) b1.1, stq_n (st := (e, a)) b1.1] at x4
    exact outB (lC' := lC) (by simp (disch := omega) only [ln_, ar_t, ar_f, it_t, it_f, true_and, and_true, not_true_eq_false, not_false_eq_true, implies_true, and_self, eq_self, f1, p1]) P0 (by simp (disch := omega) only [ln_, ar_t, ar_f, it_t, it_f, true_and, and_true, not_true_eq_false, not_false_eq_true, implies_true, and_self, eq_self, f1]) T0 gf b1.2.2.1 b1.2.2.2.1 (rBd_w (x4 b1.1) (by omega))
  rw [T1] at x4 x5
  obtain ⟨p2, ⟨s2, lf1, lj1, T2, f2, r2, v2, hv2, nt2, j2⟩ | ⟨e, a, s2, T2, f2, b2⟩⟩ := cI2 (fu := fu) (lo := 0) (hi := 9999) ht j1 (by omega) (by omega)
  rotate_left
  · rw [stq_z, T2, stq_n (st := (e, a)) b2.1] at x4
    exact outB (lC' := lC) (by simp (disch := omega) only [ln_, eqF, ar_t, ar_f, it_t, it_f, true_and, and_true, not_true_eq_false, not_false_eq_true, implies_true, and_self, eq_self, f1, p1, f2, p2]) P0 (by simp (disch := omega) only [ln_, eqF, ar_t, ar_f, it_t, it_f, true_and, and_true, not_true_eq_false, not_false_eq_true, implies_true, and_self, eq_self, f1, f2]) T0 gf b2.2.2.1 b2.2.2.2.1 (rBd_w (x4 b2.1) (by omega))
  rw [stq_z, T2] at x4 x5
  obtain ⟨p3, ⟨T3, s3, f3, r3, g36, j3⟩ | ⟨e, a, s3, T3, f3, b3⟩⟩ := cT2 (fu := fu) (c := 59) ht j2 (by omega) (by omega)
  rotate_left
  · rw [stq_z, T3] at x4
    exact outB (lC' := lC) (by simp (disch := omega) only [ln_, eqF, ar_t, ar_f, it_t, it_f, true_and, and_true, not_true_eq_false, not_false_eq_true, implies_true, and_self, eq_self, f1, p1, f2, p2, f3, p3]) P0 (by simp (disch := omega) only [ln_, eqF, ar_t, ar_f, it_t, it_f, true_and, and_true, not_true_eq_false, not_false_eq_true, implies_true, and_self, eq_self, f1, f2, f3]) T0 gf b3.2.2.1 b3.2.2.2.1 (rBd_w (x4 b3.1) (by omega))
  rw [stq_z, T3] at x5
  obtain ⟨y1, y2, y3⟩ := x5 rfl
  obtain ⟨rfl, rfl⟩ := nt_u nt2 y3
  have fr : sF sC s3 := sF_tr r1' (sF_tr r2 r3)
  have k6 : s3 3 6 = nI (tV B n (k + 1)) := by rw [g36, v2]
  have fs : ∀ q, q ≠ 3 → q ≠ t → wi s3 t 18 (nI (tV B n (k + 1))) q = sC q := fun q a b => by rw [wi_c b, fr q a]
  have ft : ∀ j, j ≠ 18 → wi s3 t 18 (nI (tV B n (k + 1))) t j = sC t j := fun j hj => by rw [wi_u, upd_n hj, fr t (by omega)]
  have y4 : ∀ q, q ≠ 60 → q ≠ 81 → wi s1 81 sd v q = sR q := fun q a b => by rw [wi_c b, x3.1 q a]
  have rj : rSt B n sd M br (0, k + 3) lf2 lj2 (wi s1 81 sd v) lR := rSt_w (by omega) (by omega) (by omega) (by omega) ⟨fun _ => y1, fun h => absurd rfl h⟩
  exact outG (a := k + 1 + 1 + 1) (m := m) (L := L) (W := W) (K := K) (N := (N.1, N.2.1, N.2.2.1, tV B n (k + 1))) (Q := Q) (lC' := lC) (by simp (disch := omega) only [ln_, eqF, ar_t, ar_f, it_t, it_f, true_and, and_true, not_true_eq_false, not_false_eq_true, implies_true, and_self, eq_self, f1, p1, f2, p2, f3, p3]) P0 (by simp (disch := omega) only [ln_, eqF, ar_t, ar_f, it_t, it_f, true_and, and_true, not_true_eq_false, not_false_eq_true, implies_true, and_self, eq_self, f1, f2, f3, k6]) T0 gf (by omega) ⟨cAt_x rfl (wi_c (by omega)) (wi_c (by omega)) (wi_c (by omega)) (by rw [wi_u, upd_n (by omega)]) j3, by omega, gL_k (ft 0 (by omega)) (ft 3 (by omega)) (fs (t + 4) (by omega) (by omega)) (fs (t + 5) (by omega) (by omega)) (fs (t + 6) (by omega) (by omega)) rfl cL, gW_k (ft 1 (by omega)) rfl cW, gK_k (ft 2 (by omega)) (fs (t + 7) (by omega) (by omega)) (fs (t + 8) (by omega) (by omega)) rfl cK, ⟨by rw [ft 15 (by omega)]; exact cN.1, by rw [ft 16 (by omega)]; exact cN.2.1, by rw [ft 17 (by omega)]; exact cN.2.2.1, by rw [wi_u, upd_s]⟩, gQ_k (fun j _ => by rw [fs (t + 9) (by omega) (by omega)]) (fs (t + 10) (by omega) (by omega)) (Nat.le_refl m) cQ⟩ ⟨rj.1 rfl, hL_k (y4 68 (by omega) (by omega)) (y4 70 (by omega) (by omega)) (y4 71 (by omega) (by omega)) rfl rL, hW_k (y4 72 (by omega) (by omega)) rfl rW, hK_k (y4 74 (by omega) (by omega)) (y4 76 (by omega) (by omega)) (y4 77 (by omega) (by omega)) (y4 78 (by omega) (by omega)) rfl rK, ⟨by rw [y4 79 (by omega) (by omega)]; exact rN'.1, by rw [y4 79 (by omega) (by omega)]; exact rN'.2.1, by rw [y4 80 (by omega) (by omega)]; exact rN'.2.2.1, by rw [wi_u, upd_s, y2]⟩, rLw_k (fun q a b => y4 q (by omega) (by omega)) rQ', rM1, by omega, rb1, by omega⟩ ⟨tL_l tl (fun h => (nt_0 nt2 (by omega) h).1), tw, tK_l tk (fun h => (nt_0 nt2 (by omega) h).1), ⟨tn.1, hv2, fun h => tn.2.2 (nt_0 nt2 (by omega) h).1⟩, tq⟩
end tel2
