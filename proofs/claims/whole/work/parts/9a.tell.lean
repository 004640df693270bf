/-! Wind, told to both -/
def stS (T : Nat → Nat) (k : Nat) : Nat × Nat := if T k = 45 then stq T 3 (tkE T 45 k) else tkE T 3 k
def stqS (T : Nat → Nat) (st : Nat × Nat) : Nat × Nat := if st.1 = 0 then stS T st.2 else st
def kS (T : Nat → Nat) (k : Nat) : Nat := if T k = 45 then k + 1 else k
def vS (T V : Nat → Nat) (k : Nat) : Int32 := if T k = 45 then -nI (V (k + 1)) else nI (V k)
section tel4
variable {B : Nat → Nat} {a b c e i j k m n p q t z f lf lj lf' lj' sd M br y hi o r : Nat} {s s1 s2 sC sR : fl_I} {l l1 l2 lC lR : fl_L} {fu : Nat} {x : Int32} {v : Int64} {L : Lt} {W : Wt} {K : Kt} {N : Nt} {Q : Qt} {st : Nat × Nat} {T : Nat → Nat}
theorem stS_45 (h : T k = 45) : stS T k = stq T 3 (tkE T 45 k) ∧ kS T k = k + 1 := ⟨if_pos h, if_pos h⟩
theorem stS_n (h : T k ≠ 45) : stS T k = tkE T 3 k ∧ kS T k = k := ⟨if_neg h, if_neg h⟩
theorem cS2 (ht : t = 9 ∨ t = 20) (h : cJ B n t k m lf lj s l) : p_X3_takeStep fu s l ∧ ((∃ s1 lf' lj', stS (tK B n) k = (0, kS (tK B n) k + 1) ∧ f_X3_takeStep fu s l = (nI 1, s1, l) ∧ sF s s1 ∧ s1 3 6 = vS (tK B n) (tV B n) k ∧ nt lf lj 5 (kS (tK B n) k) (tV B n (kS (tK B n) k) < 0 ∨ 2 < tV B n (kS (tK B n) k)) lf' lj' ∧ cJ B n t (kS (tK B n) k + 1) m lf' lj' s1 l) ∨ ∃ e a s1, stS (tK B n) k = (e, a) ∧ f_X3_takeStep fu s l = (nI 0, s1, l) ∧ cB2 B n e a s s1 l l) := by
  obtain ⟨k1, k2⟩ := c_kindNow (fu := fu) h.1
  have hlt := tK_lt (k := k) h.1.1
  have n10 : (nI 1 = nI 0) = False := eqF (by omega) (by omega) (by omega)
  by_cases hT : tK B n k = 45
  · obtain ⟨e1, e2⟩ := stS_45 hT
    rw [e1, e2]
    unfold p_X3_takeStep f_X3_takeStep p_X3_takeStep_25 f_X3_takeStep_25
    obtain ⟨p1, ⟨T1, s1, f1, r1, g6, j1⟩ | ⟨e, a, s1, T1, f1, b1⟩⟩ := cT2 (fu := fu) (c := 45) ht h (by omega) (by omega)
    rotate_left
    · rw [T1, stq_n (st := (e, a)) b1.1]
      exact ⟨by simp (disch := omega) only [ln_, eqF, ar_t, ar_f, it_t, it_f, true_and, and_true, not_true_eq_false, not_false_eq_true, implies_true, and_self, eq_self, k1, k2, hT, f1, p1, p_X3_takeStep_37], .inr ⟨e, a, s1, rfl, by simp (disch := omega) only [ln_, eqF, ar_t, ar_f, it_t, it_f, true_and, and_true, not_true_eq_false, not_false_eq_true, implies_true, and_self, eq_self, k1, hT, f1, f_X3_takeStep_37], b1⟩⟩
    rw [T1, stq_z]
    unfold p_X3_takeStep_28 f_X3_takeStep_28 p_X3_takeStep_34 f_X3_takeStep_34
    obtain ⟨p2, ⟨s2, lf1, lj1, T2, f2, r2, v2, hv2, nt2, j2⟩ | ⟨e, a, s2, T2, f2, b2⟩⟩ := cI2 (fu := fu) (lo := 0) (hi := 2) ht j1 (by omega) (by omega)
    rotate_left
    · rw [T2]
      exact ⟨by simp (disch := omega) only [ln_, eqF, ar_t, ar_f, it_t, it_f, true_and, and_true, not_true_eq_false, not_false_eq_true, implies_true, and_self, eq_self, k1, k2, hT, f1, p1, f2, p2, p_X3_takeStep_37], .inr ⟨e, a, s2, rfl, by simp (disch := omega) only [ln_, eqF, ar_t, ar_f, it_t, it_f, true_and, and_true, not_true_eq_false, not_false_eq_true, implies_true, and_self, eq_self, k1, hT, f1, f2, f_X3_takeStep_37], cB2_tr r1 lF_rfl b2⟩⟩
    have w0 : sF s2 (wi s2 3 6 (-(s2 3 6))) := fun q hq => wi_c hq
    refine ⟨by simp (disch := omega) only [ln_, eqF, ar_t, ar_f, it_t, it_f, true_and, and_true, not_true_eq_false, not_false_eq_true, implies_true, and_self, eq_self, k1, k2, hT, f1, p1, f2, p2, p_X3_takeStep_37], .inl ⟨wi s2 3 6 (-(s2 3 6)), lf1, lj1, T2, by simp (disch := omega) only [ln_, eqF, ar_t, ar_f, it_t, it_f, true_and, and_true, not_true_eq_false, not_false_eq_true, implies_true, and_self, eq_self, k1, hT, f1, f2], sF_tr r1 (sF_tr r2 w0), ?_, nt2, ⟨cAt_w lF_rfl w0 (by simp (disch := omega) only [wi_c, wi_u, upd_s, upd_n, su_r, su_c]) (by simp (disch := omega) only [wi_c, wi_u, upd_s, upd_n, su_r, su_c]) ht j2.1, ⟨by simp (disch := omega) only [wi_c, wi_u, upd_s, upd_n, su_r, su_c]; exact j2.2.1.1, by simp (disch := omega) only [wi_c, wi_u, upd_s, upd_n, su_r, su_c]; exact j2.2.1.2⟩, j2.2.2⟩⟩⟩
    rw [wi_u, upd_s, v2]
    unfold vS; rw [if_pos hT]
  · obtain ⟨e1, e2⟩ := stS_n hT
    rw [e1, e2]
    unfold p_X3_takeStep f_X3_takeStep p_X3_takeStep_28 f_X3_takeStep_28 p_X3_takeStep_34 f_X3_takeStep_34
    obtain ⟨p2, ⟨s2, lf1, lj1, T2, f2, r2, v2, hv2, nt2, j2⟩ | ⟨e, a, s2, T2, f2, b2⟩⟩ := cI2 (fu := fu) (lo := 0) (hi := 2) ht h (by omega) (by omega)
    rotate_left
    · rw [T2]
      exact ⟨by simp (disch := omega) only [ln_, eqF, ar_t, ar_f, it_t, it_f, true_and, and_true, not_true_eq_false, not_false_eq_true, implies_true, and_self, eq_self, k1, k2, f2, p2, p_X3_takeStep_37], .inr ⟨e, a, s2, rfl, by simp (disch := omega) only [ln_, eqF, ar_t, ar_f, it_t, it_f, true_and, and_true, not_true_eq_false, not_false_eq_true, implies_true, and_self, eq_self, k1, f2, f_X3_takeStep_37], b2⟩⟩
    have w0 : sF s2 (wi s2 3 6 (s2 3 6)) := fun q hq => wi_c hq
    refine ⟨by simp (disch := omega) only [ln_, eqF, ar_t, ar_f, it_t, it_f, true_and, and_true, not_true_eq_false, not_false_eq_true, implies_true, and_self, eq_self, k1, k2, f2, p2, p_X3_takeStep_37], .inl ⟨wi s2 3 6 (s2 3 6), lf1, lj1, T2, by simp (disch := omega) only [ln_, eqF, ar_t, ar_f, it_t, it_f, true_and, and_true, not_true_eq_false, not_false_eq_true, implies_true, and_self, eq_self, k1, f2], sF_tr r2 w0, ?_, nt2, ⟨cAt_w lF_rfl w0 (by simp (disch := omega) only [wi_c, wi_u, upd_s, upd_n, su_r, su_c]) (by simp (disch := omega) only [wi_c, wi_u, upd_s, upd_n, su_r, su_c]) ht j2.1, ⟨by simp (disch := omega) only [wi_c, wi_u, upd_s, upd_n, su_r, su_c]; exact j2.2.1.1, by simp (disch := omega) only [wi_c, wi_u, upd_s, upd_n, su_r, su_c]; exact j2.2.1.2⟩, j2.2.2⟩⟩⟩
    rw [wi_u, upd_s, v2]
    unfold vS; rw [if_neg hT]
theorem sS (h : rSt B n sd M br st lf lj s l) : ∃ v s' lf' lj', f_X12_toldStep fu s l = (v, s', l) ∧ p_X12_toldStep fu s l ∧ rN s s' ∧ rSt B n sd M br (stqS (tK B n) st) lf' lj' s' l ∧ ((stqS (tK B n) st).1 = 0 → v = vS (tK B n) (tV B n) st.2 ∧ nt lf lj 5 (kS (tK B n) st.2) (tV B n (kS (tK B n) st.2) < 0 ∨ 2 < tV B n (kS (tK B n) st.2)) lf' lj') := by
  obtain ⟨k13, k13'⟩ := rSt_13 h
  unfold stqS
  by_cases e0 : st.1 = 0
  · have J := h.1 e0
    rw [if_pos e0]
    rw [e0] at k13
    obtain ⟨i1, i2⟩ := r_isP (fu := fu) (c := 9) J.1.1 (by omega)
    have rk9 : rk (tK B n st.2) = 9 ↔ tK B n st.2 = 45 := (rkF J.1.1.1 st.2).2.2.2.1
    by_cases hT : tK B n st.2 = 45
    · rw [if_pos (rk9.mpr hT)] at i1
      obtain ⟨e1, e2⟩ := stS_45 hT
      obtain ⟨s1, g1, g2, g3, g4⟩ := sGo (fu := fu) J hT (by omega)
      obtain ⟨v, s2, lf2, lj2, m1, m2, m3, m4, m5⟩ := sI (fu := fu) (lo := 0) (hi := 2) g4 (by omega) (by omega)
      rw [e1, e2]
      refine ⟨-v, s2, lf2, lj2, ?_, ?_, rN_tr g3 m3, m4, fun h0 => ?_⟩
      · unfold f_X12_toldStep f_X12_toldStep_30 f_X12_toldStep_36
        simp (disch := omega) only [ln_, eqF, ar_t, ar_f, it_t, it_f, true_and, and_true, not_true_eq_false, not_false_eq_true, implies_true, and_self, eq_self, k13, i1, g1, m1]
      · unfold p_X12_toldStep p_X12_toldStep_30 p_X12_toldStep_36
        simp (disch := omega) only [ln_, eqF, ar_t, ar_f, it_t, it_f, true_and, and_true, not_true_eq_false, not_false_eq_true, implies_true, and_self, eq_self, k13, i1, i2, g1, g2, m1, m2]
      · obtain ⟨b0, _⟩ := stq_e h0
        have c0 : tkE (tK B n) 45 st.2 = (0, st.2 + 1) := by
          have e2 : tkE (tK B n) 45 st.2 = (0, (tkE (tK B n) 45 st.2).2) := Prod.ext b0 rfl
          rw [e2, (tkE_0 e2).2.2]
        rw [c0] at m5 h0
        obtain ⟨v1, v2⟩ := m5 h0
        exact ⟨by rw [v1]; unfold vS; rw [if_pos hT], v2⟩
    · rw [if_neg (fun h => hT (rk9.mp h))] at i1
      obtain ⟨e1, e2⟩ := stS_n hT
      obtain ⟨v, s2, lf2, lj2, m1, m2, m3, m4, m5⟩ := sI (fu := fu) (lo := 0) (hi := 2) h (by omega) (by omega)
      rw [stq_0 e0] at m4 m5
      rw [e1, e2]
      refine ⟨v, s2, lf2, lj2, ?_, ?_, m3, m4, fun h0 => ?_⟩
      · unfold f_X12_toldStep f_X12_toldStep_20 f_X12_toldStep_30 f_X12_toldStep_36
        simp (disch := omega) only [ln_, eqF, ar_t, ar_f, it_t, it_f, true_and, and_true, not_true_eq_false, not_false_eq_true, implies_true, and_self, eq_self, k13, i1, m1]
      · unfold p_X12_toldStep p_X12_toldStep_20 p_X12_toldStep_30 p_X12_toldStep_36
        simp (disch := omega) only [ln_, eqF, ar_t, ar_f, it_t, it_f, true_and, and_true, not_true_eq_false, not_false_eq_true, implies_true, and_self, eq_self, k13, i1, i2, m1, m2]
      · obtain ⟨v1, v2⟩ := m5 h0
        exact ⟨by rw [v1]; unfold vS; rw [if_neg hT], v2⟩
  · rw [if_neg e0]
    obtain ⟨v, s2, lf2, lj2, m1, m2, m3, m4, m5⟩ := sI (fu := fu) (lo := 0) (hi := 2) h (by omega) (by omega)
    rw [stq_n e0] at m4
    refine ⟨v, s2, lf2, lj2, ?_, ?_, m3, m4, fun h => absurd h e0⟩
    · unfold f_X12_toldStep f_X12_toldStep_20 f_X12_toldStep_30 f_X12_toldStep_36
      simp (disch := omega) only [ln_, eqF, ar_t, ar_f, it_t, it_f, true_and, and_true, not_true_eq_false, not_false_eq_true, implies_true, and_self, eq_self, k13, m1]
    · unfold p_X12_toldStep p_X12_toldStep_20 p_X12_toldStep_30 p_X12_toldStep_36
      simp (disch := omega) only [ln_, eqF, ar_t, ar_f, it_t, it_f, true_and, and_true, not_true_eq_false, not_false_eq_true, implies_true, and_self, eq_self, k13, m1, m2]
theorem stqS_z : stqS T (0, a) = stS T a := if_pos rfl
theorem stqS_n (h : st.1 ≠ 0) : stqS T st = st := if_neg h
theorem tl_wind (ht : t = 9 ∨ t = 20) (hsd : sd ≤ 1) (c : CJ B n t k m lf lj L W K N Q sC lC) (r : RJ B n sd k M br lf lj L W K N Q sR lR) (T : TJ lf L W K N Q) (hT : tK B n k = 262) : Out B n t sd k sR lR (f_X3_windTold fu t sC lC) (p_X3_windTold fu t sC lC) (f_X12_tellOne fu sR lR) (p_X12_tellOne fu sR lR) := by
  obtain ⟨c1, cm, cL, cW, cK, cN, cQ⟩ := c
  obtain ⟨r1, rL, rW, rK, rN', rQ', rM1, rM2, rb1, rb2⟩ := r
  obtain ⟨tl, tw, tk, tn, tq⟩ := T
  obtain ⟨h63, h11, hk4, h13, h19⟩ := rJ63 r1
  have hr : rk (tK B n k) = 26 := by rw [hT]; rfl
  rw [hr] at h63
  obtain ⟨s1, g1, g2, g3, g4⟩ := sGo (fu := fu) r1 hT (by omega)
  obtain ⟨va, s2, lfa, lja, m1, m2, m3, m4, m5⟩ := sS (fu := fu) g4
  have m4' : rSt B n sd M br (stqS (tK B n) (tkE (tK B n) 262 k)) lfa lja (wi s2 79 (2 * sd) va) lR := rSt_w (by omega) (by omega) (by omega) (by omega) m4
  obtain ⟨vb, s3, lfb, ljb, n1, n2, n3, n4, n5⟩ := sS (fu := fu) m4'
  have n4' : rSt B n sd M br (stqS (tK B n) (stqS (tK B n) (tkE (tK B n) 262 k))) lfb ljb (wi s3 79 (2 * sd + 1) vb) lR := rSt_w (by omega) (by omega) (by omega) (by omega) n4
  obtain ⟨s4, o1, o2, o3, o4⟩ := sM (fu := fu) (b := 4) (c := 59) n4' (by omega) (fun hr k => rk59 hr k) (by omega)
  have k19 := rSt_19 g4
  have j19 := rSt_19 m4'
  have e2 : nI 2 * nI sd = nI (2 * sd) := by rw [pk_mul]
  have T0 : f_X12_tellOne fu sR lR = (s4, lR) := by
    unfold f_X12_tellOne f_X12_tellOne_217 f_X12_tellOne_231 f_X12_tellOne_248 f_X12_tellOne_254 f_X12_tellOne_349
    simp (disch := omega) only [ln_, eqF, nI_clamp, nI_add, ar_t, ar_f, it_t, it_f, true_and, and_true, not_true_eq_false, not_false_eq_true, implies_true, and_self, eq_self, h63, h11, g1, k19, e2, m1, j19, n1, o1]
  have P0 : p_X12_tellOne fu sR lR := by
    unfold p_X12_tellOne p_X12_tellOne_217 p_X12_tellOne_231 p_X12_tellOne_248 p_X12_tellOne_254 p_X12_tellOne_349
    simp (disch := omega) only [ln_, eqF, nI_clamp, nI_add, vpT, ar_t, ar_f, it_t, it_f, true_and, and_true, not_true_eq_false, not_false_eq_true, implies_true, and_self, eq_self, h63, h11, g1, g2, k19, e2, m1, m2, j19, n1, n2, o1, o2]
  have gf : rGF sd sR lR s4 lR := rGF_tr (rGF_N g3) (rGF_tr (rGF_N m3) (rGF_tr (rGF_w (by omega) (by show 2 * sd ≤ _; omega) (by show _ < 2 * sd + 2; omega)) (rGF_tr (rGF_N n3) (rGF_tr (rGF_w (by omega) (by show 2 * sd ≤ _; omega) (by show _ < 2 * sd + 2; omega)) (rGF_N o3)))))
  unfold f_X3_windTold p_X3_windTold
  obtain ⟨p1, ⟨T1, t1, f1, r1', _, j1⟩ | ⟨e, a, t1, T1, f1, b1⟩⟩ := cT2 (fu := fu) (c := 262) ht c1 (by omega) (by omega)
  rotate_left
  · rw [T1, stqS_n (st := (e, a)) b1.1, stqS_n (st := (e, a)) b1.1, stq_n (st := (e, a)) b1.1] at o4
    exact outB (lC' := lC) (by simp (disch := omega) only [ln_, ar_t, ar_f, it_t, it_f, true_and, and_true, not_true_eq_false, not_false_eq_true, implies_true, and_self, eq_self, f1, p1]) P0 (by simp (disch := omega) only [ln_, ar_t, ar_f, it_t, it_f, true_and, and_true, not_true_eq_false, not_false_eq_true, implies_true, and_self, eq_self, f1]) T0 gf b1.2.2.1 b1.2.2.2.1 (o4.2 b1.1).1
  rw [T1] at m5 n5 o4
  obtain ⟨p2, ⟨t2, lf1, lj1, T2, f2, r2, v2, nt2, j2⟩ | ⟨e, a, t2, T2, f2, b2⟩⟩ := cS2 (fu := fu) ht j1
  rotate_left
  · rw [stqS_z, T2, stqS_n (st := (e, a)) b2.1, stq_n (st := (e, a)) b2.1] at o4
    exact outB (lC' := lC) (by simp (disch := omega) only [ln_, eqF, ar_t, ar_f, it_t, it_f, true_and, and_true, not_true_eq_false, not_false_eq_true, implies_true, and_self, eq_self, f1, p1, f2, p2]) P0 (by simp (disch := omega) only [ln_, eqF, ar_t, ar_f, it_t, it_f, true_and, and_true, not_true_eq_false, not_false_eq_true, implies_true, and_self, eq_self, f1, f2]) T0 gf b2.2.2.1 b2.2.2.2.1 (o4.2 b2.1).1
  rw [stqS_z, T2] at m5 n5 o4
  obtain ⟨w1, w2⟩ := m5 rfl
  obtain ⟨rfl, rfl⟩ := nt_u nt2 w2
  obtain ⟨p3, ⟨t3, lf3, lj3, T3, f3, r3, v3, nt3, j3⟩ | ⟨e, a, t3, T3, f3, b3⟩⟩ := cS2 (fu := fu) ht j2
  rotate_left
  · rw [stqS_z, T3, stq_n (st := (e, a)) b3.1] at o4
    exact outB (lC' := lC) (by simp (disch := omega) only [ln_, eqF, ar_t, ar_f, it_t, it_f, true_and, and_true, not_true_eq_false, not_false_eq_true, implies_true, and_self, eq_self, f1, p1, f2, p2, f3, p3]) P0 (by simp (disch := omega) only [ln_, eqF, ar_t, ar_f, it_t, it_f, true_and, and_true, not_true_eq_false, not_false_eq_true, implies_true, and_self, eq_self, f1, f2, f3]) T0 gf b3.2.2.1 b3.2.2.2.1 (o4.2 b3.1).1
  rw [stqS_z, T3] at n5 o4
  obtain ⟨w3, w4⟩ := n5 rfl
  obtain ⟨rfl, rfl⟩ := nt_u nt3 w4
  obtain ⟨p5, ⟨T5, t5, f5, r5, g56, j5⟩ | ⟨e, a, t5, T5, f5, b5⟩⟩ := cT2 (fu := fu) (c := 59) ht j3 (by omega) (by omega)
  rotate_left
  · rw [stq_z, T5] at o4
    exact outB (lC' := lC) (by simp (disch := omega) only [ln_, eqF, ar_t, ar_f, it_t, it_f, true_and, and_true, not_true_eq_false, not_false_eq_true, implies_true, and_self, eq_self, f1, p1, f2, p2, f3, p3, f5, p5]) P0 (by simp (disch := omega) only [ln_, eqF, ar_t, ar_f, it_t, it_f, true_and, and_true, not_true_eq_false, not_false_eq_true, implies_true, and_self, eq_self, f1, f2, f3, f5]) T0 gf b5.2.2.1 b5.2.2.2.1 (o4.2 b5.1).1
  rw [stq_z, T5] at o4
  have J := o4.1 rfl
  have fr : sF sC t5 := sF_tr r1' (sF_tr r2 (sF_tr r3 r5))
  have k6 : t5 3 6 = vS (tK B n) (tV B n) (kS (tK B n) (k + 1) + 1) := by rw [g56, v3]
  have fs : ∀ q, q ≠ 3 → q ≠ t → wi (wi t5 t 15 (vS (tK B n) (tV B n) (k + 1))) t 16 (vS (tK B n) (tV B n) (kS (tK B n) (k + 1) + 1)) q = sC q := fun q a b => by rw [wi_c b, wi_c b, fr q a]
  have ft : ∀ j, j ≠ 15 → j ≠ 16 → wi (wi t5 t 15 (vS (tK B n) (tV B n) (k + 1))) t 16 (vS (tK B n) (tV B n) (kS (tK B n) (k + 1) + 1)) t j = sC t j := fun j h5 h6 => by rw [wi_u, upd_n h6, wi_u, upd_n h5, fr t (by omega)]
  have y4 : ∀ q, q ≠ 60 → q ≠ 79 → s4 q = sR q := fun q a b => by rw [o3.1 q a, wi_c b, n3.1 q a, wi_c b, m3.1 q a, g3.1 q a]
  have hk1 : k + 1 ≤ kS (tK B n) (k + 1) := by unfold kS; split <;> omega
  have hk2 : kS (tK B n) (k + 1) + 1 ≤ kS (tK B n) (kS (tK B n) (k + 1) + 1) := by
    generalize kS (tK B n) (k + 1) + 1 = k2
    unfold kS; split <;> omega
  have d0 : ∀ h : lfb = 0, lf = 0 := fun h => (nt_0 nt2 (by omega) (nt_0 nt3 (by omega) h).1).1
  have n3t : (3 : Nat) ≠ t := by omega
  have w15 : wi t5 t 15 (vS (tK B n) (tV B n) (k + 1)) 3 6 = vS (tK B n) (tV B n) (kS (tK B n) (k + 1) + 1) := by rw [wi_c n3t, k6]
  exact outG (a := kS (tK B n) (kS (tK B n) (k + 1) + 1) + 1 + 1) (m := m) (L := L) (W := W) (K := K) (N := (vS (tK B n) (tV B n) (k + 1), vS (tK B n) (tV B n) (kS (tK B n) (k + 1) + 1), N.2.2.1, N.2.2.2)) (Q := Q) (lC' := lC) (by simp (disch := omega) only [ln_, eqF, ar_t, ar_f, it_t, it_f, true_and, and_true, not_true_eq_false, not_false_eq_true, implies_true, and_self, eq_self, f1, p1, f2, p2, f3, p3, f5, p5]) P0 (by simp (disch := omega) only [ln_, eqF, ar_t, ar_f, it_t, it_f, true_and, and_true, not_true_eq_false, not_false_eq_true, implies_true, and_self, eq_self, f1, f2, f3, f5, v2, w15]) T0 gf (by omega) ⟨cAt_x rfl (by rw [wi_c (by omega), wi_c (by omega)]) (by rw [wi_c (by omega), wi_c (by omega)]) (by rw [wi_c (by omega), wi_c (by omega)]) (by rw [wi_u, upd_n (by omega), wi_u, upd_n (by omega)]) j5, by omega, gL_k (ft 0 (by omega) (by omega)) (ft 3 (by omega) (by omega)) (fs (t + 4) (by omega) (by omega)) (fs (t + 5) (by omega) (by omega)) (fs (t + 6) (by omega) (by omega)) rfl cL, gW_k (ft 1 (by omega) (by omega)) rfl cW, gK_k (ft 2 (by omega) (by omega)) (fs (t + 7) (by omega) (by omega)) (fs (t + 8) (by omega) (by omega)) rfl cK, ⟨by rw [wi_u, upd_n (by omega), wi_u, upd_s], by rw [wi_u, upd_s], by rw [ft 17 (by omega) (by omega)]; exact cN.2.2.1, by rw [ft 18 (by omega) (by omega)]; exact cN.2.2.2⟩, gQ_k (fun j _ => by rw [fs (t + 9) (by omega) (by omega)]) (fs (t + 10) (by omega) (by omega)) (Nat.le_refl m) cQ⟩ ⟨J, hL_k (y4 68 (by omega) (by omega)) (y4 70 (by omega) (by omega)) (y4 71 (by omega) (by omega)) rfl rL, hW_k (y4 72 (by omega) (by omega)) rfl rW, hK_k (y4 74 (by omega) (by omega)) (y4 76 (by omega) (by omega)) (y4 77 (by omega) (by omega)) (y4 78 (by omega) (by omega)) rfl rK, ⟨by rw [o3.1 79 (by omega), wi_u, upd_n (by omega), n3.1 79 (by omega), wi_u, upd_s, w1], by rw [o3.1 79 (by omega), wi_u, upd_s, w3], by rw [y4 80 (by omega) (by omega)]; exact rN'.2.2.1, by rw [y4 81 (by omega) (by omega)]; exact rN'.2.2.2⟩, rLw_k (fun q a b => y4 q (by omega) (by omega)) rQ', rM1, by omega, rb1, by omega⟩ ⟨tL_l tl d0, tw, tK_l tk d0, tN_l tn d0, tq⟩
end tel4
