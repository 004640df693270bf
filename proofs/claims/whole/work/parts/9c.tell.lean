/-! Letters, told to both -/
section tel6
variable {B : Nat → Nat} {a b c e i j k m n p q t z f lf lj lf' lj' sd M br y hi o r x P0 nl : Nat} {s s1 s2 sC sR : fl_I} {l l1 l2 lC lR : fl_L} {fu : Nat} {w : List Nat} {L : Lt} {W : Wt} {K : Kt} {N : Nt} {Q : Qt} {st : Nat × Nat} {T : Nat → Nat}
theorem c_addL (hfu : 20000 ≤ fu) (hw : okW w) (h0 : s t 0 = nI nl) (hn : nl < 4) (h3 : s t 3 = nI P0) (hP : P0 + w.length ≤ 32) (hx : x ≤ 9999) (hy : y ≤ 9999) : ∃ s', f_X5_addLetter fu (lN (p5 w)) (nI x) (nI y) t s l = (s', wl l (t + 1) nl (lN (p5 w))) ∧ p_X5_addLetter fu (lN (p5 w)) (nI x) (nI y) t s l ∧ s' t 0 = nI (nl + 1) ∧ s' t 3 = nI (P0 + w.length) ∧ (∀ j, j ≠ 0 → j ≠ 3 → s' t j = s t j) ∧ (∀ q, q ≠ t → q ≠ t + 4 → q ≠ t + 5 → q ≠ t + 6 → s' q = s q) ∧ (∀ j, j < P0 → s' (t + 4) j = s (t + 4) j ∧ s' (t + 5) j = s (t + 5) j ∧ s' (t + 6) j = s (t + 6) j) ∧ ∀ i, i < w.length → s' (t + 4) (P0 + i) = nI (sgn w i) ∧ s' (t + 5) (P0 + i) = nI nl ∧ s' (t + 6) (P0 + i) = nI (10 * y + (x + i) % 10) := by
  obtain ⟨q1, q2⟩ := c_len (fu := fu) hfu hw
  have key := loop_i (fun f i s0 => ∃ s', f_X5_addLetter_25 fu f (lN (p5 w)) (nI x) (nI y) (nI w.length) (nI i) t s0 l = (s', wl l (t + 1) nl (lN (p5 w))) ∧ p_X5_addLetter_25 fu f (lN (p5 w)) (nI x) (nI y) (nI w.length) (nI i) t s0 l ∧ s' t 0 = nI (nl + 1) ∧ s' t 3 = nI (P0 + w.length) ∧ (∀ j, j ≠ 0 → j ≠ 3 → s' t j = s t j) ∧ (∀ q, q ≠ t → q ≠ t + 4 → q ≠ t + 5 → q ≠ t + 6 → s' q = s q) ∧ (∀ j, j < P0 → s' (t + 4) j = s (t + 4) j ∧ s' (t + 5) j = s (t + 5) j ∧ s' (t + 6) j = s (t + 6) j) ∧ ∀ i, i < w.length → s' (t + 4) (P0 + i) = nI (sgn w i) ∧ s' (t + 5) (P0 + i) = nI nl ∧ s' (t + 6) (P0 + i) = nI (10 * y + (x + i) % 10))
    (fun i s0 => s0 t 0 = nI nl ∧ s0 t 3 = nI (P0 + i) ∧ (∀ j, j ≠ 0 → j ≠ 3 → s0 t j = s t j) ∧ (∀ q, q ≠ t → q ≠ t + 4 → q ≠ t + 5 → q ≠ t + 6 → s0 q = s q) ∧ (∀ j, j < P0 → s0 (t + 4) j = s (t + 4) j ∧ s0 (t + 5) j = s (t + 5) j ∧ s0 (t + 6) j = s (t + 6) j) ∧ ∀ i', i' < i → s0 (t + 4) (P0 + i') = nI (sgn w i') ∧ s0 (t + 5) (P0 + i') = nI nl ∧ s0 (t + 6) (P0 + i') = nI (10 * y + (x + i') % 10)) w.length ?_ ?_ fu 0 s (Nat.zero_le _) (by have := hw.2.1; omega) ⟨h0, h3, fun _ _ _ => rfl, fun _ _ _ _ _ => rfl, fun _ _ => ⟨rfl, rfl, rfl⟩, fun i hi => absurd hi (Nat.not_lt_zero i)⟩
  · obtain ⟨s', g1, g2, g3⟩ := key
    refine ⟨s', ?_, ?_, g3⟩
    · unfold f_X5_addLetter
      simp (disch := omega) only [ln_, ltF, ltT, ar_t, ar_f, it_t, it_f, true_and, and_true, not_true_eq_false, not_false_eq_true, implies_true, and_self, eq_self, h0, q2, g1]
    · unfold p_X5_addLetter
      simp (disch := omega) only [ln_, ltF, ltT, ar_t, ar_f, it_t, it_f, true_and, and_true, not_true_eq_false, not_false_eq_true, implies_true, and_self, eq_self, h0, q1, q2, g2]
  · intro f s0 ⟨g0, g3, gt, gq, gp, gi⟩
    refine ⟨wi s0 t 0 (nI (nl + 1)), ?_, ?_, by rw [wi_u, upd_s], by rw [wi_u, upd_n (by omega)]; exact g3, fun j a b => by rw [wi_u, upd_n a]; exact gt j a b, fun q a b c d => by rw [wi_c a]; exact gq q a b c d, fun j hj => by rw [wi_c (by omega), wi_c (by omega), wi_c (by omega)]; exact gp j hj, fun i hi => by rw [wi_c (by omega), wi_c (by omega), wi_c (by omega)]; exact gi i hi⟩
    · unfold f_X5_addLetter_25
      simp (disch := omega) only [ln_, leT, nI_clamp, nI_add, ar_t, ar_f, it_t, it_f, true_and, and_true, not_true_eq_false, not_false_eq_true, implies_true, and_self, eq_self, g0]
    · unfold p_X5_addLetter_25
      simp (disch := omega) only [ln_, leT, vpT, ar_t, ar_f, it_t, it_f, true_and, and_true, not_true_eq_false, not_false_eq_true, implies_true, and_self, eq_self, g0]
  · intro f i s0 hi ⟨g0, g3, gt, gq, gp, gi⟩ ih
    have hl := hw.2.1
    have hs := signAt_n (fu := fu) (L := w) (i := i) (in26 hw.2.2) hl (by omega)
    have e10 : (nI 10 * nI y) + ((nI x + nI i) - (nI x + nI i) / nI 10 * nI 10) = nI (10 * y + (x + i) % 10) := by
      simp (disch := omega) only [nI_add, pk_div, pk_mul, pk_sub, md10]
    unfold f_X5_addLetter_25 p_X5_addLetter_25
    simp (disch := omega) only [ln_, leF, ltF, vpT, nI_clamp, nI_add, ar_t, ar_f, it_t, it_f, true_and, and_true, not_true_eq_false, not_false_eq_true, implies_true, and_self, eq_self, wi_c, wi_u, upd_s, upd_n, su_r, su_c, g0, g3, hs, p_signAtT]
    simp (disch := omega) only [pk_div, pk_mul, pk_sub, md10, nI_add]
    refine ih _ ⟨?_, ?_, fun j a b => ?_, fun q a b c d => ?_, fun j hj => ?_, fun i' hi' => ?_⟩
    · simp (disch := omega) only [wi_c, wi_u, upd_s, upd_n, su_r, su_c]; exact g0
    · simp (disch := omega) only [wi_c, wi_u, upd_s, upd_n, su_r, su_c]; rfl
    · simp (disch := omega) only [wi_c, wi_u, upd_s, upd_n, su_r, su_c]; exact gt j a b
    · simp (disch := omega) only [wi_c, wi_u, upd_s, upd_n, su_r, su_c]; exact gq q a b c d
    · simp (disch := omega) only [wi_c, wi_u, upd_s, upd_n, su_r, su_c]; exact gp j hj
    · by_cases ei : i' = i
      · subst ei
        simp (disch := omega) only [wi_c, wi_u, upd_s, upd_n, su_r, su_c, ar_t, ar_f, it_t, it_f, true_and, and_true, not_true_eq_false, not_false_eq_true, implies_true, and_self, eq_self]
      · have ne : P0 + i' ≠ P0 + i := by omega
        simp (disch := omega) only [wi_c, wi_u, upd_s, upd_n, su_r, su_c]; exact gi i' (by omega)
theorem r_lettT (hfu : 20000 ≤ fu) (hsd : sd ≤ 1) (h : rJt B n sd k M br lf lj s l) (hk : hL sd L s l) (tk : tL lf L) (h4 : L.1 < 4) (hT : tK B n k = 256) :
    ∃ s' l' lfa lja lfb ljb lfc ljc, f_X12_tellOne fu s l = (s', l') ∧ p_X12_tellOne fu s l ∧ rGF sd s l s' l' ∧ ((stq (tK B n) 59 (stq (tK B n) 3 (stq (tK B n) 3 (stq (tK B n) 2 (tkE (tK B n) 256 k))))).1 ≠ 0 → rBd B n (stq (tK B n) 59 (stq (tK B n) 3 (stq (tK B n) 3 (stq (tK B n) 2 (tkE (tK B n) 256 k))))).1 (stq (tK B n) 59 (stq (tK B n) 3 (stq (tK B n) 3 (stq (tK B n) 2 (tkE (tK B n) 256 k))))).2 s') ∧ ((stq (tK B n) 59 (stq (tK B n) 3 (stq (tK B n) 3 (stq (tK B n) 2 (tkE (tK B n) 256 k))))).1 = 0 → rJt B n sd (k + 5) M br lfc ljc s' l' ∧ nt lf lj 3 (k + 1) (∃ i, i < L.1 ∧ L.2.1 i = tW B n (k + 1)) lfa lja ∧ nt lfa lja 5 (k + 2) (tV B n (k + 2) < 0 ∨ 9 < tV B n (k + 2)) lfb ljb ∧ nt lfb ljb 5 (k + 3) (tV B n (k + 3) < 0 ∨ 7 < tV B n (k + 3)) lfc ljc ∧ hL sd (L.1 + 1, up1 L.2.1 L.1 (tW B n (k + 1)), up1 L.2.2.1 L.1 (tV B n (k + 2)), up1 L.2.2.2 L.1 (tV B n (k + 3))) s' l' ∧ (∀ q, q ≠ 60 → q ≠ 68 → q ≠ 70 → q ≠ 71 → s' q = s q) ∧ ∀ q, q ≠ 69 → l' q = l q) := by
  obtain ⟨h63, h11, hk4, h13, h19⟩ := rJ63 h
  have hr : rk (tK B n k) = 20 := by rw [hT]; rfl
  rw [hr] at h63
  have h68 := hk.1
  obtain ⟨s1, g1, g2, g3, g4⟩ := r_room1 (fu := fu) (x := nI L.1) (c := 4) h rfl h4 (by omega) hT (by omega)
  have T0 : f_X12_tellOne fu s l = f_X12_tellOne_74 fu s1 l := by
    unfold f_X12_tellOne
    simp (disch := omega) only [ln_, eqF, nI_clamp, ar_t, ar_f, it_t, it_f, true_and, and_true, not_true_eq_false, not_false_eq_true, implies_true, and_self, eq_self, h63, h11, h19, h68, g1]
  have P0 : p_X12_tellOne_74 fu s1 l → p_X12_tellOne fu s l := by
    intro g
    unfold p_X12_tellOne
    simp (disch := omega) only [ln_, eqF, nI_clamp, vpT, ar_t, ar_f, it_t, it_f, true_and, and_true, not_true_eq_false, not_false_eq_true, implies_true, and_self, eq_self, h63, h11, h19, h68, g1, g2]
    exact g
  rw [T0]
  obtain ⟨k13, k13'⟩ := rSt_13 g4
  have k19 := rSt_19 g4
  have k68 : s1 68 sd = nI L.1 := by rw [g3.1 68 (by omega)]; exact h68
  by_cases e0 : (tkE (tK B n) 256 k).1 = 0
  · rw [e0] at k13
    obtain ⟨v, s2, lfa, lja, m1, m2, m3, m4, m5⟩ := sN (fu := fu) (fm := 4 * sd) (cn := L.1) (q := 69) (z := 8) (wn := L.2.1) hfu g4 (by omega) (by omega) (fun i hi => ⟨(hk.2 i hi).1, (tk.2.1 i hi).1⟩)
    have m4' := rSt_l (q := 69) (j := 4 * sd + L.1) (v := v) (by omega) m4
    obtain ⟨va, s3, lfb, ljb, n1, n2, n3, n4, n5⟩ := sI (fu := fu) (lo := 0) (hi := 9) m4' (by omega) (by omega)
    have n4' := rSt_w (q := 70) (j := 4 * sd + L.1) (x := va) (by omega) (by omega) (by omega) (by omega) n4
    obtain ⟨vb, s4, lfc, ljc, o1, o2, o3, o4, o5⟩ := sI (fu := fu) (lo := 0) (hi := 7) n4' (by omega) (by omega)
    have o4' := rSt_w (q := 71) (j := 4 * sd + L.1) (x := vb) (by omega) (by omega) (by omega) (by omega) o4
    obtain ⟨s6, u1, u2, u3, u4⟩ := sM (fu := fu) (b := 4) (c := 59) o4' (by omega) (fun hr k => rk59 hr k) (by omega)
    obtain ⟨j13, j13'⟩ := rSt_13 u4
    have j19 := rSt_19 u4
    have e4 : nI 4 * nI sd = nI (4 * sd) := by rw [pk_mul]
    have f74 : ∀ q, q ≠ 60 → q ≠ 70 → q ≠ 71 → s6 q = s q := fun q a b c => by rw [u3.1 q a, wi_c c, o3.1 q a, wi_c b, n3.1 q a, m3.1 q a, g3.1 q a]
    have j68 : s6 68 sd = nI L.1 := by rw [f74 68 (by omega) (by omega) (by omega)]; exact h68
    have T1 : f_X12_tellOne_74 fu s1 l = f_X12_tellLetter_77 fu s6 (wl l 69 (4 * sd + L.1) v) := by
      unfold f_X12_tellOne_74 f_X12_tellOne_85 f_X12_tellOne_349 f_X12_tellLetter f_X12_tellLetter_45 f_X12_tellLetter_58 f_X12_tellLetter_71
      simp (disch := omega) only [ln_, nI_clamp, ar_t, ar_f, it_t, it_f, true_and, and_true, not_true_eq_false, not_false_eq_true, implies_true, and_self, eq_self, k13, k19, k68, e4, nI_add, m1, n1, o1, u1]
    have P1 : p_X12_tellLetter_77 fu s6 (wl l 69 (4 * sd + L.1) v) → p_X12_tellOne fu s l := by
      intro g
      refine P0 ?_
      unfold p_X12_tellOne_74 p_X12_tellOne_85 p_X12_tellOne_349 p_X12_tellLetter p_X12_tellLetter_45 p_X12_tellLetter_58 p_X12_tellLetter_71
      simp (disch := omega) only [ln_, nI_clamp, vpT, ar_t, ar_f, it_t, it_f, true_and, and_true, not_true_eq_false, not_false_eq_true, implies_true, and_self, eq_self, k13, k19, k68, e4, nI_add, m1, m2, n1, n2, o1, o2, u1, u2]
      exact g
    have in4 : ∀ q, sw q = 4 → sw q * sd ≤ 4 * sd + L.1 ∧ 4 * sd + L.1 < sw q * sd + sw q := fun q e => by rw [e]; omega
    have gf : rGF sd s l s6 (wl l 69 (4 * sd + L.1) v) := rGF_tr (rGF_N g3) (rGF_tr (rGF_N m3) (rGF_tr (rGF_wl (by show 4 * sd ≤ _; omega) (by show _ < 4 * sd + 4; omega)) (rGF_tr (rGF_N n3) (rGF_tr (rGF_w (by omega) (in4 70 rfl).1 (in4 70 rfl).2) (rGF_tr (rGF_N o3) (rGF_tr (rGF_w (by omega) (in4 71 rfl).1 (in4 71 rfl).2) (rGF_N u3)))))))
    rw [T1]
    by_cases e1 : (stq (tK B n) 59 (stq (tK B n) 3 (stq (tK B n) 3 (stq (tK B n) 2 (tkE (tK B n) 256 k))))).1 = 0
    · rw [e1] at j13
      obtain ⟨a5, _, _, b5⟩ := stq_e e1
      obtain ⟨a4, _, _, b4⟩ := stq_e a5
      obtain ⟨a3, _, _, b3⟩ := stq_e a4
      obtain ⟨a2, _, _, b2⟩ := stq_e a3
      have b1 := tkE_st a2
      rw [b1] at b2 m5
      rw [b1, b2] at b3 n5
      rw [b1, b2, b3] at b4 o5
      rw [b1, b2, b3, b4] at b5
      have nJ := u4.1 e1
      rw [b1, b2, b3, b4, b5] at nJ
      obtain ⟨x1, x2⟩ := m5 (by rw [b2])
      obtain ⟨x3, x4⟩ := n5 (by rw [b3])
      obtain ⟨x5, x6⟩ := o5 (by rw [b4])
      have rw1 : rSt B n sd M br (0, k + 5) lfc ljc (wi s6 68 sd (nI (L.1 + 1))) (wl l 69 (4 * sd + L.1) v) := rSt_w (by omega) (by omega) (by omega) (by omega) ⟨fun _ => nJ, fun h => absurd rfl h⟩
      refine ⟨wi s6 68 sd (nI (L.1 + 1)), wl l 69 (4 * sd + L.1) v, lfa, lja, lfb, ljb, lfc, ljc, ?_, P1 ?_, rGF_tr gf (rGF_w (by omega) (by show 1 * sd ≤ sd; omega) (by show sd < 1 * sd + 1; omega)), fun h => absurd e1 h, fun _ => ⟨rw1.1 rfl, x2, x4, x6, ⟨by rw [wi_u, upd_s], fun i hi => ?_⟩, fun q a b c d => by rw [wi_c b, f74 q a c d], fun q hq => wl_o hq⟩⟩
      · unfold f_X12_tellLetter_77 f_X12_tellLetter_97
        simp (disch := omega) only [ln_, nI_clamp, nI_add, ar_t, ar_f, it_t, it_f, true_and, and_true, not_true_eq_false, not_false_eq_true, implies_true, and_self, eq_self, j13, j19, j68]
      · unfold p_X12_tellLetter_77 p_X12_tellLetter_97
        simp (disch := omega) only [ln_, nI_clamp, vpT, ar_t, ar_f, it_t, it_f, true_and, and_true, not_true_eq_false, not_false_eq_true, implies_true, and_self, eq_self, j13, j19, j68]
      · have hi : i < L.1 + 1 := hi
        show wl l 69 (4 * sd + L.1) v 69 (4 * sd + i) = lN (p27 (up1 L.2.1 L.1 (tW B n (k + 1)) i).reverse) ∧ wi s6 68 sd (nI (L.1 + 1)) 70 (4 * sd + i) = nI (up1 L.2.2.1 L.1 (tV B n (k + 2)) i) ∧ wi s6 68 sd (nI (L.1 + 1)) 71 (4 * sd + i) = nI (up1 L.2.2.2 L.1 (tV B n (k + 3)) i)
        have z6 : wi s6 68 sd (nI (L.1 + 1)) 70 = wi s3 70 (4 * sd + L.1) va 70 := by rw [wi_c (by omega), u3.1 70 (by omega), wi_c (by omega), o3.1 70 (by omega)]
        have z7 : wi s6 68 sd (nI (L.1 + 1)) 71 = wi s4 71 (4 * sd + L.1) vb 71 := by rw [wi_c (by omega), u3.1 71 (by omega)]
        rw [z6, z7, wi_u, wi_u]
        by_cases ei : i = L.1
        · rw [ei, wl_e, up1_s, up1_s, up1_s, upd_s, upd_s, x1, x3, x5]; exact ⟨rfl, rfl, rfl⟩
        · rw [wl_x (by omega), up1_n ei, up1_n ei, up1_n ei, upd_n (by omega), upd_n (by omega), n3.1 70 (by omega), m3.1 70 (by omega), g3.1 70 (by omega), o3.1 71 (by omega), wi_c (by omega), n3.1 71 (by omega), m3.1 71 (by omega), g3.1 71 (by omega)]
          exact hk.2 i (by omega)
    · have rb := (u4.2 e1).1
      refine ⟨s6, _, lf, lj, lf, lj, lf, lj, ?_, P1 ?_, gf, fun _ => rb, fun h => absurd h e1⟩
      · unfold f_X12_tellLetter_77 f_X12_tellLetter_97
        simp (disch := omega) only [ln_, eqF, ar_t, ar_f, it_t, it_f, true_and, and_true, not_true_eq_false, not_false_eq_true, implies_true, and_self, eq_self, j13]
      · unfold p_X12_tellLetter_77 p_X12_tellLetter_97
        simp (disch := omega) only [ln_, eqF, ar_t, ar_f, it_t, it_f, true_and, and_true, not_true_eq_false, not_false_eq_true, implies_true, and_self, eq_self, j13]
  · have rb := (g4.2 e0).1
    have es : stq (tK B n) 59 (stq (tK B n) 3 (stq (tK B n) 3 (stq (tK B n) 2 (tkE (tK B n) 256 k)))) = tkE (tK B n) 256 k := by rw [stq_n (st := tkE (tK B n) 256 k) e0, stq_n e0, stq_n e0, stq_n e0]
    rw [es]
    refine ⟨s1, l, lf, lj, lf, lj, lf, lj, ?_, P0 ?_, rGF_N g3, fun _ => rb, fun h => absurd h e0⟩
    · unfold f_X12_tellOne_74 f_X12_tellOne_349
      simp (disch := omega) only [ln_, eqF, ar_t, ar_f, it_t, it_f, true_and, and_true, not_true_eq_false, not_false_eq_true, implies_true, and_self, eq_self, k13]
    · unfold p_X12_tellOne_74 p_X12_tellOne_349
      simp (disch := omega) only [ln_, eqF, ar_t, ar_f, it_t, it_f, true_and, and_true, not_true_eq_false, not_false_eq_true, implies_true, and_self, eq_self, k13]
theorem off_cg {ln ln' : Nat → List Nat} (h : ∀ i, i < j → ln' i = ln i) : off ln' j = off ln j := by
  induction j with
  | zero => rfl
  | succ j ih => show off ln' j + _ = off ln j + _; rw [ih (fun i hi => h i (by omega)), h j (by omega)]
theorem off_le (h : ∀ i, i < j → okW (L.2.1 i)) : off L.2.1 j ≤ 8 * j := by
  induction j with
  | zero => exact Nat.le_refl _
  | succ j ih =>
    have := ih (fun i hi => h i (by omega))
    have := (h j (by omega)).2.1
    show off L.2.1 j + _ ≤ _
    omega
theorem off_mono {ln : Nat → List Nat} (h : i < j) : off ln i + (ln i).length ≤ off ln j := by
  induction j with
  | zero => omega
  | succ j ih =>
    show _ ≤ off ln j + _
    by_cases e : i = j
    · subst e; exact Nat.le_refl _
    · have := ih (by omega); omega
end tel6
