/-! Words, told to both -/
def up1 {α : Type} (f : Nat → α) (k : Nat) (v : α) : Nat → α := fun j => if j = k then v else f j
section tel1
variable {B : Nat → Nat} {a b c e i j k m n p q t z f lf lj lf' lj' sd M br : Nat} {s s1 s2 sC sR : fl_I} {l l1 l2 lC lR : fl_L} {fu : Nat} {x : Int32} {v : Int64} {L : Lt} {W : Wt} {K : Kt} {N : Nt} {Q : Qt}
theorem up1_s {α : Type} {f : Nat → α} {k : Nat} {v : α} : up1 f k v k = v := if_pos rfl
theorem up1_n {α : Type} {f : Nat → α} {k j : Nat} {v : α} (h : j ≠ k) : up1 f k v j = f j := if_neg h
theorem rJ63 (h : rJt B n sd k M br lf lj s l) : s 63 k = nI (rk (tK B n k)) ∧ s 60 11 = nI k ∧ k ≤ 400 ∧ s 60 13 = nI 0 ∧ s 60 19 = nI sd := ⟨(h.1.1.1.2 k h.1.1.2.1).1, h.1.1.2.2.1, h.1.1.2.1.1, h.1.1.2.2.2, h.1.2.2.2.2⟩
theorem cAt_x (hl : l1 7 = l 7) (h5 : s1 5 = s 5) (h6 : s1 6 = s 6) (h3 : s1 3 = s 3) (h14 : s1 t 14 = s t 14) (h : cJ B n t k m lf lj s l) : cJ B n t k m lf lj s1 l1 := by
  obtain ⟨⟨⟨g0, g1⟩, g2, g3, g4, g5⟩, g6, g7⟩ := h
  refine ⟨⟨⟨g0, fun k hk => ?_⟩, g2, by rw [h3]; exact g3, by rw [h3]; exact g4, by rw [h14]; exact g5⟩, ?_, g7⟩
  · have := g1 k hk
    unfold CF at this ⊢
    rw [h5, h6, hl]; exact this
  · unfold cLF at *; rw [h3]; exact g6
/-- room for one more: none -/
theorem r_room0 (h : rJt B n sd k M br lf lj s l) (hx : x = nI c) : ∃ s', f_X12_roomFor fu x (nI c) s l = (s', l) ∧ p_X12_roomFor fu x (nI c) s l ∧ rN s s' ∧ rBd B n 2 k s' := by
  obtain ⟨s', g1, g2, g3, g4⟩ := r_failP (fu := fu) (e := 2) h.1.1 (.inr rfl)
  obtain ⟨k13, _, _⟩ := rBd_13 g3
  subst hx
  refine ⟨s', ?_, ?_, rN_P g4, g3⟩
  · unfold f_X12_roomFor
    simp (disch := omega) only [ln_, eqF, ar_t, ar_f, it_t, it_f, true_and, and_true, not_true_eq_false, not_false_eq_true, implies_true, and_self, eq_self, g1, k13]
  · unfold p_X12_roomFor
    simp (disch := omega) only [ln_, eqF, ar_t, ar_f, it_t, it_f, true_and, and_true, not_true_eq_false, not_false_eq_true, implies_true, and_self, eq_self, g1, g2, k13]
theorem r_room1 (h : rJt B n sd k M br lf lj s l) (hx : x = nI b) (hb : b < c) (hc : c < 100) (hT : tK B n k = e) (he : 2 ≤ e) : ∃ s', f_X12_roomFor fu x (nI c) s l = (s', l) ∧ p_X12_roomFor fu x (nI c) s l ∧ rN s s' ∧ rSt B n sd M br (tkE (tK B n) e k) lf lj s' l := by
  obtain ⟨s', g1, g2, g3, g4⟩ := sGo (fu := fu) h hT he
  have h13 := h.1.1.2.2.2
  subst hx
  refine ⟨s', ?_, ?_, g3, g4⟩
  · unfold f_X12_roomFor
    simp (disch := omega) only [ln_, eqF, ar_t, ar_f, it_t, it_f, true_and, and_true, not_true_eq_false, not_false_eq_true, implies_true, and_self, eq_self, g1, h13]
  · unfold p_X12_roomFor
    simp (disch := omega) only [ln_, eqF, ar_t, ar_f, it_t, it_f, true_and, and_true, not_true_eq_false, not_false_eq_true, implies_true, and_self, eq_self, g1, g2, h13]
theorem rk59 (h : rTk B n s l) (k : Nat) : rk (tK B n k) = 4 ↔ tK B n k = 59 := (rkF h k).2.2.2.2.2.2.2.2.1
theorem r_wordT (hfu : 20000 ≤ fu) (hsd : sd ≤ 1) (h : rJt B n sd k M br lf lj s l) (hw : hW sd W s l) (tw : tWd W) (hW8 : W.1 < 8) (hT : tK B n k = 257) :
    ∃ s' l' lf' lj', f_X12_tellOne fu s l = (s', l') ∧ p_X12_tellOne fu s l ∧ rGF sd s l s' l' ∧ ((stq (tK B n) 59 (stq (tK B n) 2 (tkE (tK B n) 257 k))).1 ≠ 0 → rBd B n (stq (tK B n) 59 (stq (tK B n) 2 (tkE (tK B n) 257 k))).1 (stq (tK B n) 59 (stq (tK B n) 2 (tkE (tK B n) 257 k))).2 s') ∧ ((stq (tK B n) 59 (stq (tK B n) 2 (tkE (tK B n) 257 k))).1 = 0 → rJt B n sd (k + 3) M br lf' lj' s' l' ∧ nt lf lj 3 (k + 1) (∃ i, i < W.1 ∧ W.2 i = tW B n (k + 1)) lf' lj' ∧ hW sd (W.1 + 1, up1 W.2 W.1 (tW B n (k + 1))) s' l' ∧ (∀ q, q ≠ 60 → q ≠ 72 → s' q = s q) ∧ ∀ q, q ≠ 73 → l' q = l q) := by
  obtain ⟨h63, h11, hk4, h13, h19⟩ := rJ63 h
  have hr : rk (tK B n k) = 21 := by rw [hT]; rfl
  rw [hr] at h63
  have h72 := hw.1
  obtain ⟨s1, g1, g2, g3, g4⟩ := r_room1 (fu := fu) (x := nI W.1) (c := 8) h rfl hW8 (by omega) hT (by omega)
  have T0 : f_X12_tellOne fu s l = f_X12_tellOne_103 fu s1 l := by
    unfold f_X12_tellOne
    simp (disch := omega) only [ln_, eqF, nI_clamp, ar_t, ar_f, it_t, it_f, true_and, and_true, not_true_eq_false, not_false_eq_true, implies_true, and_self, eq_self, h63, h11, h19, h72, g1]
  have P0 : p_X12_tellOne_103 fu s1 l → p_X12_tellOne fu s l := by
    intro g
    unfold p_X12_tellOne
    simp (disch := omega) only [ln_, eqF, nI_clamp, vpT, ar_t, ar_f, it_t, it_f, true_and, and_true, not_true_eq_false, not_false_eq_true, implies_true, and_self, eq_self, h63, h11, h19, h72, g1, g2]
    exact g
  rw [T0]
  obtain ⟨k13, k13'⟩ := rSt_13 g4
  have k19 := rSt_19 g4
  have k72 : s1 72 sd = nI W.1 := by rw [g3.1 72 (by omega)]; exact h72
  by_cases e0 : (tkE (tK B n) 257 k).1 = 0
  · rw [e0] at k13
    obtain ⟨v, s2, lf2, lj2, m1, m2, m3, m4, m5⟩ := sN (fu := fu) (fm := 8 * sd) (cn := W.1) (q := 73) (z := 16) (wn := W.2) hfu g4 (by omega) (by omega) (fun i hi => ⟨hw.2 i hi, tw.2 i hi⟩)
    obtain ⟨s3, n1, n2, n3, n4⟩ := sM (fu := fu) (b := 4) (c := 59) (rSt_l (q := 73) (j := 8 * sd + W.1) (v := v) (by omega) m4) (by omega) (fun hr k => rk59 hr k) (by omega)
    obtain ⟨j13, j13'⟩ := rSt_13 n4
    have j19 := rSt_19 n4
    have e8 : nI 8 * nI sd = nI (8 * sd) := by rw [pk_mul]
    have j72 : s3 72 sd = nI W.1 := by rw [n3.1 72 (by omega), m3.1 72 (by omega)]; exact k72
    have T1 : f_X12_tellOne_103 fu s1 l = f_X12_tellOne_162 fu s3 (wl l 73 (8 * sd + W.1) v) := by
      unfold f_X12_tellOne_103 f_X12_tellOne_156
      simp (disch := omega) only [ln_, leT, nI_clamp, ar_t, ar_f, it_t, it_f, true_and, and_true, not_true_eq_false, not_false_eq_true, implies_true, and_self, eq_self, k13, k19, k72, e8, nI_add, m1, n1]
    have P1 : p_X12_tellOne_162 fu s3 (wl l 73 (8 * sd + W.1) v) → p_X12_tellOne fu s l := by
      intro g
      refine P0 ?_
      unfold p_X12_tellOne_103 p_X12_tellOne_156
      simp (disch := omega) only [ln_, leT, nI_clamp, vpT, ar_t, ar_f, it_t, it_f, true_and, and_true, not_true_eq_false, not_false_eq_true, implies_true, and_self, eq_self, k13, k19, k72, e8, nI_add, m1, m2, n1, n2]
      exact g
    have gf : rGF sd s l s3 (wl l 73 (8 * sd + W.1) v) := rGF_tr (rGF_N g3) (rGF_tr (rGF_N m3) (rGF_tr (rGF_wl (by show 8 * sd ≤ _; omega) (by show _ < 8 * sd + 8; omega)) (rGF_N n3)))
    rw [T1]
    by_cases e1 : (stq (tK B n) 59 (stq (tK B n) 2 (tkE (tK B n) 257 k))).1 = 0
    · rw [e1] at j13
      obtain ⟨a0, a1, a2, a3⟩ := stq_e e1
      obtain ⟨b0, b1, b2, b3⟩ := stq_e a0
      have c0 : tkE (tK B n) 257 k = (0, k + 1) := by
        have e2 : tkE (tK B n) 257 k = (0, (tkE (tK B n) 257 k).2) := Prod.ext e0 rfl
        rw [e2, (tkE_0 e2).2.2]
      rw [c0] at m5 b3
      rw [c0, b3] at a3
      obtain ⟨v1, v2⟩ := m5 (by rw [b3])
      have nJ := n4.1 e1
      rw [c0, b3, a3] at nJ
      have rw1 : rSt B n sd M br (0, k + 1 + 1 + 1) lf2 lj2 (wi s3 72 sd (nI (W.1 + 1))) (wl l 73 (8 * sd + W.1) v) := rSt_w (by omega) (by omega) (by omega) (by omega) ⟨fun _ => nJ, fun h => absurd rfl h⟩
      refine ⟨wi s3 72 sd (nI (W.1 + 1)), wl l 73 (8 * sd + W.1) v, lf2, lj2, ?_, P1 ?_, rGF_tr gf (rGF_w (by omega) (by show 1 * sd ≤ sd; omega) (by show sd < 1 * sd + 1; omega)), fun h => absurd e1 h, fun _ => ⟨rw1.1 rfl, v2, ⟨by rw [wi_u, upd_s], fun i hi => ?_⟩, fun q a b => by rw [wi_c b, n3.1 q a, m3.1 q a, g3.1 q a], fun q hq => wl_o hq⟩⟩
      · unfold f_X12_tellOne_162 f_X12_tellOne_349
        simp (disch := omega) only [ln_, nI_clamp, nI_add, ar_t, ar_f, it_t, it_f, true_and, and_true, not_true_eq_false, not_false_eq_true, implies_true, and_self, eq_self, j13, j19, j72]
      · unfold p_X12_tellOne_162 p_X12_tellOne_349
        simp (disch := omega) only [ln_, nI_clamp, vpT, ar_t, ar_f, it_t, it_f, true_and, and_true, not_true_eq_false, not_false_eq_true, implies_true, and_self, eq_self, j13, j19, j72]
      · show wl l 73 (8 * sd + W.1) v 73 (8 * sd + i) = lN (p27 (up1 W.2 W.1 (tW B n (k + 1)) i).reverse)
        by_cases ei : i = W.1
        · rw [ei, wl_e, up1_s, v1]
        · rw [wl_x (by omega), up1_n ei]
          have hi : i < W.1 + 1 := hi
          exact hw.2 i (by omega)
    · have rb := (n4.2 e1).1
      refine ⟨s3, _, lf, lj, ?_, P1 ?_, gf, fun _ => rb, fun h => absurd h e1⟩
      · unfold f_X12_tellOne_162 f_X12_tellOne_349
        simp (disch := omega) only [ln_, eqF, ar_t, ar_f, it_t, it_f, true_and, and_true, not_true_eq_false, not_false_eq_true, implies_true, and_self, eq_self, j13]
      · unfold p_X12_tellOne_162 p_X12_tellOne_349
        simp (disch := omega) only [ln_, eqF, ar_t, ar_f, it_t, it_f, true_and, and_true, not_true_eq_false, not_false_eq_true, implies_true, and_self, eq_self, j13]
  · have rb := (g4.2 e0).1
    have es : stq (tK B n) 59 (stq (tK B n) 2 (tkE (tK B n) 257 k)) = tkE (tK B n) 257 k := by rw [stq_n (st := tkE (tK B n) 257 k) e0, stq_n e0]
    rw [es]
    refine ⟨s1, l, lf, lj, ?_, P0 ?_, rGF_N g3, fun _ => rb, fun h => absurd h e0⟩
    · unfold f_X12_tellOne_103
      simp (disch := omega) only [ln_, leF, ar_t, ar_f, it_t, it_f, true_and, and_true, not_true_eq_false, not_false_eq_true, implies_true, and_self, eq_self, k13]
    · unfold p_X12_tellOne_103
      simp (disch := omega) only [ln_, leF, ar_t, ar_f, it_t, it_f, true_and, and_true, not_true_eq_false, not_false_eq_true, implies_true, and_self, eq_self, k13]
theorem tl_word (hfu : 20000 ≤ fu) (ht : t = 9 ∨ t = 20) (hsd : sd ≤ 1) (c : CJ B n t k m lf lj L W K N Q sC lC) (r : RJ B n sd k M br lf lj L W K N Q sR lR) (T : TJ lf L W K N Q) (hT : tK B n k = 257) : Out B n t sd k sR lR (f_X3_wordTold fu t sC lC) (p_X3_wordTold fu t sC lC) (f_X12_tellOne fu sR lR) (p_X12_tellOne fu sR lR) := by
  obtain ⟨c1, cm, cL, cW, cK, cN, cQ⟩ := c
  obtain ⟨r1, rL, rW, rK, rN', rQ', rM1, rM2, rb1, rb2⟩ := r
  obtain ⟨tl, tw, tk, tn, tq⟩ := T
  have w1 := cW.1
  have w8 := tw.1
  by_cases h8 : W.1 < 8
  · obtain ⟨sR', lR', lf2, lj2, x1, x2, x3, x4, x5⟩ := r_wordT (fu := fu) hfu hsd r1 rW tw h8 hT
    unfold f_X3_wordTold p_X3_wordTold
    obtain ⟨p1, ⟨T1, s1, f1, r1', g6, j1⟩ | ⟨e, a, s1, T1, f1, b1⟩⟩ := cT2 (fu := fu) (c := 257) ht c1 (by omega) (by omega)
    rotate_left
    · rw [T1, stq_n (st := (e, a)) b1.1, stq_n (st := (e, a)) b1.1] at x4
      exact outB (lC' := lC) (by simp (disch := omega) only [ln_, ltT, ar_t, ar_f, it_t, it_f, true_and, and_true, not_true_eq_false, not_false_eq_true, implies_true, and_self, eq_self, w1, f1, p1]) x2 (by simp (disch := omega) only [ln_, ltT, ar_t, ar_f, it_t, it_f, true_and, and_true, not_true_eq_false, not_false_eq_true, implies_true, and_self, eq_self, w1, f1]) x1 x3 b1.2.2.1 b1.2.2.2.1 (x4 b1.1)
    rw [T1] at x4 x5
    have k1 : s1 t 1 = nI W.1 := by rw [r1' t (by omega)]; exact w1
    obtain ⟨p2, ⟨s2, l2, lf1, lj1, T2, f2, r2, q2, v2, ok2, nt2, j2⟩ | ⟨e, a, s2, l2, T2, f2, b2⟩⟩ := cN2 (fu := fu) (q := t + 2) (cn := W.1) (z := 8) (wn := W.2) hfu ht j1 (by omega) (by omega) (by omega) (fun i hi => ⟨cW.2 i hi, tw.2 i hi⟩)
    rotate_left
    · rw [stq_z, T2, stq_n (st := (e, a)) b2.1] at x4
      exact outB (lC' := l2) (by simp (disch := omega) only [ln_, ltT, eqF, ar_t, ar_f, it_t, it_f, true_and, and_true, not_true_eq_false, not_false_eq_true, implies_true, and_self, eq_self, w1, f1, p1, k1, f2, p2]) x2 (by simp (disch := omega) only [ln_, ltT, eqF, ar_t, ar_f, it_t, it_f, true_and, and_true, not_true_eq_false, not_false_eq_true, implies_true, and_self, eq_self, w1, f1, k1, f2]) x1 x3 b2.2.2.1 b2.2.2.2.1 (x4 b2.1)
    rw [stq_z, T2] at x4 x5
    obtain ⟨p3, ⟨T3, s3, f3, r3, g36, j3⟩ | ⟨e, a, s3, T3, f3, b3⟩⟩ := cT2 (fu := fu) (c := 59) ht j2 (by omega) (by omega)
    rotate_left
    · rw [stq_z, T3] at x4
      exact outB (lC' := l2) (by simp (disch := omega) only [ln_, ltT, eqF, ar_t, ar_f, it_t, it_f, true_and, and_true, not_true_eq_false, not_false_eq_true, implies_true, and_self, eq_self, w1, f1, p1, k1, f2, p2, f3, p3]) x2 (by simp (disch := omega) only [ln_, ltT, eqF, ar_t, ar_f, it_t, it_f, true_and, and_true, not_true_eq_false, not_false_eq_true, implies_true, and_self, eq_self, w1, f1, k1, f2, f3]) x1 x3 b3.2.2.1 b3.2.2.2.1 (x4 b3.1)
    rw [stq_z, T3] at x5
    obtain ⟨y1, y2, y3, y4, y5⟩ := x5 rfl
    obtain ⟨rfl, rfl⟩ := nt_u nt2 y2
    have fr : sF sC s3 := sF_tr r1' (sF_tr r2 r3)
    have k3 : s3 t 1 = nI W.1 := by rw [fr t (by omega)]; exact w1
    have A1 : f_X5_addWord fu (l2 3 7) t s3 l2 = (wi s3 t 1 (nI (W.1 + 1)), wl l2 (t + 2) W.1 (l2 3 7)) := by
      unfold f_X5_addWord
      simp (disch := omega) only [ln_, ltF, leF, nI_clamp, nI_add, ar_t, ar_f, it_t, it_f, true_and, and_true, not_true_eq_false, not_false_eq_true, implies_true, and_self, eq_self, k3]
    have A2 : p_X5_addWord fu (l2 3 7) t s3 l2 := by
      unfold p_X5_addWord
      simp (disch := omega) only [ln_, ltF, leF, vpT, ar_t, ar_f, it_t, it_f, true_and, and_true, not_true_eq_false, not_false_eq_true, implies_true, and_self, eq_self, k3]
    have fs : ∀ q, q ≠ 3 → q ≠ t → wi s3 t 1 (nI (W.1 + 1)) q = sC q := fun q a b => by rw [wi_c b, fr q a]
    have ft : ∀ j, j ≠ 1 → wi s3 t 1 (nI (W.1 + 1)) t j = sC t j := fun j hj => by rw [wi_u, upd_n hj, fr t (by omega)]
    have fl : ∀ q, q ≠ 3 → q ≠ t + 2 → wl l2 (t + 2) W.1 (l2 3 7) q = lC q := fun q a b => by rw [wl_o b, q2 q a]
    refine outG (a := k + 1 + 1 + 1) (m := m) (L := L) (K := K) (N := N) (Q := Q) (by simp (disch := omega) only [ln_, ltT, eqF, ar_t, ar_f, it_t, it_f, true_and, and_true, not_true_eq_false, not_false_eq_true, implies_true, and_self, eq_self, w1, f1, p1, k1, f2, p2, f3, p3, A2]) x2 (by simp (disch := omega) only [ln_, ltT, eqF, ar_t, ar_f, it_t, it_f, true_and, and_true, not_true_eq_false, not_false_eq_true, implies_true, and_self, eq_self, w1, f1, k1, f2, f3, A1]) x1 x3 (by omega) ⟨cAt_x (wl_o (by omega)) (wi_c (by omega)) (wi_c (by omega)) (wi_c (by omega)) (by rw [wi_u, upd_n (by omega)]) j3, by omega, gL_k (ft 0 (by omega)) (ft 3 (by omega)) (fs (t + 4) (by omega) (by omega)) (fs (t + 5) (by omega) (by omega)) (fs (t + 6) (by omega) (by omega)) (fl (t + 1) (by omega) (by omega)) cL, ⟨by rw [wi_u, upd_s], fun i hi => ?_⟩, gK_k (ft 2 (by omega)) (fs (t + 7) (by omega) (by omega)) (fs (t + 8) (by omega) (by omega)) (fl (t + 3) (by omega) (by omega)) cK, gN_k (ft 15 (by omega)) (ft 16 (by omega)) (ft 17 (by omega)) (ft 18 (by omega)) cN, gQ_k (fun j _ => by rw [fs (t + 9) (by omega) (by omega)]) (fs (t + 10) (by omega) (by omega)) (Nat.le_refl m) cQ⟩ ⟨y1, hL_k (y4 68 (by omega) (by omega)) (y4 70 (by omega) (by omega)) (y4 71 (by omega) (by omega)) (y5 69 (by omega)) rL, y3, hK_k (y4 74 (by omega) (by omega)) (y4 76 (by omega) (by omega)) (y4 77 (by omega) (by omega)) (y4 78 (by omega) (by omega)) (y5 75 (by omega)) rK, hN_k (y4 79 (by omega) (by omega)) (y4 80 (by omega) (by omega)) (y4 81 (by omega) (by omega)) rN', rLw_k (fun q a b => y4 q (by omega) (by omega)) rQ', rM1, by omega, rb1, by omega⟩ ⟨tL_l tl (fun h => (nt_0 nt2 (by omega) h).1), ⟨by show W.1 + 1 ≤ 8; omega, fun i hi => ?_⟩, tK_l tk (fun h => (nt_0 nt2 (by omega) h).1), tN_l tn (fun h => (nt_0 nt2 (by omega) h).1), tq⟩
    · show wl l2 (t + 2) W.1 (l2 3 7) (t + 2) i = lN (p5 (up1 W.2 W.1 (tW B n (k + 1)) i))
      by_cases ei : i = W.1
      · rw [ei, wl_e, up1_s, v2]
      · have hi : i < W.1 + 1 := hi
        rw [wl_x ei, up1_n ei, q2 (t + 2) (by omega)]
        exact cW.2 i (by omega)
    · show okW (up1 W.2 W.1 (tW B n (k + 1)) i)
      have hi : i < W.1 + 1 := hi
      by_cases ei : i = W.1
      · rw [ei, up1_s]; exact ok2
      · rw [up1_n ei]; exact tw.2 i (by omega)
  · have h8 : W.1 = 8 := by omega
    rw [h8] at w1
    obtain ⟨h63, h11, hk4, h13, h19⟩ := rJ63 r1
    have hr : rk (tK B n k) = 21 := by rw [hT]; rfl
    rw [hr] at h63
    have h72 := rW.1
    rw [h8] at h72
    obtain ⟨s1, g1, g2, g3, g4⟩ := r_room0 (fu := fu) (x := nI 8) (c := 8) r1 rfl
    obtain ⟨k13, _, _⟩ := rBd_13 g4
    obtain ⟨⟨u0, u1, u2, u3, _, u4⟩, up⟩ := c_stop (fu := fu) (e := 2) (C := []) ht c1.1 (.inr rfl)
    rw [if_neg (by omega)] at u2
    have u4 := u4 (by omega)
    refine outB (lC' := lC) ?_ ?_ ?_ ?_ (rGF_N g3) u4.1 u4.2 g4
    · unfold p_X3_wordTold
      simp (disch := omega) only [ln_, ltF, ar_t, ar_f, it_t, it_f, true_and, and_true, not_true_eq_false, not_false_eq_true, implies_true, and_self, eq_self, w1, u2, up, true_or]
    · unfold p_X12_tellOne p_X12_tellOne_103
      simp (disch := omega) only [ln_, eqF, leF, nI_clamp, vpT, ar_t, ar_f, it_t, it_f, true_and, and_true, not_true_eq_false, not_false_eq_true, implies_true, and_self, eq_self, h63, h11, h19, h72, g1, g2, k13]
    · unfold f_X3_wordTold
      simp (disch := omega) only [ln_, ltF, ar_t, ar_f, it_t, it_f, true_and, and_true, not_true_eq_false, not_false_eq_true, implies_true, and_self, eq_self, w1, u2]
    · unfold f_X12_tellOne f_X12_tellOne_103
      simp (disch := omega) only [ln_, eqF, leF, nI_clamp, ar_t, ar_f, it_t, it_f, true_and, and_true, not_true_eq_false, not_false_eq_true, implies_true, and_self, eq_self, h63, h11, h19, h72, g1, k13]
end tel1
