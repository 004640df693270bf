/-! The reference reads all of a law -/
section rlw4
variable {B : Nat → Nat} {a b c e i j k m n p q t f y fst sd M M' br br' : Nat} {s s1 s2 : fl_I} {l l1 : fl_L} {fu : Nat} {x x1 x2 x3 z : Int32} {C C1 C2 A Bb Dl : List Nat} {bs : Pg}
theorem r_la (hfu : 20000 ≤ fu) (hsd : sd ≤ 1) (hy : y < 3) (hD : laD (tK B n) (tV B n) k e a bs Dl) (h : rQ B n sd k M br s l) (hM0 : 420 * sd ≤ M) (hM : M ≤ 420 * sd + k) (hb : br < 130 * sd + 130) :
    (e = 0 → ∃ s', f_X12_tellLaw_129 fu (nI y) (nI fst) s l = (s', l) ∧ p_X12_tellLaw_129 fu (nI y) (nI fst) s l ∧ rLok B n sd M br y fst a bs Dl s s' l) ∧
    (e ≠ 0 → ∃ s', f_X12_tellLaw_129 fu (nI y) (nI fst) s l = (s', l) ∧ p_X12_tellLaw_129 fu (nI y) (nI fst) s l ∧ rBd B n e a s' ∧ rFl sd br M s s') := by
  have Lb := Nat.le_refl br
  have LM := Nat.le_refl M
  have h36 := h.2.2.2.1
  have wA : rFl sd br M s (wi s 84 br (nI 0)) := rFl_w (by omega) (by omega) Lb hb
  have qA : rQ B n sd k M br (wi s 84 br (nI 0)) l := rQ_w wA (wi_c (by omega)) h
  have key : f_X12_tellLaw_129 fu (nI y) (nI fst) s l = f_X12_tellLaw_143 fu (nI y) (nI fst) (f_X12_term fu (wi s 84 br (nI 0)) l).1 (f_X12_term fu (wi s 84 br (nI 0)) l).2 := by
    unfold f_X12_tellLaw_129
    simp (disch := omega) only [ln_, nI_clamp, nar0, h36]
  have keyp : p_X12_term fu (wi s 84 br (nI 0)) l → p_X12_tellLaw_143 fu (nI y) (nI fst) (f_X12_term fu (wi s 84 br (nI 0)) l).1 (f_X12_term fu (wi s 84 br (nI 0)) l).2 → p_X12_tellLaw_129 fu (nI y) (nI fst) s l := by
    intro g1 g2
    unfold p_X12_tellLaw_129
    simp (disch := omega) only [ln_, nI_clamp, vpT, nar0, ar_t, ar_f, it_t, it_f, true_and, and_true, not_true_eq_false, not_false_eq_true, implies_true, and_self, eq_self, h36, g1]
    exact g2
  unfold f_X12_tellLaw_143 at key
  unfold p_X12_tellLaw_143 at keyp
  obtain ⟨hbs, hD⟩ := hD
  subst hbs
  rcases hD with ⟨e0, C0, hE1⟩ | ⟨k1, D', hE1, hD⟩
  · obtain ⟨sB, b1, b2, b3, b4, b5⟩ := (rTm (fu := fu) hfu hsd hE1 qA hM hb).2 e0
    obtain ⟨m1, m2⟩ := r_mustB (fu := fu) (x := nI 4) (l := l) b3
    obtain ⟨h13, e1, e2⟩ := rBd_13 b3
    rw [b1] at key keyp
    rw [show (4 : Int32) = nI 4 from rfl, m1] at key keyp
    refine ⟨fun h => absurd h e0, fun _ => ⟨sB, key.trans ?_, keyp b2 ⟨m2, ?_⟩, b3, rFl_tr wA Lb LM b5⟩⟩
    · unfold f_X12_tellLaw_148
      simp (disch := omega) only [ln_, leF, ar_t, ar_f, it_t, it_f, true_and, and_true, not_true_eq_false, not_false_eq_true, implies_true, and_self, eq_self, h13]
    · unfold p_X12_tellLaw_148
      simp (disch := omega) only [ln_, leF, ar_t, ar_f, it_t, it_f, true_and, and_true, not_true_eq_false, not_false_eq_true, implies_true, and_self, eq_self, h13]
  obtain ⟨sB, b1, b2, b3, b4, b5, b6, b7, b8, b9⟩ := (rTm (fu := fu) hfu hsd hE1 qA hM hb).1 rfl
  have rk4 : rk (tK B n k1) = 4 ↔ tK B n k1 = 59 := (rkF b3.1.1 k1).2.2.2.2.2.2.2.2.1
  have wB : rFl sd br M s sB := rFl_tr wA Lb LM b4
  rw [b1] at key keyp
  rcases hD with ⟨e0, hE2⟩ | ⟨k2, hE2, hD⟩
  · obtain ⟨sC, c1, c2, c3, c4, c5, c6⟩ := rM (fu := fu) b3 (by omega) rk4 (by omega) hE2
    rw [show (4 : Int32) = nI 4 from rfl, c1] at key keyp
    obtain ⟨h13, e1, e2⟩ := rBd_13 (c5 e0)
    refine ⟨fun h => absurd h e0, fun _ => ⟨sC, key.trans ?_, keyp b2 ⟨c2, ?_⟩, c5 e0, rFl_tr wB Lb LM (rFl_P c3)⟩⟩
    · unfold f_X12_tellLaw_148
      simp (disch := omega) only [ln_, leF, ar_t, ar_f, it_t, it_f, true_and, and_true, not_true_eq_false, not_false_eq_true, implies_true, and_self, eq_self, h13]
    · unfold p_X12_tellLaw_148
      simp (disch := omega) only [ln_, leF, ar_t, ar_f, it_t, it_f, true_and, and_true, not_true_eq_false, not_false_eq_true, implies_true, and_self, eq_self, h13]
  obtain ⟨sC, c1, c2, c3, c4, c5, c6⟩ := rM (fu := fu) b3 (by omega) rk4 (by omega) hE2
  rw [show (4 : Int32) = nI 4 from rfl, c1] at key keyp
  have c4 := c4 rfl
  obtain ⟨he0, rfl, rfl⟩ := hD
  obtain ⟨_, _, ek⟩ := tkE_0 hE2
  have c13 := c4.1.2.2.2
  have c19 := c4.2.2.2.2
  have c36 := c4.2.2.2.1
  have e82 : nI 3 * nI sd + nI y = nI (3 * sd + y) := by rw [pk_mul, nI_add]
  have wC : rFl sd br M s sC := rFl_tr wB Lb LM (rFl_P c3)
  have w82 : ∀ {b0 M0}, rFl sd b0 M0 sC (wi (wi sC 82 (3 * sd + y) (nI fst)) 83 (3 * sd + y) (nI (br + 1))) := by
    intro b0 M0
    refine ⟨fun q a b c => by rw [wi_c (by omega), wi_c (by omega)], fun q j hq hj => ?_, fun q j a b c => by rw [wi_c (by omega), wi_c (by omega)], fun q j a b c => by rw [wi_c (by omega), wi_c (by omega)], fun j _ _ _ _ _ _ _ => by rw [wi_c (by omega), wi_c (by omega)]⟩
    rcases hq with rfl | rfl
    · rw [wi_c (by omega), wi_u, upd_n (by omega)]
    · rw [wi_u, upd_n (by omega), wi_c (by omega)]
  refine ⟨fun _ => ⟨wi (wi sC 82 (3 * sd + y) (nI fst)) 83 (3 * sd + y) (nI (br + 1)), key.trans ?_, keyp b2 ⟨c2, ?_⟩, rFl_tr wC Lb LM w82, ⟨M + D'.length, by omega, by omega, rQ_w (w82 (b0 := 0) (M0 := 0)) (by rw [wi_c (by omega), wi_c (by omega)]) c4, ?_⟩, ?_, ?_, fun j hj => ?_⟩, fun h => absurd he0 h⟩
  · unfold f_X12_tellLaw_148
    simp (disch := omega) only [ln_, leT, nI_clamp, ar_t, ar_f, it_t, it_f, true_and, and_true, not_true_eq_false, not_false_eq_true, implies_true, and_self, eq_self, wi_c, wi_u, upd_s, upd_n, su_r, su_c, c13, c19, c36, e82]
  · unfold p_X12_tellLaw_148
    simp (disch := omega) only [ln_, leT, nI_clamp, vpT, ar_t, ar_f, it_t, it_f, true_and, and_true, not_true_eq_false, not_false_eq_true, implies_true, and_self, eq_self, wi_c, wi_u, upd_s, upd_n, su_r, su_c, c13, c19, c36, e82]
  · have t : ∀ q, 84 ≤ q → wi (wi sC 82 (3 * sd + y) (nI fst)) 83 (3 * sd + y) (nI (br + 1)) q = sC q := fun q hq => by rw [wi_c (by omega), wi_c (by omega)]
    refine ⟨?_, ⟨M, ?_, ?_, ?_, hM0, by omega⟩, rfl⟩
    · rw [t 84 (by omega), c3.1 84 (by omega), b9 84 (by omega) (by omega), wi_u, upd_s]
    · rw [t 87 (by omega), c3.1 87 (by omega)]; exact b7
    · rw [t 88 (by omega), c3.1 88 (by omega)]; exact b8
    · exact rds_l (w82 (b0 := br) (M0 := M + D'.length)) (rds_l (rFl_P (sd := sd) (br := br) (M := M + D'.length) c3) b5 (by omega)) (by omega)
  · rw [wi_c (by omega), wi_u, upd_s]
  · rw [wi_u, upd_s]; rfl
  · rw [wi_c (show (82 : Nat) ≠ 83 by omega), wi_u, wi_u, upd_n hj, upd_n hj, wi_c (show (83 : Nat) ≠ 82 by omega), c3.1 82 (by omega), c3.1 83 (by omega), b9 82 (by omega) (by omega), b9 83 (by omega) (by omega), wi_c (by omega), wi_c (by omega)]
    exact ⟨rfl, rfl⟩
theorem r_lw (hfu : 20000 ≤ fu) (hsd : sd ≤ 1) (hy : y < 3) : ∀ i f k M br s bs, i ≤ 4 → i + 2 ≤ f → lwD (tK B n) (tV B n) i k e a bs Dl → rQ B n sd k M br s l → 420 * sd ≤ M → M ≤ 420 * sd + k → br + i + 1 < 130 * sd + 130 →
    (e = 0 → ∃ s', f_X12_tellLaw_12 fu f (nI y) (nI fst) (nI (4 - i)) s l = (s', l) ∧ p_X12_tellLaw_12 fu f (nI y) (nI fst) (nI (4 - i)) s l ∧ rLok B n sd M br y fst a bs Dl s s' l) ∧
    (e ≠ 0 → ∃ s', f_X12_tellLaw_12 fu f (nI y) (nI fst) (nI (4 - i)) s l = (s', l) ∧ p_X12_tellLaw_12 fu f (nI y) (nI fst) (nI (4 - i)) s l ∧ rBd B n e a s' ∧ rFl sd br M s s') := by
  have last : ∀ i f k M br s bs, i + 2 ≤ f → tK B n k ≠ 265 → laD (tK B n) (tV B n) k e a bs Dl → rQ B n sd k M br s l → 420 * sd ≤ M → M ≤ 420 * sd + k → br + i + 1 < 130 * sd + 130 →
      (e = 0 → ∃ s', f_X12_tellLaw_12 fu f (nI y) (nI fst) (nI (4 - i)) s l = (s', l) ∧ p_X12_tellLaw_12 fu f (nI y) (nI fst) (nI (4 - i)) s l ∧ rLok B n sd M br y fst a bs Dl s s' l) ∧
      (e ≠ 0 → ∃ s', f_X12_tellLaw_12 fu f (nI y) (nI fst) (nI (4 - i)) s l = (s', l) ∧ p_X12_tellLaw_12 fu f (nI y) (nI fst) (nI (4 - i)) s l ∧ rBd B n e a s' ∧ rFl sd br M s s') := by
    intro i f k M br s bs hf hT hD h hM0 hM hb
    obtain ⟨f, rfl⟩ : ∃ f', f = f' + 1 := ⟨f - 1, by omega⟩
    obtain ⟨i1, i2⟩ := r_isP (fu := fu) (c := 29) h.1 (by omega)
    have hn : ¬ rk (tK B n k) = 29 := fun e => hT ((rk_q h.1.1 (b := 29) (by omega) (by omega)).mp e)
    rw [if_neg hn] at i1
    have h13 := h.1.2.2.2
    have e1 : f_X12_tellLaw_12 fu (f + 1) (nI y) (nI fst) (nI (4 - i)) s l = f_X12_tellLaw_129 fu (nI y) (nI fst) s l := by
      unfold f_X12_tellLaw_12
      simp (disch := omega) only [ln_, ar_t, ar_f, it_t, it_f, true_and, and_true, not_true_eq_false, not_false_eq_true, implies_true, and_self, eq_self, h13, i1]
    have e2 : p_X12_tellLaw_129 fu (nI y) (nI fst) s l → p_X12_tellLaw_12 fu (f + 1) (nI y) (nI fst) (nI (4 - i)) s l := by
      intro g
      unfold p_X12_tellLaw_12
      simp (disch := omega) only [ln_, ar_t, ar_f, it_t, it_f, true_and, and_true, not_true_eq_false, not_false_eq_true, implies_true, and_self, eq_self, h13, i1, i2]
      exact g
    obtain ⟨l1, l2⟩ := r_la (fu := fu) (fst := fst) hfu hsd hy hD h hM0 hM (by omega)
    rw [e1]
    refine ⟨fun h0 => ?_, fun h0 => ?_⟩
    · obtain ⟨s', g1, g2, g3⟩ := l1 h0
      exact ⟨s', g1, e2 g2, g3⟩
    · obtain ⟨s', g1, g2, g3⟩ := l2 h0
      exact ⟨s', g1, e2 g2, g3⟩
  intro i
  induction i with
  | zero =>
    intro f k M br s bs hi hf hD h hM0 hM hb
    rcases hD with ⟨hT, e2, ea⟩ | ⟨hT, hD⟩
    · subst e2
      subst ea
      obtain ⟨f, rfl⟩ : ∃ f', f = f' + 1 := ⟨f - 1, by omega⟩
      obtain ⟨i1, i2⟩ := r_isP (fu := fu) (c := 29) h.1 (by omega)
      rw [if_pos ((rk_q h.1.1 (b := 29) (by omega) (by omega)).mpr hT)] at i1
      have h13 := h.1.2.2.2
      obtain ⟨s', g1, g2, g3, g4⟩ := r_failP (fu := fu) (e := 2) h.1 (.inr rfl)
      obtain ⟨k13, _, _⟩ := rBd_13 g3
      have n4 : nI (4 - 0) = nI 4 := rfl
      refine ⟨fun h => by omega, fun _ => ⟨s', ?_, ?_, g3, rFl_P g4⟩⟩
      · unfold f_X12_tellLaw_12 f_X12_tellLaw_38
        simp (disch := omega) only [ln_, n4, eqF, leF, ar_t, ar_f, it_t, it_f, true_and, and_true, not_true_eq_false, not_false_eq_true, implies_true, and_self, eq_self, h13, i1, g1, k13]
      · unfold p_X12_tellLaw_12 p_X12_tellLaw_38
        simp (disch := omega) only [ln_, n4, eqF, leF, ar_t, ar_f, it_t, it_f, true_and, and_true, not_true_eq_false, not_false_eq_true, implies_true, and_self, eq_self, h13, i1, i2, g1, g2, k13]
    · exact last 0 f k M br s bs hf hT hD h hM0 hM hb
  | succ i ih =>
    intro f k M br s bs hi hf hD h hM0 hM hb
    rcases hD with ⟨hT, hD⟩ | ⟨hT, hD⟩
    rotate_left
    · exact last (i + 1) f k M br s bs hf hT hD h hM0 hM hb
    obtain ⟨f, rfl⟩ : ∃ f', f = f' + 1 := ⟨f - 1, by omega⟩
    obtain ⟨i1, i2⟩ := r_isP (fu := fu) (c := 29) h.1 (by omega)
    rw [if_pos ((rk_q h.1.1 (b := 29) (by omega) (by omega)).mpr hT)] at i1
    have h13 := h.1.2.2.2
    have n4 : nI (4 - (i + 1)) + nI 1 = nI (4 - i) := by rw [nI_add]; congr 1; omega
    have e1 : f_X12_tellLaw_12 fu (f + 1) (nI y) (nI fst) (nI (4 - (i + 1))) s l = f_X12_tellLaw_38 fu (fun x1 x2 x3 s l => f_X12_tellLaw_12 fu f x1 x2 x3 s l) (nI y) (nI fst) (nI (4 - (i + 1))) s l := by
      conv => lhs; unfold f_X12_tellLaw_12
      simp (disch := omega) only [ln_, eqF, ar_t, ar_f, it_t, it_f, true_and, and_true, not_true_eq_false, not_false_eq_true, implies_true, and_self, eq_self, h13, i1]
    have e2 : p_X12_tellLaw_38 fu (fun x1 x2 x3 s l => p_X12_tellLaw_12 fu f x1 x2 x3 s l) (nI y) (nI fst) (nI (4 - (i + 1))) s l → p_X12_tellLaw_12 fu (f + 1) (nI y) (nI fst) (nI (4 - (i + 1))) s l := by
      intro g
      unfold p_X12_tellLaw_12
      simp (disch := omega) only [ln_, eqF, ar_t, ar_f, it_t, it_f, true_and, and_true, not_true_eq_false, not_false_eq_true, implies_true, and_self, eq_self, h13, i1, i2]
      exact g
    rw [e1]
    rcases hD with ⟨e0, A, Bb, C, hD⟩ | ⟨A, Bb, C, k', bs', hI, hL, rfl⟩
    · obtain ⟨s', g1, g2, g3⟩ := (r_if (fu := fu) (f := f) (x1 := nI y) (x2 := nI fst) (x3 := nI (4 - (i + 1))) hfu hsd hD h hT hM (by omega) (by omega)).2 e0
      exact ⟨fun h => absurd h e0, fun _ => ⟨s', g1, e2 g2, g3⟩⟩
    · obtain ⟨s1, g1, g2, g3, g4, g5, g6, g7⟩ := (r_if (fu := fu) (f := f) (x1 := nI y) (x2 := nI fst) (x3 := nI (4 - (i + 1))) hfu hsd hI h hT hM (by omega) (by omega)).1 rfl
      rw [n4] at g1 g2
      obtain ⟨j1, j2⟩ := ih f k' (M + A.length + Bb.length + C.length) (br + 1) s1 bs' (by omega) (by omega) hL g3 (by omega) g6 (by omega)
      have eb : br + 1 + bs'.length + 1 = br + ((A, Bb, C) :: bs').length + 1 := by show _ = br + (bs'.length + 1) + 1; omega
      refine ⟨fun h0 => ?_, fun h0 => ?_⟩
      · obtain ⟨s', t1, t2, t3, ⟨M', u1, u2, u3, u4⟩, t5, t6, t7⟩ := j1 h0
        rw [eb] at u3 u4 t6
        obtain ⟨v1, v2, v3, v4, v5, v6, v7, v8⟩ := g5
        refine ⟨s', g1.trans t1, e2 (g2 t2), rFl_tr g4 (by omega) (by omega) t3, ⟨M', by omega, u2, u3, ?_, ⟨M, ?_, ?_, ?_, ?_, rds_l t3 v6 (by dsimp only; omega), rds_l t3 v7 (by dsimp only; omega), rds_l t3 v8 (by dsimp only; omega), hM0, u1⟩, u4⟩, t5, t6, fun j hj => ?_⟩
        · rw [t3.2.2.1 84 br (by omega) (by omega) (by omega)]; exact v1
        · rw [t3.2.2.1 85 br (by omega) (by omega) (by omega)]; exact v2
        · rw [t3.2.2.1 86 br (by omega) (by omega) (by omega)]; exact v3
        · rw [t3.2.2.1 87 br (by omega) (by omega) (by omega)]; exact v4
        · rw [t3.2.2.1 88 br (by omega) (by omega) (by omega)]; exact v5
        · rw [(t7 j hj).1, (t7 j hj).2, g7 82 (.inl rfl), g7 83 (.inr rfl)]; exact ⟨rfl, rfl⟩
      · obtain ⟨s', t1, t2, t3, t4⟩ := j2 h0
        exact ⟨s', g1.trans t1, e2 (g2 t2), t3, rFl_tr g4 (by omega) (by omega) t4⟩
/-- = and what follows -/
theorem r_law (hfu : 20000 ≤ fu) (hsd : sd ≤ 1) (hy : y < 3) (hD : sqT (tK B n) 61 k e a (fun k2 => lwD (tK B n) (tV B n) 4 k2 e a bs Dl)) (h : rQ B n sd k M br s l) (hM0 : 420 * sd ≤ M) (hM : M ≤ 420 * sd + k) (hb : br + 5 < 130 * sd + 130) :
    (e = 0 → ∃ s', f_X12_tellLaw fu (nI y) s l = (s', l) ∧ p_X12_tellLaw fu (nI y) s l ∧ rLok B n sd M br y br a bs Dl s s' l) ∧
    (e ≠ 0 → ∃ s', f_X12_tellLaw fu (nI y) s l = (s', l) ∧ p_X12_tellLaw fu (nI y) s l ∧ rBd B n e a s' ∧ rFl sd br M s s') := by
  have rk5 : rk (tK B n k) = 5 ↔ tK B n k = 61 := (rkF h.1.1 k).2.2.2.2.2.2.2.2.2.1
  unfold f_X12_tellLaw p_X12_tellLaw f_X12_tellLaw_5 p_X12_tellLaw_5
  rcases hD with ⟨e0, hE⟩ | ⟨k2, hE, hD⟩
  · obtain ⟨s1, c1, c2, c3, c4, c5, c6⟩ := rM (fu := fu) h (by omega) rk5 (by omega) hE
    obtain ⟨sY, y1, y2, y3, y4⟩ := rb_12 (fu := fu) (l := l) (M := M) (x1 := nI y) (x2 := s1 60 36) (x3 := nI 0) (f := fu) (c5 e0) c6 (by omega) hsd (by omega)
    rw [show (5 : Int32) = nI 5 from rfl, c1]
    exact ⟨fun h => absurd h e0, fun _ => ⟨sY, y1, ⟨c2, y2⟩, y3, rFl_tr (rFl_P c3) (Nat.le_refl br) (Nat.le_refl M) y4⟩⟩
  · obtain ⟨s1, c1, c2, c3, c4, c5, c6⟩ := rM (fu := fu) h (by omega) rk5 (by omega) hE
    obtain ⟨_, _, ek⟩ := tkE_0 hE
    rw [show (5 : Int32) = nI 5 from rfl, c1]
    dsimp only
    rw [c6]
    obtain ⟨j1, j2⟩ := r_lw (fu := fu) (l := l) (fst := br) hfu hsd hy 4 fu k2 M br s1 bs (by omega) (by omega) hD (c4 rfl) hM0 (by omega) (by omega)
    refine ⟨fun h0 => ?_, fun h0 => ?_⟩
    · obtain ⟨s', t1, t2, t3, t4, t5, t6, t7⟩ := j1 h0
      exact ⟨s', t1, ⟨c2, t2⟩, rFl_tr (rFl_P c3) (Nat.le_refl br) (Nat.le_refl M) t3, t4, t5, t6, fun j hj => by rw [(t7 j hj).1, (t7 j hj).2, c3.1 82 (by omega), c3.1 83 (by omega)]; exact ⟨rfl, rfl⟩⟩
    · obtain ⟨s', t1, t2, t3, t4⟩ := j2 h0
      exact ⟨s', t1, ⟨c2, t2⟩, t3, rFl_tr (rFl_P c3) (Nat.le_refl br) (Nat.le_refl M) t4⟩
end rlw4
