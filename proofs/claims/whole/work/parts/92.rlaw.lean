/-! The reference reads a law as the class does -/
def rBr (s : fl_I) (b p : Nat) (A Bb C : List Nat) : Prop := s 84 b = nI 1 ∧ s 85 b = nI p ∧ s 86 b = nI (p + A.length) ∧ s 87 b = nI (p + A.length + Bb.length) ∧ s 88 b = nI (p + A.length + Bb.length + C.length) ∧ rds s p A ∧ rds s (p + A.length) Bb ∧ rds s (p + A.length + Bb.length) C
/-- a law, read well -/
def rLok (B : Nat → Nat) (n sd M br y fst a : Nat) (bs : Pg) (D : List Nat) (s s' : fl_I) (l : fl_L) : Prop := rFl sd br M s s' ∧ (∃ M', M ≤ M' ∧ M' ≤ 420 * sd + a ∧ rQ B n sd a M' (br + bs.length + 1) s' l ∧ rPr sd M' s' br bs D (br + bs.length + 1)) ∧ s' 82 (3 * sd + y) = nI fst ∧ s' 83 (3 * sd + y) = nI (br + bs.length + 1) ∧ ∀ j, j ≠ 3 * sd + y → s' 82 j = s 82 j ∧ s' 83 j = s 83 j
section rlw3
variable {B : Nat → Nat} {a b c e i j k m n p q t f y fst sd M M' br br' : Nat} {s s1 s2 : fl_I} {l l1 : fl_L} {fu : Nat} {x x1 x2 x3 z : Int32} {C C1 C2 A Bb Dl : List Nat} {bs : Pg}
theorem rQ_w (w : rFl sd br M s s1) (h60 : s1 60 = s 60) (h : rQ B n sd k M' br' s l) : rQ B n sd k M' br' s1 l := by
  obtain ⟨⟨h1, h2, h3, h4⟩, h5⟩ := h
  unfold rQ rPt
  rw [h60]
  exact ⟨⟨rTk_l w h1, h2, h3, h4⟩, h5⟩
theorem rds_l (w : rFl sd br M s s1) (h : rds s p C) (hp : p + C.length ≤ M) : rds s1 p C := fun i hi => by
  rw [w.2.2.2.1 89 (p + i) (by omega) (by omega) (by omega), w.2.2.2.1 90 (p + i) (by omega) (by omega) (by omega)]; exact h i hi
theorem r_if (hfu : 20000 ≤ fu) (hsd : sd ≤ 1) (hD : ifD (tK B n) (tV B n) k e a A Bb C) (h : rQ B n sd k M br s l) (hT : tK B n k = 265) (hM : M ≤ 420 * sd + k) (hb : br + 1 < 130 * sd + 130) (hf : 1 ≤ f) :
    (e = 0 → ∃ s', f_X12_tellLaw_38 fu (fun x1 x2 x3 s l => f_X12_tellLaw_12 fu f x1 x2 x3 s l) x1 x2 x3 s l = f_X12_tellLaw_12 fu f x1 x2 (x3 + nI 1) s' l ∧ (p_X12_tellLaw_12 fu f x1 x2 (x3 + nI 1) s' l → p_X12_tellLaw_38 fu (fun x1 x2 x3 s l => p_X12_tellLaw_12 fu f x1 x2 x3 s l) x1 x2 x3 s l) ∧ rQ B n sd a (M + A.length + Bb.length + C.length) (br + 1) s' l ∧ rFl sd br M s s' ∧ rBr s' br M A Bb C ∧ M + A.length + Bb.length + C.length ≤ 420 * sd + a ∧ ∀ q, q = 82 ∨ q = 83 → s' q = s q) ∧
    (e ≠ 0 → ∃ s', f_X12_tellLaw_38 fu (fun x1 x2 x3 s l => f_X12_tellLaw_12 fu f x1 x2 x3 s l) x1 x2 x3 s l = (s', l) ∧ p_X12_tellLaw_38 fu (fun x1 x2 x3 s l => p_X12_tellLaw_12 fu f x1 x2 x3 s l) x1 x2 x3 s l ∧ rBd B n e a s' ∧ rFl sd br M s s') := by
  have Lb := Nat.le_refl br
  have LM := Nat.le_refl M
  have hb0 : br < 130 * sd + 130 := by omega
  have hk4 := h.1.2.1.1
  have h13 := h.1.2.2.2
  obtain ⟨sA, a1, a2, a3, a4⟩ := r_nextP (fu := fu) h.1 (by omega)
  have a36 : sA 60 36 = nI br := by rw [a3.2 36 (by omega) (by omega) (by omega)]; exact h.2.2.2.1
  have a42 : sA 60 42 = nI M := by rw [a3.2 42 (by omega) (by omega) (by omega)]; exact h.2.1
  have a12 : sA 60 12 = nI 0 := by rw [a3.2 12 (by omega) (by omega) (by omega)]; exact h.2.2.1
  have a19 : sA 60 19 = nI sd := by rw [a3.2 19 (by omega) (by omega) (by omega)]; exact h.2.2.2.2
  have wB : rFl sd br M sA (wi (wi sA 84 br (nI 1)) 85 br (nI M)) := rFl_tr (rFl_w (by omega) (by omega) Lb hb0) Lb LM (rFl_w (by omega) (by omega) Lb hb0)
  have wA : rFl sd br M s (wi (wi sA 84 br (nI 1)) 85 br (nI M)) := rFl_tr (rFl_P a3) Lb LM wB
  have b60 : (wi (wi sA 84 br (nI 1)) 85 br (nI M)) 60 = sA 60 := by rw [wi_c (by omega), wi_c (by omega)]
  have key : f_X12_tellLaw_38 fu (fun x1 x2 x3 s l => f_X12_tellLaw_12 fu f x1 x2 x3 s l) x1 x2 x3 s l = f_X12_tellLaw_80 fu (fun x1 x2 x3 s l => f_X12_tellLaw_12 fu f x1 x2 x3 s l) x1 x2 (x3 + nI 1) (f_X12_expression fu (wi (wi sA 84 br (nI 1)) 85 br (nI M)) l).1 (f_X12_expression fu (wi (wi sA 84 br (nI 1)) 85 br (nI M)) l).2 := by
    unfold f_X12_tellLaw_38 f_X12_tellLaw_53
    simp (disch := omega) only [ln_, leT, nI_clamp, nar1, ar_t, ar_f, it_t, it_f, true_and, and_true, not_true_eq_false, not_false_eq_true, implies_true, and_self, eq_self, wi_c, wi_u, upd_s, upd_n, su_r, su_c, h13, a1, a36, a42]
  have keyp : p_X12_expression fu (wi (wi sA 84 br (nI 1)) 85 br (nI M)) l → p_X12_tellLaw_80 fu (fun x1 x2 x3 s l => p_X12_tellLaw_12 fu f x1 x2 x3 s l) x1 x2 (x3 + nI 1) (f_X12_expression fu (wi (wi sA 84 br (nI 1)) 85 br (nI M)) l).1 (f_X12_expression fu (wi (wi sA 84 br (nI 1)) 85 br (nI M)) l).2 → p_X12_tellLaw_38 fu (fun x1 x2 x3 s l => p_X12_tellLaw_12 fu f x1 x2 x3 s l) x1 x2 x3 s l := by
    intro g1 g2
    unfold p_X12_tellLaw_38 p_X12_tellLaw_53
    simp (disch := omega) only [ln_, leT, nI_clamp, vpT, nar1, ar_t, ar_f, it_t, it_f, true_and, and_true, not_true_eq_false, not_false_eq_true, implies_true, and_self, eq_self, wi_c, wi_u, upd_s, upd_n, su_r, su_c, h13, a1, a2, a36, a42, g1]
    exact g2
  unfold ifD at hD
  rcases hD with ⟨e0, hE⟩ | ⟨k1, hE, hD⟩
  · -- no room for the if itself
    obtain ⟨ea, ee⟩ := tkE_n hE e0
    rcases ee with ⟨_, hk, ee⟩ | ⟨hk, _⟩
    · rcases a4 with ⟨hk', _⟩ | ⟨_, a4⟩
      · omega
      · have b4 : rBd B n 2 k (wi (wi sA 84 br (nI 1)) 85 br (nI M)) := rBd_w (rBd_w a4 (by omega)) (by omega)
        obtain ⟨sX, x1', x2', x3', x4', x5'⟩ := rb_expr (fu := fu) (l := l) (sd := sd) (br := br) (M := M) hfu b4 (by rw [b60]; exact a12)
        rw [b60, a36] at x4'
        obtain ⟨sY, y1, y2, y3, y4⟩ := rb_80 (fu := fu) (l := l) (M := M) (x1 := x1) (x2 := x2) (x3 := x3 + nI 1) (f := f) x3' x4' hb hsd hf
        refine ⟨fun h => absurd h e0, fun _ => ⟨sY, ?_, ?_, ?_, rFl_tr (rFl_tr wA Lb LM x5') Lb LM y4⟩⟩
        · rw [key, x1']; exact y1
        · refine keyp x2' ?_
          rw [x1']; exact y2
        · rw [ee, ea]; exact y3
    · exact absurd hT hk
  · obtain ⟨_, hk, rfl⟩ := tkE_0 hE
    rcases a4 with ⟨_, a4⟩ | ⟨hk', _⟩
    rotate_left
    · omega
    have qB : rQ B n sd (k + 1) M br (wi (wi sA 84 br (nI 1)) 85 br (nI M)) l := rQ_w wB b60 ⟨a4, a42, a12, a36, a19⟩
    rcases hD with ⟨e0, C0, hE1⟩ | ⟨k2, A', hE1, hD⟩
    · obtain ⟨sX, x1', x2', x3', x4', x5'⟩ := (rXp (fu := fu) hfu hsd hE1 qB (by omega)).2 e0
      obtain ⟨sY, y1, y2, y3, y4⟩ := rb_80 (fu := fu) (l := l) (M := M) (x1 := x1) (x2 := x2) (x3 := x3 + nI 1) (f := f) x3' x4' hb hsd hf
      refine ⟨fun h => absurd h e0, fun _ => ⟨sY, ?_, ?_, y3, rFl_tr (rFl_tr wA Lb LM x5') Lb LM y4⟩⟩
      · rw [key, x1']; exact y1
      · refine keyp x2' ?_
        rw [x1']; exact y2
    obtain ⟨sC, c1, c2, c3, c4, c5, c6, c7⟩ := (rXp (fu := fu) hfu hsd hE1 qB (by omega)).1 rfl
    rw [c1] at key keyp
    have keyp := keyp c2
    have wC : rFl sd br M s sC := rFl_tr wA Lb LM c4
    have cT := c3.1.1
    unfold f_X12_tellLaw_80 at key
    unfold p_X12_tellLaw_80 at keyp
    dsimp only at key keyp
    have rk60 : rk (tK B n k2) = 13 ↔ tK B n k2 = 60 := (rkF cT k2).2.2.2.2.2.2.2.2.2.2.1
    rcases hD with ⟨e0, hE2⟩ | ⟨k3, hE2, hD⟩
    · obtain ⟨sD, d1, d2, d3, d4, d5, d6⟩ := rM (fu := fu) c3 (by omega) rk60 (by omega) hE2
      obtain ⟨sY, y1, y2, y3, y4⟩ := rb_86 (fu := fu) (l := l) (M := M) (x1 := x1) (x2 := x2) (x3 := x3 + nI 1) (f := f) (d5 e0) d6 hb hsd hf
      rw [show (13 : Int32) = nI 13 from rfl, d1] at key keyp
      exact ⟨fun h => absurd h e0, fun _ => ⟨sY, key.trans y1, keyp ⟨d2, y2⟩, y3, rFl_tr (rFl_tr wC Lb LM (rFl_P d3)) Lb LM y4⟩⟩
    obtain ⟨sD, d1, d2, d3, d4, d5, d6⟩ := rM (fu := fu) c3 (by omega) rk60 (by omega) hE2
    rw [show (13 : Int32) = nI 13 from rfl, d1] at key keyp
    have d4 := d4 rfl
    obtain ⟨_, _, rfl⟩ := tkE_0 hE2
    have wD : rFl sd br M s sD := rFl_tr wC Lb LM (rFl_P d3)
    have d13 := d4.1.2.2.2
    have d42 := d4.2.1
    have wE' : ∀ {M0}, rFl sd br M0 sD (wi sD 86 br (nI (M + A'.length))) := fun {M0} => rFl_w (by omega) (by omega) Lb hb0
    have e60 : (wi sD 86 br (nI (M + A'.length))) 60 = sD 60 := wi_c (by omega)
    have qE : rQ B n sd (k2 + 1) (M + A'.length) br (wi sD 86 br (nI (M + A'.length))) l := rQ_w (M := M) wE' e60 d4
    have keyE : f_X12_tellLaw_86 fu (fun x1 x2 x3 s l => f_X12_tellLaw_12 fu f x1 x2 x3 s l) x1 x2 (x3 + nI 1) sD l = f_X12_tellLaw_110 fu (fun x1 x2 x3 s l => f_X12_tellLaw_12 fu f x1 x2 x3 s l) x1 x2 (x3 + nI 1) (f_X12_expression fu (wi sD 86 br (nI (M + A'.length))) l).1 (f_X12_expression fu (wi sD 86 br (nI (M + A'.length))) l).2 := by
      unfold f_X12_tellLaw_86
      simp (disch := omega) only [ln_, nI_clamp, ar_t, ar_f, it_t, it_f, true_and, and_true, not_true_eq_false, not_false_eq_true, implies_true, and_self, eq_self, wi_c, wi_u, upd_s, upd_n, su_r, su_c, d13, d42, d6]
    have keyEp : p_X12_expression fu (wi sD 86 br (nI (M + A'.length))) l → p_X12_tellLaw_110 fu (fun x1 x2 x3 s l => p_X12_tellLaw_12 fu f x1 x2 x3 s l) x1 x2 (x3 + nI 1) (f_X12_expression fu (wi sD 86 br (nI (M + A'.length))) l).1 (f_X12_expression fu (wi sD 86 br (nI (M + A'.length))) l).2 → p_X12_tellLaw_86 fu (fun x1 x2 x3 s l => p_X12_tellLaw_12 fu f x1 x2 x3 s l) x1 x2 (x3 + nI 1) sD l := by
      intro g1 g2
      unfold p_X12_tellLaw_86
      simp (disch := omega) only [ln_, nI_clamp, vpT, ar_t, ar_f, it_t, it_f, true_and, and_true, not_true_eq_false, not_false_eq_true, implies_true, and_self, eq_self, wi_c, wi_u, upd_s, upd_n, su_r, su_c, d13, d42, d6, g1]
      exact g2
    have wE : rFl sd br M s (wi sD 86 br (nI (M + A'.length))) := rFl_tr wD Lb LM wE'
    have key := key.trans keyE
    have LMA : M ≤ M + A'.length := by omega
    rcases hD with ⟨e0, C0, hE3⟩ | ⟨k4, B', hE3, hD⟩
    · obtain ⟨sX, x1', x2', x3', x4', x5'⟩ := (rXp (fu := fu) hfu hsd hE3 qE (by omega)).2 e0
      obtain ⟨sY, y1, y2, y3, y4⟩ := rb_110 (fu := fu) (l := l) (M := M) (x1 := x1) (x2 := x2) (x3 := x3 + nI 1) (f := f) x3' x4' hb hsd hf
      rw [x1'] at key keyEp
      exact ⟨fun h => absurd h e0, fun _ => ⟨sY, key.trans y1, keyp ⟨d2, keyEp x2' y2⟩, y3, rFl_tr (rFl_tr wE Lb LMA x5') Lb LM y4⟩⟩
    obtain ⟨sF, f1, f2, f3, f4, f5, f6, f7⟩ := (rXp (fu := fu) hfu hsd hE3 qE (by omega)).1 rfl
    rw [f1] at key keyEp
    have keyEp := keyEp f2
    have wF : rFl sd br M s sF := rFl_tr wE Lb LMA f4
    unfold f_X12_tellLaw_110 at key
    unfold p_X12_tellLaw_110 at keyEp
    dsimp only at key keyEp
    rcases hD with ⟨e0, hE4⟩ | ⟨k5, hE4, hD⟩
    · obtain ⟨sG, g1, g2, g3, g4, g5, g6⟩ := rM (fu := fu) f3 (by omega) (rk_q f3.1.1 (b := 30) (by omega) (by omega)) (by omega) hE4
      obtain ⟨sY, y1, y2, y3, y4⟩ := rb_116 (fu := fu) (l := l) (M := M) (x1 := x1) (x2 := x2) (x3 := x3 + nI 1) (f := f) (g5 e0) g6 hb hsd hf
      rw [show (30 : Int32) = nI 30 from rfl, g1] at key keyEp
      exact ⟨fun h => absurd h e0, fun _ => ⟨sY, key.trans y1, keyp ⟨d2, keyEp ⟨g2, y2⟩⟩, y3, rFl_tr (rFl_tr wF Lb LM (rFl_P g3)) Lb LM y4⟩⟩
    obtain ⟨sG, g1, g2, g3, g4, g5, g6⟩ := rM (fu := fu) f3 (by omega) (rk_q f3.1.1 (b := 30) (by omega) (by omega)) (by omega) hE4
    rw [show (30 : Int32) = nI 30 from rfl, g1] at key keyEp
    have g4 := g4 rfl
    obtain ⟨_, _, rfl⟩ := tkE_0 hE4
    have wG : rFl sd br M s sG := rFl_tr wF Lb LM (rFl_P g3)
    unfold f_X12_tellLaw_116 at key
    unfold p_X12_tellLaw_116 at keyEp
    dsimp only at key keyEp
    have LMB : M ≤ M + A'.length + B'.length := by omega
    rcases hD with ⟨e0, C0, hE5⟩ | ⟨k6, C', hE5, hD⟩
    · obtain ⟨sH, i1, i2, i3, i4, i5⟩ := (rTm (fu := fu) hfu hsd hE5 g4 (by omega) hb0).2 e0
      obtain ⟨sY, y1, y2, y3, y4⟩ := rb_120 (fu := fu) (l := l) (M := M) (x1 := x1) (x2 := x2) (x3 := x3 + nI 1) (f := f) i3 i4 hb hsd hf
      rw [i1] at key keyEp
      exact ⟨fun h => absurd h e0, fun _ => ⟨sY, key.trans y1, keyp ⟨d2, keyEp ⟨g2, i2, y2⟩⟩, y3, rFl_tr (rFl_tr wG Lb LMB i5) (Nat.le_succ br) LM y4⟩⟩
    obtain ⟨sH, i1, i2, i3, i4, i5, i6, i7, i8, i9⟩ := (rTm (fu := fu) hfu hsd hE5 g4 (by omega) hb0).1 rfl
    rw [i1] at key keyEp
    have wH : rFl sd br M s sH := rFl_tr wG Lb LMB i4
    unfold f_X12_tellLaw_120 f_X12_tellLaw_126 at key
    unfold p_X12_tellLaw_120 p_X12_tellLaw_126 at keyEp
    dsimp only at key keyEp
    rcases hD with ⟨e0, hE6⟩ | ⟨k7, hE6, hD⟩
    · obtain ⟨sI, j1, j2, j3, j4, j5, j6⟩ := rM (fu := fu) i3 (by omega) (rk_q i3.1.1 (b := 31) (by omega) (by omega)) (by omega) hE6
      obtain ⟨sY, y1, y2, y3, y4⟩ := rb_12 (fu := fu) (l := l) (M := M) (x1 := x1) (x2 := x2) (x3 := x3 + nI 1) (f := f) (j5 e0) j6 hb hsd hf
      rw [show (31 : Int32) = nI 31 from rfl, j1] at key keyEp
      exact ⟨fun h => absurd h e0, fun _ => ⟨sY, key.trans y1, keyp ⟨d2, keyEp ⟨g2, i2, j2, y2⟩⟩, y3, rFl_tr (rFl_tr wH Lb LM (rFl_P j3)) (Nat.le_succ br) LM y4⟩⟩
    obtain ⟨sI, j1, j2, j3, j4, j5, j6⟩ := rM (fu := fu) i3 (by omega) (rk_q i3.1.1 (b := 31) (by omega) (by omega)) (by omega) hE6
    rw [show (31 : Int32) = nI 31 from rfl, j1] at key keyEp
    obtain ⟨he0, rfl, rfl, rfl, rfl⟩ := hD
    obtain ⟨_, _, ek7⟩ := tkE_0 hE6
    refine ⟨fun _ => ⟨sI, key, fun hp => keyp ⟨d2, keyEp ⟨g2, i2, j2, hp⟩⟩, j4 rfl, rFl_tr wH Lb LM (rFl_P j3), ?_, by omega, fun q hq => ?_⟩, fun h => absurd he0 h⟩
    · have t84 : ∀ q, 84 ≤ q → q ≤ 85 → sI q = (wi (wi sA 84 br (nI 1)) 85 br (nI M)) q := fun q x y => by rw [j3.1 q (by omega), i9 q (by omega) (by omega), g3.1 q (by omega), f7 q (by omega) (by omega), wi_c (by omega), d3.1 q (by omega), c7 q (by omega) (by omega)]
      refine ⟨?_, ?_, ?_, ?_, ?_, ?_, ?_, ?_⟩
      · rw [t84 84 (by omega) (by omega), wi_c (by omega), wi_u, upd_s]
      · rw [t84 85 (by omega) (by omega), wi_u, upd_s]
      · rw [j3.1 86 (by omega), i9 86 (by omega) (by omega), g3.1 86 (by omega), f7 86 (by omega) (by omega), wi_u, upd_s]
      · rw [j3.1 87 (by omega)]; exact i7
      · rw [j3.1 88 (by omega)]; exact i8
      · refine rds_l (rFl_P (sd := sd) (br := br) (M := M + A'.length) j3) (rds_l i4 (rds_l (rFl_P (sd := sd) (br := br) (M := M + A'.length) g3) (rds_l f4 (rds_l (wE' (M0 := M + A'.length)) (rds_l (rFl_P (sd := sd) (br := br) (M := M + A'.length) d3) c5 ?_) ?_) ?_) ?_) ?_) ?_ <;> omega
      · refine rds_l (rFl_P (sd := sd) (br := br) (M := M + A'.length + B'.length) j3) (rds_l i4 (rds_l (rFl_P (sd := sd) (br := br) (M := M + A'.length + B'.length) g3) f5 ?_) ?_) ?_ <;> omega
      · exact rds_l (rFl_P (sd := sd) (br := br) (M := M + A'.length + B'.length + C'.length) j3) i5 (by omega)
    · rw [j3.1 q (by omega)]
      have h1 : sH q = sG q := i9 q (by omega) (by omega)
      rw [h1, g3.1 q (by omega), f7 q (by omega) (by omega), wi_c (by omega), d3.1 q (by omega), c7 q (by omega) (by omega), wi_c (by omega), wi_c (by omega), a3.1 q (by omega)]
end rlw3
