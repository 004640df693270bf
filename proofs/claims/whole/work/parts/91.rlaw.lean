/-! The reference reads a law: what it changes; how it goes on behind a fault -/
def rFl (sd br M : Nat) (s s' : fl_I) : Prop := (∀ q, q ≠ 60 → q ≠ 91 → (q < 82 ∨ 90 < q) → s' q = s q) ∧ (∀ q j, q = 82 ∨ q = 83 → (j < 3 * sd ∨ 3 * sd + 3 ≤ j) → s' q j = s q j) ∧ (∀ q j, 84 ≤ q → q ≤ 88 → (j < br ∨ 130 * sd + 130 ≤ j) → s' q j = s q j) ∧ (∀ q j, 89 ≤ q → q ≤ 90 → (j < M ∨ 420 * sd + 420 ≤ j) → s' q j = s q j) ∧ ∀ j, j ≠ 11 → j ≠ 12 → j ≠ 13 → j ≠ 14 → j ≠ 36 → j ≠ 42 → j ≠ 46 → s' 60 j = s 60 j
def rQ (B : Nat → Nat) (n sd k M br : Nat) (s : fl_I) (l : fl_L) : Prop := rPt B n k s l ∧ s 60 42 = nI M ∧ s 60 12 = nI 0 ∧ s 60 36 = nI br ∧ s 60 19 = nI sd
section rlw2
variable {B : Nat → Nat} {a b c e i j k m n p q t f y fst sd M M' br br' : Nat} {s s1 s2 : fl_I} {l l1 : fl_L} {fu : Nat} {x x1 x2 x3 z : Int32} {C C1 C2 A Bb Dl : List Nat} {bs : Pg} {K : Int32 → Int32 → Int32 → fl_I → fl_L → fl_I × fl_L} {PK : Int32 → Int32 → Int32 → fl_I → fl_L → Prop}
theorem rFl_rfl : rFl sd br M s s := ⟨fun _ _ _ _ => rfl, fun _ _ _ _ => rfl, fun _ _ _ _ _ => rfl, fun _ _ _ _ _ => rfl, fun _ _ _ _ _ _ _ _ => rfl⟩
theorem rFl_tr (h : rFl sd br M s s1) (hb : br ≤ br') (hM : M ≤ M') (g : rFl sd br' M' s1 s2) : rFl sd br M s s2 := by
  obtain ⟨h1, h2, h3, h4, h5⟩ := h
  obtain ⟨g1, g2, g3, g4, g5⟩ := g
  exact ⟨fun q a b c => (g1 q a b c).trans (h1 q a b c), fun q j a b => (g2 q j a b).trans (h2 q j a b), fun q j a b c => (g3 q j a b (by omega)).trans (h3 q j a b c), fun q j a b c => (g4 q j a b (by omega)).trans (h4 q j a b c), fun j a b c d e f g => (g5 j a b c d e f g).trans (h5 j a b c d e f g)⟩
theorem rFl_P (h : rPf s s1) : rFl sd br M s s1 := ⟨fun q a _ _ => h.1 q a, fun q j a _ => by rw [h.1 q (by omega)], fun q j a _ _ => by rw [h.1 q (by omega)], fun q j a _ _ => by rw [h.1 q (by omega)], fun j a _ c d _ _ _ => h.2 j a c d⟩
theorem rFl_E (h : rEf s s1) (hc : rCd M C s s1) (hb : M + C.length ≤ 420 * sd + 420) : rFl sd br M s s1 := by
  refine ⟨fun q a b c => h.1 q a (by omega) (by omega) b, fun q j a _ => by rw [h.1 q (by omega) (by omega) (by omega) (by omega)], fun q j a b _ => by rw [h.1 q (by omega) (by omega) (by omega) (by omega)], fun q j a b c => ?_, fun j a b c d _ e f => h.2 j a b c d e f⟩
  have := hc.1 j (by omega)
  have : q = 89 ∨ q = 90 := by omega
  rcases this with rfl | rfl
  · exact (hc.1 j (by omega)).1
  · exact (hc.1 j (by omega)).2
theorem rFl_w (hq : 84 ≤ q) (hq2 : q ≤ 88) (hj : br ≤ j) (hj2 : j < 130 * sd + 130) : rFl sd br M s (wi s q j x) := by
  refine ⟨fun r a b c => wi_c (by omega), fun r i a b => by rw [wi_c (by omega)], fun r i a b c => ?_, fun r i a b c => by rw [wi_c (by omega)], fun i _ _ _ _ _ _ _ => by rw [wi_c (by omega)]⟩
  by_cases e : r = q
  · subst e; rw [wi_u, upd_n (by omega)]
  · rw [wi_c e]
theorem rFl_36 : rFl sd br M s (wi s 60 36 x) := ⟨fun r a b c => wi_c a, fun r i a b => by rw [wi_c (by omega)], fun r i a b c => by rw [wi_c (by omega)], fun r i a b c => by rw [wi_c (by omega)], fun i _ _ _ _ h _ _ => by rw [wi_u, upd_n h]⟩
theorem rTk_l (h : rFl sd br M s s1) (r : rTk B n s l) : rTk B n s1 l := ⟨r.1, fun k hk => by
  have := r.2 k hk
  unfold RF at this ⊢
  rw [h.1 63 (by omega) (by omega) (by omega), h.1 64 (by omega) (by omega) (by omega), h.1 65 (by omega) (by omega) (by omega)]; exact this⟩
theorem rBd_w (h : rBd B n e a s) (hq : q ≠ 60) : rBd B n e a (wi s q j x) := by unfold rBd at *; rw [wi_c (by omega)]; exact h
theorem rBd_36 (h : rBd B n e a s) : rBd B n e a (wi s 60 36 x) := by
  obtain ⟨h1, h2, h3, k, h4, h5⟩ := h
  exact ⟨h1, by simp (disch := omega) only [wi_c, wi_u, upd_s, upd_n, su_r, su_c]; exact h2, by simp (disch := omega) only [wi_c, wi_u, upd_s, upd_n, su_r, su_c]; exact h3, k, h4, by simp (disch := omega) only [wi_c, wi_u, upd_s, upd_n, su_r, su_c]; exact h5⟩
theorem rBd_13 (h : rBd B n e a s) : s 60 13 = nI e ∧ 1 ≤ e ∧ e ≤ 2 := ⟨h.2.1, by rcases h.1 with h | h <;> omega, by rcases h.1 with h | h <;> omega⟩
/-! behind a fault -/
theorem rb_term (h : rBd B n e a s) (h36 : s 60 36 = nI br) (hb : br < 130 * sd + 130) (hsd : sd ≤ 1) : ∃ s', f_X12_term fu s l = (s', l) ∧ p_X12_term fu s l ∧ rBd B n e a s' ∧ s' 60 36 = nI (br + 1) ∧ rFl sd br M s s' := by
  obtain ⟨h13, e1, e2⟩ := rBd_13 h
  refine ⟨wi (wi (wi s 87 br (s 60 42)) 88 br (s 60 42)) 60 36 (nI (br + 1)), ?_, ?_, rBd_36 (rBd_w (rBd_w h (by omega)) (by omega)), by simp (disch := omega) only [wi_c, wi_u, upd_s, upd_n, su_r, su_c], rFl_tr (rFl_tr (rFl_w (by omega) (by omega) (Nat.le_refl br) hb) (Nat.le_refl br) (Nat.le_refl M) (rFl_w (by omega) (by omega) (Nat.le_refl br) hb)) (Nat.le_refl br) (Nat.le_refl M) rFl_36⟩
  · unfold f_X12_term
    simp (disch := omega) only [ln_, eqF, nI_clamp, nI_add, ar_t, ar_f, it_t, it_f, true_and, and_true, not_true_eq_false, not_false_eq_true, implies_true, and_self, eq_self, wi_c, wi_u, upd_s, upd_n, su_r, su_c, h13, h36]
  · unfold p_X12_term
    simp (disch := omega) only [ln_, eqF, nI_clamp, vpT, ar_t, ar_f, it_t, it_f, true_and, and_true, not_true_eq_false, not_false_eq_true, implies_true, and_self, eq_self, wi_c, wi_u, upd_s, upd_n, su_r, su_c, h13, h36]
theorem rb_129 (h : rBd B n e a s) (h36 : s 60 36 = nI br) (hb : br < 130 * sd + 130) (hsd : sd ≤ 1) : ∃ s', f_X12_tellLaw_129 fu x1 x2 s l = (s', l) ∧ p_X12_tellLaw_129 fu x1 x2 s l ∧ rBd B n e a s' ∧ rFl sd br M s s' := by
  obtain ⟨s', g1, g2, g3, g4, g5⟩ := rb_term (fu := fu) (l := l) (M := M) (s := wi s 84 br (nI 0)) (rBd_w h (by omega)) (by simp (disch := omega) only [wi_c, wi_u, upd_s, upd_n, su_r, su_c]; exact h36) hb hsd
  obtain ⟨m1, m2⟩ := r_mustB (fu := fu) (x := nI 4) (l := l) g3
  obtain ⟨h13, e1, e2⟩ := rBd_13 g3
  refine ⟨s', ?_, ?_, g3, rFl_tr (rFl_w (by omega) (by omega) (Nat.le_refl br) hb) (Nat.le_refl br) (Nat.le_refl M) g5⟩
  · unfold f_X12_tellLaw_129 f_X12_tellLaw_143 f_X12_tellLaw_148
    simp (disch := omega) only [ln_, leF, nI_clamp, nar0, ar_t, ar_f, it_t, it_f, true_and, and_true, not_true_eq_false, not_false_eq_true, implies_true, and_self, eq_self, h36, g1, m1, h13]
  · unfold p_X12_tellLaw_129 p_X12_tellLaw_143 p_X12_tellLaw_148
    simp (disch := omega) only [ln_, leF, nI_clamp, vpT, nar0, ar_t, ar_f, it_t, it_f, true_and, and_true, not_true_eq_false, not_false_eq_true, implies_true, and_self, eq_self, h36, g1, g2, m1, m2, h13]
theorem rb_12 (h : rBd B n e a s) (h36 : s 60 36 = nI br) (hb : br < 130 * sd + 130) (hsd : sd ≤ 1) (hf : 1 ≤ f) : ∃ s', f_X12_tellLaw_12 fu f x1 x2 x3 s l = (s', l) ∧ p_X12_tellLaw_12 fu f x1 x2 x3 s l ∧ rBd B n e a s' ∧ rFl sd br M s s' := by
  obtain ⟨f, rfl⟩ : ∃ f', f = f' + 1 := ⟨f - 1, by omega⟩
  obtain ⟨s', g1, g2, g3, g4⟩ := rb_129 (fu := fu) (l := l) (M := M) (x1 := x1) (x2 := x2) h h36 hb hsd
  obtain ⟨h13, e1, e2⟩ := rBd_13 h
  refine ⟨s', ?_, ?_, g3, g4⟩
  · unfold f_X12_tellLaw_12
    simp (disch := omega) only [ln_, eqF, ar_t, ar_f, it_t, it_f, true_and, and_true, not_true_eq_false, not_false_eq_true, implies_true, and_self, eq_self, h13, g1]
  · unfold p_X12_tellLaw_12
    simp (disch := omega) only [ln_, eqF, ar_t, ar_f, it_t, it_f, true_and, and_true, not_true_eq_false, not_false_eq_true, implies_true, and_self, eq_self, h13, g2]
theorem rb_120 (h : rBd B n e a s) (h36 : s 60 36 = nI br) (hb : br < 130 * sd + 130) (hsd : sd ≤ 1) (hf : 1 ≤ f) : ∃ s', f_X12_tellLaw_120 fu (fun x1 x2 x3 s l => f_X12_tellLaw_12 fu f x1 x2 x3 s l) x1 x2 x3 s l = (s', l) ∧ p_X12_tellLaw_120 fu (fun x1 x2 x3 s l => p_X12_tellLaw_12 fu f x1 x2 x3 s l) x1 x2 x3 s l ∧ rBd B n e a s' ∧ rFl sd br M s s' := by
  obtain ⟨s', g1, g2, g3, g4⟩ := rb_12 (fu := fu) (l := l) (M := M) (x1 := x1) (x2 := x2) (x3 := x3) (f := f) h h36 hb hsd hf
  obtain ⟨m1, m2⟩ := r_mustB (fu := fu) (x := nI 31) (l := l) h
  refine ⟨s', ?_, ?_, g3, g4⟩
  · unfold f_X12_tellLaw_120 f_X12_tellLaw_126
    simp (disch := omega) only [ln_, m1, g1]
  · unfold p_X12_tellLaw_120 p_X12_tellLaw_126
    simp (disch := omega) only [ln_, m1, m2, g2, ar_t, ar_f, it_t, it_f, true_and, and_true, not_true_eq_false, not_false_eq_true, implies_true, and_self, eq_self]
theorem rb_116 (h : rBd B n e a s) (h36 : s 60 36 = nI br) (hb : br + 1 < 130 * sd + 130) (hsd : sd ≤ 1) (hf : 1 ≤ f) : ∃ s', f_X12_tellLaw_116 fu (fun x1 x2 x3 s l => f_X12_tellLaw_12 fu f x1 x2 x3 s l) x1 x2 x3 s l = (s', l) ∧ p_X12_tellLaw_116 fu (fun x1 x2 x3 s l => p_X12_tellLaw_12 fu f x1 x2 x3 s l) x1 x2 x3 s l ∧ rBd B n e a s' ∧ rFl sd br M s s' := by
  obtain ⟨s1, t1, t2, t3, t4, t5⟩ := rb_term (fu := fu) (l := l) (M := M) h h36 (by omega) hsd
  obtain ⟨s', g1, g2, g3, g4⟩ := rb_120 (fu := fu) (l := l) (M := M) (x1 := x1) (x2 := x2) (x3 := x3) (f := f) t3 t4 hb hsd hf
  refine ⟨s', ?_, ?_, g3, rFl_tr t5 (by omega) (Nat.le_refl M) g4⟩
  · unfold f_X12_tellLaw_116
    rw [t1]; exact g1
  · unfold p_X12_tellLaw_116
    rw [t1]; exact ⟨t2, g2⟩
theorem rb_110 (h : rBd B n e a s) (h36 : s 60 36 = nI br) (hb : br + 1 < 130 * sd + 130) (hsd : sd ≤ 1) (hf : 1 ≤ f) : ∃ s', f_X12_tellLaw_110 fu (fun x1 x2 x3 s l => f_X12_tellLaw_12 fu f x1 x2 x3 s l) x1 x2 x3 s l = (s', l) ∧ p_X12_tellLaw_110 fu (fun x1 x2 x3 s l => p_X12_tellLaw_12 fu f x1 x2 x3 s l) x1 x2 x3 s l ∧ rBd B n e a s' ∧ rFl sd br M s s' := by
  obtain ⟨s', g1, g2, g3, g4⟩ := rb_116 (fu := fu) (l := l) (M := M) (x1 := x1) (x2 := x2) (x3 := x3) (f := f) h h36 hb hsd hf
  obtain ⟨m1, m2⟩ := r_mustB (fu := fu) (x := nI 30) (l := l) h
  refine ⟨s', ?_, ?_, g3, g4⟩
  · unfold f_X12_tellLaw_110
    simp (disch := omega) only [ln_, m1, g1]
  · unfold p_X12_tellLaw_110
    simp (disch := omega) only [ln_, m1, m2, g2, ar_t, ar_f, it_t, it_f, true_and, and_true, not_true_eq_false, not_false_eq_true, implies_true, and_self, eq_self]
theorem rb_86 (h : rBd B n e a s) (h36 : s 60 36 = nI br) (hb : br + 1 < 130 * sd + 130) (hsd : sd ≤ 1) (hf : 1 ≤ f) : ∃ s', f_X12_tellLaw_86 fu (fun x1 x2 x3 s l => f_X12_tellLaw_12 fu f x1 x2 x3 s l) x1 x2 x3 s l = (s', l) ∧ p_X12_tellLaw_86 fu (fun x1 x2 x3 s l => p_X12_tellLaw_12 fu f x1 x2 x3 s l) x1 x2 x3 s l ∧ rBd B n e a s' ∧ rFl sd br M s s' := by
  obtain ⟨h13, e1, e2⟩ := rBd_13 h
  obtain ⟨s', g1, g2, g3, g4⟩ := rb_110 (fu := fu) (l := l) (M := M) (x1 := x1) (x2 := x2) (x3 := x3) (f := f) (s := wi s 86 br (s 60 42)) (rBd_w h (by omega)) (by simp (disch := omega) only [wi_c, wi_u, upd_s, upd_n, su_r, su_c]; exact h36) hb hsd hf
  refine ⟨s', ?_, ?_, g3, rFl_tr (rFl_w (by omega) (by omega) (Nat.le_refl br) (by omega)) (Nat.le_refl br) (Nat.le_refl M) g4⟩
  · unfold f_X12_tellLaw_86
    simp (disch := omega) only [ln_, eqF, nI_clamp, ar_t, ar_f, it_t, it_f, true_and, and_true, not_true_eq_false, not_false_eq_true, implies_true, and_self, eq_self, wi_c, wi_u, upd_s, upd_n, su_r, su_c, h13, h36, g1]
  · unfold p_X12_tellLaw_86
    simp (disch := omega) only [ln_, eqF, nI_clamp, vpT, ar_t, ar_f, it_t, it_f, true_and, and_true, not_true_eq_false, not_false_eq_true, implies_true, and_self, eq_self, wi_c, wi_u, upd_s, upd_n, su_r, su_c, h13, h36, g2]
theorem rb_80 (h : rBd B n e a s) (h36 : s 60 36 = nI br) (hb : br + 1 < 130 * sd + 130) (hsd : sd ≤ 1) (hf : 1 ≤ f) : ∃ s', f_X12_tellLaw_80 fu (fun x1 x2 x3 s l => f_X12_tellLaw_12 fu f x1 x2 x3 s l) x1 x2 x3 s l = (s', l) ∧ p_X12_tellLaw_80 fu (fun x1 x2 x3 s l => p_X12_tellLaw_12 fu f x1 x2 x3 s l) x1 x2 x3 s l ∧ rBd B n e a s' ∧ rFl sd br M s s' := by
  obtain ⟨s', g1, g2, g3, g4⟩ := rb_86 (fu := fu) (l := l) (M := M) (x1 := x1) (x2 := x2) (x3 := x3) (f := f) h h36 hb hsd hf
  obtain ⟨m1, m2⟩ := r_mustB (fu := fu) (x := nI 13) (l := l) h
  refine ⟨s', ?_, ?_, g3, g4⟩
  · unfold f_X12_tellLaw_80
    simp (disch := omega) only [ln_, m1, g1]
  · unfold p_X12_tellLaw_80
    simp (disch := omega) only [ln_, m1, m2, g2, ar_t, ar_f, it_t, it_f, true_and, and_true, not_true_eq_false, not_false_eq_true, implies_true, and_self, eq_self]
theorem rb_expr (hfu : 20000 ≤ fu) (h : rBd B n e a s) (h12 : s 60 12 = nI 0) : ∃ s', f_X12_expression fu s l = (s', l) ∧ p_X12_expression fu s l ∧ rBd B n e a s' ∧ s' 60 36 = s 60 36 ∧ rFl sd br M s s' := by
  have b2 : rBd B n e a (wi s 60 46 (nI 0)) := by
    obtain ⟨h1, h2, h3, k, h4, h5⟩ := h
    exact ⟨h1, by simp (disch := omega) only [wi_c, wi_u, upd_s, upd_n, su_r, su_c]; exact h2, by simp (disch := omega) only [wi_c, wi_u, upd_s, upd_n, su_r, su_c]; exact h3, k, h4, by simp (disch := omega) only [wi_c, wi_u, upd_s, upd_n, su_r, su_c]; exact h5⟩
  have k12 : wi s 60 46 (nI 0) 60 12 = nI 0 := by simp (disch := omega) only [wi_c, wi_u, upd_s, upd_n, su_r, su_c]; exact h12
  obtain ⟨x1, x2⟩ := x_goB (fu := fu) (n1 := fu) (l := l) (by omega) b2
  refine ⟨wi s 60 46 (nI 0), ?_, ?_, b2, by simp (disch := omega) only [wi_c, wi_u, upd_s, upd_n, su_r, su_c], ⟨fun r a b c => wi_c a, fun r i a b => by rw [wi_c (by omega)], fun r i a b c => by rw [wi_c (by omega)], fun r i a b c => by rw [wi_c (by omega)], fun i _ _ _ _ _ _ h => by rw [wi_u, upd_n h]⟩⟩
  · unfold f_X12_expression
    show f_X12_expression_12 fu fu (wi s 60 46 (nI 0) 60 12) (nI 1) (wi s 60 46 (nI 0)) l = _
    rw [k12]; exact x1
  · unfold p_X12_expression
    show p_X12_expression_12 fu fu (wi s 60 46 (nI 0) 60 12) (nI 1) (wi s 60 46 (nI 0)) l
    rw [k12]; exact x2
/-! as the class -/
theorem rk_q (h : rTk B n s l) (hb : 20 ≤ b) (hb2 : b < 100) : rk (tK B n k) = b ↔ tK B n k = b + 236 := by
  obtain ⟨_, _, _, _, _, _, _, _, _, _, _, _, r1, r2, r3⟩ := rkF h k
  constructor
  · intro e
    have h1 := r1.mp (by omega)
    have h2 := r2 h1
    omega
  · intro e
    have := r2 (by omega)
    omega
theorem rM (h : rQ B n sd k M br s l) (hc : 2 ≤ c) (hx : rk (tK B n k) = b ↔ tK B n k = c) (hb : b < 1000) (hE : tkE (tK B n) c k = (e, a)) : ∃ s', f_X12_must fu (nI b) s l = (s', l) ∧ p_X12_must fu (nI b) s l ∧ rPf s s' ∧ (e = 0 → rQ B n sd a M br s' l) ∧ (e ≠ 0 → rBd B n e a s') ∧ s' 60 36 = nI br := by
  obtain ⟨s', g1, g2, g3, g4, g5⟩ := r_must (fu := fu) h.1 hc hx hb hE
  exact ⟨s', g1, g2, g3, fun h0 => ⟨g4 h0, by rw [g3.2 42 (by omega) (by omega) (by omega)]; exact h.2.1, by rw [g3.2 12 (by omega) (by omega) (by omega)]; exact h.2.2.1, by rw [g3.2 36 (by omega) (by omega) (by omega)]; exact h.2.2.2.1, by rw [g3.2 19 (by omega) (by omega) (by omega)]; exact h.2.2.2.2⟩, g5, by rw [g3.2 36 (by omega) (by omega) (by omega)]; exact h.2.2.2.1⟩
theorem rXp (hfu : 20000 ≤ fu) (hsd : sd ≤ 1) (hD : eD (tK B n) (tV B n) 4 0 k e a C) (h : rQ B n sd k M br s l) (hM : M ≤ 420 * sd + k) :
    (e = 0 → ∃ s', f_X12_expression fu s l = (s', l) ∧ p_X12_expression fu s l ∧ rQ B n sd a (M + C.length) br s' l ∧ rFl sd br M s s' ∧ rds s' M C ∧ M + C.length ≤ 420 * sd + a ∧ ∀ q, 82 ≤ q → q ≤ 88 → s' q = s q) ∧ (e ≠ 0 → ∃ s', f_X12_expression fu s l = (s', l) ∧ p_X12_expression fu s l ∧ rBd B n e a s' ∧ s' 60 36 = nI br ∧ rFl sd br M s s') := by
  obtain ⟨⟨h1, h2, h3, h4⟩, h5, h6, h7, h8⟩ := h
  obtain ⟨x1, x2⟩ := r_expr (fu := fu) (b0 := 420 * sd) hfu (by omega) hD h1 h2 h3 h4 h5 h6 hM
  refine ⟨fun e0 => ?_, fun e0 => ?_⟩
  · obtain ⟨s', g1, g2, g3, g4, g5, g6⟩ := x1 e0
    have hk := g3.2.1.1
    exact ⟨s', g1, g2, ⟨rPt_at g3, g3.2.2.2.2.1, g3.2.2.2.2.2.1, by rw [g4.2 36 (by omega) (by omega) (by omega) (by omega) (by omega) (by omega)]; exact h7, by rw [g4.2 19 (by omega) (by omega) (by omega) (by omega) (by omega) (by omega)]; exact h8⟩, rFl_E g4 g5 (by omega), g5.2, g6, fun q a b => g4.1 q (by omega) (by omega) (by omega) (by omega)⟩
  · obtain ⟨s', C0, g1, g2, g3, g4, g5, g6⟩ := x2 e0
    exact ⟨s', g1, g2, g3, by rw [g4.2 36 (by omega) (by omega) (by omega) (by omega) (by omega) (by omega)]; exact h7, rFl_E g4 g5 (by omega)⟩
/-- a term -/
theorem rTm (hfu : 20000 ≤ fu) (hsd : sd ≤ 1) (hD : eD (tK B n) (tV B n) 4 0 k e a C) (h : rQ B n sd k M br s l) (hM : M ≤ 420 * sd + k) (hb : br < 130 * sd + 130) :
    (e = 0 → ∃ s', f_X12_term fu s l = (s', l) ∧ p_X12_term fu s l ∧ rQ B n sd a (M + C.length) (br + 1) s' l ∧ rFl sd br M s s' ∧ rds s' M C ∧ M + C.length ≤ 420 * sd + a ∧ s' 87 br = nI M ∧ s' 88 br = nI (M + C.length) ∧ ∀ q, 82 ≤ q → q ≤ 86 → s' q = s q) ∧ (e ≠ 0 → ∃ s', f_X12_term fu s l = (s', l) ∧ p_X12_term fu s l ∧ rBd B n e a s' ∧ s' 60 36 = nI (br + 1) ∧ rFl sd br M s s') := by
  have w : rFl sd br M s (wi s 87 br (nI M)) := rFl_w (by omega) (by omega) (Nat.le_refl br) hb
  have q' : rQ B n sd k M br (wi s 87 br (nI M)) l := by
    obtain ⟨⟨h1, h2, h3, h4⟩, h5, h6, h7, h8⟩ := h
    exact ⟨⟨rTk_l w h1, h2, by simp (disch := omega) only [wi_c, wi_u, upd_s, upd_n, su_r, su_c]; exact h3, by simp (disch := omega) only [wi_c, wi_u, upd_s, upd_n, su_r, su_c]; exact h4⟩, by simp (disch := omega) only [wi_c, wi_u, upd_s, upd_n, su_r, su_c]; exact h5, by simp (disch := omega) only [wi_c, wi_u, upd_s, upd_n, su_r, su_c]; exact h6, by simp (disch := omega) only [wi_c, wi_u, upd_s, upd_n, su_r, su_c]; exact h7, by simp (disch := omega) only [wi_c, wi_u, upd_s, upd_n, su_r, su_c]; exact h8⟩
  obtain ⟨⟨_, _, _, h13⟩, h42, _, h36, _⟩ := h
  obtain ⟨x1, x2⟩ := rXp (fu := fu) hfu hsd hD q' hM
  refine ⟨fun e0 => ?_, fun e0 => ?_⟩
  · obtain ⟨s1, g1, g2, g3, g4, g5, g6, g7⟩ := x1 e0
    have k36 := g3.2.2.2.1
    have k42 := g3.2.1
    have hk := g3.1.2.1.1
    have w2 : rFl sd br M s1 (wi (wi s1 88 br (nI (M + C.length))) 60 36 (nI (br + 1))) := rFl_tr (rFl_w (by omega) (by omega) (Nat.le_refl br) hb) (Nat.le_refl br) (Nat.le_refl M) rFl_36
    refine ⟨wi (wi s1 88 br (nI (M + C.length))) 60 36 (nI (br + 1)), ?_, ?_, ?_, rFl_tr (rFl_tr w (Nat.le_refl br) (Nat.le_refl M) g4) (Nat.le_refl br) (Nat.le_refl M) w2, ?_, g6, ?_, ?_, fun q a b => ?_⟩
    · unfold f_X12_term
      simp (disch := omega) only [ln_, nI_clamp, nI_add, ar_t, ar_f, it_t, it_f, true_and, and_true, not_true_eq_false, not_false_eq_true, implies_true, and_self, eq_self, wi_c, wi_u, upd_s, upd_n, su_r, su_c, h13, h36, h42, g1, k36, k42]
    · unfold p_X12_term
      simp (disch := omega) only [ln_, nI_clamp, vpT, ar_t, ar_f, it_t, it_f, true_and, and_true, not_true_eq_false, not_false_eq_true, implies_true, and_self, eq_self, wi_c, wi_u, upd_s, upd_n, su_r, su_c, h13, h36, h42, g1, g2, k36, k42]
    · obtain ⟨⟨h1, h2, h3, h4⟩, h5, h6, h7, h8⟩ := g3
      exact ⟨⟨rTk_l w2 h1, h2, by simp (disch := omega) only [wi_c, wi_u, upd_s, upd_n, su_r, su_c]; exact h3, by simp (disch := omega) only [wi_c, wi_u, upd_s, upd_n, su_r, su_c]; exact h4⟩, by simp (disch := omega) only [wi_c, wi_u, upd_s, upd_n, su_r, su_c]; exact h5, by simp (disch := omega) only [wi_c, wi_u, upd_s, upd_n, su_r, su_c]; exact h6, by simp (disch := omega) only [wi_c, wi_u, upd_s, upd_n, su_r, su_c], by simp (disch := omega) only [wi_c, wi_u, upd_s, upd_n, su_r, su_c]; exact h8⟩
    · unfold rds; simp (disch := omega) only [wi_c]; exact g5
    · simp (disch := omega) only [wi_c, wi_u, upd_s, upd_n, su_r, su_c]
      rw [g7 87 (by omega) (by omega), wi_u, upd_s]
    · simp (disch := omega) only [wi_c, wi_u, upd_s, upd_n, su_r, su_c]
    · simp (disch := omega) only [wi_c, wi_u, upd_s, upd_n, su_r, su_c]
      rw [g7 q (by omega) (by omega), wi_c (by omega)]
  · obtain ⟨s1, g1, g2, g3, g4, g5⟩ := x2 e0
    have w2 : rFl sd br M s1 (wi (wi s1 88 br (s1 60 42)) 60 36 (nI (br + 1))) := rFl_tr (rFl_w (by omega) (by omega) (Nat.le_refl br) hb) (Nat.le_refl br) (Nat.le_refl M) rFl_36
    refine ⟨wi (wi s1 88 br (s1 60 42)) 60 36 (nI (br + 1)), ?_, ?_, rBd_36 (rBd_w g3 (by omega)), by simp (disch := omega) only [wi_c, wi_u, upd_s, upd_n, su_r, su_c], rFl_tr (rFl_tr w (Nat.le_refl br) (Nat.le_refl M) g5) (Nat.le_refl br) (Nat.le_refl M) w2⟩
    · unfold f_X12_term
      simp (disch := omega) only [ln_, nI_clamp, nI_add, ar_t, ar_f, it_t, it_f, true_and, and_true, not_true_eq_false, not_false_eq_true, implies_true, and_self, eq_self, wi_c, wi_u, upd_s, upd_n, su_r, su_c, h13, h36, h42, g1, g4]
    · unfold p_X12_term
      simp (disch := omega) only [ln_, nI_clamp, vpT, ar_t, ar_f, it_t, it_f, true_and, and_true, not_true_eq_false, not_false_eq_true, implies_true, and_self, eq_self, wi_c, wi_u, upd_s, upd_n, su_r, su_c, h13, h36, h42, g1, g2, g4]
end rlw2
