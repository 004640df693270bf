/-! The reference: ) and the end of an expression -/
/-- a stack that comes out to W0 -/
def stO (W : List Nat) : Prop := ∃ W0 R0 : List Nat, W = W0 ++ R0.reverse ∧ (W0.length = 0 ∨ W0.getD (W0.length - 1) 0 = 6) ∧ ∀ y ∈ R0, y = 10 ∨ y = 15 ∨ (y = 8 ∨ y = 9)
section rex6
variable {B T V : Nat → Nat} {a b c e i j k m n o p q r t w e1 a1 k1 f h en v : Nat} {s s1 s2 : fl_I} {l l1 : fl_L} {fu : Nat} {x y z : Int32} {C C1 C2 W Q R : List Nat} {K : Int32 → Int32 → fl_I → fl_L → fl_I × fl_L} {PK : Int32 → Int32 → fl_I → fl_L → Prop}
theorem r_outB (hfu : 20000 ≤ fu) (h : rBd B n e a s) (hs : rSk W s) (h5 : s 60 42 = nI m) (hW : stO W) (hm : m + W.length ≤ 840) (hl : W.length ≤ 64) :
    ∃ s' C0, f_X12_comesOut fu (nI 0) s l = (s', l) ∧ p_X12_comesOut fu (nI 0) s l ∧ rBd B n e a s' ∧ rEf s s' ∧ rCd m C0 s s' ∧ C0.length ≤ W.length := by
  obtain ⟨W0, R0, rfl, hW0, hR0⟩ := hW
  rw [List.length_append, List.length_reverse] at hm hl
  obtain ⟨s', g1, g2, g3, g4, g5, g6, g7⟩ := r_out (fu := fu) (l := l) (x := nI 0) (W := W0) (.inl rfl) (by omega) R0 fu m s (fun y hy => by have := hR0 y hy; simp only [true_and]; exact this) (by omega) hs h5 (by omega) hl
  refine ⟨s', R0.map wO, g1, g2, ?_, ⟨fun q a b c d => g6 q a b c, fun j a b c d e f => g7 j e f⟩, g5, by rw [List.length_map, List.length_append, List.length_reverse]; omega⟩
  obtain ⟨he, h13, h14, k, hk, h11⟩ := h
  exact ⟨he, by rw [g7 13 (by omega) (by omega)]; exact h13, by rw [g7 14 (by omega) (by omega)]; exact h14, k, hk, by rw [g7 11 (by omega) (by omega)]; exact h11⟩
/-- behind an operand, when a fault is told -/
theorem r_endB (hfu : 20000 ≤ fu) (h : rBd B n e a s) (hs : rSk W s) (h5 : s 60 42 = nI m) (hW : stO W) (hm : m + W.length ≤ 840) (hl : W.length ≤ 64) :
    ∃ s' C0, f_X12_expression_96 fu K (f + 1) x s l = (s', l) ∧ p_X12_expression_96 fu PK (f + 1) x s l ∧ rBd B n e a s' ∧ rEf s s' ∧ rCd m C0 s s' ∧ C0.length ≤ W.length := by
  obtain ⟨s', C0, g1, g2, g3⟩ := r_outB (fu := fu) (l := l) hfu h hs h5 hW hm hl
  have is := fun c => r_isB (fu := fu) (x := c) (l := l) h
  have fl := r_failB (fu := fu) (x := nI 1) (l := l) h
  refine ⟨s', C0, ?_, ?_, g3⟩
  · rw [f_X12_expression_96]; unfold f_X12_expression_145 f_X12_expression_204 f_X12_expression_209
    by_cases e : s 60 12 ≤ x <;> simp (disch := omega) only [ln_, eqT, ar_t, ar_f, it_t, it_f, true_and, and_true, not_true_eq_false, not_false_eq_true, implies_true, and_self, eq_self, is, fl, g1, e]
  · rw [p_X12_expression_96]; unfold p_X12_expression_145 p_X12_expression_204 p_X12_expression_209
    by_cases e : s 60 12 ≤ x <;> simp (disch := omega) only [ln_, eqT, ar_t, ar_f, it_t, it_f, true_and, and_true, not_true_eq_false, not_false_eq_true, implies_true, and_self, eq_self, is, fl, g1, g2, e]
theorem r_noop (h : rAt B n k m o W s l) (hT : ¬ (tK B n k = 42 ∨ tK B n k = 47 ∨ tK B n k = 43 ∨ tK B n k = 45)) : (f_X12_is fu (nI 8) s l = nI 0 ∧ p_X12_is fu (nI 8) s l) ∧ (f_X12_is fu (nI 9) s l = nI 0 ∧ p_X12_is fu (nI 9) s l) ∧ (f_X12_is fu (nI 10) s l = nI 0 ∧ p_X12_is fu (nI 10) s l) ∧ (f_X12_is fu (nI 15) s l = nI 0 ∧ p_X12_is fu (nI 15) s l) := by
  have hF := rkF h.1 k
  exact ⟨r_isF h (fun e => hT (by have := hF.2.2.1.mp e; omega)) (by omega), r_isF h (fun e => hT (by have := hF.2.2.2.1.mp e; omega)) (by omega), r_isF h (fun e => hT (by have := hF.2.2.2.2.1.mp e; omega)) (by omega), r_isF h (fun e => hT (by have := hF.2.2.2.2.2.1.mp e; omega)) (by omega)⟩
/-- the end, nothing open -/
theorem r_end (hfu : 20000 ≤ fu) (h : rAt B n k m 0 R.reverse s l) (hT : ¬ (tK B n k = 42 ∨ tK B n k = 47 ∨ tK B n k = 43 ∨ tK B n k = 45)) (hR : ∀ z ∈ R, z = 10 ∨ z = 15 ∨ (z = 8 ∨ z = 9)) (hm : m + R.length ≤ 840) (hl : R.length < 64) :
    ∃ s', f_X12_expression_96 fu K (f + 1) (nI 0) s l = (s', l) ∧ p_X12_expression_96 fu PK (f + 1) (nI 0) s l ∧ rAt B n k (m + R.length) 0 [] s' l ∧ rEf s s' ∧ rCd m (R.map wO) s s' := by
  obtain ⟨s', o1, o2, o3⟩ := r_outAt (fu := fu) (x := nI 0) (W := []) (R := R) hfu h (.inl rfl) (.inl rfl) (fun y hy => by have := hR y hy; simp only [true_and]; exact this) hm (by show 0 + R.length ≤ 64; omega)
  obtain ⟨⟨i1, i2⟩, ⟨i3, i4⟩, ⟨i5, i6⟩, i7, i8⟩ := r_noop (fu := fu) h hT
  have h12 := h.2.2.2.2.2.1
  have is7 := (r_is (fu := fu) (c := 7) h).resolve_right (by omega)
  refine ⟨s', ?_, ?_, o3⟩
  · rw [f_X12_expression_96]; unfold f_X12_expression_145 f_X12_expression_204 f_X12_expression_209
    by_cases e : rk (tK B n k) = 7
    · rw [if_pos e] at is7; simp (disch := omega) only [ln_, eqT, eqF, leT, ar_t, ar_f, it_t, it_f, true_and, and_true, not_true_eq_false, not_false_eq_true, implies_true, and_self, eq_self, is7, i1, i3, i5, i7, o1, h12]
    · rw [if_neg e] at is7; simp (disch := omega) only [ln_, eqT, eqF, leT, ar_t, ar_f, it_t, it_f, true_and, and_true, not_true_eq_false, not_false_eq_true, implies_true, and_self, eq_self, is7, i1, i3, i5, i7, o1, h12]
  · rw [p_X12_expression_96]; unfold p_X12_expression_145 p_X12_expression_204 p_X12_expression_209
    by_cases e : rk (tK B n k) = 7
    · rw [if_pos e] at is7; simp (disch := omega) only [ln_, eqT, eqF, leT, ar_t, ar_f, it_t, it_f, true_and, and_true, not_true_eq_false, not_false_eq_true, implies_true, and_self, eq_self, is7, i1, i2, i3, i4, i5, i6, i7, i8, o1, o2, h12]
    · rw [if_neg e] at is7; simp (disch := omega) only [ln_, eqT, eqF, leT, ar_t, ar_f, it_t, it_f, true_and, and_true, not_true_eq_false, not_false_eq_true, implies_true, and_self, eq_self, is7, i1, i2, i3, i4, i5, i6, i7, i8, o1, o2, h12]
/-- no ) where one is asked for -/
theorem r_endO (hfu : 20000 ≤ fu) (h : rAt B n k m o W s l) (ho : 0 < o) (ho2 : o ≤ 7) (hT : ¬ (tK B n k = 42 ∨ tK B n k = 47 ∨ tK B n k = 43 ∨ tK B n k = 45)) (h41 : tK B n k ≠ 41) (hW : stO W) (hm : m + W.length ≤ 840) (hl : W.length ≤ 64) :
    ∃ s' C0, f_X12_expression_96 fu K (f + 1) (nI 0) s l = (s', l) ∧ p_X12_expression_96 fu PK (f + 1) (nI 0) s l ∧ rBd B n 1 k s' ∧ rEf s s' ∧ rCd m C0 s s' ∧ C0.length ≤ W.length := by
  have hF := rkF h.1 k
  obtain ⟨j1, j2⟩ := r_isF (fu := fu) (c := 7) h (fun e => h41 (hF.2.1.mp e)) (by omega)
  obtain ⟨⟨i1, i2⟩, ⟨i3, i4⟩, ⟨i5, i6⟩, i7, i8⟩ := r_noop (fu := fu) h hT
  have h12 := h.2.2.2.2.2.1
  obtain ⟨s1, g1, g2, g3, g4, g5, g6, g7, g8, g9⟩ := r_fail (fu := fu) (e := 1) h (.inl rfl)
  obtain ⟨s', C0, o1, o2, o3, o4, o5, o6⟩ := r_outB (fu := fu) (l := l) hfu g3 g6 g4 hW hm hl
  refine ⟨s', C0, ?_, ?_, o3, rEf_tr g7 o4, ?_, o6⟩
  · rw [f_X12_expression_96]; unfold f_X12_expression_145 f_X12_expression_204 f_X12_expression_209
    simp (disch := omega) only [ln_, eqT, eqF, leF, ar_t, ar_f, it_t, it_f, true_and, and_true, not_true_eq_false, not_false_eq_true, implies_true, and_self, eq_self, j1, i1, i3, i5, i7, g1, o1, h12]
  · rw [p_X12_expression_96]; unfold p_X12_expression_145 p_X12_expression_204 p_X12_expression_209
    simp (disch := omega) only [ln_, eqT, eqF, leF, ar_t, ar_f, it_t, it_f, true_and, and_true, not_true_eq_false, not_false_eq_true, implies_true, and_self, eq_self, j1, j2, i1, i2, i3, i4, i5, i6, i7, i8, g1, g2, o1, o2, h12]
  · unfold rCd at *; rw [g8, g9] at o5; exact o5
/-- ) -/
theorem r_close (hfu : 20000 ≤ fu) (h : rAt B n k m (o + 1) (W ++ [6] ++ R.reverse) s l) (ho : o ≤ 6) (hT : tK B n k = 41) (hW : stO W) (hR : ∀ z ∈ R, z = 10 ∨ z = 15 ∨ (z = 8 ∨ z = 9)) (hm : m + R.length + W.length ≤ 840) (hl : W.length + R.length < 63) :
    (k < 400 ∧ ∃ s', f_X12_expression_96 fu K (f + 1) (nI 0) s l = f_X12_expression_96 fu K f (nI 0) s' l ∧ (p_X12_expression_96 fu PK f (nI 0) s' l → p_X12_expression_96 fu PK (f + 1) (nI 0) s l) ∧ rAt B n (k + 1) (m + R.length) o W s' l ∧ rEf s s' ∧ rCd m (R.map wO) s s') ∨
    (k = 400 ∧ ∃ s' C0, f_X12_expression_96 fu K (f + 1 + 1) (nI 0) s l = (s', l) ∧ p_X12_expression_96 fu PK (f + 1 + 1) (nI 0) s l ∧ rBd B n 2 k s' ∧ rEf s s' ∧ rCd m C0 s s' ∧ C0.length ≤ R.length + W.length) := by
  have hF := rkF h.1 k
  obtain ⟨j1, j2⟩ := r_isT (fu := fu) (c := 7) h (hF.2.1.mpr hT)
  have h12 := h.2.2.2.2.2.1
  have hlW : (W ++ [6]).length = W.length + 1 := by rw [List.length_append, List.length_singleton]
  obtain ⟨s1, o1, o2, o3, o4, o5⟩ := r_outAt (fu := fu) (x := nI 0) (W := W ++ [6]) (R := R) hfu h (.inl rfl) (.inr (.inl (by rw [hlW, Nat.add_sub_cancel]; exact getD_e))) (fun y hy => by have := hR y hy; simp only [true_and]; exact this) (by omega) (by omega)
  have k46 := o3.2.2.2.2.2.2.1
  rw [hlW] at k46
  have k12 := o3.2.2.2.2.2.1
  have f2 : rEf s1 (wi (wi s1 60 46 (nI W.length)) 60 12 (nI o)) := ⟨fun q a b c d => by simp (disch := omega) only [wi_c, wi_u, upd_s, upd_n, su_r, su_c], fun j a b c d e f => by simp (disch := omega) only [wi_c, wi_u, upd_s, upd_n, su_r, su_c]⟩
  have a2 : rAt B n k (m + R.length) o W (wi (wi s1 60 46 (nI W.length)) 60 12 (nI o)) l := by
    obtain ⟨h1, h2, h3, h4, h5, h6, h7⟩ := o3
    exact ⟨rTk_keep f2 h1, h2, by simp (disch := omega) only [wi_c, wi_u, upd_s, upd_n, su_r, su_c]; exact h3, by simp (disch := omega) only [wi_c, wi_u, upd_s, upd_n, su_r, su_c]; exact h4, by simp (disch := omega) only [wi_c, wi_u, upd_s, upd_n, su_r, su_c]; exact h5, by simp (disch := omega) only [wi_c, wi_u, upd_s, upd_n, su_r, su_c], ⟨by simp (disch := omega) only [wi_c, wi_u, upd_s, upd_n, su_r, su_c], fun j hj => by simp (disch := omega) only [wi_c, wi_u, upd_s, upd_n, su_r, su_c]; rw [h7.2 j (by omega), getD_l hj]⟩⟩
  rcases r_next (fu := fu) a2 (by omega) with ⟨g0, g1, g2, g3, g4⟩ | ⟨g0, s3, g1, g2, g3, g4, g5, g6, g7, g8, g9⟩
  · refine .inl ⟨g0, _, ?_, fun hp => ?_, g3, rEf_tr (rEf_tr o4 f2) g4, rCd_tr o5 (by simp (disch := omega) only [wi_c, wi_u, upd_s, upd_n, su_r, su_c]) (by simp (disch := omega) only [wi_c, wi_u, upd_s, upd_n, su_r, su_c])⟩
    · rw [f_X12_expression_96]; unfold f_X12_expression_118 f_X12_expression_142
      simp (disch := omega) only [ln_, eqF, leF, pk_sub, ar_t, ar_f, it_t, it_f, true_and, and_true, not_true_eq_false, not_false_eq_true, implies_true, and_self, eq_self, j1, h12, o1, k46, k12, Nat.add_sub_cancel, wi_c, wi_u, upd_s, upd_n, su_r, su_c, g1]
    · rw [p_X12_expression_96]; unfold p_X12_expression_118 p_X12_expression_142
      simp (disch := omega) only [ln_, eqF, leF, pk_sub, ar_t, ar_f, it_t, it_f, true_and, and_true, not_true_eq_false, not_false_eq_true, implies_true, and_self, eq_self, j1, j2, h12, o1, o2, k46, k12, Nat.add_sub_cancel, wi_c, wi_u, upd_s, upd_n, su_r, su_c, g1, g2]
      exact hp
  · obtain ⟨s', C0, u1, u2, u3, u4, u5, u6⟩ := r_endB (fu := fu) (f := f) (x := nI 0) (l := l) (K := K) (PK := PK) hfu g3 g6 g4 hW (by omega) (by omega)
    refine .inr ⟨g0, s', R.map wO ++ C0, ?_, ?_, u3, rEf_tr (rEf_tr (rEf_tr o4 f2) g7) u4, rCd_seq (s1 := s3) (rCd_tr o5 (by rw [g8]; simp (disch := omega) only [wi_c, wi_u, upd_s, upd_n, su_r, su_c]) (by rw [g9]; simp (disch := omega) only [wi_c, wi_u, upd_s, upd_n, su_r, su_c])) (by rw [List.length_map]; exact u5), by rw [List.length_append, List.length_map]; omega⟩
    · rw [f_X12_expression_96]; unfold f_X12_expression_118 f_X12_expression_142
      simp (disch := omega) only [ln_, eqF, leF, pk_sub, ar_t, ar_f, it_t, it_f, true_and, and_true, not_true_eq_false, not_false_eq_true, implies_true, and_self, eq_self, j1, h12, o1, k46, k12, Nat.add_sub_cancel, wi_c, wi_u, upd_s, upd_n, su_r, su_c, g1]
      exact u1
    · rw [p_X12_expression_96]; unfold p_X12_expression_118 p_X12_expression_142
      simp (disch := omega) only [ln_, eqF, leF, pk_sub, ar_t, ar_f, it_t, it_f, true_and, and_true, not_true_eq_false, not_false_eq_true, implies_true, and_self, eq_self, j1, j2, h12, o1, o2, k46, k12, Nat.add_sub_cancel, wi_c, wi_u, upd_s, upd_n, su_r, su_c, g1, g2]
      exact u2
end rex6
