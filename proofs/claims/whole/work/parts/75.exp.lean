/-! The reference: signs, ) and the end -/
section rex5
variable {B T V : Nat → Nat} {a b c e i j k m n o p q r t w e1 a1 k1 f h en v : Nat} {s s1 s2 : fl_I} {l l1 : fl_L} {fu : Nat} {x y z : Int32} {C C1 C2 W Q R : List Nat} {K : Int32 → Int32 → fl_I → fl_L → fl_I × fl_L} {PK : Int32 → Int32 → fl_I → fl_L → Prop}
/-- what waits comes out, all else as it was -/
theorem r_outAt (hfu : 20000 ≤ fu) (h : rAt B n k m o (W ++ R.reverse) s l) (hx : x = nI 0 ∨ x = nI 1) (hW : W.length = 0 ∨ (W.getD (W.length - 1) 0 = 6 ∨ (x = nI 1 ∧ (W.getD (W.length - 1) 0 = 8 ∨ W.getD (W.length - 1) 0 = 9)))) (hR : ∀ y ∈ R, y = 10 ∨ y = 15 ∨ (x = nI 0 ∧ (y = 8 ∨ y = 9))) (hm : m + R.length ≤ 840) (hl : W.length + R.length ≤ 64) :
    ∃ s', f_X12_comesOut fu x s l = (s', l) ∧ p_X12_comesOut fu x s l ∧ rAt B n k (m + R.length) o W s' l ∧ rEf s s' ∧ rCd m (R.map wO) s s' := by
  obtain ⟨h1, h2, h3, h4, h5, h6, h7⟩ := h
  obtain ⟨s', g1, g2, g3, g4, g5, g6, g7⟩ := r_out (fu := fu) (l := l) hx hW R fu m s hR (by omega) h7 h5 hm hl
  have fr : rEf s s' := ⟨fun q a b c d => g6 q a b c, fun j a b c d e f => g7 j e f⟩
  exact ⟨s', g1, g2, ⟨rTk_keep fr h1, h2, by rw [g7 11 (by omega) (by omega)]; exact h3, by rw [g7 13 (by omega) (by omega)]; exact h4, g4, by rw [g7 12 (by omega) (by omega)]; exact h6, g3⟩, fr, g5⟩
/-- a sign of sums or products -/
theorem r_op (hfu : 20000 ≤ fu) (h : rAt B n k m o (W ++ R.reverse) s l) (hT : (tK B n k = 42 ∨ tK B n k = 47) ∧ y = nI 1 ∨ (tK B n k = 43 ∨ tK B n k = 45) ∧ y = nI 0) (hW : W.length = 0 ∨ (W.getD (W.length - 1) 0 = 6 ∨ (y = nI 1 ∧ (W.getD (W.length - 1) 0 = 8 ∨ W.getD (W.length - 1) 0 = 9)))) (hR : ∀ z ∈ R, z = 10 ∨ z = 15 ∨ (y = nI 0 ∧ (z = 8 ∨ z = 9))) (hm : m + R.length ≤ 840) (hl : W.length + R.length < 64) :
    ∃ s', f_X12_expression_96 fu K (f + 1) x s l = K x (nI 1) s' l ∧ (PK x (nI 1) s' l → p_X12_expression_96 fu PK (f + 1) x s l) ∧ rEf s s' ∧ rCd m (R.map wO) s s' ∧ ((k < 400 ∧ rAt B n (k + 1) (m + R.length) o (W ++ [rk (tK B n k)]) s' l) ∨ (k = 400 ∧ rBd B n 2 k s')) := by
  have hF := rkF h.1 k
  have hk := h.2.1.1
  have hy : y = nI 0 ∨ y = nI 1 := by exact hT.elim (fun h => .inr h.2) (fun h => .inl h.2)
  obtain ⟨s1, o1, o2, o3, o4, o5⟩ := r_outAt (fu := fu) hfu h hy hW hR hm (by omega)
  have hT4 : tK B n k = 42 ∨ tK B n k = 47 ∨ tK B n k = 43 ∨ tK B n k = 45 := by omega
  obtain ⟨i1, i2⟩ := r_isF (fu := fu) (c := 7) h (fun e => by have := hF.2.1.mp e; omega) (by omega)
  have h63 := (o3.1.2 k o3.2.1).1
  have h11 := o3.2.2.1
  have h46 := o3.2.2.2.2.2.2.1
  obtain ⟨p1, p2⟩ := r_pushAt (v := rk (tK B n k)) o3
  have vk : vp_in (nI k) 403 = True := vpT (by omega) (by omega)
  have vW : vp_in (nI W.length) 64 = True := vpT (by omega) (by omega)
  -- pushed, and on
  have fin : ∃ s', f_X12_expression_237 fu K x (nI 1) s1 l = K x (nI 1) s' l ∧ (PK x (nI 1) s' l → p_X12_expression_237 fu PK x (nI 1) s1 l) ∧ rEf s s' ∧ rCd m (R.map wO) s s' ∧ ((k < 400 ∧ rAt B n (k + 1) (m + R.length) o (W ++ [rk (tK B n k)]) s' l) ∨ (k = 400 ∧ rBd B n 2 k s')) := by
    rcases r_next (fu := fu) p1 (by omega) with ⟨g0, g1, g2, g3, g4⟩ | ⟨g0, s', g1, g2, g3, g4, g5, g6, g7, g8, g9⟩
    · refine ⟨_, ?_, fun hp => ?_, rEf_tr (rEf_tr o4 p2) g4, rCd_tr o5 (by simp (disch := omega) only [wi_c, wi_u, upd_s, upd_n, su_r, su_c]) (by simp (disch := omega) only [wi_c, wi_u, upd_s, upd_n, su_r, su_c]), .inl ⟨g0, g3⟩⟩
      · unfold f_X12_expression_237 f_X12_expression_269
        simp (disch := omega) only [ln_, nI_clamp, nI_add, h11, h63, h46, wi_c, wi_u, upd_s, upd_n, su_r, su_c, g1]
      · unfold p_X12_expression_237 p_X12_expression_269
        simp (disch := omega) only [ln_, nI_clamp, nI_add, h11, h63, h46, wi_c, wi_u, upd_s, upd_n, su_r, su_c, g1, g2, vk, vW, true_and]; exact hp
    · refine ⟨s', ?_, fun hp => ?_, rEf_tr (rEf_tr o4 p2) g7, rCd_tr o5 (by rw [g8]; simp (disch := omega) only [wi_c, wi_u, upd_s, upd_n, su_r, su_c]) (by rw [g9]; simp (disch := omega) only [wi_c, wi_u, upd_s, upd_n, su_r, su_c]), .inr ⟨g0, g3⟩⟩
      · unfold f_X12_expression_237 f_X12_expression_269
        simp (disch := omega) only [ln_, nI_clamp, nI_add, h11, h63, h46, wi_c, wi_u, upd_s, upd_n, su_r, su_c, g1]
      · unfold p_X12_expression_237 p_X12_expression_269
        simp (disch := omega) only [ln_, nI_clamp, nI_add, h11, h63, h46, wi_c, wi_u, upd_s, upd_n, su_r, su_c, g1, g2, vk, vW, true_and]; exact hp
  obtain ⟨s', q1, q2, q3⟩ := fin
  have is : ∀ c, c < 1000 → (f_X12_is fu (nI c) s l = if rk (tK B n k) = c then nI 1 else nI 0) ∧ p_X12_is fu (nI c) s l := fun c hc => (r_is (fu := fu) (c := c) h).resolve_right (by omega)
  have i8 := is 8 (by omega)
  have i9 := is 9 (by omega)
  have i10 := is 10 (by omega)
  have i15 := is 15 (by omega)
  have e10 : (nI 1 = nI 0) = False := eqF (by omega) (by omega) (by omega)
  refine ⟨s', ?_, fun hp => ?_, q3⟩
  · rw [← q1, f_X12_expression_96]; unfold f_X12_expression_145 f_X12_expression_181
    rcases hT with ⟨hT, rfl⟩ | ⟨hT, rfl⟩ <;> rcases hT with hT | hT
    · have r : rk (tK B n k) = 10 := hF.2.2.2.2.1.mpr hT
      rw [r] at i8 i9 i10 i15; simp (disch := omega) only [Nat.reduceEqDiff, ar_t, ar_f, it_t, it_f, true_and, and_true, not_true_eq_false, not_false_eq_true, implies_true, and_self, eq_self] at i8 i9 i10 i15
      simp (disch := omega) only [ln_, eqF, eqT, ar_t, ar_f, it_t, it_f, true_and, and_true, not_true_eq_false, not_false_eq_true, implies_true, and_self, eq_self, i1, i8, i9, i10, i15, o1]
    · have r : rk (tK B n k) = 15 := hF.2.2.2.2.2.1.mpr hT
      rw [r] at i8 i9 i10 i15; simp (disch := omega) only [Nat.reduceEqDiff, ar_t, ar_f, it_t, it_f, true_and, and_true, not_true_eq_false, not_false_eq_true, implies_true, and_self, eq_self] at i8 i9 i10 i15
      simp (disch := omega) only [ln_, eqF, eqT, ar_t, ar_f, it_t, it_f, true_and, and_true, not_true_eq_false, not_false_eq_true, implies_true, and_self, eq_self, i1, i8, i9, i10, i15, o1]
    · have r : rk (tK B n k) = 8 := hF.2.2.1.mpr hT
      rw [r] at i8 i9 i10 i15; simp (disch := omega) only [Nat.reduceEqDiff, ar_t, ar_f, it_t, it_f, true_and, and_true, not_true_eq_false, not_false_eq_true, implies_true, and_self, eq_self] at i8 i9 i10 i15
      simp (disch := omega) only [ln_, eqF, eqT, ar_t, ar_f, it_t, it_f, true_and, and_true, not_true_eq_false, not_false_eq_true, implies_true, and_self, eq_self, i1, i8, i9, i10, i15, o1]
    · have r : rk (tK B n k) = 9 := hF.2.2.2.1.mpr hT
      rw [r] at i8 i9 i10 i15; simp (disch := omega) only [Nat.reduceEqDiff, ar_t, ar_f, it_t, it_f, true_and, and_true, not_true_eq_false, not_false_eq_true, implies_true, and_self, eq_self] at i8 i9 i10 i15
      simp (disch := omega) only [ln_, eqF, eqT, ar_t, ar_f, it_t, it_f, true_and, and_true, not_true_eq_false, not_false_eq_true, implies_true, and_self, eq_self, i1, i8, i9, i10, i15, o1]
  · have hp2 := q2 hp
    rw [p_X12_expression_96]; unfold p_X12_expression_145 p_X12_expression_181
    rcases hT with ⟨hT, rfl⟩ | ⟨hT, rfl⟩ <;> rcases hT with hT | hT
    · have r : rk (tK B n k) = 10 := hF.2.2.2.2.1.mpr hT
      rw [r] at i8 i9 i10 i15; simp (disch := omega) only [Nat.reduceEqDiff, ar_t, ar_f, it_t, it_f, true_and, and_true, not_true_eq_false, not_false_eq_true, implies_true, and_self, eq_self] at i8 i9 i10 i15
      simp (disch := omega) only [ln_, eqF, eqT, ar_t, ar_f, it_t, it_f, true_and, and_true, not_true_eq_false, not_false_eq_true, implies_true, and_self, eq_self, i1, i2, i8, i9, i10, i15, o1, o2, hp2]
    · have r : rk (tK B n k) = 15 := hF.2.2.2.2.2.1.mpr hT
      rw [r] at i8 i9 i10 i15; simp (disch := omega) only [Nat.reduceEqDiff, ar_t, ar_f, it_t, it_f, true_and, and_true, not_true_eq_false, not_false_eq_true, implies_true, and_self, eq_self] at i8 i9 i10 i15
      simp (disch := omega) only [ln_, eqF, eqT, ar_t, ar_f, it_t, it_f, true_and, and_true, not_true_eq_false, not_false_eq_true, implies_true, and_self, eq_self, i1, i2, i8, i9, i10, i15, o1, o2, hp2]
    · have r : rk (tK B n k) = 8 := hF.2.2.1.mpr hT
      rw [r] at i8 i9 i10 i15; simp (disch := omega) only [Nat.reduceEqDiff, ar_t, ar_f, it_t, it_f, true_and, and_true, not_true_eq_false, not_false_eq_true, implies_true, and_self, eq_self] at i8 i9 i10 i15
      simp (disch := omega) only [ln_, eqF, eqT, ar_t, ar_f, it_t, it_f, true_and, and_true, not_true_eq_false, not_false_eq_true, implies_true, and_self, eq_self, i1, i2, i8, i9, i10, i15, o1, o2, hp2]
    · have r : rk (tK B n k) = 9 := hF.2.2.2.1.mpr hT
      rw [r] at i8 i9 i10 i15; simp (disch := omega) only [Nat.reduceEqDiff, ar_t, ar_f, it_t, it_f, true_and, and_true, not_true_eq_false, not_false_eq_true, implies_true, and_self, eq_self] at i8 i9 i10 i15
      simp (disch := omega) only [ln_, eqF, eqT, ar_t, ar_f, it_t, it_f, true_and, and_true, not_true_eq_false, not_false_eq_true, implies_true, and_self, eq_self, i1, i2, i8, i9, i10, i15, o1, o2, hp2]
end rex5
