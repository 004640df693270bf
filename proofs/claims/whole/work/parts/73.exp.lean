/-! The reference: steps of reading an expression -/
section rex3
variable {B T V : Nat → Nat} {a b c e i j k m n o p q r t w e1 a1 k1 f h en : Nat} {s s1 s2 : fl_I} {l l1 : fl_L} {fu : Nat} {x y z : Int32} {C C1 C2 W Q : List Nat} {K : Int32 → Int32 → fl_I → fl_L → fl_I × fl_L} {PK : Int32 → Int32 → fl_I → fl_L → Prop}
theorem r_isT (h : rAt B n k m o W s l) (hc : rk (tK B n k) = c) : f_X12_is fu (nI c) s l = nI 1 ∧ p_X12_is fu (nI c) s l := by
  have hr : rk (tK B n k) < 41 := (rkF h.1 k).2.2.2.2.2.2.2.2.2.2.2.2.2.2
  have := (r_is (fu := fu) (c := c) h).resolve_right (by omega)
  rw [if_pos hc] at this; exact this
theorem r_isF (h : rAt B n k m o W s l) (hc : rk (tK B n k) ≠ c) (hc2 : c < 1000) : f_X12_is fu (nI c) s l = nI 0 ∧ p_X12_is fu (nI c) s l := by
  have := (r_is (fu := fu) (c := c) h).resolve_right (by omega)
  rw [if_neg hc] at this; exact this
theorem r_emitAt (h : rAt B n k m o W s l) (hm : m < 840) : f_X12_emit fu (nI (rI en)) (nI (rJ en)) s l = (wi (wi (wi s 89 m (nI (rI en))) 90 m (nI (rJ en))) 60 42 (nI (m + 1)), l) ∧ p_X12_emit fu (nI (rI en)) (nI (rJ en)) s l ∧ rAt B n k (m + 1) o W (wi (wi (wi s 89 m (nI (rI en))) 90 m (nI (rJ en))) 60 42 (nI (m + 1))) l ∧ rEf s (wi (wi (wi s 89 m (nI (rI en))) 90 m (nI (rJ en))) 60 42 (nI (m + 1))) ∧ rCd m [en] s (wi (wi (wi s 89 m (nI (rI en))) 90 m (nI (rJ en))) 60 42 (nI (m + 1))) := by
  obtain ⟨h1, h2, h3, h4, h5, h6, h7⟩ := h
  have em := r_emit (fu := fu) (x := nI (rI en)) (y := nI (rJ en)) (l := l) h5 hm
  have fr : rEf s (wi (wi (wi s 89 m (nI (rI en))) 90 m (nI (rJ en))) 60 42 (nI (m + 1))) := ⟨fun q a b c d => by simp (disch := omega) only [wi_c, wi_u, upd_s, upd_n, su_r, su_c], fun j a b c d e f => by simp (disch := omega) only [wi_c, wi_u, upd_s, upd_n, su_r, su_c]⟩
  refine ⟨em.1, em.2, ⟨rTk_keep fr h1, h2, by simp (disch := omega) only [wi_c, wi_u, upd_s, upd_n, su_r, su_c]; exact h3, by simp (disch := omega) only [wi_c, wi_u, upd_s, upd_n, su_r, su_c]; exact h4, by simp (disch := omega) only [wi_c, wi_u, upd_s, upd_n, su_r, su_c], by simp (disch := omega) only [wi_c, wi_u, upd_s, upd_n, su_r, su_c]; exact h6, ⟨by simp (disch := omega) only [wi_c, wi_u, upd_s, upd_n, su_r, su_c]; exact h7.1, fun j hj => by simp (disch := omega) only [wi_c, wi_u, upd_s, upd_n, su_r, su_c]; exact h7.2 j hj⟩⟩, fr, ⟨fun j hj => by rw [List.length_singleton] at hj; simp (disch := omega) only [wi_c, wi_u, upd_s, upd_n, su_r, su_c, and_self], fun i hi => ?_⟩⟩
  have : i = 0 := by rw [List.length_singleton] at hi; omega
  subst this
  refine ⟨?_, ?_⟩
  · simp (disch := omega) only [wi_c, wi_u, upd_s, upd_n, su_r, su_c]; show upd (s 89) m _ m = _; rw [upd_s]; rfl
  · simp (disch := omega) only [wi_c, wi_u, upd_s, upd_n, su_r, su_c]; show upd (s 90) m _ m = _; rw [upd_s]; rfl
theorem rCd_tr (h : rCd m C s s1) (h8 : s2 89 = s1 89) (h9 : s2 90 = s1 90) : rCd m C s s2 := by unfold rCd at *; rw [h8, h9]; exact h
/-- a number or a variable -/
theorem r_leaf (h : rAt B n k m o W s l) (hm : m < 840) (hT : tK B n k = 3 ∨ (268 ≤ tK B n k ∧ tK B n k < 277)) (hen : en = if tK B n k = 3 then tV B n k else 30000 + (tK B n k - 268)) :
    (k < 400 ∧ ∃ s', f_X12_expression_23 fu K (f + 1) x s l = f_X12_expression_96 fu K fu x s' l ∧ (p_X12_expression_96 fu PK fu x s' l → p_X12_expression_23 fu PK (f + 1) x s l) ∧ rAt B n (k + 1) (m + 1) o W s' l ∧ rEf s s' ∧ rCd m [en] s s') ∨
    (k = 400 ∧ ∃ s', f_X12_expression_23 fu K (f + 1) x s l = (s', l) ∧ p_X12_expression_23 fu PK (f + 1) x s l ∧ rBd B n 2 k s' ∧ rEf s s' ∧ rCd m [en] s s') := by
  have hF := rkF h.1 k
  have hk := h.2.1.1
  have h3 := h.2.2.1
  have h4 := h.2.2.2.1
  have h63 := (h.1.2 k h.2.1).1
  obtain ⟨i1, i2⟩ := r_isF (fu := fu) (c := 6) h (fun e => by have := hF.1.mp e; omega) (by omega)
  obtain ⟨m1, m2, m3, m4, m5⟩ := r_emitAt (fu := fu) (en := en) h hm
  have vk : vp_in (nI k) 403 = True := vpT (by omega) (by omega)
  -- the unit itself
  have unit : f_X12_unit fu s l = (f_X12_goesOn fu (f_X12_emit fu (nI (rI en)) (nI (rJ en)) s l).1 (f_X12_emit fu (nI (rI en)) (nI (rJ en)) s l).2) ∧ (p_X12_goesOn fu (f_X12_emit fu (nI (rI en)) (nI (rJ en)) s l).1 (f_X12_emit fu (nI (rI en)) (nI (rJ en)) s l).2 → p_X12_unit fu s l) := by
    by_cases e3 : tK B n k = 3
    · obtain ⟨u1, u2⟩ := r_isT (fu := fu) (c := 2) h (hF.2.2.2.2.2.2.1.mpr e3)
      have h65 := (h.1.2 k h.2.1).2.2.2 e3
      have hv := tV_le h.1.1 e3
      rw [if_pos e3] at hen
      have r0 : rI en = 0 := by unfold rI; rw [if_pos (by omega)]
      have r1 : rJ en = tV B n k := by unfold rJ; rw [if_pos (by omega), hen]
      rw [r0, r1] at m1 m2 ⊢
      refine ⟨?_, fun hp => ?_⟩
      · unfold f_X12_unit; simp (disch := omega) only [ln_, eqF, ar_t, ar_f, it_t, it_f, true_and, and_true, not_true_eq_false, not_false_eq_true, implies_true, and_self, eq_self, u1, h3, nI_clamp, h65]
      · unfold p_X12_unit; simp (disch := omega) only [ln_, eqF, ar_t, ar_f, it_t, it_f, true_and, and_true, not_true_eq_false, not_false_eq_true, implies_true, and_self, eq_self, u1, u2, h3, nI_clamp, h65, vk, m2]; exact hp
    · have hv : 268 ≤ tK B n k ∧ tK B n k < 277 := hT.resolve_left e3
      obtain ⟨u1, u2⟩ := r_isF (fu := fu) (c := 2) h (fun e => e3 (hF.2.2.2.2.2.2.1.mp e)) (by omega)
      have hrk : rk (tK B n k) = tK B n k - 236 := hF.2.2.2.2.2.2.2.2.2.2.2.2.2.1 (by omega)
      rw [hrk] at h63
      rw [if_neg e3] at hen
      have r0 : rI en = 1 := by unfold rI; rw [if_neg (by omega), if_neg (by omega), if_neg (by omega), if_neg (by omega), if_neg (by omega)]
      have r1 : rJ en = tK B n k - 236 - 32 := by unfold rJ; rw [if_neg (by omega), if_neg (by omega)]; omega
      rw [r0, r1] at m1 m2 ⊢
      refine ⟨?_, fun hp => ?_⟩
      · unfold f_X12_unit; simp (disch := omega) only [ln_, eqT, ltF, pk_sub, ar_t, ar_f, it_t, it_f, true_and, and_true, not_true_eq_false, not_false_eq_true, implies_true, and_self, eq_self, u1, h3, h4, nI_clamp, h63]
      · unfold p_X12_unit; simp (disch := omega) only [ln_, eqT, ltF, pk_sub, ar_t, ar_f, it_t, it_f, true_and, and_true, not_true_eq_false, not_false_eq_true, implies_true, and_self, eq_self, u1, u2, h3, h4, nI_clamp, h63, vk, m2]; exact hp
  rw [m1] at unit
  have hT2 : 2 ≤ tK B n k := by omega
  rcases r_next (fu := fu) m3 hT2 with ⟨g0, g1, g2, g3, g4⟩ | ⟨g0, s', g1, g2, g3, g4, g5, g6, g7, g8, g9⟩
  · refine .inl ⟨g0, _, ?_, fun hp => ?_, g3, rEf_tr m4 g4, rCd_tr m5 (by rw [wi_c (by omega)]) (by rw [wi_c (by omega)])⟩
    · unfold f_X12_expression_23 f_X12_expression_88
      have u := unit.1
      dsimp only at u
      rw [g1] at u
      have h13 := g3.2.2.2.1
      simp (disch := omega) only [ln_, eqT, leT, ar_t, ar_f, it_t, it_f, true_and, and_true, not_true_eq_false, not_false_eq_true, implies_true, and_self, eq_self, i1, u, h13]
    · unfold p_X12_expression_23 p_X12_expression_88
      have u := unit.1
      have pu := unit.2 g2
      dsimp only at u
      rw [g1] at u
      have h13 := g3.2.2.2.1
      simp (disch := omega) only [ln_, eqT, leT, ar_t, ar_f, it_t, it_f, true_and, and_true, not_true_eq_false, not_false_eq_true, implies_true, and_self, eq_self, i1, i2, u, pu, h13]; exact hp
  · refine .inr ⟨g0, s', ?_, ?_, g3, rEf_tr m4 g7, rCd_tr m5 g8 g9⟩
    · unfold f_X12_expression_23 f_X12_expression_88
      have u := unit.1
      dsimp only at u
      rw [g1] at u
      have h13 := g3.2.1
      simp (disch := omega) only [ln_, eqT, leF, ar_t, ar_f, it_t, it_f, true_and, and_true, not_true_eq_false, not_false_eq_true, implies_true, and_self, eq_self, i1, u, h13]
    · unfold p_X12_expression_23 p_X12_expression_88
      have u := unit.1
      have pu := unit.2 g2
      dsimp only at u
      rw [g1] at u
      have h13 := g3.2.1
      simp (disch := omega) only [ln_, eqT, leF, ar_t, ar_f, it_t, it_f, true_and, and_true, not_true_eq_false, not_false_eq_true, implies_true, and_self, eq_self, i1, i2, u, pu, h13]
/-- neither a number, nor a variable, nor ( -/
theorem r_noleaf (h : rAt B n k m o W s l) (hT : ¬ (tK B n k = 3 ∨ (268 ≤ tK B n k ∧ tK B n k < 277))) (h40 : tK B n k ≠ 40) :
    ∃ s', f_X12_expression_23 fu K (f + 1) x s l = (s', l) ∧ p_X12_expression_23 fu PK (f + 1) x s l ∧ rBd B n 1 k s' ∧ rEf s s' ∧ s' 89 = s 89 ∧ s' 90 = s 90 := by
  have hF := rkF h.1 k
  have hlt : tK B n k < 278 := tkK_lt h.1.1
  have hok := tK_ok (k := k) h.1.1
  have hk := h.2.1.1
  have h3 := h.2.2.1
  have h4 := h.2.2.2.1
  have h63 := (h.1.2 k h.2.1).1
  obtain ⟨i1, i2⟩ := r_isF (fu := fu) (c := 6) h (fun e => h40 (hF.1.mp e)) (by omega)
  obtain ⟨u1, u2⟩ := r_isF (fu := fu) (c := 2) h (fun e => hT (.inl (hF.2.2.2.2.2.2.1.mp e))) (by omega)
  obtain ⟨s', g1, g2, g3, _, _, _, g7, g8, g9⟩ := r_fail (fu := fu) (e := 1) h (.inl rfl)
  have vk : vp_in (nI k) 403 = True := vpT (by omega) (by omega)
  have hr41 := hF.2.2.2.2.2.2.2.2.2.2.2.2.2.2
  have hr : rk (tK B n k) < 32 := by
    by_cases e : 256 ≤ tK B n k
    · have := hF.2.2.2.2.2.2.2.2.2.2.2.2.2.1 e; omega
    · have := mt hF.2.2.2.2.2.2.2.2.2.2.2.2.1.mp e; omega
  have h13 := g3.2.1
  refine ⟨s', ?_, ?_, g3, g7, g8, g9⟩
  · unfold f_X12_expression_23 f_X12_expression_88 f_X12_unit
    simp (disch := omega) only [ln_, eqT, ltT, leF, ar_t, ar_f, it_t, it_f, true_and, and_true, not_true_eq_false, not_false_eq_true, implies_true, and_self, eq_self, i1, u1, h3, h4, h63, nI_clamp, g1, h13]
  · unfold p_X12_expression_23 p_X12_expression_88 p_X12_unit f_X12_unit
    simp (disch := omega) only [ln_, eqT, ltT, leF, ar_t, ar_f, it_t, it_f, true_and, and_true, not_true_eq_false, not_false_eq_true, implies_true, and_self, eq_self, i1, i2, u1, u2, h3, h4, h63, nI_clamp, g1, g2, h13, vk]
end rex3
