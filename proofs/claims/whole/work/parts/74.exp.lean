/-! The reference: ( and ), signs, the end of an expression -/
section rex4
variable {B T V : Nat → Nat} {a b c e i j k m n o p q r t w e1 a1 k1 f h en v : Nat} {s s1 s2 : fl_I} {l l1 : fl_L} {fu : Nat} {x y z : Int32} {C C1 C2 W Q R : List Nat} {K : Int32 → Int32 → fl_I → fl_L → fl_I × fl_L} {PK : Int32 → Int32 → fl_I → fl_L → Prop}
theorem r_push (h : rSk W s) : rSk (W ++ [v]) (wi (wi s 91 W.length (nI v)) 60 46 (nI (W.length + 1))) := by
  refine ⟨by rw [List.length_append, List.length_singleton]; simp (disch := omega) only [wi_c, wi_u, upd_s, upd_n, su_r, su_c], fun j hj => ?_⟩
  rw [List.length_append, List.length_singleton] at hj
  simp (disch := omega) only [wi_c, wi_u, upd_s, upd_n, su_r, su_c]
  by_cases e : j = W.length
  · subst e; rw [upd_s, getD_e]
  · rw [upd_n e, getD_l (by omega)]; exact h.2 j (by omega)
theorem r_pushAt (h : rAt B n k m o W s l) : rAt B n k m o (W ++ [v]) (wi (wi s 91 W.length (nI v)) 60 46 (nI (W.length + 1))) l ∧ rEf s (wi (wi s 91 W.length (nI v)) 60 46 (nI (W.length + 1))) := by
  have fr : rEf s (wi (wi s 91 W.length (nI v)) 60 46 (nI (W.length + 1))) := ⟨fun q a b c d => by simp (disch := omega) only [wi_c, wi_u, upd_s, upd_n, su_r, su_c], fun j a b c d e f => by simp (disch := omega) only [wi_c, wi_u, upd_s, upd_n, su_r, su_c]⟩
  obtain ⟨h1, h2, h3, h4, h5, h6, h7⟩ := h
  exact ⟨⟨rTk_keep fr h1, h2, by simp (disch := omega) only [wi_c, wi_u, upd_s, upd_n, su_r, su_c]; exact h3, by simp (disch := omega) only [wi_c, wi_u, upd_s, upd_n, su_r, su_c]; exact h4, by simp (disch := omega) only [wi_c, wi_u, upd_s, upd_n, su_r, su_c]; exact h5, by simp (disch := omega) only [wi_c, wi_u, upd_s, upd_n, su_r, su_c]; exact h6, r_push h7⟩, fr⟩
theorem r_bad23 (h : rBd B n e a s) : f_X12_expression_23 fu K (f + 1) x s l = (s, l) ∧ p_X12_expression_23 fu PK (f + 1) x s l := by
  obtain ⟨i1, i2⟩ := r_isB (fu := fu) (x := nI 6) (l := l) h
  obtain ⟨u1, u2⟩ := r_isB (fu := fu) (x := nI 2) (l := l) h
  obtain ⟨g1, g2⟩ := r_failB (fu := fu) (x := nI 1) (l := l) h
  have h13 := h.2.1
  have he := h.1
  refine ⟨?_, ?_⟩
  · unfold f_X12_expression_23 f_X12_expression_88 f_X12_unit
    simp (disch := omega) only [ln_, eqT, eqF, leF, ar_t, ar_f, it_t, it_f, true_and, and_true, not_true_eq_false, not_false_eq_true, implies_true, and_self, eq_self, i1, u1, g1, h13]
  · unfold p_X12_expression_23 p_X12_expression_88 p_X12_unit f_X12_unit
    simp (disch := omega) only [ln_, eqT, eqF, leF, ar_t, ar_f, it_t, it_f, true_and, and_true, not_true_eq_false, not_false_eq_true, implies_true, and_self, eq_self, i1, i2, u1, u2, g1, g2, h13]
theorem r_goB (h : rBd B n e a s) : ∃ s', f_X12_goesOn fu s l = (s', l) ∧ p_X12_goesOn fu s l ∧ rBd B n e a s' ∧ rEf s s' ∧ (∀ q, q ≠ 60 → s' q = s q) ∧ s' 60 46 = s 60 46 ∧ s' 60 12 = s 60 12 ∧ s' 60 42 = s 60 42 := by
  obtain ⟨g1, g2⟩ := r_failB (fu := fu) (x := nI 2) (l := l) h
  obtain ⟨he, h13, h14, k, hk, h11⟩ := h
  by_cases e4 : k = 400
  · refine ⟨s, ?_, ?_, ⟨he, h13, h14, k, hk, h11⟩, rEf_rfl, fun _ _ => rfl, rfl, rfl, rfl⟩
    · unfold f_X12_goesOn; simp (disch := omega) only [ln_, leT, leF, ltT, ltF, eqT, eqF, vpT, nlT, nleT, lnF, lenF, eqnF, neqF, nnF, nI_add, pk_mul, pk_div, pk_sub, ni_m, nI_clamp, md10, dm10, gI_l, gI_n, ar_t, ar_f, it_t, it_f, true_and, and_true, not_true_eq_false, not_false_eq_true, implies_true, and_self, eq_self, h11, g1]
    · unfold p_X12_goesOn; simp (disch := omega) only [ln_, leT, leF, ltT, ltF, eqT, eqF, vpT, nlT, nleT, lnF, lenF, eqnF, neqF, nnF, nI_add, pk_mul, pk_div, pk_sub, ni_m, nI_clamp, md10, dm10, gI_l, gI_n, ar_t, ar_f, it_t, it_f, true_and, and_true, not_true_eq_false, not_false_eq_true, implies_true, and_self, eq_self, h11, g2]
  · refine ⟨wi s 60 11 (nI (k + 1)), ?_, ?_, ⟨he, by simp (disch := omega) only [wi_c, wi_u, upd_s, upd_n, su_r, su_c]; exact h13, by simp (disch := omega) only [wi_c, wi_u, upd_s, upd_n, su_r, su_c]; exact h14, k + 1, by omega, by simp (disch := omega) only [wi_c, wi_u, upd_s, upd_n, su_r, su_c]⟩, ⟨fun q a b c d => by simp (disch := omega) only [wi_c, wi_u, upd_s, upd_n, su_r, su_c], fun j a b c d e f => by simp (disch := omega) only [wi_c, wi_u, upd_s, upd_n, su_r, su_c]⟩, fun q hq => wi_c hq, by simp (disch := omega) only [wi_c, wi_u, upd_s, upd_n, su_r, su_c], by simp (disch := omega) only [wi_c, wi_u, upd_s, upd_n, su_r, su_c], by simp (disch := omega) only [wi_c, wi_u, upd_s, upd_n, su_r, su_c]⟩
    · unfold f_X12_goesOn; simp (disch := omega) only [ln_, leT, leF, ltT, ltF, eqT, eqF, vpT, nlT, nleT, lnF, lenF, eqnF, neqF, nnF, nI_add, pk_mul, pk_div, pk_sub, ni_m, nI_clamp, md10, dm10, gI_l, gI_n, ar_t, ar_f, it_t, it_f, true_and, and_true, not_true_eq_false, not_false_eq_true, implies_true, and_self, eq_self, h11]
    · unfold p_X12_goesOn; simp (disch := omega) only [ln_, leT, leF, ltT, ltF, eqT, eqF, vpT, nlT, nleT, lnF, lenF, eqnF, neqF, nnF, nI_add, pk_mul, pk_div, pk_sub, ni_m, nI_clamp, md10, dm10, gI_l, gI_n, ar_t, ar_f, it_t, it_f, true_and, and_true, not_true_eq_false, not_false_eq_true, implies_true, and_self, eq_self, h11]
theorem rBd_push (h : rBd B n e a s) : rBd B n e a (wi (wi s 91 i x) 60 46 y) := by
  obtain ⟨he, h13, h14, k, hk, h11⟩ := h
  exact ⟨he, by simp (disch := omega) only [wi_c, wi_u, upd_s, upd_n, su_r, su_c]; exact h13, by simp (disch := omega) only [wi_c, wi_u, upd_s, upd_n, su_r, su_c]; exact h14, k, hk, by simp (disch := omega) only [wi_c, wi_u, upd_s, upd_n, su_r, su_c]; exact h11⟩
/-- ( -/
theorem r_open (h : rAt B n k m o W s l) (hT : tK B n k = 40) (ho : o < 6) (hk : k < 400) (hW : W.length < 64) :
    ∃ s', f_X12_expression_23 fu K (f + 1) x s l = f_X12_expression_23 fu K f x s' l ∧ (p_X12_expression_23 fu PK f x s' l → p_X12_expression_23 fu PK (f + 1) x s l) ∧ rAt B n (k + 1) m (o + 1) (W ++ [6]) s' l ∧ rEf s s' ∧ s' 89 = s 89 ∧ s' 90 = s 90 := by
  have hF := rkF h.1 k
  obtain ⟨i1, i2⟩ := r_isT (fu := fu) (c := 6) h (hF.1.mpr hT)
  have h12 := h.2.2.2.2.2.1
  have f0 : rEf s (wi s 60 12 (nI (o + 1))) := ⟨fun q a b c d => by simp (disch := omega) only [wi_c, wi_u, upd_s, upd_n, su_r, su_c], fun j a b c d e f => by simp (disch := omega) only [wi_c, wi_u, upd_s, upd_n, su_r, su_c]⟩
  have h0 : rAt B n k m (o + 1) W (wi s 60 12 (nI (o + 1))) l := by
    obtain ⟨h1, h2, h3, h4, h5, h6, h7⟩ := h
    exact ⟨rTk_keep f0 h1, h2, by simp (disch := omega) only [wi_c, wi_u, upd_s, upd_n, su_r, su_c]; exact h3, by simp (disch := omega) only [wi_c, wi_u, upd_s, upd_n, su_r, su_c]; exact h4, by simp (disch := omega) only [wi_c, wi_u, upd_s, upd_n, su_r, su_c]; exact h5, by simp (disch := omega) only [wi_c, wi_u, upd_s, upd_n, su_r, su_c], ⟨by simp (disch := omega) only [wi_c, wi_u, upd_s, upd_n, su_r, su_c]; exact h7.1, fun j hj => by simp (disch := omega) only [wi_c, wi_u, upd_s, upd_n, su_r, su_c]; exact h7.2 j hj⟩⟩
  rcases r_next (fu := fu) h0 (by omega) with ⟨_, g1, g2, g3, g4⟩ | ⟨g0, _⟩
  · obtain ⟨p1, p2⟩ := r_pushAt (v := 6) g3
    have h46 := g3.2.2.2.2.2.2.1
    have vk : vp_in (nI W.length) 64 = True := vpT (by omega) (by omega)
    refine ⟨_, ?_, fun hp => ?_, p1, rEf_tr (rEf_tr f0 g4) p2, by simp (disch := omega) only [wi_c, wi_u, upd_s, upd_n, su_r, su_c], by simp (disch := omega) only [wi_c, wi_u, upd_s, upd_n, su_r, su_c]⟩
    · rw [f_X12_expression_23]; unfold f_X12_expression_46 f_X12_expression_60
      simp (disch := omega) only [ln_, eqF, ar_t, ar_f, it_t, it_f, true_and, and_true, not_true_eq_false, not_false_eq_true, implies_true, and_self, eq_self, i1, h12, nI_add, g1, h46, nI_clamp, wi_c, wi_u, upd_s, upd_n, su_r, su_c]
    · rw [p_X12_expression_23]; unfold p_X12_expression_46 p_X12_expression_60
      simp (disch := omega) only [ln_, eqF, ar_t, ar_f, it_t, it_f, true_and, and_true, not_true_eq_false, not_false_eq_true, implies_true, and_self, eq_self, i1, i2, h12, nI_add, g1, g2, h46, nI_clamp, vk, wi_c, wi_u, upd_s, upd_n, su_r, su_c]
      exact hp
  · omega
/-- ( where there is no room -/
theorem r_openB (h : rAt B n k m o W s l) (hT : tK B n k = 40) (ho : o ≤ 6) (hk : o = 6 ∨ k = 400) (hW : W.length < 64) :
    ∃ s', f_X12_expression_23 fu K (f + 1 + 1) x s l = (s', l) ∧ p_X12_expression_23 fu PK (f + 1 + 1) x s l ∧ rBd B n 2 k s' ∧ rEf s s' ∧ s' 89 = s 89 ∧ s' 90 = s 90 := by
  have hF := rkF h.1 k
  obtain ⟨i1, i2⟩ := r_isT (fu := fu) (c := 6) h (hF.1.mpr hT)
  have h12 := h.2.2.2.2.2.1
  have vk : vp_in (nI W.length) 64 = True := vpT (by omega) (by omega)
  -- behind the token
  have fin : ∀ s1 : fl_I, rBd B n 2 k s1 → s1 60 46 = nI W.length → rEf s s1 → s1 89 = s 89 → s1 90 = s 90 → ∃ s', f_X12_expression_60 fu K (fun x1 s l => f_X12_expression_23 fu K (f + 1) x1 s l) x s1 l = (s', l) ∧ p_X12_expression_60 fu PK (fun x1 s l => p_X12_expression_23 fu PK (f + 1) x1 s l) x s1 l ∧ rBd B n 2 k s' ∧ rEf s s' ∧ s' 89 = s 89 ∧ s' 90 = s 90 := by
    intro s1 b h46 fr h8 h9
    have b2 : rBd B n 2 k (wi (wi s1 91 W.length (nI 6)) 60 46 (nI (W.length + 1))) := rBd_push b
    obtain ⟨q1, q2⟩ := r_bad23 (fu := fu) (f := f) (x := x) (l := l) (K := K) (PK := PK) b2
    refine ⟨_, ?_, ?_, b2, rEf_tr fr ⟨fun q a b c d => by simp (disch := omega) only [wi_c, wi_u, upd_s, upd_n, su_r, su_c], fun j a b c d e f => by simp (disch := omega) only [wi_c, wi_u, upd_s, upd_n, su_r, su_c]⟩, by simp (disch := omega) only [wi_c, wi_u, upd_s, upd_n, su_r, su_c]; exact h8, by simp (disch := omega) only [wi_c, wi_u, upd_s, upd_n, su_r, su_c]; exact h9⟩
    · unfold f_X12_expression_60; simp (disch := omega) only [ln_, h46, nI_clamp, nI_add, wi_c, wi_u, upd_s, upd_n, su_r, su_c]; exact q1
    · unfold p_X12_expression_60; simp (disch := omega) only [ln_, h46, nI_clamp, nI_add, vk, true_and, wi_c, wi_u, upd_s, upd_n, su_r, su_c]; exact q2
  by_cases e6 : o = 6
  · obtain ⟨s1, g1, g2, g3, g4, g5, g6, g7, g8, g9⟩ := r_fail (fu := fu) (e := 2) h (.inr rfl)
    have b1 : rBd B n 2 k (wi s1 60 12 (nI (o + 1))) := by
      obtain ⟨he, h13, h14, k', hk', h11⟩ := g3
      exact ⟨he, by simp (disch := omega) only [wi_c, wi_u, upd_s, upd_n, su_r, su_c]; exact h13, by simp (disch := omega) only [wi_c, wi_u, upd_s, upd_n, su_r, su_c]; exact h14, k', hk', by simp (disch := omega) only [wi_c, wi_u, upd_s, upd_n, su_r, su_c]; exact h11⟩
    obtain ⟨s2, u1, u2, u3, u4, u5, u6, u7, u8⟩ := r_goB (fu := fu) (l := l) b1
    have f1 : rEf s1 (wi s1 60 12 (nI (o + 1))) := ⟨fun q a b c d => by simp (disch := omega) only [wi_c, wi_u, upd_s, upd_n, su_r, su_c], fun j a b c d e f => by simp (disch := omega) only [wi_c, wi_u, upd_s, upd_n, su_r, su_c]⟩
    obtain ⟨s', v1, v2, v3⟩ := fin s2 u3 (by rw [u6]; simp (disch := omega) only [wi_c, wi_u, upd_s, upd_n, su_r, su_c]; exact g6.1) (rEf_tr (rEf_tr g7 f1) u4) (by rw [u5 89 (by omega)]; simp (disch := omega) only [wi_c, wi_u, upd_s, upd_n, su_r, su_c]; exact g8) (by rw [u5 90 (by omega)]; simp (disch := omega) only [wi_c, wi_u, upd_s, upd_n, su_r, su_c]; exact g9)
    refine ⟨s', ?_, ?_, v3⟩
    · rw [← v1]
      rw [f_X12_expression_23]; unfold f_X12_expression_46
      simp (disch := omega) only [ln_, eqF, eqT, ar_t, ar_f, it_t, it_f, true_and, and_true, not_true_eq_false, not_false_eq_true, implies_true, and_self, eq_self, i1, h12, g1, g5, nI_add, u1]
    · rw [p_X12_expression_23]; unfold p_X12_expression_46
      simp (disch := omega) only [ln_, eqF, eqT, ar_t, ar_f, it_t, it_f, true_and, and_true, not_true_eq_false, not_false_eq_true, implies_true, and_self, eq_self, i1, i2, h12, g1, g2, g5, nI_add, u1, u2]
      exact v2
  · have f0 : rEf s (wi s 60 12 (nI (o + 1))) := ⟨fun q a b c d => by simp (disch := omega) only [wi_c, wi_u, upd_s, upd_n, su_r, su_c], fun j a b c d e f => by simp (disch := omega) only [wi_c, wi_u, upd_s, upd_n, su_r, su_c]⟩
    have h0 : rAt B n k m (o + 1) W (wi s 60 12 (nI (o + 1))) l := by
      obtain ⟨h1, h2, h3, h4, h5, h6, h7⟩ := h
      exact ⟨rTk_keep f0 h1, h2, by simp (disch := omega) only [wi_c, wi_u, upd_s, upd_n, su_r, su_c]; exact h3, by simp (disch := omega) only [wi_c, wi_u, upd_s, upd_n, su_r, su_c]; exact h4, by simp (disch := omega) only [wi_c, wi_u, upd_s, upd_n, su_r, su_c]; exact h5, by simp (disch := omega) only [wi_c, wi_u, upd_s, upd_n, su_r, su_c], ⟨by simp (disch := omega) only [wi_c, wi_u, upd_s, upd_n, su_r, su_c]; exact h7.1, fun j hj => by simp (disch := omega) only [wi_c, wi_u, upd_s, upd_n, su_r, su_c]; exact h7.2 j hj⟩⟩
    rcases r_next (fu := fu) h0 (by omega) with ⟨g0, _⟩ | ⟨g0, s2, u1, u2, u3, u4, u5, u6, u7, u8, u9⟩
    · omega
    · obtain ⟨s', v1, v2, v3⟩ := fin s2 u3 u6.1 (rEf_tr f0 u7) (by rw [u8]; simp (disch := omega) only [wi_c, wi_u, upd_s, upd_n, su_r, su_c]) (by rw [u9]; simp (disch := omega) only [wi_c, wi_u, upd_s, upd_n, su_r, su_c])
      refine ⟨s', ?_, ?_, v3⟩
      · rw [← v1]
        rw [f_X12_expression_23]; unfold f_X12_expression_46
        simp (disch := omega) only [ln_, eqF, eqT, ar_t, ar_f, it_t, it_f, true_and, and_true, not_true_eq_false, not_false_eq_true, implies_true, and_self, eq_self, i1, h12, nI_add, u1]
      · rw [p_X12_expression_23]; unfold p_X12_expression_46
        simp (disch := omega) only [ln_, eqF, eqT, ar_t, ar_f, it_t, it_f, true_and, and_true, not_true_eq_false, not_false_eq_true, implies_true, and_self, eq_self, i1, i2, h12, nI_add, u1, u2]
        exact v2
end rex4
