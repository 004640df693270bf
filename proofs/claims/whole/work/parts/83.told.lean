/-! Faults that wait: the class's first noted, the reference's least place -/
section lat
variable {B : Nat → Nat} {a b c e i j k m n o t lf lj : Nat} {s s1 s2 : fl_I} {l l1 : fl_L} {fu : Nat} {x y z : Int32}
/-- what waits, told at token lj (lf = 0: nothing) -/
def rLF (B : Nat → Nat) (n lf lj : Nat) (s : fl_I) : Prop := s 60 15 = nI lf ∧ (lf ≠ 0 → s 60 16 = nI (tP B n lj))
def cLF (B : Nat → Nat) (n lf lj : Nat) (s : fl_I) : Prop := s 3 4 = nI lf ∧ (lf ≠ 0 → s 3 5 = nI (tP B n lj))
theorem r_wrong (h : rTk B n s l) (h13 : s 60 13 = nI 0) (hk : kkT (tK B n) k) (h0 : rLF B n lf lj s) (hn : n ≤ 2000) (hlf : lf ≤ 9) (hc : 1 ≤ c) (hc9 : c ≤ 9) (ho : lf = 0 ∨ tP B n lj < tP B n k ∨ (tP B n lj = tP B n k ∧ lf ≤ c)) :
    ∃ s', f_X12_wrong fu (nI c) (nI k) s l = (s', l) ∧ p_X12_wrong fu (nI c) (nI k) s l ∧ rLF B n (if lf = 0 then c else lf) (if lf = 0 then k else lj) s' ∧ (∀ q, q ≠ 60 → s' q = s q) ∧ ∀ j, j ≠ 15 → j ≠ 16 → s' 60 j = s 60 j := by
  have hk4 := hk.1
  have h64 := (h.2 k hk).2.1
  have hP : tP B n k ≤ n := tP_le
  have hL : tP B n lj ≤ n := tP_le
  obtain ⟨h15, h16⟩ := h0
  by_cases e0 : lf = 0
  · subst e0
    rw [if_pos rfl, if_pos rfl]
    refine ⟨wi (wi s 60 15 (nI c)) 60 16 (nI (tP B n k)), ?_, ?_, ⟨by simp (disch := omega) only [wi_c, wi_u, upd_s, upd_n, su_r, su_c], fun _ => by simp (disch := omega) only [wi_c, wi_u, upd_s, upd_n, su_r, su_c]⟩, fun q hq => by simp (disch := omega) only [wi_c, wi_u, upd_s, upd_n, su_r, su_c], fun j a b => by simp (disch := omega) only [wi_c, wi_u, upd_s, upd_n, su_r, su_c]⟩
    · unfold f_X12_wrong; simp (disch := omega) only [ln_, leT, leF, ltT, ltF, eqT, eqF, vpT, nlT, nleT, lnF, lenF, eqnF, neqF, nnF, nI_add, pk_mul, pk_div, pk_sub, ni_m, nI_clamp, md10, dm10, gI_l, gI_n, ar_t, ar_f, it_t, it_f, true_and, and_true, not_true_eq_false, not_false_eq_true, implies_true, and_self, eq_self, wi_c, wi_u, upd_s, upd_n, su_r, su_c, h13, h15, h64]
    · unfold p_X12_wrong; simp (disch := omega) only [ln_, leT, leF, ltT, ltF, eqT, eqF, vpT, nlT, nleT, lnF, lenF, eqnF, neqF, nnF, nI_add, pk_mul, pk_div, pk_sub, ni_m, nI_clamp, md10, dm10, gI_l, gI_n, ar_t, ar_f, it_t, it_f, true_and, and_true, not_true_eq_false, not_false_eq_true, implies_true, and_self, eq_self, wi_c, wi_u, upd_s, upd_n, su_r, su_c, h13, h15, h64]
  · have h16 := h16 e0
    rw [if_neg e0, if_neg e0]
    refine ⟨s, ?_, ?_, ⟨h15, fun _ => h16⟩, fun _ _ => rfl, fun _ _ _ => rfl⟩
    · unfold f_X12_wrong
      rcases ho with h | h | ⟨h, h'⟩
      · omega
      · simp (disch := omega) only [ln_, leT, leF, ltT, ltF, eqT, eqF, vpT, nlT, nleT, lnF, lenF, eqnF, neqF, nnF, nI_add, pk_mul, pk_div, pk_sub, ni_m, nI_clamp, md10, dm10, gI_l, gI_n, ar_t, ar_f, it_t, it_f, true_and, and_true, not_true_eq_false, not_false_eq_true, implies_true, and_self, eq_self, wi_c, wi_u, upd_s, upd_n, su_r, su_c, h13, h15, h16, h64]
      · rw [h] at h16; simp (disch := omega) only [ln_, leT, leF, ltT, ltF, eqT, eqF, vpT, nlT, nleT, lnF, lenF, eqnF, neqF, nnF, nI_add, pk_mul, pk_div, pk_sub, ni_m, nI_clamp, md10, dm10, gI_l, gI_n, ar_t, ar_f, it_t, it_f, true_and, and_true, not_true_eq_false, not_false_eq_true, implies_true, and_self, eq_self, wi_c, wi_u, upd_s, upd_n, su_r, su_c, h13, h15, h16, h64]
    · unfold p_X12_wrong
      rcases ho with h | h | ⟨h, h'⟩
      · omega
      · simp (disch := omega) only [ln_, leT, leF, ltT, ltF, eqT, eqF, vpT, nlT, nleT, lnF, lenF, eqnF, neqF, nnF, nI_add, pk_mul, pk_div, pk_sub, ni_m, nI_clamp, md10, dm10, gI_l, gI_n, ar_t, ar_f, it_t, it_f, true_and, and_true, not_true_eq_false, not_false_eq_true, implies_true, and_self, eq_self, wi_c, wi_u, upd_s, upd_n, su_r, su_c, h13, h15, h16, h64]
      · rw [h] at h16; simp (disch := omega) only [ln_, leT, leF, ltT, ltF, eqT, eqF, vpT, nlT, nleT, lnF, lenF, eqnF, neqF, nnF, nI_add, pk_mul, pk_div, pk_sub, ni_m, nI_clamp, md10, dm10, gI_l, gI_n, ar_t, ar_f, it_t, it_f, true_and, and_true, not_true_eq_false, not_false_eq_true, implies_true, and_self, eq_self, wi_c, wi_u, upd_s, upd_n, su_r, su_c, h13, h15, h16, h64]
theorem c_later (h : cAt B n t k m s l) (h0 : cLF B n lf lj s) (hlf : lf ≤ 9) : ∃ s', f_X3_noteLater fu (nI c) s l = (s', l) ∧ p_X3_noteLater fu (nI c) s l ∧ cLF B n (if lf = 0 then c else lf) (if lf = 0 then k else lj) s' ∧ (∀ q, q ≠ 3 → s' q = s q) ∧ ∀ j, j ≠ 4 → j ≠ 5 → s' 3 j = s 3 j := by
  obtain ⟨h1, h2, h3, h4, h5⟩ := h
  have hk4 := h2.1
  have h6 := (h1.2 k h2).2.1
  obtain ⟨h15, h16⟩ := h0
  by_cases e0 : lf = 0
  · subst e0
    rw [if_pos rfl, if_pos rfl]
    refine ⟨wi (wi s 3 4 (nI c)) 3 5 (nI (tP B n k)), ?_, ?_, ⟨by simp (disch := omega) only [wi_c, wi_u, upd_s, upd_n, su_r, su_c], fun _ => by simp (disch := omega) only [wi_c, wi_u, upd_s, upd_n, su_r, su_c]⟩, fun q hq => by simp (disch := omega) only [wi_c, wi_u, upd_s, upd_n, su_r, su_c], fun j a b => by simp (disch := omega) only [wi_c, wi_u, upd_s, upd_n, su_r, su_c]⟩
    · unfold f_X3_noteLater; simp (disch := omega) only [ln_, leT, leF, ltT, ltF, eqT, eqF, vpT, nlT, nleT, lnF, lenF, eqnF, neqF, nnF, nI_add, pk_mul, pk_div, pk_sub, ni_m, nI_clamp, md10, dm10, gI_l, gI_n, ar_t, ar_f, it_t, it_f, true_and, and_true, not_true_eq_false, not_false_eq_true, implies_true, and_self, eq_self, wi_c, wi_u, upd_s, upd_n, su_r, su_c, h3, h15, h6]
    · unfold p_X3_noteLater; simp (disch := omega) only [ln_, leT, leF, ltT, ltF, eqT, eqF, vpT, nlT, nleT, lnF, lenF, eqnF, neqF, nnF, nI_add, pk_mul, pk_div, pk_sub, ni_m, nI_clamp, md10, dm10, gI_l, gI_n, ar_t, ar_f, it_t, it_f, true_and, and_true, not_true_eq_false, not_false_eq_true, implies_true, and_self, eq_self, wi_c, wi_u, upd_s, upd_n, su_r, su_c, h3, h15, h6]
  · have h16 := h16 e0
    rw [if_neg e0, if_neg e0]
    refine ⟨s, ?_, ?_, ⟨h15, fun _ => h16⟩, fun _ _ => rfl, fun _ _ _ => rfl⟩
    · unfold f_X3_noteLater; simp (disch := omega) only [ln_, leT, leF, ltT, ltF, eqT, eqF, vpT, nlT, nleT, lnF, lenF, eqnF, neqF, nnF, nI_add, pk_mul, pk_div, pk_sub, ni_m, nI_clamp, md10, dm10, gI_l, gI_n, ar_t, ar_f, it_t, it_f, true_and, and_true, not_true_eq_false, not_false_eq_true, implies_true, and_self, eq_self, wi_c, wi_u, upd_s, upd_n, su_r, su_c, h3, h15]
    · unfold p_X3_noteLater; simp (disch := omega) only [ln_, leT, leF, ltT, ltF, eqT, eqF, vpT, nlT, nleT, lnF, lenF, eqnF, neqF, nnF, nI_add, pk_mul, pk_div, pk_sub, ni_m, nI_clamp, md10, dm10, gI_l, gI_n, ar_t, ar_f, it_t, it_f, true_and, and_true, not_true_eq_false, not_false_eq_true, implies_true, and_self, eq_self, wi_c, wi_u, upd_s, upd_n, su_r, su_c, h3, h15]
end lat
