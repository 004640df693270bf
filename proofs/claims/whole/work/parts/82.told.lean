/-! The reference outside expressions: is, fail, next, must -/
/-- at token k, no fault -/
def rPt (B : Nat → Nat) (n k : Nat) (s : fl_I) (l : fl_L) : Prop := rTk B n s l ∧ kkT (tK B n) k ∧ s 60 11 = nI k ∧ s 60 13 = nI 0
/-- only the place and the fault have changed -/
def rPf (s s' : fl_I) : Prop := (∀ q, q ≠ 60 → s' q = s q) ∧ ∀ j, j ≠ 11 → j ≠ 13 → j ≠ 14 → s' 60 j = s 60 j
section rto
variable {B : Nat → Nat} {a b c e i j k m n o : Nat} {s s1 s2 : fl_I} {l l1 : fl_L} {fu : Nat} {x y z : Int32}
theorem rPf_rfl : rPf s s := ⟨fun _ _ => rfl, fun _ _ _ _ => rfl⟩
theorem rPf_tr (h : rPf s s1) (g : rPf s1 s2) : rPf s s2 := ⟨fun q a => (g.1 q a).trans (h.1 q a), fun j a b c => (g.2 j a b c).trans (h.2 j a b c)⟩
theorem rPf_E (h : rPf s s1) : rEf s s1 := ⟨fun q a _ _ _ => h.1 q a, fun j a _ b c _ _ => h.2 j a b c⟩
theorem rPt_at (h : rAt B n k m o [] s l) : rPt B n k s l := ⟨h.1, h.2.1, h.2.2.1, h.2.2.2.1⟩
theorem r_isP (h : rPt B n k s l) (hc : c < 1000) : (f_X12_is fu (nI c) s l = if rk (tK B n k) = c then nI 1 else nI 0) ∧ p_X12_is fu (nI c) s l := by
  obtain ⟨h1, h2, h3, h4⟩ := h
  have hk := h2.1
  have h63 := (h1.2 k h2).1
  have hr : rk (tK B n k) < 41 := (rkF h1 k).2.2.2.2.2.2.2.2.2.2.2.2.2.2
  unfold f_X12_is p_X12_is
  by_cases e : rk (tK B n k) = c
  · rw [if_pos e]; simp (disch := omega) only [ln_, leT, leF, ltT, ltF, eqT, eqF, vpT, nlT, nleT, lnF, lenF, eqnF, neqF, nnF, nI_add, pk_mul, pk_div, pk_sub, ni_m, nI_clamp, md10, dm10, gI_l, gI_n, ar_t, ar_f, it_t, it_f, true_and, and_true, not_true_eq_false, not_false_eq_true, implies_true, and_self, eq_self, h3, h4, h63]
  · rw [if_neg e]; simp (disch := omega) only [ln_, leT, leF, ltT, ltF, eqT, eqF, vpT, nlT, nleT, lnF, lenF, eqnF, neqF, nnF, nI_add, pk_mul, pk_div, pk_sub, ni_m, nI_clamp, md10, dm10, gI_l, gI_n, ar_t, ar_f, it_t, it_f, true_and, and_true, not_true_eq_false, not_false_eq_true, implies_true, and_self, eq_self, h3, h4, h63]
theorem r_failP (h : rPt B n k s l) (he : e = 1 ∨ e = 2) : ∃ s', f_X12_fail fu (nI e) s l = (s', l) ∧ p_X12_fail fu (nI e) s l ∧ rBd B n e k s' ∧ rPf s s' := by
  obtain ⟨h1, h2, h3, h4⟩ := h
  have hk := h2.1
  have h64 := (h1.2 k h2).2.1
  refine ⟨wi (wi s 60 13 (nI e)) 60 14 (nI (tP B n k)), ?_, ?_, ⟨he, by simp (disch := omega) only [wi_c, wi_u, upd_s, upd_n, su_r, su_c], by simp (disch := omega) only [wi_c, wi_u, upd_s, upd_n, su_r, su_c], k, hk, by simp (disch := omega) only [wi_c, wi_u, upd_s, upd_n, su_r, su_c]; exact h3⟩, ⟨fun q a => by simp (disch := omega) only [wi_c, wi_u, upd_s, upd_n, su_r, su_c], fun j a b c => by simp (disch := omega) only [wi_c, wi_u, upd_s, upd_n, su_r, su_c]⟩⟩
  · unfold f_X12_fail; simp (disch := omega) only [ln_, leT, leF, ltT, ltF, eqT, eqF, vpT, nlT, nleT, lnF, lenF, eqnF, neqF, nnF, nI_add, pk_mul, pk_div, pk_sub, ni_m, nI_clamp, md10, dm10, gI_l, gI_n, ar_t, ar_f, it_t, it_f, true_and, and_true, not_true_eq_false, not_false_eq_true, implies_true, and_self, eq_self, wi_c, wi_u, upd_s, upd_n, su_r, su_c, h3, h4, h64]
  · unfold p_X12_fail; simp (disch := omega) only [ln_, leT, leF, ltT, ltF, eqT, eqF, vpT, nlT, nleT, lnF, lenF, eqnF, neqF, nnF, nI_add, pk_mul, pk_div, pk_sub, ni_m, nI_clamp, md10, dm10, gI_l, gI_n, ar_t, ar_f, it_t, it_f, true_and, and_true, not_true_eq_false, not_false_eq_true, implies_true, and_self, eq_self, wi_c, wi_u, upd_s, upd_n, su_r, su_c, h3, h4]
theorem r_nextP (h : rPt B n k s l) (hT : 2 ≤ tK B n k) : ∃ s', f_X12_goesOn fu s l = (s', l) ∧ p_X12_goesOn fu s l ∧ rPf s s' ∧ ((k < 400 ∧ rPt B n (k + 1) s' l) ∨ (k = 400 ∧ rBd B n 2 k s')) := by
  have hk := h.2.1.1
  have h3 := h.2.2.1
  by_cases e : k = 400
  · obtain ⟨s', g1, g2, g3, g4⟩ := r_failP (fu := fu) (e := 2) h (.inr rfl)
    refine ⟨s', ?_, ?_, g4, .inr ⟨e, g3⟩⟩
    · unfold f_X12_goesOn; simp (disch := omega) only [ln_, leT, leF, ltT, ltF, eqT, eqF, vpT, nlT, nleT, lnF, lenF, eqnF, neqF, nnF, nI_add, pk_mul, pk_div, pk_sub, ni_m, nI_clamp, md10, dm10, gI_l, gI_n, ar_t, ar_f, it_t, it_f, true_and, and_true, not_true_eq_false, not_false_eq_true, implies_true, and_self, eq_self, h3, g1]
    · unfold p_X12_goesOn; simp (disch := omega) only [ln_, leT, leF, ltT, ltF, eqT, eqF, vpT, nlT, nleT, lnF, lenF, eqnF, neqF, nnF, nI_add, pk_mul, pk_div, pk_sub, ni_m, nI_clamp, md10, dm10, gI_l, gI_n, ar_t, ar_f, it_t, it_f, true_and, and_true, not_true_eq_false, not_false_eq_true, implies_true, and_self, eq_self, h3, g2]
  · have fr : rPf s (wi s 60 11 (nI (k + 1))) := ⟨fun q a => wi_c a, fun j a b c => by simp (disch := omega) only [wi_c, wi_u, upd_s, upd_n, su_r, su_c]⟩
    refine ⟨wi s 60 11 (nI (k + 1)), ?_, ?_, fr, .inl ⟨by omega, rTk_keep (rPf_E fr) h.1, ⟨by omega, fun i hi => ?_⟩, by simp (disch := omega) only [wi_c, wi_u, upd_s, upd_n, su_r, su_c], by simp (disch := omega) only [wi_c, wi_u, upd_s, upd_n, su_r, su_c]; exact h.2.2.2⟩⟩
    · unfold f_X12_goesOn; simp (disch := omega) only [ln_, leT, leF, ltT, ltF, eqT, eqF, vpT, nlT, nleT, lnF, lenF, eqnF, neqF, nnF, nI_add, pk_mul, pk_div, pk_sub, ni_m, nI_clamp, md10, dm10, gI_l, gI_n, ar_t, ar_f, it_t, it_f, true_and, and_true, not_true_eq_false, not_false_eq_true, implies_true, and_self, eq_self, h3]
    · unfold p_X12_goesOn; simp (disch := omega) only [ln_, leT, leF, ltT, ltF, eqT, eqF, vpT, nlT, nleT, lnF, lenF, eqnF, neqF, nnF, nI_add, pk_mul, pk_div, pk_sub, ni_m, nI_clamp, md10, dm10, gI_l, gI_n, ar_t, ar_f, it_t, it_f, true_and, and_true, not_true_eq_false, not_false_eq_true, implies_true, and_self, eq_self, h3]
    · by_cases ei : i = k
      · rw [ei]; exact hT
      · exact h.2.1.2 i (by omega)
/-- must: as the class's take -/
theorem r_must (h : rPt B n k s l) (hc : 2 ≤ c) (hx : rk (tK B n k) = b ↔ tK B n k = c) (hb : b < 1000) (hE : tkE (tK B n) c k = (e, a)) : ∃ s', f_X12_must fu (nI b) s l = (s', l) ∧ p_X12_must fu (nI b) s l ∧ rPf s s' ∧ (e = 0 → rPt B n a s' l) ∧ (e ≠ 0 → rBd B n e a s') := by
  obtain ⟨i1, i2⟩ := r_isP (fu := fu) (c := b) h hb
  unfold f_X12_must p_X12_must
  unfold tkE at hE
  by_cases e1 : tK B n k = c
  · rw [if_pos (hx.mpr e1)] at i1
    rw [if_pos e1] at hE
    obtain ⟨s', g1, g2, g3, g4⟩ := r_nextP (fu := fu) h (by omega)
    refine ⟨s', ?_, ?_, g3, ?_⟩
    · simp (disch := omega) only [ln_, eqF, ar_t, ar_f, it_t, it_f, true_and, and_true, not_true_eq_false, not_false_eq_true, implies_true, and_self, eq_self, i1, g1]
    · simp (disch := omega) only [ln_, eqF, ar_t, ar_f, it_t, it_f, true_and, and_true, not_true_eq_false, not_false_eq_true, implies_true, and_self, eq_self, i1, i2, g2]
    · rcases g4 with ⟨g0, g4⟩ | ⟨g0, g4⟩
      · rw [if_pos g0] at hE
        obtain ⟨rfl, rfl⟩ := Prod.mk.inj hE
        exact ⟨fun _ => g4, fun h => absurd rfl h⟩
      · rw [if_neg (by omega)] at hE
        obtain ⟨rfl, rfl⟩ := Prod.mk.inj hE
        exact ⟨fun h => by omega, fun _ => g4⟩
  · rw [if_neg (fun h => e1 (hx.mp h))] at i1
    rw [if_neg e1] at hE
    obtain ⟨rfl, rfl⟩ := Prod.mk.inj hE
    obtain ⟨s', g1, g2, g3, g4⟩ := r_failP (fu := fu) (e := 1) h (.inl rfl)
    refine ⟨s', ?_, ?_, g4, fun h => by omega, fun _ => g3⟩
    · simp (disch := omega) only [ln_, eqT, ar_t, ar_f, it_t, it_f, true_and, and_true, not_true_eq_false, not_false_eq_true, implies_true, and_self, eq_self, i1, g1]
    · simp (disch := omega) only [ln_, eqT, ar_t, ar_f, it_t, it_f, true_and, and_true, not_true_eq_false, not_false_eq_true, implies_true, and_self, eq_self, i1, i2, g2]
/-- must, when a fault is told -/
theorem r_mustB (h : rBd B n e a s) : f_X12_must fu x s l = (s, l) ∧ p_X12_must fu x s l := by
  obtain ⟨i1, i2⟩ := r_isB (fu := fu) (x := x) (l := l) h
  obtain ⟨g1, g2⟩ := r_failB (fu := fu) (x := nI 1) (l := l) h
  unfold f_X12_must p_X12_must
  simp (disch := omega) only [ln_, eqT, ar_t, ar_f, it_t, it_f, true_and, and_true, not_true_eq_false, not_false_eq_true, implies_true, and_self, eq_self, i1, i2, g1, g2]
end rto
