/-! The reference's yard: one row -/
section ry
variable {fu P np lv a i b c q k : Nat} {ht sg : Nat → Nat} {Y : Yd} {s : fl_I} {l : fl_L}
theorem r_doesLie (y : YF P np Y (s 95)) (w : YW P np ht Y) (hi : i < P) : p_X12_doesLie fu (nI i) s l ∧ f_X12_doesLie fu (nI i) s l = if Y.2.1 i < 80 then nI 1 else nI 0 := by
  have h2 := w.1
  have h3 := (w.2.2.1 i hi).1
  have h4 := w.2.1
  obtain ⟨g1, g2, g3⟩ := y.2.1 i hi
  unfold p_X12_doesLie f_X12_doesLie
  by_cases h : Y.2.1 i < 80
  · have h1 := (g1 h).2.2
    simp (disch := omega) only [ln_, leT, leF, ltT, ltF, eqT, eqF, vpT, nlT, nleT, lnF, lenF, eqnF, neqF, nnF, nI_add, pk_mul, pk_div, pk_sub, ni_m, nI_clamp, md10, dm10, gI_l, gI_n, ar_t, ar_f, it_t, it_f, true_and, and_true, not_true_eq_false, not_false_eq_true, implies_true, and_self, eq_self, h1, h]
  · have h1 := g2 (by omega)
    simp (disch := omega) only [ln_, leT, leF, ltT, ltF, eqT, eqF, vpT, nlT, nleT, lnF, lenF, eqnF, neqF, nnF, nI_add, pk_mul, pk_div, pk_sub, ni_m, nI_clamp, md10, dm10, gI_l, gI_n, ar_t, ar_f, it_t, it_f, true_and, and_true, not_true_eq_false, not_false_eq_true, implies_true, and_self, eq_self, h1, h]
theorem r_cellOf (y : YF P np Y (s 95)) (w : YW P np ht Y) (hi : i < P) (hl : Y.2.1 i < 80) : p_X12_cellOf fu (nI i) s l ∧ f_X12_cellOf fu (nI i) s l = nI (Y.2.1 i) := by
  have h2 := w.1
  obtain ⟨h1, h3, _⟩ := (y.2.1 i hi).1 hl
  unfold p_X12_cellOf f_X12_cellOf
  simp (disch := omega) only [ln_, leT, leF, ltT, ltF, eqT, eqF, vpT, nlT, nleT, lnF, lenF, eqnF, neqF, nnF, nI_add, pk_mul, pk_div, pk_sub, ni_m, nI_clamp, md10, dm10, gI_l, gI_n, ar_t, ar_f, it_t, it_f, true_and, and_true, not_true_eq_false, not_false_eq_true, implies_true, and_self, eq_self, h1, h3]
theorem r_cellOfPicker (y : YF P np Y (s 95)) (w : YW P np ht Y) (hb : b < np) : p_X12_cellOfPicker fu (nI b) s l ∧ f_X12_cellOfPicker fu (nI b) s l = nI (Y.2.2.2.1 b) := by
  have h2 := w.2.1
  obtain ⟨h1, h3, _⟩ := y.2.2 b hb
  unfold p_X12_cellOfPicker f_X12_cellOfPicker
  simp (disch := omega) only [ln_, leT, leF, ltT, ltF, eqT, eqF, vpT, nlT, nleT, lnF, lenF, eqnF, neqF, nnF, nI_add, pk_mul, pk_div, pk_sub, ni_m, nI_clamp, md10, dm10, gI_l, gI_n, ar_t, ar_f, it_t, it_f, true_and, and_true, not_true_eq_false, not_false_eq_true, implies_true, and_self, eq_self, h1, h3]
theorem r_lieAt (hfu : 20000 ≤ fu) (h5 : s 60 54 = nI P) (y : YF P np Y (s 95)) (w : YW P np ht Y) (hc : c < 80) : p_X12_lieAt fu (nI c) s l ∧ f_X12_lieAt fu (nI c) s l = nI (ct (fun i => Y.2.1 i == c) P) := by
  have h2 := w.1
  have h4 := w.2.1
  refine loop_i (fun n i r => p_X12_lieAt_4 fu n (nI c) r (nI i) s l ∧ f_X12_lieAt_4 fu n (nI c) r (nI i) s l = nI (ct (fun i => Y.2.1 i == c) P)) (fun i r => r = nI (ct (fun i => Y.2.1 i == c) i)) P ?_ ?_ fu 0 (nI 0) (Nat.zero_le _) (by omega) rfl
  · intro n r hr
    unfold p_X12_lieAt_4 f_X12_lieAt_4
    simp (disch := omega) only [ln_, leT, leF, ltT, ltF, eqT, eqF, vpT, nlT, nleT, lnF, lenF, eqnF, neqF, nnF, nI_add, pk_mul, pk_div, pk_sub, ni_m, nI_clamp, md10, dm10, gI_l, gI_n, ar_t, ar_f, it_t, it_f, true_and, and_true, not_true_eq_false, not_false_eq_true, implies_true, and_self, eq_self, h5, hr]
  · intro n i r hi hr ih
    have h1 := r_doesLie (fu := fu) (l := l) y w hi
    unfold p_X12_lieAt_4 f_X12_lieAt_4
    by_cases h : Y.2.1 i < 80
    · rw [if_pos h] at h1
      have h3 := r_cellOf (fu := fu) (l := l) y w hi h
      by_cases e : Y.2.1 i = c
      · simp (disch := omega) only [ln_, leT, leF, ltT, ltF, eqT, eqF, vpT, nlT, nleT, lnF, lenF, eqnF, neqF, nnF, nI_add, pk_mul, pk_div, pk_sub, ni_m, nI_clamp, md10, dm10, gI_l, gI_n, ar_t, ar_f, it_t, it_f, true_and, and_true, not_true_eq_false, not_false_eq_true, implies_true, and_self, eq_self, h5, h1, h3]
        exact ih _ (by rw [hr, ct_t (by simp [e]), nI_add])
      · simp (disch := omega) only [ln_, leT, leF, ltT, ltF, eqT, eqF, vpT, nlT, nleT, lnF, lenF, eqnF, neqF, nnF, nI_add, pk_mul, pk_div, pk_sub, ni_m, nI_clamp, md10, dm10, gI_l, gI_n, ar_t, ar_f, it_t, it_f, true_and, and_true, not_true_eq_false, not_false_eq_true, implies_true, and_self, eq_self, h5, h1, h3]
        exact ih _ (by rw [hr, ct_f (by simp [e])])
    · rw [if_neg h] at h1
      simp (disch := omega) only [ln_, leT, leF, ltT, ltF, eqT, eqF, vpT, nlT, nleT, lnF, lenF, eqnF, neqF, nnF, nI_add, pk_mul, pk_div, pk_sub, ni_m, nI_clamp, md10, dm10, gI_l, gI_n, ar_t, ar_f, it_t, it_f, true_and, and_true, not_true_eq_false, not_false_eq_true, implies_true, and_self, eq_self, h5, h1]
      exact ih _ (by rw [hr, ct_f (by simp; omega)])
theorem r_inHat (hfu : 20000 ≤ fu) (h5 : s 60 54 = nI P) (y : YF P np Y (s 95)) (w : YW P np ht Y) (hb : b < 4) : p_X12_inHat fu (nI b) s l ∧ f_X12_inHat fu (nI b) s l = nI (cnt Y.2.1 P b) := by
  have h2 := w.1
  have h4 := w.2.1
  refine loop_i (fun n i r => p_X12_inHat_4 fu n (nI b) r (nI i) s l ∧ f_X12_inHat_4 fu n (nI b) r (nI i) s l = nI (cnt Y.2.1 P b)) (fun i r => r = nI (cnt Y.2.1 i b)) P ?_ ?_ fu 0 (nI 0) (Nat.zero_le _) (by omega) rfl
  · intro n r hr
    unfold p_X12_inHat_4 f_X12_inHat_4
    simp (disch := omega) only [ln_, leT, leF, ltT, ltF, eqT, eqF, vpT, nlT, nleT, lnF, lenF, eqnF, neqF, nnF, nI_add, pk_mul, pk_div, pk_sub, ni_m, nI_clamp, md10, dm10, gI_l, gI_n, ar_t, ar_f, it_t, it_f, true_and, and_true, not_true_eq_false, not_false_eq_true, implies_true, and_self, eq_self, h5, hr]
  · intro n i r hi hr ih
    obtain ⟨g1, g2, g3⟩ := y.2.1 i hi
    have h3 := (w.2.2.1 i hi).1
    unfold p_X12_inHat_4 f_X12_inHat_4
    by_cases h : Y.2.1 i < 80
    · have h1 := (g1 h).2.2
      simp (disch := omega) only [ln_, leT, leF, ltT, ltF, eqT, eqF, vpT, nlT, nleT, lnF, lenF, eqnF, neqF, nnF, nI_add, pk_mul, pk_div, pk_sub, ni_m, nI_clamp, md10, dm10, gI_l, gI_n, ar_t, ar_f, it_t, it_f, true_and, and_true, not_true_eq_false, not_false_eq_true, implies_true, and_self, eq_self, h5, h1]
      exact ih _ (by rw [hr]; unfold cnt; rw [ct_f (by simp; omega)])
    · have h1 := g2 (by omega)
      by_cases e : Y.2.1 i = 80 + b
      · simp (disch := omega) only [ln_, leT, leF, ltT, ltF, eqT, eqF, vpT, nlT, nleT, lnF, lenF, eqnF, neqF, nnF, nI_add, pk_mul, pk_div, pk_sub, ni_m, nI_clamp, md10, dm10, gI_l, gI_n, ar_t, ar_f, it_t, it_f, true_and, and_true, not_true_eq_false, not_false_eq_true, implies_true, and_self, eq_self, h5, h1]
        exact ih _ (by rw [hr]; unfold cnt; rw [ct_t (by simp [e]), nI_add])
      · simp (disch := omega) only [ln_, leT, leF, ltT, ltF, eqT, eqF, vpT, nlT, nleT, lnF, lenF, eqnF, neqF, nnF, nI_add, pk_mul, pk_div, pk_sub, ni_m, nI_clamp, md10, dm10, gI_l, gI_n, ar_t, ar_f, it_t, it_f, true_and, and_true, not_true_eq_false, not_false_eq_true, implies_true, and_self, eq_self, h5, h1]
        exact ih _ (by rw [hr]; unfold cnt; rw [ct_f (by simp [e])])
theorem r_lieMany (hfu : 20000 ≤ fu) (h5 : s 60 54 = nI P) (y : YF P np Y (s 95)) (w : YW P np ht Y) : p_X12_lieMany fu s l ∧ f_X12_lieMany fu s l = nI (lyn Y.2.1 P) := by
  have h2 := w.1
  have h4 := w.2.1
  refine loop_i (fun n i r => p_X12_lieMany_4 fu n r (nI i) s l ∧ f_X12_lieMany_4 fu n r (nI i) s l = nI (lyn Y.2.1 P)) (fun i r => r = nI (lyn Y.2.1 i)) P ?_ ?_ fu 0 (nI 0) (Nat.zero_le _) (by omega) rfl
  · intro n r hr
    unfold p_X12_lieMany_4 f_X12_lieMany_4
    simp (disch := omega) only [ln_, leT, leF, ltT, ltF, eqT, eqF, vpT, nlT, nleT, lnF, lenF, eqnF, neqF, nnF, nI_add, pk_mul, pk_div, pk_sub, ni_m, nI_clamp, md10, dm10, gI_l, gI_n, ar_t, ar_f, it_t, it_f, true_and, and_true, not_true_eq_false, not_false_eq_true, implies_true, and_self, eq_self, h5, hr]
  · intro n i r hi hr ih
    have h1 := r_doesLie (fu := fu) (l := l) y w hi
    unfold p_X12_lieMany_4 f_X12_lieMany_4
    by_cases h : Y.2.1 i < 80
    · rw [if_pos h] at h1
      simp (disch := omega) only [ln_, leT, leF, ltT, ltF, eqT, eqF, vpT, nlT, nleT, lnF, lenF, eqnF, neqF, nnF, nI_add, pk_mul, pk_div, pk_sub, ni_m, nI_clamp, md10, dm10, gI_l, gI_n, ar_t, ar_f, it_t, it_f, true_and, and_true, not_true_eq_false, not_false_eq_true, implies_true, and_self, eq_self, h5, h1]
      exact ih _ (by rw [hr]; unfold lyn; rw [ct_t (by simp [h]), nI_add])
    · rw [if_neg h] at h1
      simp (disch := omega) only [ln_, leT, leF, ltT, ltF, eqT, eqF, vpT, nlT, nleT, lnF, lenF, eqnF, neqF, nnF, nI_add, pk_mul, pk_div, pk_sub, ni_m, nI_clamp, md10, dm10, gI_l, gI_n, ar_t, ar_f, it_t, it_f, true_and, and_true, not_true_eq_false, not_false_eq_true, implies_true, and_self, eq_self, h5, h1]
      exact ih _ (by rw [hr]; unfold lyn; rw [ct_f (by simp [h])])
theorem r_pickerGoes (w : YW P np ht Y) (hb : b < np) (y : YF P np (wkM Y b) (s 95)) : ∃ s', f_X12_pickerGoes fu (nI b) s l = (s', l) ∧ p_X12_pickerGoes fu (nI b) s l ∧ YF P np (wkM Y (b + 1)) (s' 95) ∧ ∀ r, r ≠ 95 → s' r = s r := by
  have hP := w.1
  have hn := w.2.1
  obtain ⟨hc, hg, _, _⟩ := w.2.2.2 b hb
  have e0 : (wkM Y b).2.2.2.1 b = Y.2.2.2.1 b := if_neg (Nat.lt_irrefl b)
  have e1 : (wkM Y b).2.2.2.2 b = Y.2.2.2.2 b := if_neg (Nat.lt_irrefl b)
  obtain ⟨h1, h2, h3⟩ := y.2.2 b hb
  rw [e0] at h1 h2
  rw [e1] at h3
  have fin : ∀ R : Nat → Int32, (∀ r, r ≠ 128 + b → r ≠ 132 + b → r ≠ 136 + b → R r = s 95 r) → R (128 + b) = nI (wkA Y b % 10) → R (132 + b) = nI (wkA Y b / 10) → R (136 + b) = gI (wkG Y b) → YF P np (wkM Y (b + 1)) R := by
    intro R f1 f2 f3 f4
    refine ⟨by rw [f1 140 (by omega) (by omega) (by omega)]; exact y.1, fun i hi => ?_, fun j hj => ?_⟩
    · rw [f1 i (by omega) (by omega) (by omega), f1 (32 + i) (by omega) (by omega) (by omega), f1 (64 + i) (by omega) (by omega) (by omega), f1 (96 + i) (by omega) (by omega) (by omega)]; exact y.2.1 i hi
    · show R (128 + j) = nI ((if j < b + 1 then _ else _) % 10) ∧ R (132 + j) = nI ((if j < b + 1 then _ else _) / 10) ∧ R (136 + j) = gI (if j < b + 1 then _ else _)
      by_cases e : j = b
      · subst e; rw [if_pos (Nat.lt_succ_self j), if_pos (Nat.lt_succ_self j)]; exact ⟨f2, f3, f4⟩
      · have hy := y.2.2 j hj
        rw [f1 (128 + j) (by omega) (by omega) (by omega), f1 (132 + j) (by omega) (by omega) (by omega), f1 (136 + j) (by omega) (by omega) (by omega)]
        have hy : s 95 (128 + j) = nI ((if j < b then wkA Y j else Y.2.2.2.1 j) % 10) ∧ s 95 (132 + j) = nI ((if j < b then wkA Y j else Y.2.2.2.1 j) / 10) ∧ s 95 (136 + j) = gI (if j < b then wkG Y j else Y.2.2.2.2 j) := hy
        by_cases e2 : j < b
        · rw [if_pos e2, if_pos e2] at hy; rw [if_pos (by omega), if_pos (by omega)]; exact hy
        · rw [if_neg e2, if_neg e2] at hy; rw [if_neg (by omega), if_neg (by omega)]; exact hy
  by_cases h80 : Y.2.2.2.2 b < 80
  · have hA : wkA Y b = stp (Y.2.2.2.1 b) (Y.2.2.2.2 b) := if_pos h80
    have hr := stp_cases (Y.2.2.2.1 b) (Y.2.2.2.2 b)
    by_cases hx : stp (Y.2.2.2.1 b) (Y.2.2.2.2 b) = Y.2.2.2.2 b
    · have hG : wkG Y b = 80 := if_pos ⟨h80, hx⟩
      rcases hr with ⟨k1, k2⟩ | ⟨k1, k2⟩ | ⟨k0, k1, k2⟩ | ⟨k0, k1, k2⟩ | ⟨k0, k1, k2⟩
      all_goals try (exfalso; omega)
      all_goals
        unfold f_X12_pickerGoes f_X12_pickerGoes_123 f_X12_pickerGoes_144 f_X12_cellOfPicker p_X12_pickerGoes p_X12_pickerGoes_123 p_X12_pickerGoes_144 p_X12_cellOfPicker
        simp (disch := omega) only [ln_, leT, leF, ltT, ltF, eqT, eqF, vpT, nlT, nleT, lnF, lenF, eqnF, neqF, nnF, nI_add, pk_mul, pk_div, pk_sub, ni_m, nI_clamp, md10, dm10, gI_l, gI_n, ar_t, ar_f, it_t, it_f, true_and, and_true, not_true_eq_false, not_false_eq_true, implies_true, and_self, eq_self, h1, h2, h3, wi_c, wi_u, upd_s, upd_n, su_r, su_c]
        refine ⟨_, rfl, fin _ (fun r m1 m2 m3 => ?_) ?_ ?_ ?_, fun r hr => ?_⟩
        · simp (disch := omega) only [wi_c, wi_u, upd_s, upd_n, su_r, su_c]
        · simp (disch := omega) only [wi_c, wi_u, upd_s, upd_n, su_r, su_c, hA, k2, h1]
          try (congr 1; omega)
        · simp (disch := omega) only [wi_c, wi_u, upd_s, upd_n, su_r, su_c, hA, k2, h2]
          try (congr 1; omega)
        · simp (disch := omega) only [wi_c, wi_u, upd_s, upd_n, su_r, su_c, hG, gI_n]
        · simp (disch := omega) only [wi_c, wi_u, upd_s, upd_n, su_r, su_c]
    · have hG : wkG Y b = Y.2.2.2.2 b := if_neg (fun h => hx h.2)
      rcases hr with ⟨k1, k2⟩ | ⟨k1, k2⟩ | ⟨k0, k1, k2⟩ | ⟨k0, k1, k2⟩ | ⟨k0, k1, k2⟩
      all_goals try (exfalso; omega)
      all_goals
        unfold f_X12_pickerGoes f_X12_pickerGoes_123 f_X12_pickerGoes_144 f_X12_cellOfPicker p_X12_pickerGoes p_X12_pickerGoes_123 p_X12_pickerGoes_144 p_X12_cellOfPicker
        simp (disch := omega) only [ln_, leT, leF, ltT, ltF, eqT, eqF, vpT, nlT, nleT, lnF, lenF, eqnF, neqF, nnF, nI_add, pk_mul, pk_div, pk_sub, ni_m, nI_clamp, md10, dm10, gI_l, gI_n, ar_t, ar_f, it_t, it_f, true_and, and_true, not_true_eq_false, not_false_eq_true, implies_true, and_self, eq_self, h1, h2, h3, wi_c, wi_u, upd_s, upd_n, su_r, su_c]
        refine ⟨_, rfl, fin _ (fun r m1 m2 m3 => ?_) ?_ ?_ ?_, fun r hr => ?_⟩
        · simp (disch := omega) only [wi_c, wi_u, upd_s, upd_n, su_r, su_c]
        · simp (disch := omega) only [wi_c, wi_u, upd_s, upd_n, su_r, su_c, hA, k2, h1]
          try (congr 1; omega)
        · simp (disch := omega) only [wi_c, wi_u, upd_s, upd_n, su_r, su_c, hA, k2, h2]
          try (congr 1; omega)
        · simp (disch := omega) only [wi_c, wi_u, upd_s, upd_n, su_r, su_c, hG, h3]
        · simp (disch := omega) only [wi_c, wi_u, upd_s, upd_n, su_r, su_c]
  · have hA : wkA Y b = Y.2.2.2.1 b := if_neg h80
    have hG : wkG Y b = Y.2.2.2.2 b := if_neg (fun h => h80 h.1)
    refine ⟨s, ?_, ?_, fin _ (fun _ _ _ _ => rfl) (by rw [h1, hA]) (by rw [h2, hA]) (by rw [h3, hG]), fun _ _ => rfl⟩
    · unfold f_X12_pickerGoes
      simp (disch := omega) only [ln_, leT, leF, ltT, ltF, eqT, eqF, vpT, nlT, nleT, lnF, lenF, eqnF, neqF, nnF, nI_add, pk_mul, pk_div, pk_sub, ni_m, nI_clamp, md10, dm10, gI_l, gI_n, ar_t, ar_f, it_t, it_f, true_and, and_true, not_true_eq_false, not_false_eq_true, implies_true, and_self, eq_self, h3]
    · unfold p_X12_pickerGoes
      simp (disch := omega) only [ln_, leT, leF, ltT, ltF, eqT, eqF, vpT, nlT, nleT, lnF, lenF, eqnF, neqF, nnF, nI_add, pk_mul, pk_div, pk_sub, ni_m, nI_clamp, md10, dm10, gI_l, gI_n, ar_t, ar_f, it_t, it_f, true_and, and_true, not_true_eq_false, not_false_eq_true, implies_true, and_self, eq_self, h3]
/-- the row, where a piece is picked up -/
theorem YF_put {R R' : Nat → Int32} (hP : P ≤ 32) (hn : np ≤ 4) (y : YF P np Y R) (hk : k < P) (hf : ∀ j, j ≠ 64 + k → j ≠ 96 + k → R' j = R j) (h1 : R' (64 + k) = nI b) (h2 : R' (96 + k) = nI 0) : YF P np (Y.1, un Y.2.1 k (80 + b), un Y.2.2.1 k 0, Y.2.2.2) R' := by
  refine ⟨by rw [hf 140 (by omega) (by omega)]; exact y.1, fun i hi => ?_, fun j hj => ?_⟩
  · show (un _ _ _ _ < 80 → R' i = nI (un _ _ _ _ % 10) ∧ R' (32 + i) = nI (un _ _ _ _ / 10) ∧ R' (64 + i) = _) ∧ (80 ≤ un _ _ _ _ → R' (64 + i) = nI (un _ _ _ _ - 80)) ∧ R' (96 + i) = nI (un _ _ _ _)
    by_cases e : i = k
    · subst e; rw [un_s, un_s]
      refine ⟨fun h => by omega, fun _ => ?_, h2⟩
      rw [h1, Nat.add_sub_cancel_left]
    · rw [un_n e, un_n e, hf i (by omega) (by omega), hf (32 + i) (by omega) (by omega), hf (64 + i) (by omega) (by omega), hf (96 + i) (by omega) (by omega)]; exact y.2.1 i hi
  · rw [hf (128 + j) (by omega) (by omega), hf (132 + j) (by omega) (by omega), hf (136 + j) (by omega) (by omega)]; exact y.2.2 j hj
theorem r_picksUp (hfu : 20000 ≤ fu) (hlv : lv ≤ 1) (h18 : s 60 18 = nI lv) (h5 : s 60 54 = nI P) (hht : ∀ b, b < np → s 78 (4 * lv + b) = nI (ht b)) (y : YF P np Y (s 95)) (w : YW P np ht Y) (hb : b < np) :
    ∃ s', f_X12_picksUp fu (nI b) s l = (s', l) ∧ p_X12_picksUp fu (nI b) s l ∧ YF P np (pkL ht P b Y P) (s' 95) ∧ ∀ r, r ≠ 95 → s' r = s r := by
  have hP := w.1
  have hn := w.2.1
  have hi := r_inHat (l := l) hfu h5 y w (show b < 4 by omega)
  unfold f_X12_picksUp p_X12_picksUp
  rw [hi.2]
  have key := loop_i (fun n k r => ∃ s', f_X12_picksUp_8 fu n (nI b) r.1 (nI k) r.2 l = (s', l) ∧ p_X12_picksUp_8 fu n (nI b) r.1 (nI k) r.2 l ∧ YF P np (pkL ht P b Y P) (s' 95) ∧ ∀ r, r ≠ 95 → s' r = s r) (fun k (r : Int32 × fl_I) => r.1 = nI (cnt (pkL ht P b Y k).2.1 P b) ∧ YF P np (pkL ht P b Y k) (r.2 95) ∧ ∀ q, q ≠ 95 → r.2 q = s q) P ?_ ?_ fu 0 (nI (cnt Y.2.1 P b), s) (Nat.zero_le _) (by omega) ⟨rfl, y, fun _ _ => rfl⟩
  · obtain ⟨s', e, hp, hy⟩ := key
    exact ⟨s', e, ⟨hi.1, hp⟩, hy⟩
  · intro n r hr
    obtain ⟨x, s0⟩ := r
    obtain ⟨r1, r2, r3⟩ := hr
    have k5 : s0 60 54 = nI P := by rw [show s0 60 = s 60 from r3 60 (by omega)]; exact h5
    refine ⟨s0, ?_, ?_, r2, r3⟩
    · unfold f_X12_picksUp_8
      simp (disch := omega) only [ln_, leT, leF, ltT, ltF, eqT, eqF, vpT, nlT, nleT, lnF, lenF, eqnF, neqF, nnF, nI_add, pk_mul, pk_div, pk_sub, ni_m, nI_clamp, md10, dm10, gI_l, gI_n, ar_t, ar_f, it_t, it_f, true_and, and_true, not_true_eq_false, not_false_eq_true, implies_true, and_self, eq_self, k5]
    · unfold p_X12_picksUp_8
      simp (disch := omega) only [ln_, leT, leF, ltT, ltF, eqT, eqF, vpT, nlT, nleT, lnF, lenF, eqnF, neqF, nnF, nI_add, pk_mul, pk_div, pk_sub, ni_m, nI_clamp, md10, dm10, gI_l, gI_n, ar_t, ar_f, it_t, it_f, true_and, and_true, not_true_eq_false, not_false_eq_true, implies_true, and_self, eq_self, k5]
  · intro n k r hk hr ih
    replace ih := fun x s' => ih (x, s')
    dsimp only at ih
    obtain ⟨x, s0⟩ := r
    obtain ⟨r1, r2, r3⟩ := hr
    have r1 : x = _ := r1
    have r2 : YF P np (pkL ht P b Y k) (s0 95) := r2
    have k60 : s0 60 = s 60 := r3 60 (by omega)
    have k5 : s0 60 54 = nI P := by rw [k60]; exact h5
    have k18 : s0 60 18 = nI lv := by rw [k60]; exact h18
    have k78 : s0 78 (4 * lv + b) = nI (ht b) := by rw [show s0 78 = s 78 from r3 78 (by omega)]; exact hht b hb
    have wk := pkL_W w hb (Nat.le_of_lt hk)
    obtain ⟨g1, g2, g3, g4⟩ := wk.2.2.2 b hb
    have ha : (pkL ht P b Y k).2.2.2.1 = Y.2.2.2.1 := by rw [pkL_at.1]
    have h8 := (wk.2.2.1 k hk).1
    by_cases hfl : ht b ≤ cnt (pkL ht P b Y k).2.1 P b
    · have e : pkL ht P b Y P = pkL ht P b Y k := by have := pkL_full hfl (P - k); rwa [show k + (P - k) = P from by omega] at this
      refine ⟨s0, ?_, ?_, by rw [e]; exact r2, r3⟩
      · unfold f_X12_picksUp_8
        simp (disch := omega) only [ln_, leT, leF, ltT, ltF, eqT, eqF, vpT, nlT, nleT, lnF, lenF, eqnF, neqF, nnF, nI_add, pk_mul, pk_div, pk_sub, ni_m, nI_clamp, md10, dm10, gI_l, gI_n, ar_t, ar_f, it_t, it_f, true_and, and_true, not_true_eq_false, not_false_eq_true, implies_true, and_self, eq_self, k5, k18, k78, r1]
      · unfold p_X12_picksUp_8
        simp (disch := omega) only [ln_, leT, leF, ltT, ltF, eqT, eqF, vpT, nlT, nleT, lnF, lenF, eqnF, neqF, nnF, nI_add, pk_mul, pk_div, pk_sub, ni_m, nI_clamp, md10, dm10, gI_l, gI_n, ar_t, ar_f, it_t, it_f, true_and, and_true, not_true_eq_false, not_false_eq_true, implies_true, and_self, eq_self, k5, k18, k78, r1]
    · have h1 := r_doesLie (fu := fu) (l := l) r2 wk hk
      have h2 := r_cellOfPicker (fu := fu) (l := l) r2 wk hb
      unfold p_X12_picksUp_8 f_X12_picksUp_8
      by_cases hl : (pkL ht P b Y k).2.1 k < 80
      · rw [if_pos hl] at h1
        have h3 := r_cellOf (fu := fu) (l := l) r2 wk hk hl
        by_cases hw : (pkL ht P b Y k).2.1 k = (pkL ht P b Y k).2.2.2.1 b
        · have hz : pkL ht P b Y (k + 1) = ((pkL ht P b Y k).1, un (pkL ht P b Y k).2.1 k (80 + b), un (pkL ht P b Y k).2.2.1 k 0, (pkL ht P b Y k).2.2.2) := by
            show pk1 ht P b (pkL ht P b Y k) k = _; unfold pk1; rw [if_pos ⟨hw, by omega⟩]
          simp (disch := omega) only [ln_, leT, leF, ltT, ltF, eqT, eqF, vpT, nlT, nleT, lnF, lenF, eqnF, neqF, nnF, nI_add, pk_mul, pk_div, pk_sub, ni_m, nI_clamp, md10, dm10, gI_l, gI_n, ar_t, ar_f, it_t, it_f, true_and, and_true, not_true_eq_false, not_false_eq_true, implies_true, and_self, eq_self, k5, k18, k78, r1, h1, h2, h3]
          refine ih _ _ ⟨?_, ?_, fun q hq => ?_⟩
          · rw [hz]; show _ = nI (cnt (un (pkL ht P b Y k).2.1 k (80 + b)) P b); rw [cnt_put hk hl, if_pos rfl]
          · rw [hz]
            refine YF_put hP hn r2 hk (fun j m1 m2 => ?_) ?_ ?_
            · simp (disch := omega) only [wi_c, wi_u, upd_s, upd_n, su_r, su_c]
            · simp (disch := omega) only [wi_c, wi_u, upd_s, upd_n, su_r, su_c]
            · simp (disch := omega) only [wi_c, wi_u, upd_s, upd_n, su_r, su_c]
          · simp (disch := omega) only [wi_c, wi_u, upd_s, upd_n, su_r, su_c]
            exact r3 q hq
        · have hz : pkL ht P b Y (k + 1) = pkL ht P b Y k := by
            show pk1 ht P b (pkL ht P b Y k) k = _; unfold pk1; rw [if_neg (fun h => hw h.1)]
          simp (disch := omega) only [ln_, leT, leF, ltT, ltF, eqT, eqF, vpT, nlT, nleT, lnF, lenF, eqnF, neqF, nnF, nI_add, pk_mul, pk_div, pk_sub, ni_m, nI_clamp, md10, dm10, gI_l, gI_n, ar_t, ar_f, it_t, it_f, true_and, and_true, not_true_eq_false, not_false_eq_true, implies_true, and_self, eq_self, k5, k18, k78, r1, h1, h2, h3]
          exact ih _ _ (by rw [hz]; exact ⟨rfl, r2, r3⟩)
      · rw [if_neg hl] at h1
        have hz : pkL ht P b Y (k + 1) = pkL ht P b Y k := by
          show pk1 ht P b (pkL ht P b Y k) k = _; unfold pk1; rw [if_neg (by omega)]
        simp (disch := omega) only [ln_, leT, leF, ltT, ltF, eqT, eqF, vpT, nlT, nleT, lnF, lenF, eqnF, neqF, nnF, nI_add, pk_mul, pk_div, pk_sub, ni_m, nI_clamp, md10, dm10, gI_l, gI_n, ar_t, ar_f, it_t, it_f, true_and, and_true, not_true_eq_false, not_false_eq_true, implies_true, and_self, eq_self, k5, k18, k78, r1, h1]
        exact ih _ _ (by rw [hz]; exact ⟨rfl, r2, r3⟩)
end ry
