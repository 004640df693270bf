/-! The reference begins -/
section beg
variable {a b c e i j k m n p q t z f sd y hi o r P0 np nl lx ly : Nat} {s s1 s2 : fl_I} {l l1 l2 : fl_L} {fu : Nat} {w : List Nat} {L : Lt} {K : Kt} {N : Nt} {x : Int32}
theorem r_bg171 (hfu : 20000 ≤ fu) (hsd : sd ≤ 1) (h18 : s 60 18 = nI sd) (hk : hK sd K s l) (hn : hN sd N s) (h4 : K.1 ≤ 4) : ∃ s', f_X12_begins_171 fu fu (nI 0) s l = (s', l) ∧ p_X12_begins_171 fu fu (nI 0) s l ∧ (∀ b, b < K.1 → s' 95 (128 + b) = nI (K.2.2.1 b) ∧ s' 95 (132 + b) = nI (K.2.2.2.1 b) ∧ s' 95 (136 + b) = -nI 2) ∧ s' 60 52 = nI N.2.2.2 ∧ s' 60 53 = nI 0 ∧ (∀ r, r < 128 ∨ r = 140 → s' 95 r = s 95 r) ∧ (∀ q, q ≠ 60 → q ≠ 95 → s' q = s q) ∧ ∀ j, j ≠ 52 → j ≠ 53 → s' 60 j = s 60 j := by
  have e4 : nI 4 * nI sd = nI (4 * sd) := by rw [pk_mul]
  refine loop_i (fun f i s0 => ∃ s', f_X12_begins_171 fu f (nI i) s0 l = (s', l) ∧ p_X12_begins_171 fu f (nI i) s0 l ∧ (∀ b, b < K.1 → s' 95 (128 + b) = nI (K.2.2.1 b) ∧ s' 95 (132 + b) = nI (K.2.2.2.1 b) ∧ s' 95 (136 + b) = -nI 2) ∧ s' 60 52 = nI N.2.2.2 ∧ s' 60 53 = nI 0 ∧ (∀ r, r < 128 ∨ r = 140 → s' 95 r = s 95 r) ∧ (∀ q, q ≠ 60 → q ≠ 95 → s' q = s q) ∧ ∀ j, j ≠ 52 → j ≠ 53 → s' 60 j = s 60 j)
    (fun i s0 => (∀ b, b < i → s0 95 (128 + b) = nI (K.2.2.1 b) ∧ s0 95 (132 + b) = nI (K.2.2.2.1 b) ∧ s0 95 (136 + b) = -nI 2) ∧ (∀ r, r < 128 ∨ r = 140 → s0 95 r = s 95 r) ∧ ∀ q, q ≠ 95 → s0 q = s q) K.1 ?_ ?_ fu 0 s (Nat.zero_le _) (by omega) ⟨fun b hb => absurd hb (Nat.not_lt_zero b), fun _ _ => rfl, fun _ _ => rfl⟩
  · intro f s0 ⟨g1, g2, g3⟩
    have k18 : s0 60 18 = nI sd := by rw [g3 60 (by omega)]; exact h18
    have k74 : s0 74 sd = nI K.1 := by rw [g3 74 (by omega)]; exact hk.1
    have k81 : s0 81 sd = nI N.2.2.2 := by rw [g3 81 (by omega)]; exact hn.2.2.2
    refine ⟨wi (wi s0 60 52 (nI N.2.2.2)) 60 53 (nI 0), ?_, ?_, fun b hb => by simp (disch := omega) only [wi_c]; exact g1 b hb, by simp (disch := omega) only [wi_c, wi_u, upd_s, upd_n, su_r, su_c], by simp (disch := omega) only [wi_c, wi_u, upd_s, upd_n, su_r, su_c], fun r hr => by simp (disch := omega) only [wi_c]; exact g2 r hr, fun q a b => by simp (disch := omega) only [wi_c]; exact g3 q b, fun j a b => by simp (disch := omega) only [wi_c, wi_u, upd_s, upd_n, su_r, su_c]; rw [g3 60 (by omega)]⟩
    · unfold f_X12_begins_171
      simp (disch := omega) only [ln_, nI_clamp, leT, ar_t, ar_f, it_t, it_f, true_and, and_true, not_true_eq_false, not_false_eq_true, implies_true, and_self, eq_self, k18, k74, k81]
    · unfold p_X12_begins_171
      simp (disch := omega) only [ln_, nI_clamp, leT, vpT, ar_t, ar_f, it_t, it_f, true_and, and_true, not_true_eq_false, not_false_eq_true, implies_true, and_self, eq_self, k18, k74]
  · intro f i s0 hi ⟨g1, g2, g3⟩ ih
    have k18 : s0 60 18 = nI sd := by rw [g3 60 (by omega)]; exact h18
    have k74 : s0 74 sd = nI K.1 := by rw [g3 74 (by omega)]; exact hk.1
    have k76 : s0 76 (4 * sd + i) = nI (K.2.2.1 i) := by rw [g3 76 (by omega)]; exact (hk.2 i hi).2.1
    have k77 : s0 77 (4 * sd + i) = nI (K.2.2.2.1 i) := by rw [g3 77 (by omega)]; exact (hk.2 i hi).2.2.1
    unfold f_X12_begins_171 p_X12_begins_171
    simp (disch := omega) only [ln_, nI_clamp, leF, vpT, nI_add, ar_t, ar_f, it_t, it_f, true_and, and_true, not_true_eq_false, not_false_eq_true, implies_true, and_self, eq_self, wi_c, wi_u, upd_s, upd_n, su_r, su_c, k18, k74, e4, k76, k77]
    refine ih _ ⟨fun b hb => ?_, fun r hr => ?_, fun q hq => ?_⟩
    · by_cases eb : b = i
      · subst eb
        simp (disch := omega) only [wi_c, wi_u, upd_s, upd_n, su_r, su_c, ar_t, ar_f, it_t, it_f, true_and, and_true, not_true_eq_false, not_false_eq_true, implies_true, and_self, eq_self]
      · simp (disch := omega) only [wi_c, wi_u, upd_s, upd_n, su_r, su_c]; exact g1 b (by omega)
    · simp (disch := omega) only [wi_c, wi_u, upd_s, upd_n, su_r, su_c]; exact g2 r hr
    · simp (disch := omega) only [wi_c, wi_u, upd_s, upd_n, su_r, su_c]; exact g3 q hq
theorem r_bg53 {KK : Int32 → fl_I → fl_L → fl_I × fl_L} {PK : Int32 → fl_I → fl_L → Prop} (hfu : 20000 ≤ fu) (hj : j < 8) (hw : okW w) (h69 : l 69 k = lN (p27 w.reverse)) (hk : k < 8) (h70 : s 70 k = nI lx) (h71 : s 71 k = nI ly) (hx : lx ≤ 9) (h54 : s 60 54 = nI P0) (hP : P0 + w.length ≤ 32) :
    ∃ s', f_X12_begins_53 fu KK fu (nI j) (nI k) (nI 0) s l = KK (nI (j + 1)) s' l ∧ (PK (nI (j + 1)) s' l → p_X12_begins_53 fu PK fu (nI j) (nI k) (nI 0) s l) ∧ s' 60 54 = nI (P0 + w.length) ∧ (∀ i, i < w.length → s' 96 (P0 + i) = nI (sgn w i) ∧ s' 97 (P0 + i) = nI j ∧ s' 95 (P0 + i) = nI ((lx + i) % 10) ∧ s' 95 (32 + (P0 + i)) = nI ly ∧ s' 95 (64 + (P0 + i)) = -nI 2) ∧ (∀ r, r < P0 → s' 96 r = s 96 r ∧ s' 97 r = s 97 r) ∧ (∀ r, (∀ i, i < w.length → r ≠ P0 + i ∧ r ≠ 32 + (P0 + i) ∧ r ≠ 64 + (P0 + i)) → s' 95 r = s 95 r) ∧ (∀ q, q ≠ 60 → q ≠ 95 → q ≠ 96 → q ≠ 97 → s' q = s q) ∧ ∀ j, j ≠ 54 → s' 60 j = s 60 j := by
  obtain ⟨q1, q2⟩ := r_lenW (fu := fu) hfu hw
  have hl := hw.2.1
  refine loop_i (fun f i s0 => ∃ s', f_X12_begins_53 fu KK f (nI j) (nI k) (nI i) s0 l = KK (nI (j + 1)) s' l ∧ (PK (nI (j + 1)) s' l → p_X12_begins_53 fu PK f (nI j) (nI k) (nI i) s0 l) ∧ s' 60 54 = nI (P0 + w.length) ∧ (∀ i, i < w.length → s' 96 (P0 + i) = nI (sgn w i) ∧ s' 97 (P0 + i) = nI j ∧ s' 95 (P0 + i) = nI ((lx + i) % 10) ∧ s' 95 (32 + (P0 + i)) = nI ly ∧ s' 95 (64 + (P0 + i)) = -nI 2) ∧ (∀ r, r < P0 → s' 96 r = s 96 r ∧ s' 97 r = s 97 r) ∧ (∀ r, (∀ i, i < w.length → r ≠ P0 + i ∧ r ≠ 32 + (P0 + i) ∧ r ≠ 64 + (P0 + i)) → s' 95 r = s 95 r) ∧ (∀ q, q ≠ 60 → q ≠ 95 → q ≠ 96 → q ≠ 97 → s' q = s q) ∧ ∀ j, j ≠ 54 → s' 60 j = s 60 j)
    (fun i s0 => s0 60 54 = nI (P0 + i) ∧ (∀ i', i' < i → s0 96 (P0 + i') = nI (sgn w i') ∧ s0 97 (P0 + i') = nI j ∧ s0 95 (P0 + i') = nI ((lx + i') % 10) ∧ s0 95 (32 + (P0 + i')) = nI ly ∧ s0 95 (64 + (P0 + i')) = -nI 2) ∧ (∀ r, r < P0 → s0 96 r = s 96 r ∧ s0 97 r = s 97 r) ∧ (∀ r, (∀ i, i < w.length → r ≠ P0 + i ∧ r ≠ 32 + (P0 + i) ∧ r ≠ 64 + (P0 + i)) → s0 95 r = s 95 r) ∧ (∀ q, q ≠ 60 → q ≠ 95 → q ≠ 96 → q ≠ 97 → s0 q = s q) ∧ ∀ j, j ≠ 54 → s0 60 j = s 60 j) w.length ?_ ?_ fu 0 s (Nat.zero_le _) (by omega) ⟨h54, fun i hi => absurd hi (Nat.not_lt_zero i), fun _ _ => ⟨rfl, rfl⟩, fun _ _ => rfl, fun _ _ _ _ _ => rfl, fun _ _ => rfl⟩
  · intro f s0 ⟨g1, g2, g3, g4, g5, g6⟩
    refine ⟨s0, ?_, fun h => ?_, g1, g2, g3, g4, g5, g6⟩
    · unfold f_X12_begins_53
      simp (disch := omega) only [ln_, nI_clamp, leT, nI_add, ar_t, ar_f, it_t, it_f, true_and, and_true, not_true_eq_false, not_false_eq_true, implies_true, and_self, eq_self, h69, q2]
    · unfold p_X12_begins_53
      simp (disch := omega) only [ln_, nI_clamp, leT, vpT, nI_add, ar_t, ar_f, it_t, it_f, true_and, and_true, not_true_eq_false, not_false_eq_true, implies_true, and_self, eq_self, h69, q1, q2]
      exact h
  · intro f i s0 hi ⟨g1, g2, g3, g4, g5, g6⟩ ih
    obtain ⟨z1, z2⟩ := r_signAt (fu := fu) hfu hw hi
    have k70 : s0 70 k = nI lx := by rw [g5 70 (by omega) (by omega) (by omega) (by omega)]; exact h70
    have k71 : s0 71 k = nI ly := by rw [g5 71 (by omega) (by omega) (by omega) (by omega)]; exact h71
    unfold f_X12_begins_53 p_X12_begins_53
    simp (disch := omega) only [ln_, nI_clamp, leF, vpT, nI_add, ar_t, ar_f, it_t, it_f, true_and, and_true, not_true_eq_false, not_false_eq_true, implies_true, and_self, eq_self, wi_c, wi_u, upd_s, upd_n, su_r, su_c, h69, q1, q2, z1, z2, g1, k70, k71]
    simp (disch := omega) only [pk_div, pk_mul, pk_sub, md10]
    refine ih _ ⟨?_, fun i' hi' => ?_, fun r hr => ?_, fun r hr => ?_, fun q a b c d => ?_, fun j' a => ?_⟩
    · simp (disch := omega) only [wi_c, wi_u, upd_s, upd_n, su_r, su_c]; rfl
    · by_cases ei : i' = i
      · subst ei
        simp (disch := omega) only [wi_c, wi_u, upd_s, upd_n, su_r, su_c, ar_t, ar_f, it_t, it_f, true_and, and_true, not_true_eq_false, not_false_eq_true, implies_true, and_self, eq_self]
      · simp (disch := omega) only [wi_c, wi_u, upd_s, upd_n, su_r, su_c]; exact g2 i' (by omega)
    · simp (disch := omega) only [wi_c, wi_u, upd_s, upd_n, su_r, su_c]; exact g3 r hr
    · obtain ⟨r1, r2, r3⟩ := hr i hi
      simp (disch := omega) only [wi_c, wi_u, upd_s, upd_n, su_r, su_c]; exact g4 r hr
    · simp (disch := omega) only [wi_c, wi_u, upd_s, upd_n, su_r, su_c]; exact g5 q a b c d
    · simp (disch := omega) only [wi_c, wi_u, upd_s, upd_n, su_r, su_c]; exact g6 j' a
end beg
