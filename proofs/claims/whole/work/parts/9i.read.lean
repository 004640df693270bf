/-! How the reference ends its reading -/
section rea
variable {B : Nat → Nat} {a b c e i j k m n p q t z f sd y hi o r P np nl lx ly lf lj lv M br : Nat} {s s1 s2 s3 : fl_I} {l l1 l2 l3 : fl_L} {fu : Nat} {w : List Nat} {L : Lt} {W : Wt} {K : Kt} {N : Nt} {Q : Qt} {x : Int32} {fc pc ht : Nat → Nat}
theorem r_129b (he : 1 ≤ e) (he9 : e ≤ 9) (h : rBd B n e a s ∨ (s 60 13 = nI 0 ∧ s 60 15 = nI e ∧ s 60 16 = nI (tP B n a))) : f_X12_read_129 fu s l = (nI e, wi s 60 17 (nI (tP B n a)), l) ∧ p_X12_read_129 fu s l := by
  unfold f_X12_read_129 p_X12_read_129
  rcases h with h | ⟨h1, h2, h3⟩
  · obtain ⟨h13, e1, e2⟩ := rBd_13 h
    have h14 := h.2.2.1
    simp (disch := omega) only [ln_, leF, ar_t, ar_f, it_t, it_f, true_and, and_true, not_true_eq_false, not_false_eq_true, implies_true, and_self, eq_self, wi_c, wi_u, upd_s, upd_n, su_r, su_c, h13, h14]
  · simp (disch := omega) only [ln_, leT, leF, ar_t, ar_f, it_t, it_f, true_and, and_true, not_true_eq_false, not_false_eq_true, implies_true, and_self, eq_self, wi_c, wi_u, upd_s, upd_n, su_r, su_c, h1, h2, h3]
theorem r_129g (hfu : 20000 ≤ fu) (hsd : sd ≤ 1) (r : RJ B n sd k M br 0 lj L W K N Q s l) (T : TJ 0 L W K N Q) : ∃ s', f_X12_read_129 fu s l = (nI 0, s', l) ∧ p_X12_read_129 fu s l ∧ (∃ s0 s2, rBeg sd L K N s0 s2 ∧ (∀ r, r < 141 → s' 94 r = s2 95 r) ∧ s' 96 = s2 96 ∧ s' 97 = s2 97 ∧ s' 60 54 = s2 60 54) ∧ s' 60 17 = -nI 1 ∧ s' 60 18 = nI sd ∧ s' 60 58 = nI 0 ∧ s' 60 65 = nI 0 ∧ (∀ k, k < 3 → s' 105 k = nI 0) ∧ (∀ q, q ≠ 60 → q ≠ 94 → q ≠ 95 → q ≠ 96 → q ≠ 97 → q ≠ 105 → s' q = s q) ∧ ∀ j, j < 17 → s' 60 j = s 60 j := by
  obtain ⟨r1, rL, rW, rK, rN', rQ', rM1, rM2, rb1, rb2⟩ := r
  obtain ⟨tl, tw, tk, tn, tq⟩ := T
  have h13 := r1.1.1.2.2.2
  have h15 := r1.2.1.1
  have h19 := r1.1.2.2.2.2
  have fs : ∀ q, q ≠ 60 → (wi (wi s 60 17 (-nI 1)) 60 18 (nI sd)) q = s q := fun q hq => by rw [wi_c hq, wi_c hq]
  obtain ⟨s2, b1, b2, b3⟩ := r_begins (fu := fu) (l := l) (s := wi (wi s 60 17 (-nI 1)) 60 18 (nI sd)) hfu hsd (by simp (disch := omega) only [wi_c, wi_u, upd_s, upd_n, su_r, su_c]) (hL_k (fs 68 (by omega)) (fs 70 (by omega)) (fs 71 (by omega)) rfl rL) (hK_k (fs 74 (by omega)) (fs 76 (by omega)) (fs 77 (by omega)) (fs 78 (by omega)) rfl rK) (hN_k (fs 79 (by omega)) (fs 80 (by omega)) (fs 81 (by omega)) rN') tl tk
  obtain ⟨s3, c1, c2, c3, c4⟩ := r_keeps (fu := fu) (s := s2) (l := l) hfu
  obtain ⟨q1, q2, q3, q4, q5, q6, q7, q8⟩ := b3
  have key := loop_i (fun f i s0 => ∃ s', f_X12_read_214 fu f (nI i) s0 l = (nI 0, s', l) ∧ p_X12_read_214 fu f (nI i) s0 l ∧ (∀ k, k < 3 → s' 105 k = nI 0) ∧ ∀ q, q ≠ 105 → s' q = (wi (wi s3 60 58 (nI 0)) 60 65 (nI 0)) q) (fun i s0 => (∀ k, k < i → s0 105 k = nI 0) ∧ ∀ q, q ≠ 105 → s0 q = (wi (wi s3 60 58 (nI 0)) 60 65 (nI 0)) q) 3 ?_ ?_ fu 0 (wi (wi s3 60 58 (nI 0)) 60 65 (nI 0)) (Nat.zero_le _) (by omega) ⟨fun k hk => absurd hk (Nat.not_lt_zero k), fun _ _ => rfl⟩
  · obtain ⟨s4, d1, d2, d3, d4⟩ := key
    have g : ∀ q, q ≠ 60 → q ≠ 105 → s4 q = s3 q := fun q a b => by rw [d4 q b, wi_c a, wi_c a]
    have g60 : ∀ j, j ≠ 58 → j ≠ 65 → s4 60 j = s2 60 j := fun j a b => by rw [d4 60 (by omega)]; simp (disch := omega) only [wi_c, wi_u, upd_s, upd_n, su_r, su_c]; rw [c4 60 (by omega)]
    refine ⟨s4, ?_, ?_, ⟨_, s2, ⟨q1, q2, q3, q4, q5, q6, q7, q8⟩, fun r hr => by rw [g 94 (by omega) (by omega)]; exact c3 r hr, by rw [g 96 (by omega) (by omega), c4 96 (by omega)], by rw [g 97 (by omega) (by omega), c4 97 (by omega)], g60 54 (by omega) (by omega)⟩, ?_, ?_, ?_, ?_, d3, fun q a b c d e f => by rw [g q a f, c4 q b, q7 q a c d e, fs q a], fun j hj => ?_⟩
    · unfold f_X12_read_129 f_X12_read_198 f_X12_read_202
      simp (disch := omega) only [ln_, leT, ar_t, ar_f, it_t, it_f, true_and, and_true, not_true_eq_false, not_false_eq_true, implies_true, and_self, eq_self, wi_c, wi_u, upd_s, upd_n, su_r, su_c, h13, h15, h19, b1, c1, d1]
    · unfold p_X12_read_129 p_X12_read_198 p_X12_read_202
      simp (disch := omega) only [ln_, leT, ar_t, ar_f, it_t, it_f, true_and, and_true, not_true_eq_false, not_false_eq_true, implies_true, and_self, eq_self, wi_c, wi_u, upd_s, upd_n, su_r, su_c, h13, h15, h19, b1, b2, c1, c2, d2]
    · rw [g60 17 (by omega) (by omega), q8 17 (by omega) (by omega) (by omega)]; simp (disch := omega) only [wi_c, wi_u, upd_s, upd_n, su_r, su_c]
    · rw [g60 18 (by omega) (by omega), q8 18 (by omega) (by omega) (by omega)]; simp (disch := omega) only [wi_c, wi_u, upd_s, upd_n, su_r, su_c]
    · rw [d4 60 (by omega)]; simp (disch := omega) only [wi_c, wi_u, upd_s, upd_n, su_r, su_c]
    · rw [d4 60 (by omega)]; simp (disch := omega) only [wi_c, wi_u, upd_s, upd_n, su_r, su_c]
    · rw [g60 j (by omega) (by omega), q8 j (by omega) (by omega) (by omega)]; simp (disch := omega) only [wi_c, wi_u, upd_s, upd_n, su_r, su_c]
  · intro f s0 ⟨g1, g2⟩
    refine ⟨s0, ?_, ?_, g1, g2⟩
    · unfold f_X12_read_214
      simp (disch := omega) only [ln_, leT, ar_t, ar_f, it_t, it_f, true_and, and_true, not_true_eq_false, not_false_eq_true, implies_true, and_self, eq_self]
    · unfold p_X12_read_214
      simp (disch := omega) only [ln_, leT, ar_t, ar_f, it_t, it_f, true_and, and_true, not_true_eq_false, not_false_eq_true, implies_true, and_self, eq_self]
  · intro f i s0 hi ⟨g1, g2⟩ ih
    unfold f_X12_read_214 p_X12_read_214
    simp (disch := omega) only [ln_, nI_clamp, leF, vpT, nI_add, nar0, ar_t, ar_f, it_t, it_f, true_and, and_true, not_true_eq_false, not_false_eq_true, implies_true, and_self, eq_self]
    refine ih _ ⟨fun k hk => ?_, fun q hq => by rw [wi_c hq]; exact g2 q hq⟩
    rw [wi_u]
    by_cases e : k = i
    · rw [e, upd_s]
    · rw [upd_n e]; exact g1 k (by omega)
end rea
