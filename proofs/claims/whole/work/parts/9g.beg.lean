/-! Both begin -/
/-- what the reference has once it has begun -/
def rBeg (sd : Nat) (L : Lt) (K : Kt) (N : Nt) (s s' : fl_I) : Prop := s' 60 54 = nI (off L.2.1 L.1) ∧ (∀ j, j < L.1 → ∀ i, i < (L.2.1 j).length → s' 96 (off L.2.1 j + i) = nI (sgn (L.2.1 j) i) ∧ s' 97 (off L.2.1 j + i) = nI j ∧ s' 95 (off L.2.1 j + i) = nI ((L.2.2.1 j + i) % 10) ∧ s' 95 (32 + (off L.2.1 j + i)) = nI (L.2.2.2 j) ∧ s' 95 (64 + (off L.2.1 j + i)) = -nI 2) ∧ (∀ r, 96 ≤ r → r < 128 ∨ r = 140 → s' 95 r = nI 0) ∧ (∀ b, b < K.1 → s' 95 (128 + b) = nI (K.2.2.1 b) ∧ s' 95 (132 + b) = nI (K.2.2.2.1 b) ∧ s' 95 (136 + b) = -nI 2) ∧ s' 60 52 = nI N.2.2.2 ∧ s' 60 53 = nI 0 ∧ (∀ q, q ≠ 60 → q ≠ 95 → q ≠ 96 → q ≠ 97 → s' q = s q) ∧ ∀ j, j ≠ 52 → j ≠ 53 → j ≠ 54 → s' 60 j = s 60 j
/-- the yard at the beginning -/
def Y0 (fc pc : Nat → Nat) : Yd := (nI 0, fc, fun _ => 0, pc, fun _ => 80)
section beg2
variable {a b c e i j k m n p q t z f sd y hi o r P np nl lx ly lf : Nat} {s s1 s2 : fl_I} {l l1 l2 : fl_L} {fu : Nat} {w : List Nat} {L : Lt} {W : Wt} {K : Kt} {N : Nt} {Q : Qt} {x : Int32} {fc pc ht : Nat → Nat}
theorem off_find {ln : Nat → List Nat} (h : i < off ln n) : ∃ j, j < n ∧ ∃ i', i' < (ln j).length ∧ i = off ln j + i' := by
  induction n with
  | zero => exact absurd h (Nat.not_lt_zero i)
  | succ n ih =>
    have h : i < off ln n + (ln n).length := h
    by_cases e : i < off ln n
    · obtain ⟨j, h1, i', h2, h3⟩ := ih e
      exact ⟨j, by omega, i', h2, h3⟩
    · exact ⟨n, by omega, i - off ln n, by omega, by omega⟩
theorem r_begins (hfu : 20000 ≤ fu) (hsd : sd ≤ 1) (h18 : s 60 18 = nI sd) (hl : hL sd L s l) (hk : hK sd K s l) (hn : hN sd N s) (tl : tL 0 L) (tk : tKp 0 K) : ∃ s', f_X12_begins fu s l = (s', l) ∧ p_X12_begins fu s l ∧ rBeg sd L K N s s' := by
  have e4 : nI 4 * nI sd = nI (4 * sd) := by rw [pk_mul]
  have o8 := fun j (hj : j ≤ L.1) => off_le (L := L) (j := j) (fun i hi => (tl.2.1 i (by omega)).1)
  have l4 := tl.1
  -- the row of zeros
  have key := loop_i (fun f i s0 => ∃ s', f_X12_begins_2 fu f (nI i) s0 l = (s', l) ∧ p_X12_begins_2 fu f (nI i) s0 l ∧ rBeg sd L K N s s')
    (fun i s0 => (∀ r, r < i → s0 95 r = nI 0) ∧ ∀ q, q ≠ 95 → s0 q = s q) 141 ?_ ?_ fu 0 s (Nat.zero_le _) (by omega) ⟨fun r hr => absurd hr (Nat.not_lt_zero r), fun _ _ => rfl⟩
  · exact key
  · intro f s0 ⟨z1, z2⟩
    -- the letters
    have key2 := loop_i (fun f j s0 => ∃ s', f_X12_begins_29 fu f (nI j) s0 l = (s', l) ∧ p_X12_begins_29 fu f (nI j) s0 l ∧ rBeg sd L K N s s')
      (fun j s0 => s0 60 54 = nI (off L.2.1 j) ∧ (∀ j', j' < j → ∀ i, i < (L.2.1 j').length → s0 96 (off L.2.1 j' + i) = nI (sgn (L.2.1 j') i) ∧ s0 97 (off L.2.1 j' + i) = nI j' ∧ s0 95 (off L.2.1 j' + i) = nI ((L.2.2.1 j' + i) % 10) ∧ s0 95 (32 + (off L.2.1 j' + i)) = nI (L.2.2.2 j') ∧ s0 95 (64 + (off L.2.1 j' + i)) = -nI 2) ∧ (∀ r, 96 ≤ r → r < 141 → s0 95 r = nI 0) ∧ (∀ q, q ≠ 60 → q ≠ 95 → q ≠ 96 → q ≠ 97 → s0 q = s q) ∧ ∀ j, j ≠ 54 → s0 60 j = s 60 j) L.1 ?_ ?_ fu 0 (wi s0 60 54 (nI 0)) (Nat.zero_le _) (by omega) ⟨by rw [wi_u, upd_s]; rfl, fun j hj => absurd hj (Nat.not_lt_zero j), fun r a b => by rw [wi_c (by omega)]; exact z1 r (by omega), fun q a b _ _ => by rw [wi_c a]; exact z2 q b, fun j hj => by rw [wi_u, upd_n hj, z2 60 (by omega)]⟩
    · obtain ⟨s', g1, g2, g3⟩ := key2
      refine ⟨s', ?_, ?_, g3⟩
      · unfold f_X12_begins_2
        simp (disch := omega) only [ln_, leT, ar_t, ar_f, it_t, it_f, true_and, and_true, not_true_eq_false, not_false_eq_true, implies_true, and_self, eq_self, g1]
      · unfold p_X12_begins_2
        simp (disch := omega) only [ln_, leT, ar_t, ar_f, it_t, it_f, true_and, and_true, not_true_eq_false, not_false_eq_true, implies_true, and_self, eq_self, g2]
    · intro f s1 ⟨g1, g2, g3, g4, g5⟩
      have k18 : s1 60 18 = nI sd := by rw [g5 18 (by omega)]; exact h18
      have k68 : s1 68 sd = nI L.1 := by rw [g4 68 (by omega) (by omega) (by omega) (by omega)]; exact hl.1
      obtain ⟨s', b1, b2, b3, b4, b5, b6, b7, b8⟩ := r_bg171 (fu := fu) (l := l) hfu hsd k18 (hK_k (g4 74 (by omega) (by omega) (by omega) (by omega)) (g4 76 (by omega) (by omega) (by omega) (by omega)) (g4 77 (by omega) (by omega) (by omega) (by omega)) (g4 78 (by omega) (by omega) (by omega) (by omega)) rfl hk) (hN_k (g4 79 (by omega) (by omega) (by omega) (by omega)) (g4 80 (by omega) (by omega) (by omega) (by omega)) (g4 81 (by omega) (by omega) (by omega) (by omega)) hn) tk.1
      refine ⟨s', ?_, ?_, by rw [b8 54 (by omega) (by omega)]; exact g1, fun j hj i hi => ?_, fun r a b => by rw [b6 r (by omega)]; exact g3 r a (by omega), b3, b4, b5, fun q a b c d => by rw [b7 q a b]; exact g4 q a b c d, fun j a b c => by rw [b8 j a b]; exact g5 j c⟩
      · unfold f_X12_begins_29
        simp (disch := omega) only [ln_, nI_clamp, leT, ar_t, ar_f, it_t, it_f, true_and, and_true, not_true_eq_false, not_false_eq_true, implies_true, and_self, eq_self, k18, k68, b1]
      · unfold p_X12_begins_29
        simp (disch := omega) only [ln_, nI_clamp, leT, vpT, ar_t, ar_f, it_t, it_f, true_and, and_true, not_true_eq_false, not_false_eq_true, implies_true, and_self, eq_self, k18, k68, b2]
      · have h1 := o8 L.1 (Nat.le_refl _)
        have h2 := off_mono (ln := L.2.1) hj
        rw [b7 96 (by omega) (by omega), b7 97 (by omega) (by omega), b6 _ (by omega), b6 _ (by omega), b6 _ (by omega)]
        exact g2 j hj i hi
    · intro f j s1 hj ⟨g1, g2, g3, g4, g5⟩ ih
      have k18 : s1 60 18 = nI sd := by rw [g5 18 (by omega)]; exact h18
      have k68 : s1 68 sd = nI L.1 := by rw [g4 68 (by omega) (by omega) (by omega) (by omega)]; exact hl.1
      obtain ⟨h69, h70, h71⟩ := hl.2 j hj
      obtain ⟨w1, w2, w3⟩ := tl.2.1 j hj
      have h1 := o8 L.1 (Nat.le_refl _)
      have h2 := off_mono (ln := L.2.1) hj
      obtain ⟨s2, b1, b2, b3, b4, b5, b6, b7, b8⟩ := r_bg53 (fu := fu) (l := l) (s := s1) (j := j) (k := 4 * sd + j) (P0 := off L.2.1 j) (KK := fun x1 s l => f_X12_begins_29 fu f x1 s l) (PK := fun x1 s l => p_X12_begins_29 fu f x1 s l) hfu (by omega) w1 h69 (by omega) (by rw [g4 70 (by omega) (by omega) (by omega) (by omega)]; exact h70) (by rw [g4 71 (by omega) (by omega) (by omega) (by omega)]; exact h71) (tl.2.2 rfl j hj).1 g1 (by omega)
      refine Exists.elim (ih s2 ⟨b3, fun j' hj' i hi => ?_, fun r a b => by rw [b6 r (fun i hi => by omega)]; exact g3 r a b, fun q a b c d => by rw [b7 q a b c d]; exact g4 q a b c d, fun j' a => by rw [b8 j' a]; exact g5 j' a⟩) (fun s' ⟨i1, i2, i3⟩ => ?_)
      rotate_left
      · refine ⟨s', ?_, ?_, i3⟩
        · unfold f_X12_begins_29
          simp (disch := omega) only [ln_, nI_clamp, leF, nI_add, ar_t, ar_f, it_t, it_f, true_and, and_true, not_true_eq_false, not_false_eq_true, implies_true, and_self, eq_self, k18, k68, e4, b1]
          exact i1
        · unfold p_X12_begins_29
          simp (disch := omega) only [ln_, nI_clamp, leF, vpT, nI_add, ar_t, ar_f, it_t, it_f, true_and, and_true, not_true_eq_false, not_false_eq_true, implies_true, and_self, eq_self, k18, k68, e4]
          exact b2 i2
      · by_cases ej : j' = j
        · subst ej; exact b4 i hi
        · have h3 := off_mono (ln := L.2.1) (i := j') (j := j) (by omega)
          obtain ⟨c1, c2⟩ := b5 (off L.2.1 j' + i) (by omega)
          rw [c1, c2, b6 _ (fun i' hi' => by omega), b6 _ (fun i' hi' => by omega), b6 _ (fun i' hi' => by omega)]
          exact g2 j' (by omega) i hi
  · intro f i s0 hi ⟨z1, z2⟩ ih
    unfold f_X12_begins_2 p_X12_begins_2
    simp (disch := omega) only [ln_, nI_clamp, leF, vpT, nI_add, ar_t, ar_f, it_t, it_f, true_and, and_true, not_true_eq_false, not_false_eq_true, implies_true, and_self, eq_self]
    refine ih _ ⟨fun r hr => ?_, fun q hq => by rw [wi_c hq]; exact z2 q hq⟩
    rw [wi_u]
    by_cases e : r = i
    · rw [e, upd_s]
    · rw [upd_n e]; exact z1 r (by omega)
theorem r_keeps (hfu : 20000 ≤ fu) : ∃ s', f_X12_keepsRow fu s l = (s', l) ∧ p_X12_keepsRow fu s l ∧ (∀ r, r < 141 → s' 94 r = s 95 r) ∧ ∀ q, q ≠ 94 → s' q = s q := by
  refine loop_i (fun f i s0 => ∃ s', f_X12_keepsRow_2 fu f (nI i) s0 l = (s', l) ∧ p_X12_keepsRow_2 fu f (nI i) s0 l ∧ (∀ r, r < 141 → s' 94 r = s 95 r) ∧ ∀ q, q ≠ 94 → s' q = s q) (fun i s0 => (∀ r, r < i → s0 94 r = s 95 r) ∧ ∀ q, q ≠ 94 → s0 q = s q) 141 ?_ ?_ fu 0 s (Nat.zero_le _) (by omega) ⟨fun r hr => absurd hr (Nat.not_lt_zero r), fun _ _ => rfl⟩
  · intro f s0 ⟨g1, g2⟩
    refine ⟨s0, ?_, ?_, g1, g2⟩
    · unfold f_X12_keepsRow_2
      simp (disch := omega) only [ln_, leT, ar_t, ar_f, it_t, it_f, true_and, and_true, not_true_eq_false, not_false_eq_true, implies_true, and_self, eq_self]
    · unfold p_X12_keepsRow_2
      simp (disch := omega) only [ln_, leT, ar_t, ar_f, it_t, it_f, true_and, and_true, not_true_eq_false, not_false_eq_true, implies_true, and_self, eq_self]
  · intro f i s0 hi ⟨g1, g2⟩ ih
    unfold f_X12_keepsRow_2 p_X12_keepsRow_2
    simp (disch := omega) only [ln_, nI_clamp, leF, vpT, nI_add, ar_t, ar_f, it_t, it_f, true_and, and_true, not_true_eq_false, not_false_eq_true, implies_true, and_self, eq_self]
    refine ih _ ⟨fun r hr => ?_, fun q hq => by rw [wi_c hq]; exact g2 q hq⟩
    rw [wi_u]
    by_cases e : r = i
    · rw [e, upd_s, g2 95 (by omega)]
    · rw [upd_n e]; exact g1 r (by omega)
theorem r_plain (hfu : 20000 ≤ fu) (hsd : sd ≤ 1) : ∃ s', f_X12_plain fu (nI sd) s l = (s', l) ∧ p_X12_plain fu (nI sd) s l ∧ s' 68 sd = nI 0 ∧ s' 72 sd = nI 0 ∧ s' 74 sd = nI 0 ∧ s' 79 (2 * sd) = nI 1 ∧ s' 79 (2 * sd + 1) = nI 0 ∧ s' 80 sd = nI 0 ∧ s' 81 sd = nI 0 ∧ (∀ k, k < 3 → s' 82 (3 * sd + k) = nI 0 ∧ s' 83 (3 * sd + k) = nI 0) ∧ rGF sd s l s' l ∧ (s' 60 = s 60) := by
  have e2 : nI 2 * nI sd = nI (2 * sd) := by rw [pk_mul]
  have e3 : nI 3 * nI sd = nI (3 * sd) := by rw [pk_mul]
  have gf0 : rGF sd s l (wi (wi (wi (wi (wi (wi (wi s 68 sd (nI 0)) 72 sd (nI 0)) 74 sd (nI 0)) 79 (2 * sd) (nI 1)) 79 (2 * sd + 1) (nI 0)) 80 sd (nI 0)) 81 sd (nI 0)) l := by
    refine rGF_tr (rGF_w (q := 68) (by omega) ?_ ?_) (rGF_tr (rGF_w (q := 72) (by omega) ?_ ?_) (rGF_tr (rGF_w (q := 74) (by omega) ?_ ?_) (rGF_tr (rGF_w (q := 79) (by omega) ?_ ?_) (rGF_tr (rGF_w (q := 79) (by omega) ?_ ?_) (rGF_tr (rGF_w (q := 80) (by omega) ?_ ?_) (rGF_w (q := 81) (by omega) ?_ ?_))))))
    all_goals first
      | (show 1 * sd ≤ _; omega)
      | (show _ < 1 * sd + 1; omega)
      | (show 2 * sd ≤ _; omega)
      | (show _ < 2 * sd + 2; omega)
  have key := loop_i (fun f k s0 => ∃ s', f_X12_plain_57 fu f (nI sd) (nI k) s0 l = (s', l) ∧ p_X12_plain_57 fu f (nI sd) (nI k) s0 l ∧ (∀ k, k < 3 → s' 82 (3 * sd + k) = nI 0 ∧ s' 83 (3 * sd + k) = nI 0) ∧ rGF sd s l s' l ∧ (∀ q, q ≠ 82 → q ≠ 83 → s' q = (wi (wi (wi (wi (wi (wi (wi s 68 sd (nI 0)) 72 sd (nI 0)) 74 sd (nI 0)) 79 (2 * sd) (nI 1)) 79 (2 * sd + 1) (nI 0)) 80 sd (nI 0)) 81 sd (nI 0)) q))
    (fun k s0 => (∀ k', k' < k → s0 82 (3 * sd + k') = nI 0 ∧ s0 83 (3 * sd + k') = nI 0) ∧ rGF sd s l s0 l ∧ (∀ q, q ≠ 82 → q ≠ 83 → s0 q = (wi (wi (wi (wi (wi (wi (wi s 68 sd (nI 0)) 72 sd (nI 0)) 74 sd (nI 0)) 79 (2 * sd) (nI 1)) 79 (2 * sd + 1) (nI 0)) 80 sd (nI 0)) 81 sd (nI 0)) q)) 3 ?_ ?_ fu 0 _ (Nat.zero_le _) (by omega) ⟨fun k hk => absurd hk (Nat.not_lt_zero k), gf0, fun _ _ _ => rfl⟩
  · obtain ⟨s', g1, g2, g3, g4, g5⟩ := key
    refine ⟨s', ?_, ?_, ?_, ?_, ?_, ?_, ?_, ?_, ?_, g3, g4, ?_⟩
    · unfold f_X12_plain
      simp (disch := omega) only [ln_, nI_clamp, nI_add, e2]; exact g1
    · unfold p_X12_plain
      simp (disch := omega) only [ln_, nI_clamp, nI_add, vpT, ar_t, ar_f, it_t, it_f, true_and, and_true, not_true_eq_false, not_false_eq_true, implies_true, and_self, eq_self, e2]; exact g2
    · rw [g5 68 (by omega) (by omega)]; simp (disch := omega) only [wi_c, wi_u, upd_s, upd_n, su_r, su_c]
    · rw [g5 72 (by omega) (by omega)]; simp (disch := omega) only [wi_c, wi_u, upd_s, upd_n, su_r, su_c]
    · rw [g5 74 (by omega) (by omega)]; simp (disch := omega) only [wi_c, wi_u, upd_s, upd_n, su_r, su_c]
    · rw [g5 79 (by omega) (by omega)]; simp (disch := omega) only [wi_c, wi_u, upd_s, upd_n, su_r, su_c]
    · rw [g5 79 (by omega) (by omega)]; simp (disch := omega) only [wi_c, wi_u, upd_s, upd_n, su_r, su_c]
    · rw [g5 80 (by omega) (by omega)]; simp (disch := omega) only [wi_c, wi_u, upd_s, upd_n, su_r, su_c]
    · rw [g5 81 (by omega) (by omega)]; simp (disch := omega) only [wi_c, wi_u, upd_s, upd_n, su_r, su_c]
    · rw [g5 60 (by omega) (by omega)]; simp (disch := omega) only [wi_c, wi_u, upd_s, upd_n, su_r, su_c]
  · intro f s0 ⟨g1, g2, g3⟩
    refine ⟨s0, ?_, ?_, g1, g2, g3⟩
    · unfold f_X12_plain_57
      simp (disch := omega) only [ln_, leT, ar_t, ar_f, it_t, it_f, true_and, and_true, not_true_eq_false, not_false_eq_true, implies_true, and_self, eq_self]
    · unfold p_X12_plain_57
      simp (disch := omega) only [ln_, leT, ar_t, ar_f, it_t, it_f, true_and, and_true, not_true_eq_false, not_false_eq_true, implies_true, and_self, eq_self]
  · intro f k s0 hk ⟨g1, g2, g3⟩ ih
    unfold f_X12_plain_57 p_X12_plain_57
    simp (disch := omega) only [ln_, nI_clamp, leF, vpT, nI_add, ar_t, ar_f, it_t, it_f, true_and, and_true, not_true_eq_false, not_false_eq_true, implies_true, and_self, eq_self, e3]
    refine ih _ ⟨fun k' hk' => ?_, rGF_tr g2 (rGF_tr (rGF_w (q := 82) (by omega) (by show 3 * sd ≤ _; omega) (by show _ < 3 * sd + 3; omega)) (rGF_w (q := 83) (by omega) (by show 3 * sd ≤ _; omega) (by show _ < 3 * sd + 3; omega))), fun q a b => by rw [wi_c b, wi_c a]; exact g3 q a b⟩
    by_cases e : k' = k
    · subst e
      simp (disch := omega) only [wi_c, wi_u, upd_s, upd_n, su_r, su_c, ar_t, ar_f, it_t, it_f, true_and, and_true, not_true_eq_false, not_false_eq_true, implies_true, and_self, eq_self]
    · simp (disch := omega) only [wi_c, wi_u, upd_s, upd_n, su_r, su_c]; exact g1 k' (by omega)
end beg2
