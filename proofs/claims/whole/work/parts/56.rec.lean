/-! The reference's records; undo, hold, restore -/
section rec
variable {fu t lv P np nl nw : Nat} {ht sg lo : Nat → Nat} {wd : Nat → List Nat} {wx wy rn sd : Int32} {LW : Lw} {Y : Yd} {s s1 s2 : fl_I} {l : fl_L} {D : fl_D} {a i b c q k n g m u hm : Nat} {x y z v : Int32} {hs hy : Nat → Yd} {Z : Yd}
theorem r_keepsRow (hfu : 20000 ≤ fu) : ∃ s', f_X12_keepsRow fu s l = (s', l) ∧ p_X12_keepsRow fu s l ∧ (∀ j, j < 141 → s' 94 j = s 95 j) ∧ ∀ q, q ≠ 94 → s' q = s q := by
  refine loop_i (fun f i s0 => ∃ s', f_X12_keepsRow_2 fu f (nI i) s0 l = (s', l) ∧ p_X12_keepsRow_2 fu f (nI i) s0 l ∧ (∀ j, j < 141 → s' 94 j = s 95 j) ∧ ∀ q, q ≠ 94 → s' q = s q) (fun i s0 => (∀ j, j < i → s0 94 j = s 95 j) ∧ ∀ q, q ≠ 94 → s0 q = s q) 141 ?_ ?_ fu 0 s (Nat.zero_le _) (by omega) ⟨fun j hj => absurd hj (Nat.not_lt_zero j), fun _ _ => rfl⟩
  · intro f s0 hs
    refine ⟨s0, ?_, ?_, hs⟩
    · unfold f_X12_keepsRow_2
      simp (disch := omega) only [ln_, leT, leF, ltT, ltF, eqT, eqF, vpT, nlT, nleT, lnF, lenF, eqnF, neqF, nnF, nI_add, pk_mul, pk_div, pk_sub, ni_m, nI_clamp, md10, dm10, gI_l, gI_n, ar_t, ar_f, it_t, it_f, true_and, and_true, not_true_eq_false, not_false_eq_true, implies_true, and_self, eq_self]
    · unfold p_X12_keepsRow_2
      simp (disch := omega) only [ln_, leT, leF, ltT, ltF, eqT, eqF, vpT, nlT, nleT, lnF, lenF, eqnF, neqF, nnF, nI_add, pk_mul, pk_div, pk_sub, ni_m, nI_clamp, md10, dm10, gI_l, gI_n, ar_t, ar_f, it_t, it_f, true_and, and_true, not_true_eq_false, not_false_eq_true, implies_true, and_self, eq_self]
  · intro f i s0 hi hs ih
    have h95 := hs.2 95 (by omega)
    unfold f_X12_keepsRow_2 p_X12_keepsRow_2
    simp (disch := omega) only [ln_, leT, leF, ltT, ltF, eqT, eqF, vpT, nlT, nleT, lnF, lenF, eqnF, neqF, nnF, nI_add, pk_mul, pk_div, pk_sub, ni_m, nI_clamp, md10, dm10, gI_l, gI_n, ar_t, ar_f, it_t, it_f, true_and, and_true, not_true_eq_false, not_false_eq_true, implies_true, and_self, eq_self]
    refine ih _ ⟨fun j hj => ?_, fun q hq => by rw [wi_c hq]; exact hs.2 q hq⟩
    rw [wi_u]
    by_cases e : j = i
    · subst e; rw [upd_s, h95]
    · rw [upd_n e]; exact hs.1 j (by omega)
theorem r_rec52 (hfu : 20000 ≤ fu) (hu : u ≤ 39) (h58 : s 60 58 = nI u) : ∃ s', f_X12_records_52 fu fu (nI 0) s l = (s', l) ∧ p_X12_records_52 fu fu (nI 0) s l ∧ (∀ j, j < 141 → s' 94 j = s 95 j) ∧ (∀ j, j < 141 → s' 99 (141 * u + j) = s 94 j) ∧ (∀ j, j < 141 * u → s' 99 j = s 99 j) ∧ s' 60 58 = nI (u + 1) ∧ (∀ j, j ≠ 58 → s' 60 j = s 60 j) ∧ ∀ q, q ≠ 94 → q ≠ 99 → q ≠ 60 → s' q = s q := by
  refine loop_i (fun f i s0 => ∃ s', f_X12_records_52 fu f (nI i) s0 l = (s', l) ∧ p_X12_records_52 fu f (nI i) s0 l ∧ (∀ j, j < 141 → s' 94 j = s 95 j) ∧ (∀ j, j < 141 → s' 99 (141 * u + j) = s 94 j) ∧ (∀ j, j < 141 * u → s' 99 j = s 99 j) ∧ s' 60 58 = nI (u + 1) ∧ (∀ j, j ≠ 58 → s' 60 j = s 60 j) ∧ ∀ q, q ≠ 94 → q ≠ 99 → q ≠ 60 → s' q = s q) (fun i s0 => (∀ j, j < i → s0 99 (141 * u + j) = s 94 j) ∧ (∀ j, j < 141 * u → s0 99 j = s 99 j) ∧ ∀ q, q ≠ 99 → s0 q = s q) 141 ?_ ?_ fu 0 s (Nat.zero_le _) (by omega) ⟨fun j hj => absurd hj (Nat.not_lt_zero j), fun _ _ => rfl, fun _ _ => rfl⟩
  · intro f s0 hs
    obtain ⟨h1, h2, h3⟩ := hs
    have k58 : s0 60 58 = nI u := by rw [h3 60 (by omega)]; exact h58
    obtain ⟨s2, e2, p2, a2, r2⟩ := r_keepsRow (l := l) (s := wi s0 60 58 (nI (u + 1))) hfu
    refine ⟨s2, ?_, ?_, fun j hj => by rw [a2 j hj, wi_c (by omega), h3 95 (by omega)], fun j hj => by rw [r2 99 (by omega), wi_c (by omega)]; exact h1 j hj, fun j hj => by rw [r2 99 (by omega), wi_c (by omega)]; exact h2 j hj, by rw [r2 60 (by omega), wi_s], fun j hj => by rw [r2 60 (by omega), wi_u, upd_n hj, h3 60 (by omega)], fun q a b c => by rw [r2 q a, wi_c c]; exact h3 q b⟩
    · unfold f_X12_records_52
      simp (disch := omega) only [ln_, leT, leF, ltT, ltF, eqT, eqF, vpT, nlT, nleT, lnF, lenF, eqnF, neqF, nnF, nI_add, pk_mul, pk_div, pk_sub, ni_m, nI_clamp, md10, dm10, gI_l, gI_n, ar_t, ar_f, it_t, it_f, true_and, and_true, not_true_eq_false, not_false_eq_true, implies_true, and_self, eq_self, k58, e2]
    · unfold p_X12_records_52
      simp (disch := omega) only [ln_, leT, leF, ltT, ltF, eqT, eqF, vpT, nlT, nleT, lnF, lenF, eqnF, neqF, nnF, nI_add, pk_mul, pk_div, pk_sub, ni_m, nI_clamp, md10, dm10, gI_l, gI_n, ar_t, ar_f, it_t, it_f, true_and, and_true, not_true_eq_false, not_false_eq_true, implies_true, and_self, eq_self, k58, p2]
  · intro f i s0 hi hs ih
    obtain ⟨h1, h2, h3⟩ := hs
    have k58 : s0 60 58 = nI u := by rw [h3 60 (by omega)]; exact h58
    have h94 := h3 94 (by omega)
    unfold f_X12_records_52 p_X12_records_52
    simp (disch := omega) only [ln_, leT, leF, ltT, ltF, eqT, eqF, vpT, nlT, nleT, lnF, lenF, eqnF, neqF, nnF, nI_add, pk_mul, pk_div, pk_sub, ni_m, nI_clamp, md10, dm10, gI_l, gI_n, ar_t, ar_f, it_t, it_f, true_and, and_true, not_true_eq_false, not_false_eq_true, implies_true, and_self, eq_self, k58]
    refine ih _ ⟨fun j hj => ?_, fun j hj => ?_, fun q hq => by rw [wi_c hq]; exact h3 q hq⟩
    · rw [wi_u]
      by_cases e : j = i
      · subst e; rw [upd_s, h94]
      · rw [upd_n (by omega)]; exact h1 j (by omega)
    · rw [wi_u, upd_n (by omega)]; exact h2 j hj
theorem r_rec11 (hfu : 20000 ≤ fu) (h58 : s 60 58 = nI 40) : ∃ s1, f_X12_records_11 fu fu (nI 0) s l = f_X12_records_52 fu fu (nI 0) s1 l ∧ (p_X12_records_52 fu fu (nI 0) s1 l → p_X12_records_11 fu fu (nI 0) s l) ∧ (∀ j, j < 5499 → s1 99 j = s 99 (j + 141)) ∧ s1 60 58 = nI 39 ∧ (∀ j, j ≠ 58 → s1 60 j = s 60 j) ∧ ∀ q, q ≠ 99 → q ≠ 60 → s1 q = s q := by
  refine loop_i (fun f i s0 => ∃ s1, f_X12_records_11 fu f (nI i) s0 l = f_X12_records_52 fu fu (nI 0) s1 l ∧ (p_X12_records_52 fu fu (nI 0) s1 l → p_X12_records_11 fu f (nI i) s0 l) ∧ (∀ j, j < 5499 → s1 99 j = s 99 (j + 141)) ∧ s1 60 58 = nI 39 ∧ (∀ j, j ≠ 58 → s1 60 j = s 60 j) ∧ ∀ q, q ≠ 99 → q ≠ 60 → s1 q = s q) (fun i s0 => (∀ j, j < i → s0 99 j = s 99 (j + 141)) ∧ (∀ j, i ≤ j → s0 99 j = s 99 j) ∧ ∀ q, q ≠ 99 → s0 q = s q) 5499 ?_ ?_ fu 0 s (Nat.zero_le _) (by omega) ⟨fun j hj => absurd hj (Nat.not_lt_zero j), fun _ _ => rfl, fun _ _ => rfl⟩
  · intro f s0 hs
    obtain ⟨h1, h2, h3⟩ := hs
    have k58 : s0 60 58 = nI 40 := by rw [h3 60 (by omega)]; exact h58
    refine ⟨wi s0 60 58 (nI 39), ?_, ?_, fun j hj => by rw [wi_c (by omega)]; exact h1 j hj, wi_s, fun j hj => by rw [wi_u, upd_n hj, h3 60 (by omega)], fun q a b => by rw [wi_c b]; exact h3 q a⟩
    · unfold f_X12_records_11
      simp (disch := omega) only [ln_, leT, leF, ltT, ltF, eqT, eqF, vpT, nlT, nleT, lnF, lenF, eqnF, neqF, nnF, nI_add, pk_mul, pk_div, pk_sub, ni_m, nI_clamp, md10, dm10, gI_l, gI_n, ar_t, ar_f, it_t, it_f, true_and, and_true, not_true_eq_false, not_false_eq_true, implies_true, and_self, eq_self, k58, Nat.reduceSub]
    · unfold p_X12_records_11
      simp (disch := omega) only [ln_, leT, leF, ltT, ltF, eqT, eqF, vpT, nlT, nleT, lnF, lenF, eqnF, neqF, nnF, nI_add, pk_mul, pk_div, pk_sub, ni_m, nI_clamp, md10, dm10, gI_l, gI_n, ar_t, ar_f, it_t, it_f, true_and, and_true, not_true_eq_false, not_false_eq_true, implies_true, and_self, eq_self, k58, Nat.reduceSub]
      exact fun h => h
  · intro f i s0 hi hs ih
    obtain ⟨h1, h2, h3⟩ := hs
    have h99 := h2 (i + 141) (by omega)
    unfold f_X12_records_11 p_X12_records_11
    simp (disch := omega) only [ln_, leT, leF, ltT, ltF, eqT, eqF, vpT, nlT, nleT, lnF, lenF, eqnF, neqF, nnF, nI_add, pk_mul, pk_div, pk_sub, ni_m, nI_clamp, md10, dm10, gI_l, gI_n, ar_t, ar_f, it_t, it_f, true_and, and_true, not_true_eq_false, not_false_eq_true, implies_true, and_self, eq_self]
    refine ih _ ⟨fun j hj => ?_, fun j hj => ?_, fun q hq => by rw [wi_c hq]; exact h3 q hq⟩
    · rw [wi_u]
      by_cases e : j = i
      · subst e; rw [upd_s, h99]
      · rw [upd_n e]; exact h1 j (by omega)
    · rw [wi_u, upd_n (by omega)]; exact h2 j (by omega)
theorem r_records (hfu : 20000 ≤ fu) (hu : u ≤ 40) (hr : rP P np u hs s) (y94 : YF P np Y (s 94)) (y95 : YF P np Z (s 95)) (hP : P ≤ 32) (hn : np ≤ 4) : ∃ s', f_X12_records fu s l = (s', l) ∧ p_X12_records fu s l ∧ rP P np (nhu u) (nhs u hs Y) s' ∧ YF P np Z (s' 94) ∧ (∀ j, j ≠ 58 → s' 60 j = s 60 j) ∧ ∀ q, q ≠ 94 → q ≠ 99 → q ≠ 60 → s' q = s q := by
  obtain ⟨h58, hrow⟩ := hr
  unfold f_X12_records p_X12_records
  by_cases e40 : u = 40
  · subst e40
    obtain ⟨s1, e1, p1, a1, b1, c1, d1⟩ := r_rec11 (l := l) hfu h58
    obtain ⟨s2, e2, p2, a2, b2, c2, d2, f2, g2⟩ := r_rec52 (u := 39) (l := l) hfu (by omega) b1
    have hp := p1 p2
    refine ⟨s2, ?_, ?_, ⟨d2, fun k hk => ?_⟩, ?_, fun j hj => by rw [f2 j hj, c1 j hj], fun q a b c => by rw [g2 q a b c, d1 q b c]⟩
    · simp (disch := omega) only [ln_, leT, leF, ltT, ltF, eqT, eqF, vpT, nlT, nleT, lnF, lenF, eqnF, neqF, nnF, nI_add, pk_mul, pk_div, pk_sub, ni_m, nI_clamp, md10, dm10, gI_l, gI_n, ar_t, ar_f, it_t, it_f, true_and, and_true, not_true_eq_false, not_false_eq_true, implies_true, and_self, eq_self, h58, e1, e2]
    · simp (disch := omega) only [ln_, leT, leF, ltT, ltF, eqT, eqF, vpT, nlT, nleT, lnF, lenF, eqnF, neqF, nnF, nI_add, pk_mul, pk_div, pk_sub, ni_m, nI_clamp, md10, dm10, gI_l, gI_n, ar_t, ar_f, it_t, it_f, true_and, and_true, not_true_eq_false, not_false_eq_true, implies_true, and_self, eq_self, h58, hp]
    · unfold nhs
      rw [if_pos rfl]
      have hk : k < 40 := hk
      by_cases e : k = 39
      · subst e; rw [ups_s]
        refine YF_row (R := s 94) (fun j hj => ?_) hP hn y94
        rw [b2 j hj, d1 94 (by omega) (by omega)]
      · rw [ups_n e]
        refine YF_row (fun j hj => ?_) hP hn (hrow (k + 1) (by omega))
        rw [c2 (141 * k + j) (by omega), a1 _ (by omega)]
        congr 1; omega
    · refine YF_row (R := s 95) (fun j hj => ?_) hP hn y95
      rw [a2 j hj, d1 95 (by omega) (by omega)]
  · obtain ⟨s2, e2, p2, a2, b2, c2, d2, f2, g2⟩ := r_rec52 (u := u) (l := l) hfu (by omega) h58
    refine ⟨s2, ?_, ?_, ⟨by unfold nhu; rw [if_neg e40]; exact d2, fun k hk => ?_⟩, YF_row (R := s 95) a2 hP hn y95, f2, g2⟩
    · simp (disch := omega) only [ln_, leT, leF, ltT, ltF, eqT, eqF, vpT, nlT, nleT, lnF, lenF, eqnF, neqF, nnF, nI_add, pk_mul, pk_div, pk_sub, ni_m, nI_clamp, md10, dm10, gI_l, gI_n, ar_t, ar_f, it_t, it_f, true_and, and_true, not_true_eq_false, not_false_eq_true, implies_true, and_self, eq_self, h58, e2]
    · simp (disch := omega) only [ln_, leT, leF, ltT, ltF, eqT, eqF, vpT, nlT, nleT, lnF, lenF, eqnF, neqF, nnF, nI_add, pk_mul, pk_div, pk_sub, ni_m, nI_clamp, md10, dm10, gI_l, gI_n, ar_t, ar_f, it_t, it_f, true_and, and_true, not_true_eq_false, not_false_eq_true, implies_true, and_self, eq_self, h58, p2]
    · unfold nhs
      unfold nhu at hk
      rw [if_neg e40] at hk ⊢
      by_cases e : k = u
      · subst e; rw [ups_s]
        exact YF_row (R := s 94) b2 hP hn y94
      · rw [ups_n e]
        refine YF_row (fun j hj => ?_) hP hn (hrow k (by omega))
        have : 141 * k + 141 ≤ 141 * u := by omega
        rw [c2 (141 * k + j) (by omega)]
theorem c_bring (hd : dI D) (hc : cP D P np u hs s) (hu : 0 < u) (hP : P ≤ 32) (hn : np ≤ 4) : ∃ s', f_bring fu D s l = (nI 1, s', l) ∧ p_bring fu D s l ∧ yC P np (hs (u - 1)) 31 s' ∧ cP D P np (u - 1) hs s' ∧ ∀ q, (q < 31 ∨ 36 < q) → q ≠ 43 → s' q = s q := by
  obtain ⟨u40, h430, nn, hnn, h432, hpast⟩ := hc
  obtain ⟨p, hp, hy⟩ := hpast 0 hu
  rw [show (nn + 40 - 0) % 40 = nn from by omega] at hp
  have h107 := (hd.2.2.1 nn p hp).1
  obtain ⟨s1, e1, _, y1, r1⟩ := c_copy (fu := fu) (a := 31) (b := p) (l := l) hy hP hn (by omega)
  have k0 : s1 43 0 = nI u := by rw [r1 43 (by omega)]; exact h430
  have k2 : s1 43 2 = nI nn := by rw [r1 43 (by omega)]; exact h432
  have eb : f_bring fu D s l = (nI 1, wi (if nn = 0 then wi s1 43 2 (nI 39) else wi s1 43 2 (nI (nn - 1))) 43 0 (nI (u - 1)), l) := by
    unfold f_bring
    rw [h430, h432, nI_clamp (by omega), hp]
    have hc : ¬ nI u ≤ 0 := nI_ge (a := 0) hu (by omega)
    rw [if_neg hc]
    unfold b_21
    dsimp only
    rw [e1]
    dsimp only
    by_cases e : nn = 0
    · have c : s1 43 2 = 0 := by rw [k2, e]; rfl
      rw [if_pos c, if_pos e, wi_u, upd_n (by omega), k0, show nI u - 1 = nI (u - 1) from pk_sub (b := 1) (by omega)]
      rfl
    · have c : ¬ s1 43 2 = 0 := by rw [k2]; exact fun h => e ((nI_eq (b := 0) (by omega) (by omega)).mp h)
      rw [if_neg c, if_neg e, wi_u, upd_n (by omega), k0, k2, show nI u - 1 = nI (u - 1) from pk_sub (b := 1) (by omega), show nI nn - 1 = nI (nn - 1) from pk_sub (b := 1) (by omega)]
      rfl
  have hfr : ∀ q, q ≠ 43 → (wi (if nn = 0 then wi s1 43 2 (nI 39) else wi s1 43 2 (nI (nn - 1))) 43 0 (nI (u - 1))) q = s1 q := fun q hq => by
    rw [wi_c hq]; split <;> rw [wi_c hq]
  refine ⟨_, eb, by unfold p_bring; rw [h432]; exact vp_in_nI hnn (by omega), yC_keep (s := s1) (fun k hk => hfr (31 + k) (by omega)) y1, ⟨by omega, wi_s, (if nn = 0 then 39 else nn - 1), by split <;> omega, ?_, fun j hj => ?_⟩, fun q h1 h2 => by rw [hfr q h2]; exact r1 q (by omega)⟩
  · rw [wi_u, upd_n (by omega)]
    by_cases e : nn = 0
    · rw [if_pos e, if_pos e, wi_s]
    · rw [if_neg e, if_neg e, wi_s]
  · obtain ⟨p', hp', hy'⟩ := hpast (j + 1) (by omega)
    refine ⟨p', ?_, ?_⟩
    · have hix : ((if nn = 0 then 39 else nn - 1) + 40 - j) % 40 = (nn + 40 - (j + 1)) % 40 := by
        by_cases e : nn = 0
        · subst e; rw [if_pos rfl]; omega
        · rw [if_neg e]; omega
      rw [hix]; exact hp'
    · have h107' := (hd.2.2.1 _ p' hp').1
      rw [show u - 1 - 1 - j = u - 1 - (j + 1) from by omega]
      exact yC_keep (s := s) (fun k hk => by rw [hfr (p' + k) (by omega)]; exact r1 (p' + k) (by omega)) hy'
theorem r_undo (hfu : 20000 ≤ fu) (hu : 0 < u) (hu40 : u ≤ 40) (hr : rP P np u hs s) (hP : P ≤ 32) (hn : np ≤ 4) : ∃ s', f_X12_undo fu s l = (nI 1, s', l) ∧ p_X12_undo fu s l ∧ YF P np (hs (u - 1)) (s' 94) ∧ rP P np (u - 1) hs s' ∧ (∀ j, j ≠ 58 → s' 60 j = s 60 j) ∧ ∀ q, q ≠ 94 → q ≠ 60 → s' q = s q := by
  obtain ⟨h58, hrow⟩ := hr
  have key := loop_i (fun f i s0 => ∃ s', f_X12_undo_21 fu f (nI i) s0 l = (nI 1, s', l) ∧ p_X12_undo_21 fu f (nI i) s0 l ∧ (∀ j, j < 141 → s' 94 j = s 99 (141 * (u - 1) + j)) ∧ s' 60 58 = nI (u - 1) ∧ (∀ j, j ≠ 58 → s' 60 j = s 60 j) ∧ ∀ q, q ≠ 94 → q ≠ 60 → s' q = s q) (fun i s0 => (∀ j, j < i → s0 94 j = s 99 (141 * (u - 1) + j)) ∧ s0 60 58 = nI (u - 1) ∧ (∀ j, j ≠ 58 → s0 60 j = s 60 j) ∧ ∀ q, q ≠ 94 → q ≠ 60 → s0 q = s q) 141 ?_ ?_ fu 0 (wi s 60 58 (nI (u - 1))) (Nat.zero_le _) (by omega) ⟨fun j hj => absurd hj (Nat.not_lt_zero j), wi_s, fun j hj => by rw [wi_u, upd_n hj], fun q _ h => by rw [wi_c h]⟩
  · obtain ⟨s', e, p, k1, k2, k3, k4⟩ := key
    refine ⟨s', ?_, ?_, YF_row k1 hP hn (hrow (u - 1) (by omega)), ⟨k2, fun k hk => ?_⟩, k3, k4⟩
    · unfold f_X12_undo
      simp (disch := omega) only [ln_, leT, leF, ltT, ltF, eqT, eqF, vpT, nlT, nleT, lnF, lenF, eqnF, neqF, nnF, nI_add, pk_mul, pk_div, pk_sub, ni_m, nI_clamp, md10, dm10, gI_l, gI_n, ar_t, ar_f, it_t, it_f, true_and, and_true, not_true_eq_false, not_false_eq_true, implies_true, and_self, eq_self, h58, e]
    · unfold p_X12_undo
      simp (disch := omega) only [ln_, leT, leF, ltT, ltF, eqT, eqF, vpT, nlT, nleT, lnF, lenF, eqnF, neqF, nnF, nI_add, pk_mul, pk_div, pk_sub, ni_m, nI_clamp, md10, dm10, gI_l, gI_n, ar_t, ar_f, it_t, it_f, true_and, and_true, not_true_eq_false, not_false_eq_true, implies_true, and_self, eq_self, h58, p]
    · rw [k4 99 (by omega) (by omega)]; exact hrow k (by omega)
  · intro f s0 hs
    refine ⟨s0, ?_, ?_, hs⟩
    · unfold f_X12_undo_21
      simp (disch := omega) only [ln_, leT, leF, ltT, ltF, eqT, eqF, vpT, nlT, nleT, lnF, lenF, eqnF, neqF, nnF, nI_add, pk_mul, pk_div, pk_sub, ni_m, nI_clamp, md10, dm10, gI_l, gI_n, ar_t, ar_f, it_t, it_f, true_and, and_true, not_true_eq_false, not_false_eq_true, implies_true, and_self, eq_self]
    · unfold p_X12_undo_21
      simp (disch := omega) only [ln_, leT, leF, ltT, ltF, eqT, eqF, vpT, nlT, nleT, lnF, lenF, eqnF, neqF, nnF, nI_add, pk_mul, pk_div, pk_sub, ni_m, nI_clamp, md10, dm10, gI_l, gI_n, ar_t, ar_f, it_t, it_f, true_and, and_true, not_true_eq_false, not_false_eq_true, implies_true, and_self, eq_self]
  · intro f i s0 hi hs ih
    obtain ⟨h1, h2, h3, h4⟩ := hs
    have h99 := h4 99 (by omega) (by omega)
    unfold f_X12_undo_21 p_X12_undo_21
    simp (disch := omega) only [ln_, leT, leF, ltT, ltF, eqT, eqF, vpT, nlT, nleT, lnF, lenF, eqnF, neqF, nnF, nI_add, pk_mul, pk_div, pk_sub, ni_m, nI_clamp, md10, dm10, gI_l, gI_n, ar_t, ar_f, it_t, it_f, true_and, and_true, not_true_eq_false, not_false_eq_true, implies_true, and_self, eq_self, h2]
    refine ih _ ⟨fun j hj => ?_, by rw [wi_c (by omega)]; exact h2, fun j hj => by rw [wi_c (by omega)]; exact h3 j hj, fun q a b => by rw [wi_c a]; exact h4 q a b⟩
    rw [wi_u]
    by_cases e : j = i
    · subst e; rw [upd_s, h99]
    · rw [upd_n e]; exact h1 j (by omega)
end rec
