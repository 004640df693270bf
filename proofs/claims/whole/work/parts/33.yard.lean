/-! The yard: hour, where, lain, at, goal; as the class has it (six rows), as the reference has it (one row) -/
abbrev Yd : Type := Int32 × (Nat → Nat) × (Nat → Nat) × (Nat → Nat) × (Nat → Nat)
def gI (g : Nat) : Int32 := if g < 80 then nI g else -nI 2
theorem gI_l {g : Nat} (h : g < 80) : gI g = nI g := if_pos h
theorem gI_n {g : Nat} (h : 80 ≤ g) : gI g = -nI 2 := if_neg (by omega)
def YC (P np : Nat) (Y : Yd) (A0 A1 A2 A3 A4 A5 : Nat → Int32) : Prop :=
  A0 0 = Y.1 ∧ A0 1 = nI P ∧ A0 2 = nI np ∧ (∀ i, i < P → A1 i = nI (Y.2.1 i) ∧ A2 i = nI (Y.2.2.1 i)) ∧ ∀ b, b < np → A3 b = nI (Y.2.2.2.1 b) ∧ A4 b = gI (Y.2.2.2.2 b) ∧ A5 b = nI (cnt Y.2.1 P b)
abbrev yC (P np : Nat) (Y : Yd) (a : Nat) (s : fl_I) : Prop := YC P np Y (s a) (s (a + 1)) (s (a + 2)) (s (a + 3)) (s (a + 4)) (s (a + 5))
def YF (P np : Nat) (Y : Yd) (R : Nat → Int32) : Prop :=
  R 140 = Y.1 ∧ (∀ i, i < P → (Y.2.1 i < 80 → R i = nI (Y.2.1 i % 10) ∧ R (32 + i) = nI (Y.2.1 i / 10) ∧ R (64 + i) = -nI 2) ∧ (80 ≤ Y.2.1 i → R (64 + i) = nI (Y.2.1 i - 80)) ∧ R (96 + i) = nI (Y.2.2.1 i)) ∧
  ∀ b, b < np → R (128 + b) = nI (Y.2.2.2.1 b % 10) ∧ R (132 + b) = nI (Y.2.2.2.1 b / 10) ∧ R (136 + b) = gI (Y.2.2.2.2 b)
def YW (P np : Nat) (ht : Nat → Nat) (Y : Yd) : Prop :=
  P ≤ 32 ∧ np ≤ 4 ∧ (∀ i, i < P → Y.2.1 i < 80 + np ∧ Y.2.2.1 i ≤ 999 ∧ (80 ≤ Y.2.1 i → Y.2.2.1 i = 0)) ∧ ∀ b, b < np → Y.2.2.2.1 b < 80 ∧ Y.2.2.2.2 b ≤ 80 ∧ cnt Y.2.1 P b ≤ ht b ∧ ht b ≤ 32
/-- the same in all that counts -/
def YE (P np : Nat) (Y Z : Yd) : Prop := Y.1 = Z.1 ∧ (∀ i, i < P → Y.2.1 i = Z.2.1 i ∧ Y.2.2.1 i = Z.2.2.1 i) ∧ ∀ b, b < np → Y.2.2.2.1 b = Z.2.2.2.1 b ∧ Y.2.2.2.2 b = Z.2.2.2.2 b
section yd_1
variable {P np a i b c : Nat} {ht : Nat → Nat} {Y Z : Yd} {A0 A1 A2 A3 A4 A5 R : Nat → Int32}
theorem cnt_congr {w v : Nat → Nat} (h : ∀ i, i < P → w i = v i) : cnt w P b = cnt v P b := ct_congr (fun i hi => by rw [h i hi])
theorem lyn_congr {w v : Nat → Nat} (h : ∀ i, i < P → w i = v i) : lyn w P = lyn v P := ct_congr (fun i hi => by rw [h i hi])
theorem YE_rfl : YE P np Y Y := ⟨rfl, fun _ _ => ⟨rfl, rfl⟩, fun _ _ => ⟨rfl, rfl⟩⟩
theorem YE_sym (h : YE P np Y Z) : YE P np Z Y := ⟨h.1.symm, fun i hi => ⟨(h.2.1 i hi).1.symm, (h.2.1 i hi).2.symm⟩, fun i hi => ⟨(h.2.2 i hi).1.symm, (h.2.2 i hi).2.symm⟩⟩
theorem YC_congr (h : YE P np Y Z) (y : YC P np Y A0 A1 A2 A3 A4 A5) : YC P np Z A0 A1 A2 A3 A4 A5 := by
  obtain ⟨h1, h2, h3⟩ := h
  obtain ⟨y1, y2, y3, y4, y5⟩ := y
  refine ⟨y1.trans h1, y2, y3, fun i hi => ?_, fun b hb => ?_⟩
  · rw [(y4 i hi).1, (y4 i hi).2, (h2 i hi).1, (h2 i hi).2]; exact ⟨rfl, rfl⟩
  · rw [(y5 b hb).1, (y5 b hb).2.1, (y5 b hb).2.2, (h3 b hb).1, (h3 b hb).2, cnt_congr (fun i hi => (h2 i hi).1)]; exact ⟨rfl, rfl, rfl⟩
theorem YF_congr (h : YE P np Y Z) (y : YF P np Y R) : YF P np Z R := by
  obtain ⟨h1, h2, h3⟩ := h
  obtain ⟨y1, y4, y5⟩ := y
  refine ⟨y1.trans h1, fun i hi => ?_, fun b hb => ?_⟩
  · have := y4 i hi; rw [(h2 i hi).1, (h2 i hi).2] at this; exact this
  · have := y5 b hb; rw [(h3 b hb).1, (h3 b hb).2] at this; exact this
theorem YW_congr (h : YE P np Y Z) (y : YW P np ht Y) : YW P np ht Z := by
  obtain ⟨h1, h2, h3⟩ := h
  obtain ⟨y1, y2, y4, y5⟩ := y
  refine ⟨y1, y2, fun i hi => ?_, fun b hb => ?_⟩
  · have := y4 i hi; rw [(h2 i hi).1, (h2 i hi).2] at this; exact this
  · have := y5 b hb; rw [(h3 b hb).1, (h3 b hb).2, cnt_congr (fun i hi => (h2 i hi).1)] at this; exact this
/-- a row of the reference that agrees where it counts -/
theorem YF_row {R' : Nat → Int32} (h : ∀ j, j < 141 → R' j = R j) (hP : P ≤ 32) (hn : np ≤ 4) (y : YF P np Y R) : YF P np Y R' := by
  obtain ⟨y1, y4, y5⟩ := y
  refine ⟨by rw [h 140 (by omega)]; exact y1, fun i hi => ?_, fun b hb => ?_⟩
  · rw [h i (by omega), h (32 + i) (by omega), h (64 + i) (by omega), h (96 + i) (by omega)]; exact y4 i hi
  · rw [h (128 + b) (by omega), h (132 + b) (by omega), h (136 + b) (by omega)]; exact y5 b hb
theorem yC_keep {s s' : fl_I} (h : ∀ k, k ≤ 5 → s' (a + k) = s (a + k)) (y : yC P np Y a s) : yC P np Y a s' := by
  have h0 := h 0 (by omega); have h1 := h 1 (by omega); have h2 := h 2 (by omega); have h3 := h 3 (by omega); have h4 := h 4 (by omega); have h5 := h 5 (by omega)
  rw [Nat.add_zero] at h0
  show YC P np Y (s' a) (s' (a + 1)) (s' (a + 2)) (s' (a + 3)) (s' (a + 4)) (s' (a + 5))
  rw [h0, h1, h2, h3, h4, h5]; exact y
end yd_1
/-! The class's yard -/
section cy
variable {fu P np a i b c q : Nat} {ht : Nat → Nat} {Y : Yd} {s : fl_I} {l : fl_L}
theorem c_lying (y : yC P np Y a s) (w : YW P np ht Y) (hi : i < P) : p_X10_isLying fu (nI i) a s l ∧ f_X10_isLying fu (nI i) a s l = if Y.2.1 i < 80 then nI 1 else nI 0 := by
  have h1 := (y.2.2.2.1 i hi).1
  have h2 := w.1
  have h3 := (w.2.2.1 i hi).1
  have h4 := w.2.1
  unfold p_X10_isLying f_X10_isLying
  by_cases h : Y.2.1 i < 80
  · simp (disch := omega) only [ln_, leT, leF, ltT, ltF, eqT, eqF, vpT, nlT, nleT, lnF, lenF, eqnF, neqF, nnF, nI_add, pk_mul, pk_div, pk_sub, ni_m, nI_clamp, md10, dm10, gI_l, gI_n, ar_t, ar_f, it_t, it_f, true_and, and_true, not_true_eq_false, not_false_eq_true, implies_true, and_self, eq_self, h1, h]
  · simp (disch := omega) only [ln_, leT, leF, ltT, ltF, eqT, eqF, vpT, nlT, nleT, lnF, lenF, eqnF, neqF, nnF, nI_add, pk_mul, pk_div, pk_sub, ni_m, nI_clamp, md10, dm10, gI_l, gI_n, ar_t, ar_f, it_t, it_f, true_and, and_true, not_true_eq_false, not_false_eq_true, implies_true, and_self, eq_self, h1, h]
theorem c_holder (y : yC P np Y a s) (w : YW P np ht Y) (hi : i < P) : p_X10_holder fu (nI i) a s l ∧ f_X10_holder fu (nI i) a s l = if Y.2.1 i < 80 then -nI 2 else nI (Y.2.1 i - 80) := by
  have h1 := (y.2.2.2.1 i hi).1
  have h2 := w.1
  have h3 := (w.2.2.1 i hi).1
  have h4 := w.2.1
  unfold p_X10_holder f_X10_holder
  by_cases h : Y.2.1 i < 80
  · simp (disch := omega) only [ln_, leT, leF, ltT, ltF, eqT, eqF, vpT, nlT, nleT, lnF, lenF, eqnF, neqF, nnF, nI_add, pk_mul, pk_div, pk_sub, ni_m, nI_clamp, md10, dm10, gI_l, gI_n, ar_t, ar_f, it_t, it_f, true_and, and_true, not_true_eq_false, not_false_eq_true, implies_true, and_self, eq_self, h1, h]
  · simp (disch := omega) only [ln_, leT, leF, ltT, ltF, eqT, eqF, vpT, nlT, nleT, lnF, lenF, eqnF, neqF, nnF, nI_add, pk_mul, pk_div, pk_sub, ni_m, nI_clamp, md10, dm10, gI_l, gI_n, ar_t, ar_f, it_t, it_f, true_and, and_true, not_true_eq_false, not_false_eq_true, implies_true, and_self, eq_self, h1, h]
theorem c_cellOf (y : yC P np Y a s) (w : YW P np ht Y) (hi : i < P) : p_X10_cellOf fu (nI i) a s l ∧ f_X10_cellOf fu (nI i) a s l = nI (if Y.2.1 i < 80 then Y.2.1 i else Y.2.2.2.1 (Y.2.1 i - 80)) := by
  have h1 := (y.2.2.2.1 i hi).1
  have h2 := w.1
  have h3 := (w.2.2.1 i hi).1
  have h4 := w.2.1
  have h5 := c_holder (fu := fu) (l := l) y w hi
  unfold p_X10_cellOf f_X10_cellOf
  by_cases h : Y.2.1 i < 80
  · rw [if_pos h] at h5
    simp (disch := omega) only [ln_, leT, leF, ltT, ltF, eqT, eqF, vpT, nlT, nleT, lnF, lenF, eqnF, neqF, nnF, nI_add, pk_mul, pk_div, pk_sub, ni_m, nI_clamp, md10, dm10, gI_l, gI_n, ar_t, ar_f, it_t, it_f, true_and, and_true, not_true_eq_false, not_false_eq_true, implies_true, and_self, eq_self, h1, h, h5]
  · rw [if_neg h] at h5
    have h6 := (y.2.2.2.2 (Y.2.1 i - 80) (by omega)).1
    simp (disch := omega) only [ln_, leT, leF, ltT, ltF, eqT, eqF, vpT, nlT, nleT, lnF, lenF, eqnF, neqF, nnF, nI_add, pk_mul, pk_div, pk_sub, ni_m, nI_clamp, md10, dm10, gI_l, gI_n, ar_t, ar_f, it_t, it_f, true_and, and_true, not_true_eq_false, not_false_eq_true, implies_true, and_self, eq_self, h1, h, h5, h6]
theorem c_countAt (hfu : 20000 ≤ fu) (y : yC P np Y a s) (w : YW P np ht Y) (hc : c < 84) : p_X10_countAt fu (nI c) a s l ∧ f_X10_countAt fu (nI c) a s l = nI (ct (fun i => Y.2.1 i == c) P) := by
  have h2 := w.1
  have h4 := w.2.1
  have h5 := y.2.1
  refine loop_i (fun n i r => p_X10_countAt_4 fu n (nI c) r (nI i) a s l ∧ f_X10_countAt_4 fu n (nI c) r (nI i) a s l = nI (ct (fun i => Y.2.1 i == c) P)) (fun i r => r = nI (ct (fun i => Y.2.1 i == c) i)) P ?_ ?_ fu 0 (nI 0) (Nat.zero_le _) (by omega) rfl
  · intro n r hr
    unfold p_X10_countAt_4 f_X10_countAt_4
    simp (disch := omega) only [ln_, leT, leF, ltT, ltF, eqT, eqF, vpT, nlT, nleT, lnF, lenF, eqnF, neqF, nnF, nI_add, pk_mul, pk_div, pk_sub, ni_m, nI_clamp, md10, dm10, gI_l, gI_n, ar_t, ar_f, it_t, it_f, true_and, and_true, not_true_eq_false, not_false_eq_true, implies_true, and_self, eq_self, h5, hr]
  · intro n i r hi hr ih
    have h1 := (y.2.2.2.1 i hi).1
    have h3 := (w.2.2.1 i hi).1
    unfold p_X10_countAt_4 f_X10_countAt_4
    by_cases h : Y.2.1 i = c
    · simp (disch := omega) only [ln_, leT, leF, ltT, ltF, eqT, eqF, vpT, nlT, nleT, lnF, lenF, eqnF, neqF, nnF, nI_add, pk_mul, pk_div, pk_sub, ni_m, nI_clamp, md10, dm10, gI_l, gI_n, ar_t, ar_f, it_t, it_f, true_and, and_true, not_true_eq_false, not_false_eq_true, implies_true, and_self, eq_self, h5, h1]
      exact ih _ (by rw [hr, ct_t (by simp [h]), nI_add])
    · simp (disch := omega) only [ln_, leT, leF, ltT, ltF, eqT, eqF, vpT, nlT, nleT, lnF, lenF, eqnF, neqF, nnF, nI_add, pk_mul, pk_div, pk_sub, ni_m, nI_clamp, md10, dm10, gI_l, gI_n, ar_t, ar_f, it_t, it_f, true_and, and_true, not_true_eq_false, not_false_eq_true, implies_true, and_self, eq_self, h5, h1]
      exact ih _ (by rw [hr, ct_f (by simp [h])])
theorem c_countLying (hfu : 20000 ≤ fu) (y : yC P np Y a s) (w : YW P np ht Y) : p_X10_countLying fu a s l ∧ f_X10_countLying fu a s l = nI (lyn Y.2.1 P) := by
  have h2 := w.1
  have h4 := w.2.1
  have h5 := y.2.1
  have h6 := y.2.2.1
  have h7 := lyn_all (fun i hi => (w.2.2.1 i hi).1)
  unfold p_X10_countLying f_X10_countLying
  rw [h5]
  refine loop_i (fun n b r => p_X10_countLying_7 fu n r (nI b) a s l ∧ f_X10_countLying_7 fu n r (nI b) a s l = nI (lyn Y.2.1 P)) (fun b r => ∃ x, r = nI x ∧ x + sm (cnt Y.2.1 P) b = P) np ?_ ?_ fu 0 (nI P) (Nat.zero_le _) (by omega) ⟨P, rfl, rfl⟩
  · intro n r hr
    obtain ⟨x, hx, hs⟩ := hr
    unfold p_X10_countLying_7 f_X10_countLying_7
    simp (disch := omega) only [ln_, leT, leF, ltT, ltF, eqT, eqF, vpT, nlT, nleT, lnF, lenF, eqnF, neqF, nnF, nI_add, pk_mul, pk_div, pk_sub, ni_m, nI_clamp, md10, dm10, gI_l, gI_n, ar_t, ar_f, it_t, it_f, true_and, and_true, not_true_eq_false, not_false_eq_true, implies_true, and_self, eq_self, h6, hx]
  · intro n b r hb hr ih
    obtain ⟨x, hx, hs⟩ := hr
    have h1 := (y.2.2.2.2 b hb).2.2
    have hm : sm (cnt Y.2.1 P) (b + 1) ≤ P := by
      have e : ∀ m, sm (cnt Y.2.1 P) (b + 1) ≤ sm (cnt Y.2.1 P) (b + 1 + m) := by
        intro m; induction m with
        | zero => exact Nat.le_refl _
        | succ m ih => exact Nat.le_trans ih (Nat.le_add_right _ _)
      have := e (np - (b + 1))
      rw [show b + 1 + (np - (b + 1)) = np from by omega] at this
      omega
    have hq : sm (cnt Y.2.1 P) (b + 1) = sm (cnt Y.2.1 P) b + cnt Y.2.1 P b := rfl
    unfold p_X10_countLying_7 f_X10_countLying_7
    simp (disch := omega) only [ln_, leT, leF, ltT, ltF, eqT, eqF, vpT, nlT, nleT, lnF, lenF, eqnF, neqF, nnF, nI_add, pk_mul, pk_div, pk_sub, ni_m, nI_clamp, md10, dm10, gI_l, gI_n, ar_t, ar_f, it_t, it_f, true_and, and_true, not_true_eq_false, not_false_eq_true, implies_true, and_self, eq_self, h6, h1, hx]
    exact ih _ ⟨x - cnt Y.2.1 P b, rfl, by omega⟩
/-- a row of counts -/
theorem c_countAll (hfu : 20000 ≤ fu) (y : yC P np Y a s) (w : YW P np ht Y) (hq : ∀ k, k ≤ 5 → q ≠ a + k) : ∃ s', f_X10_countAll fu a q s l = (s', l) ∧ p_X10_countAll fu a q s l ∧ (∀ r, r ≠ q → s' r = s r) ∧ ∀ c, c < 80 → s' q c = nI (ct (fun i => Y.2.1 i == c) P) := by
  have h2 := w.1
  have h4 := w.2.1
  have q0 := hq 0 (by omega)
  have q1 := hq 1 (by omega)
  have key := loop_i (fun n i s' => ∃ s'', f_X10_countAll_7 fu n (nI i) a q s' l = (s'', l) ∧ p_X10_countAll_7 fu n (nI i) a q s' l ∧ (∀ r, r ≠ q → s'' r = s r) ∧ ∀ c, c < 80 → s'' q c = nI (ct (fun i => Y.2.1 i == c) P)) (fun i s' => (∀ r, r ≠ q → s' r = s r) ∧ ∀ c, c < 80 → s' q c = nI (ct (fun i => Y.2.1 i == c) i)) P ?_ ?_ fu 0 (fl_fill (nI 0) q 80 s l).1 (Nat.zero_le _) (by omega) ?_
  · exact key
  · intro n s' hs
    have h5 : s' a 1 = nI P := by rw [hs.1 a (by omega)]; exact y.2.1
    refine ⟨s', ?_, ?_, hs⟩
    · unfold f_X10_countAll_7
      simp (disch := omega) only [ln_, leT, leF, ltT, ltF, eqT, eqF, vpT, nlT, nleT, lnF, lenF, eqnF, neqF, nnF, nI_add, pk_mul, pk_div, pk_sub, ni_m, nI_clamp, md10, dm10, gI_l, gI_n, ar_t, ar_f, it_t, it_f, true_and, and_true, not_true_eq_false, not_false_eq_true, implies_true, and_self, eq_self, h5]
    · unfold p_X10_countAll_7
      simp (disch := omega) only [ln_, leT, leF, ltT, ltF, eqT, eqF, vpT, nlT, nleT, lnF, lenF, eqnF, neqF, nnF, nI_add, pk_mul, pk_div, pk_sub, ni_m, nI_clamp, md10, dm10, gI_l, gI_n, ar_t, ar_f, it_t, it_f, true_and, and_true, not_true_eq_false, not_false_eq_true, implies_true, and_self, eq_self, h5]
  · intro n i s' hi hs ih
    have h5 : s' a 1 = nI P := by rw [hs.1 a (by omega)]; exact y.2.1
    have h1 : s' (a + 1) i = nI (Y.2.1 i) := by rw [hs.1 (a + 1) (by omega)]; exact (y.2.2.2.1 i hi).1
    have h3 := (w.2.2.1 i hi).1
    unfold p_X10_countAll_7 f_X10_countAll_7
    by_cases h : Y.2.1 i < 80
    · simp (disch := omega) only [ln_, leT, leF, ltT, ltF, eqT, eqF, vpT, nlT, nleT, lnF, lenF, eqnF, neqF, nnF, nI_add, pk_mul, pk_div, pk_sub, ni_m, nI_clamp, md10, dm10, gI_l, gI_n, ar_t, ar_f, it_t, it_f, true_and, and_true, not_true_eq_false, not_false_eq_true, implies_true, and_self, eq_self, h5, h1]
      refine ih _ ⟨fun r hr => ?_, fun c hc => ?_⟩
      · rw [wi_c hr]; exact hs.1 r hr
      · rw [wi_u]
        by_cases e : c = Y.2.1 i
        · subst e; rw [upd_s, hs.2 _ hc, ct_t (by simp), nI_add]
        · rw [upd_n e, hs.2 c hc, ct_f (by simp; omega)]
    · simp (disch := omega) only [ln_, leT, leF, ltT, ltF, eqT, eqF, vpT, nlT, nleT, lnF, lenF, eqnF, neqF, nnF, nI_add, pk_mul, pk_div, pk_sub, ni_m, nI_clamp, md10, dm10, gI_l, gI_n, ar_t, ar_f, it_t, it_f, true_and, and_true, not_true_eq_false, not_false_eq_true, implies_true, and_self, eq_self, h5, h1]
      refine ih _ ⟨hs.1, fun c hc => ?_⟩
      rw [hs.2 c hc, ct_f (by simp; omega)]
  · refine ⟨fun r hr => ?_, fun c hc => ?_⟩
    · show su s q _ r = _; rw [su_c hr]
    · show su s q _ q c = _; rw [su_r, if_pos hc]; rfl
theorem c_countCells (hfu : 20000 ≤ fu) (y : yC P np Y a s) (w : YW P np ht Y) (hq : ∀ k, k ≤ 5 → q ≠ a + k) : ∃ s', f_X10_countCells fu a q s l = (nI (ct (fun c => decide (0 < ct (fun i => Y.2.1 i == c) P)) 80), s', l) ∧ p_X10_countCells fu a q s l ∧ ∀ r, r ≠ q → s' r = s r := by
  obtain ⟨s', e, hp, hr, hc⟩ := c_countAll (l := l) hfu y w hq
  unfold f_X10_countCells p_X10_countCells
  rw [e]
  have key := loop_i (fun n i r => f_X10_countCells_16 fu n r (nI 80) (nI i) a q s' l = (nI (ct (fun c => decide (0 < ct (fun i => Y.2.1 i == c) P)) 80), s', l) ∧ p_X10_countCells_16 fu n r (nI 80) (nI i) a q s' l) (fun i r => r = nI (ct (fun c => decide (0 < ct (fun i => Y.2.1 i == c) P)) i)) 80 ?_ ?_ fu 0 (nI 0) (Nat.zero_le _) (by omega) rfl
  · exact ⟨s', key.1, ⟨hp, key.2⟩, hr⟩
  · intro n r hr
    unfold p_X10_countCells_16 f_X10_countCells_16
    simp (disch := omega) only [ln_, leT, leF, ltT, ltF, eqT, eqF, vpT, nlT, nleT, lnF, lenF, eqnF, neqF, nnF, nI_add, pk_mul, pk_div, pk_sub, ni_m, nI_clamp, md10, dm10, gI_l, gI_n, ar_t, ar_f, it_t, it_f, true_and, and_true, not_true_eq_false, not_false_eq_true, implies_true, and_self, eq_self, hr]
  · intro n i r hi hr ih
    have h1 := hc i hi
    have h2 := w.1
    have h3 := ct_le (fun k => Y.2.1 k == i) P
    unfold p_X10_countCells_16 f_X10_countCells_16
    by_cases h : 0 < ct (fun k => Y.2.1 k == i) P
    · simp (disch := omega) only [ln_, leT, leF, ltT, ltF, eqT, eqF, vpT, nlT, nleT, lnF, lenF, eqnF, neqF, nnF, nI_add, pk_mul, pk_div, pk_sub, ni_m, nI_clamp, md10, dm10, gI_l, gI_n, ar_t, ar_f, it_t, it_f, true_and, and_true, not_true_eq_false, not_false_eq_true, implies_true, and_self, eq_self, h1]
      exact ih _ (by rw [hr, ct_t (by simp [h]), nI_add])
    · simp (disch := omega) only [ln_, leT, leF, ltT, ltF, eqT, eqF, vpT, nlT, nleT, lnF, lenF, eqnF, neqF, nnF, nI_add, pk_mul, pk_div, pk_sub, ni_m, nI_clamp, md10, dm10, gI_l, gI_n, ar_t, ar_f, it_t, it_f, true_and, and_true, not_true_eq_false, not_false_eq_true, implies_true, and_self, eq_self, h1]
      exact ih _ (by rw [hr, ct_f (by simp [h])])
end cy
