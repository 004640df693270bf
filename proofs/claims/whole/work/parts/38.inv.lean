/-! What the class and the reference have of a text and a yard; arguments; copies -/
def p5 : List Nat → Nat
  | [] => 0
  | x :: L => x + 32 * p5 L
def p27 : List Nat → Nat
  | [] => 0
  | x :: L => x + 27 * p27 L
def okW (L : List Nat) : Prop := 1 ≤ L.length ∧ L.length ≤ 8 ∧ ∀ x ∈ L, 1 ≤ x ∧ x ≤ 26
def cT (t P np nl nw : Nat) (ht sg lo : Nat → Nat) (wd : Nat → List Nat) (wx wy rn sd : Int32) (s : fl_I) (l : fl_L) : Prop :=
  (s t 0 = nI nl ∧ s t 1 = nI nw ∧ s t 2 = nI np ∧ s t 3 = nI P) ∧ (∀ i, i < P → s (t + 4) i = nI (sg i) ∧ s (t + 5) i = nI (lo i)) ∧ (∀ b, b < np → s (t + 8) b = nI (ht b)) ∧ (s t 15 = wx ∧ s t 16 = wy ∧ s t 17 = rn ∧ s t 18 = sd) ∧ ∀ w, w < nw → l (t + 2) w = lN (p5 (wd w))
def rX (lv P nl nw : Nat) (lo : Nat → Nat) (wd : Nat → List Nat) (s : fl_I) (l : fl_L) : Prop :=
  s 68 lv = nI nl ∧ s 72 lv = nI nw ∧ (∀ i, i < P → s 97 i = nI (lo i)) ∧ ∀ w, w < nw → l 73 (8 * lv + w) = lN (p27 (wd w).reverse)
def TB (P np nl nw : Nat) (ht sg lo : Nat → Nat) (wd : Nat → List Nat) (rn sd : Int32) : Prop :=
  P ≤ 32 ∧ np ≤ 4 ∧ nl ≤ 4 ∧ nw ≤ 8 ∧ (∀ i, i < P → 1 ≤ sg i ∧ sg i ≤ 26 ∧ lo i < nl) ∧ (∀ b, b < np → 1 ≤ ht b ∧ ht b ≤ 32) ∧ (∀ w, w < nw → okW (wd w)) ∧ (∃ r, r ≤ 100 ∧ rn = nI r) ∧ ∃ d, d ≤ 9999 ∧ sd = nI d
def CV (fu t P np nl nw : Nat) (ht sg lo : Nat → Nat) (wd : Nat → List Nat) (wx wy rn sd : Int32) (LW : Lw) (Y : Yd) (s : fl_I) (l : fl_L) : Prop :=
  (t = 9 ∨ t = 20) ∧ cT t P np nl nw ht sg lo wd wx wy rn sd s l ∧ LC fu t LW s ∧ LWc LW ∧ yC P np Y 31 s ∧ YW P np ht Y ∧ TB P np nl nw ht sg lo wd rn sd
def RV (fu lv P np nl nw : Nat) (ht sg lo : Nat → Nat) (wd : Nat → List Nat) (wx wy rn sd : Int32) (LW : Lw) (Y : Yd) (s : fl_I) (l : fl_L) : Prop :=
  rT lv P np ht sg wx wy rn sd s ∧ rX lv P nl nw lo wd s l ∧ LR fu LW s ∧ LWc LW ∧ YF P np Y (s 94) ∧ YW P np ht Y ∧ TB P np nl nw ht sg lo wd rn sd
/-- nothing but the class's scratch has changed -/
def cS (s s' : fl_I) : Prop := ∀ q, (q < 37 ∨ 42 < q) → q ≠ 48 → q ≠ 49 → q ≠ 50 → q ≠ 59 → q ≠ 56 → (q < 51 ∨ 53 < q) → q < 107 → s' q = s q
/-- nothing but the reference's scratch has changed -/
def rS (s s' : fl_I) : Prop := (∀ q, q ≠ 60 → q ≠ 92 → q ≠ 93 → q ≠ 95 → q ≠ 98 → q ≠ 100 → q ≠ 101 → q ≠ 102 → s' q = s q) ∧ ∀ j, j ≠ 49 → j ≠ 52 → j ≠ 53 → j ≠ 60 → j ≠ 63 → s' 60 j = s 60 j
def Qy (s : fl_I) (l : fl_L) (fA : Int32 × fl_I × fl_L) (pA : Prop) (fB : fl_I → fl_L → Int32 × fl_I × fl_L) (pB : fl_I → fl_L → Prop) : Prop :=
  ∃ v s1 s2, fA = (v, s1, l) ∧ pA ∧ cS s s1 ∧ (∀ q, 107 ≤ q → s1 q = s q) ∧ fB s1 l = (v, s2, l) ∧ pB s1 l ∧ rS s1 s2
section inv
variable {fu t lv P np nl nw : Nat} {ht sg lo : Nat → Nat} {wd : Nat → List Nat} {wx wy rn sd : Int32} {LW : Lw} {Y : Yd} {s s1 s2 : fl_I} {l : fl_L} {D : fl_D} {a i b c q k n : Nat} {x y z v : Int32}
theorem cS_rfl : cS s s := fun _ _ _ _ _ _ _ _ _ => rfl
theorem rS_rfl : rS s s := ⟨fun _ _ _ _ _ _ _ _ _ => rfl, fun _ _ _ _ _ _ => rfl⟩
theorem rS_tr (h : rS s s1) (h' : rS s1 s2) : rS s s2 := ⟨fun q a b c d e f g i => (h'.1 q a b c d e f g i).trans (h.1 q a b c d e f g i), fun j a b c d e => (h'.2 j a b c d e).trans (h.2 j a b c d e)⟩
theorem rR_S (h : rR s s1) : rS s s1 := ⟨fun q a b c d e _ _ _ => h.1 q b c e a d, fun j a _ _ _ _ => h.2 j a⟩
theorem rK_S (h : rK s s1) : rS s s1 := rR_S (rK_R h)
def rV (s s' : fl_I) : Prop := (∀ q, 60 < q → q < 107 → q ≠ 92 → q ≠ 93 → q ≠ 95 → q ≠ 98 → q ≠ 100 → q ≠ 101 → q ≠ 102 → s' q = s q) ∧ ∀ j, j ≠ 49 → j ≠ 52 → j ≠ 53 → j ≠ 60 → j ≠ 63 → s' 60 j = s 60 j
theorem rS_V (h : rS s s1) : rV s s1 := ⟨fun q a _ b c d e f g i => h.1 q (by omega) b c d e f g i, h.2⟩
theorem rV_of (h : ∀ q, 60 ≤ q → q < 107 → s1 q = s q) : rV s s1 := ⟨fun q a b _ _ _ _ _ _ _ => h q (by omega) b, fun j _ _ _ _ _ => by rw [h 60 (by omega) (by omega)]⟩
theorem rX_keep (h : rV s s1) (r : rX lv P nl nw lo wd s l) : rX lv P nl nw lo wd s1 l := by
  obtain ⟨r1, r2, r3, r4⟩ := r
  refine ⟨?_, ?_, ?_, r4⟩
  · rw [h.1 68 (by omega) (by omega) (by omega) (by omega) (by omega) (by omega) (by omega) (by omega) (by omega)]; exact r1
  · rw [h.1 72 (by omega) (by omega) (by omega) (by omega) (by omega) (by omega) (by omega) (by omega) (by omega)]; exact r2
  · rw [h.1 97 (by omega) (by omega) (by omega) (by omega) (by omega) (by omega) (by omega) (by omega) (by omega)]; exact r3
theorem rT_S (h : rV s s1) (r : rT lv P np ht sg wx wy rn sd s) : rT lv P np ht sg wx wy rn sd s1 := by
  obtain ⟨r1, r2, r3, r4, r5, r6, r7, r8, r9, r10⟩ := r
  refine ⟨r1, by rw [h.2 18 (by omega) (by omega) (by omega) (by omega) (by omega)]; exact r2, by rw [h.2 54 (by omega) (by omega) (by omega) (by omega) (by omega)]; exact r3, ?_, ?_, ?_, ?_, ?_, ?_, ?_⟩
  · rw [h.1 74 (by omega) (by omega) (by omega) (by omega) (by omega) (by omega) (by omega) (by omega) (by omega)]; exact r4
  · rw [h.1 78 (by omega) (by omega) (by omega) (by omega) (by omega) (by omega) (by omega) (by omega) (by omega)]; exact r5
  · rw [h.1 96 (by omega) (by omega) (by omega) (by omega) (by omega) (by omega) (by omega) (by omega) (by omega)]; exact r6
  · rw [h.1 79 (by omega) (by omega) (by omega) (by omega) (by omega) (by omega) (by omega) (by omega) (by omega)]; exact r7
  · rw [h.1 79 (by omega) (by omega) (by omega) (by omega) (by omega) (by omega) (by omega) (by omega) (by omega)]; exact r8
  · rw [h.1 80 (by omega) (by omega) (by omega) (by omega) (by omega) (by omega) (by omega) (by omega) (by omega)]; exact r9
  · rw [h.1 81 (by omega) (by omega) (by omega) (by omega) (by omega) (by omega) (by omega) (by omega) (by omega)]; exact r10
theorem LR_S (h : rV s s1) (r : LR fu LW s) : LR fu LW s1 := LR_keep r (fun q a b => h.1 q (by omega) (by omega) (by omega) (by omega) (by omega) (by omega) (by omega) (by omega) (by omega)) (h.2 18 (by omega) (by omega) (by omega) (by omega) (by omega))
theorem RV_S (h : rV s s1) (r : RV fu lv P np nl nw ht sg lo wd wx wy rn sd LW Y s l) : RV fu lv P np nl nw ht sg lo wd wx wy rn sd LW Y s1 l := by
  obtain ⟨r1, r2, r3, r4, r5, r6, r7⟩ := r
  exact ⟨rT_S h r1, rX_keep h r2, LR_S h r3, r4, by rw [h.1 94 (by omega) (by omega) (by omega) (by omega) (by omega) (by omega) (by omega) (by omega) (by omega)]; exact r5, r6, r7⟩
theorem CV_S (h : cS s s1) (r : CV fu t P np nl nw ht sg lo wd wx wy rn sd LW Y s l) : CV fu t P np nl nw ht sg lo wd wx wy rn sd LW Y s1 l := by
  obtain ⟨r0, ⟨r1, r2, r3, r4, r5⟩, r6, r7, r8, r9, r10⟩ := r
  have g : ∀ q, (t ≤ q ∧ q ≤ t + 10) ∨ (31 ≤ q ∧ q ≤ 36) → s1 q = s q := fun q hq => h q (by omega) (by omega) (by omega) (by omega) (by omega) (by omega) (by omega) (by omega)
  refine ⟨r0, ⟨?_, ?_, ?_, ?_, r5⟩, LC_keep (g (t + 9) (by omega)) (g (t + 10) (by omega)) r6, r7, yC_keep (fun k hk => g (31 + k) (by omega)) r8, r9, r10⟩
  · rw [g t (by omega)]; exact r1
  · rw [g (t + 4) (by omega), g (t + 5) (by omega)]; exact r2
  · rw [g (t + 8) (by omega)]; exact r3
  · rw [g t (by omega)]; exact r4
theorem Qy_mk {fA : Int32 × fl_I × fl_L} {pA : Prop} {fB : fl_I → fl_L → Int32 × fl_I × fl_L} {pB : fl_I → fl_L → Prop} (v : Int32) (s1 s2 : fl_I) (h1 : fA = (v, s1, l)) (h2 : pA) (h3 : cS s s1) (h4 : ∀ q, 107 ≤ q → s1 q = s q) (h5 : fB s1 l = (v, s2, l)) (h6 : pB s1 l) (h7 : rS s1 s2) : Qy s l fA pA fB pB := ⟨v, s1, s2, h1, h2, h3, h4, h5, h6, h7⟩
theorem cS_V (h : cS s s1) : rV s s1 := rV_of (fun q a b => h q (by omega) (by omega) (by omega) (by omega) (by omega) (by omega) (by omega) (by omega))
/-! arguments -/
theorem ag3 (v : Int32) (a n : Nat) (ha : a < 2 ^ 30) (hn : n < 2 ^ 30) : v < nI a ∨ (¬ v < nI a ∧ nI n < v ∧ ¬ v ≤ nI n) ∨ ∃ j, a ≤ j ∧ j ≤ n ∧ v = nI j := by
  by_cases h1 : v < nI a
  · exact .inl h1
  · by_cases h2 : v ≤ nI n
    · refine .inr (.inr ?_)
      rcases ag v (n + 1) (by omega) with (h | h) | ⟨j, hj, rfl⟩
      · exact absurd (Int32.lt_of_lt_of_le h (nI_le (Nat.zero_le a) (by omega))) h1
      · exact absurd (Int32.le_trans h h2) (nI_ge (Nat.lt_succ_self n) (by omega))
      · refine ⟨j, ?_, by omega, rfl⟩
        rcases Nat.lt_or_ge j a with h | h
        · exact absurd (nI_lt h (by omega)) h1
        · exact h
    · exact .inr (.inl ⟨h1, Int32.not_le.mp h2, h2⟩)
theorem p_inT : p_X12_in fu x y z = True := eq_true ⟨fun _ => trivial, fun _ => ⟨fun _ => trivial, fun _ => trivial⟩⟩
theorem p_apartT : p_X11_apart fu x y = True := rfl
theorem p_cellT : p_X11_isCell fu x y = True := eq_true ⟨fun _ => trivial, fun _ => ⟨fun _ => trivial, fun _ => ⟨fun _ => trivial, fun _ => ⟨fun _ => trivial, fun _ => trivial⟩⟩⟩⟩
theorem p_cell2T : p_X12_isCell fu x y = True := eq_true ⟨of_eq_true p_inT, fun _ => trivial, fun _ => ⟨of_eq_true p_inT, fun _ => trivial, fun _ => trivial⟩⟩
theorem p_isPkT : p_X11_isPicker fu x s l = True := eq_true ⟨fun _ => trivial, fun _ => ⟨fun _ => trivial, fun _ => trivial⟩⟩
theorem p_isPcT : p_X11_isPiece fu x s l = True := eq_true ⟨fun _ => trivial, fun _ => ⟨fun _ => trivial, fun _ => trivial⟩⟩
theorem in01 : f_X12_in fu x y z = nI 0 ∨ f_X12_in fu x y z = nI 1 := by
  unfold f_X12_in
  split
  · exact .inl rfl
  · split
    · exact .inl rfl
    · exact .inr rfl
theorem p_isPk2 (r : rT lv P np ht sg wx wy rn sd s) : p_X12_isPicker fu x s l := ⟨by rw [r.2.1]; exact vp_in_nI (by have := r.1; omega) (by omega), of_eq_true p_inT, in01, trivial⟩
theorem p_isPc2 : p_X12_isPiece fu x s l := ⟨of_eq_true p_inT, in01, trivial⟩
theorem p_isLgT : p_X12_isLong fu x = True := eq_true ⟨of_eq_true p_inT, in01, trivial⟩
/-- 0 .. n - 1, in the reference's words -/
theorem in_1 (hn : n < 2 ^ 30) (hj : i < n) : f_X12_in fu (nI i) (nI 0) (nI n - nI 1) = nI 1 := by
  unfold f_X12_in
  rw [pk_sub (by omega), if_neg (nI_nlt (Nat.zero_le i) (by omega)), if_neg (nI_nlt (by omega) (by omega))]; rfl
theorem in_0 (hn : n < 2 ^ 30) (h : v < nI 0 ∨ nI n ≤ v) : f_X12_in fu v (nI 0) (nI n - nI 1) = nI 0 := by
  unfold f_X12_in
  by_cases e : v < nI 0
  · rw [if_pos e]; rfl
  · rw [if_neg e, if_pos]
    · rfl
    · have h := h.resolve_left e
      rw [Int32.le_iff_toInt_le, nI_toInt (by omega)] at h
      rw [Int32.lt_iff_toInt_lt]
      by_cases e0 : n = 0
      · subst e0
        rw [show (nI 0 - nI 1).toInt = -1 from by decide +kernel]; omega
      · rw [pk_sub (by omega), nI_toInt (by omega)]; omega
theorem pk_no (y : yC P np Y 31 s) (h : v < nI 0 ∨ nI np ≤ v) : f_X11_isPicker fu v s l = nI 0 := by
  unfold f_X11_isPicker
  have h2 := y.2.2.1
  by_cases e : v < nI 0
  · simp (disch := omega) only [ln_, ar_t, ar_f, it_t, it_f, true_and, and_true, not_true_eq_false, not_false_eq_true, implies_true, and_self, eq_self, e]
  · have e2 := h.resolve_left e
    simp (disch := omega) only [ln_, ar_t, ar_f, it_t, it_f, true_and, and_true, not_true_eq_false, not_false_eq_true, implies_true, and_self, eq_self, e, h2, e2]
theorem pk_yes (y : yC P np Y 31 s) (hn : np ≤ 4) (h : b < np) : f_X11_isPicker fu (nI b) s l = nI 1 := by
  unfold f_X11_isPicker
  have h2 := y.2.2.1
  simp (disch := omega) only [ln_, leT, leF, ltT, ltF, eqT, eqF, vpT, nlT, nleT, lnF, lenF, eqnF, neqF, nnF, nI_add, pk_mul, pk_div, pk_sub, ni_m, nI_clamp, md10, dm10, gI_l, gI_n, ar_t, ar_f, it_t, it_f, true_and, and_true, not_true_eq_false, not_false_eq_true, implies_true, and_self, eq_self, h2]
theorem pc_no (y : yC P np Y 31 s) (h : v < nI 0 ∨ nI P ≤ v) : f_X11_isPiece fu v s l = nI 0 := by
  unfold f_X11_isPiece
  have h2 := y.2.1
  by_cases e : v < nI 0
  · simp (disch := omega) only [ln_, ar_t, ar_f, it_t, it_f, true_and, and_true, not_true_eq_false, not_false_eq_true, implies_true, and_self, eq_self, e]
  · have e2 := h.resolve_left e
    simp (disch := omega) only [ln_, ar_t, ar_f, it_t, it_f, true_and, and_true, not_true_eq_false, not_false_eq_true, implies_true, and_self, eq_self, e, h2, e2]
theorem pc_yes (y : yC P np Y 31 s) (hn : P ≤ 32) (h : i < P) : f_X11_isPiece fu (nI i) s l = nI 1 := by
  unfold f_X11_isPiece
  have h2 := y.2.1
  simp (disch := omega) only [ln_, leT, leF, ltT, ltF, eqT, eqF, vpT, nlT, nleT, lnF, lenF, eqnF, neqF, nnF, nI_add, pk_mul, pk_div, pk_sub, ni_m, nI_clamp, md10, dm10, gI_l, gI_n, ar_t, ar_f, it_t, it_f, true_and, and_true, not_true_eq_false, not_false_eq_true, implies_true, and_self, eq_self, h2]
theorem pk_no2 (r : rT lv P np ht sg wx wy rn sd s) (hn : np ≤ 4) (h : v < nI 0 ∨ nI np ≤ v) : f_X12_isPicker fu v s l = nI 0 := by
  unfold f_X12_isPicker
  rw [r.2.1, nI_clamp (by have := r.1; omega), r.2.2.2.1]; exact in_0 (by omega) h
theorem pk_yes2 (r : rT lv P np ht sg wx wy rn sd s) (hn : np ≤ 4) (h : b < np) : f_X12_isPicker fu (nI b) s l = nI 1 := by
  unfold f_X12_isPicker
  rw [r.2.1, nI_clamp (by have := r.1; omega), r.2.2.2.1]; exact in_1 (by omega) h
theorem pc_no2 (r : rT lv P np ht sg wx wy rn sd s) (hn : P ≤ 32) (h : v < nI 0 ∨ nI P ≤ v) : f_X12_isPiece fu v s l = nI 0 := by
  unfold f_X12_isPiece
  rw [r.2.2.1]; exact in_0 (by omega) h
theorem pc_yes2 (r : rT lv P np ht sg wx wy rn sd s) (hn : P ≤ 32) (h : b < P) : f_X12_isPiece fu (nI b) s l = nI 1 := by
  unfold f_X12_isPiece
  rw [r.2.2.1]; exact in_1 (by omega) h
theorem cell_ag (x y : Int32) : (f_X11_isCell fu x y = nI 0 ∧ f_X12_isCell fu x y = nI 0) ∨ ∃ i j, i < 10 ∧ j < 8 ∧ x = nI i ∧ y = nI j ∧ f_X11_isCell fu x y = nI 1 ∧ f_X12_isCell fu x y = nI 1 := by
  unfold f_X11_isCell f_X12_isCell f_X12_in
  rcases ag3 x 0 9 (by omega) (by omega) with h | ⟨h1, h2, h3⟩ | ⟨i, _, hi, rfl⟩
  · left
    simp (disch := omega) only [ln_, ar_t, ar_f, it_t, it_f, true_and, and_true, not_true_eq_false, not_false_eq_true, implies_true, and_self, eq_self, h]
  · left
    have h4 : nI 10 ≤ x := by
      rcases ag x 10 (by omega) with (h | h) | ⟨j, hj, rfl⟩
      · exact absurd h h1
      · exact h
      · exact absurd h2 (nI_nlt (by omega) (by omega))
    simp (disch := omega) only [ln_, ar_t, ar_f, it_t, it_f, true_and, and_true, not_true_eq_false, not_false_eq_true, implies_true, and_self, eq_self, h1, h2, h4]
  · rcases ag3 y 0 7 (by omega) (by omega) with h | ⟨h1, h2, h3⟩ | ⟨j, _, hj, rfl⟩
    · left
      simp (disch := omega) only [ln_, leT, leF, ltT, ltF, eqT, eqF, vpT, nlT, nleT, lnF, lenF, eqnF, neqF, nnF, nI_add, pk_mul, pk_div, pk_sub, ni_m, nI_clamp, md10, dm10, gI_l, gI_n, ar_t, ar_f, it_t, it_f, true_and, and_true, not_true_eq_false, not_false_eq_true, implies_true, and_self, eq_self, h]
    · left
      have h4 : nI 8 ≤ y := by
        rcases ag y 8 (by omega) with (h | h) | ⟨j, hj, rfl⟩
        · exact absurd h h1
        · exact h
        · exact absurd h2 (nI_nlt (by omega) (by omega))
      simp (disch := omega) only [ln_, leT, leF, ltT, ltF, eqT, eqF, vpT, nlT, nleT, lnF, lenF, eqnF, neqF, nnF, nI_add, pk_mul, pk_div, pk_sub, ni_m, nI_clamp, md10, dm10, gI_l, gI_n, ar_t, ar_f, it_t, it_f, true_and, and_true, not_true_eq_false, not_false_eq_true, implies_true, and_self, eq_self, h1, h2, h4]
    · right
      refine ⟨i, j, by omega, by omega, rfl, rfl, ?_⟩
      simp (disch := omega) only [ln_, leT, leF, ltT, ltF, eqT, eqF, vpT, nlT, nleT, lnF, lenF, eqnF, neqF, nnF, nI_add, pk_mul, pk_div, pk_sub, ni_m, nI_clamp, md10, dm10, gI_l, gI_n, ar_t, ar_f, it_t, it_f, true_and, and_true, not_true_eq_false, not_false_eq_true, implies_true, and_self, eq_self]
/-! steps -/
def dst (c d : Nat) : Nat := (c % 10 - d % 10) + (d % 10 - c % 10) + ((c / 10 - d / 10) + (d / 10 - c / 10))
theorem nsub {a b : Nat} (h : a ≤ b) : nI a - nI b = -nI (b - a) := by rw [← pk_sub h, Int32.neg_sub]
theorem absn {a b : Nat} (ha : a < 2 ^ 30) (hb : b < 2 ^ 30) : i_abs (nI a - nI b) = nI ((a - b) + (b - a)) := by
  show (if (0 : Int32) ≤ nI a - nI b then nI a - nI b else 0 - (nI a - nI b)) = _
  rcases Nat.lt_or_ge a b with h | h
  · rw [nsub (by omega), if_neg, Int32.zero_sub, Int32.neg_neg]
    · congr 1; omega
    · rw [show (0 : Int32) = nI 0 from rfl, lenF (by omega) (by omega) (by omega)]; exact fun h => h
  · rw [pk_sub h, if_pos (nI_pos' (by omega))]
    congr 1; omega
theorem apart_n (hc : b < 100) (hd : c < 100) : f_X11_apart fu (nI b) (nI c) = nI (dst b c) := by
  unfold f_X11_apart
  simp (disch := omega) only [ln_, pk_div, pk_mul, pk_sub, md10, absn, nI_add]
  rfl
theorem off_n {a b : Nat} (ha : a < 2 ^ 30) (hb : b < 2 ^ 30) : f_X12_off fu (nI a) (nI b) = nI ((a - b) + (b - a)) := by
  unfold f_X12_off
  rcases Nat.lt_or_ge a b with h | h
  · rw [if_neg (nI_ge h (by omega)), pk_sub (by omega)]; congr 1; omega
  · rw [if_pos (nI_le h (by omega)), pk_sub h]; congr 1; omega
theorem steps_n (hc : b < 100) (hd : c < 100) : f_X12_stepsOff fu (nI b) (nI c) = nI (dst b c) := by
  unfold f_X12_stepsOff
  simp (disch := omega) only [ln_, pk_div, pk_mul, pk_sub, md10, off_n, nI_add]
  rfl
theorem p_stepsT : p_X12_stepsOff fu x y = True := eq_true ⟨⟨fun _ => trivial, fun _ => trivial⟩, ⟨fun _ => trivial, fun _ => trivial⟩, trivial⟩
theorem dst_lt (hc : b < 80) (hd : c < 80) : dst b c < 17 := by unfold dst; omega
/-! copies -/
theorem wc_c {q0 q' sp dp n q : Nat} (h : q ≠ q') : wc s q0 q' sp dp n q = s q := by unfold wc; rw [su_c h]
theorem wc_u {q0 q' sp dp n : Nat} : wc s q0 q' sp dp n q' = va_cpy (s q0) (s q') sp dp n := by unfold wc; rw [su_r]
theorem cpy_in {f g : Nat → Int32} {m j : Nat} (h : j < m) : va_cpy f g 0 0 m j = f j := by unfold va_cpy; rw [if_pos (by omega)]; congr 1; omega
theorem c_copy {b : Nat} (y : yC P np Y b s) (hP : P ≤ 32) (hn : np ≤ 4) (hd : a + 5 < b ∨ b + 5 < a) : ∃ s', f_X10_copy fu a b s l = (s', l) ∧ p_X10_copy fu a b s l ∧ yC P np Y a s' ∧ ∀ q, (q < a ∨ a + 5 < q) → s' q = s q := by
  refine ⟨_, rfl, trivial, ?_, fun q hq => ?_⟩
  · show YC P np Y _ _ _ _ _ _
    obtain ⟨y1, y2, y3, y4, y5⟩ := y
    simp (disch := omega) only [ln_, nI_clamp, wc_c, wc_u, wi_c, wi_u, upd_s, upd_n, su_r, su_c]
    refine ⟨y1, y2, y3, fun i hi => ?_, fun j hj => ?_⟩
    · rw [cpy_in (by omega), cpy_in (by omega)]; exact y4 i hi
    · rw [cpy_in (by omega), cpy_in (by omega), cpy_in (by omega)]; exact y5 j hj
  · simp (disch := omega) only [ln_, nI_clamp, wc_c, wi_c, wi_u, upd_s, upd_n, su_r, su_c]
theorem r_copies (hfu : 20000 ≤ fu) (r : rT lv P np ht sg wx wy rn sd s) (y : YF P np Y (s 94)) (w : YW P np ht Y) : ∃ s', f_X12_copies fu s l = (s', l) ∧ p_X12_copies fu s l ∧ YF P np Y (s' 95) ∧ s' 60 52 = sd ∧ s' 60 53 = nI 0 ∧ (∀ q, q ≠ 95 → q ≠ 60 → s' q = s q) ∧ ∀ j, j ≠ 52 → j ≠ 53 → s' 60 j = s 60 j := by
  obtain ⟨r1, r2, r3, r4, r5, r6, r7, r8, r9, r10⟩ := r
  have key := loop_i (fun n i s0 => ∃ s', f_X12_copies_2 fu n (nI i) s0 l = (s', l) ∧ p_X12_copies_2 fu n (nI i) s0 l ∧ (∀ j, j < 141 → s' 95 j = s 94 j) ∧ s' 60 52 = sd ∧ s' 60 53 = nI 0 ∧ (∀ q, q ≠ 95 → q ≠ 60 → s' q = s q) ∧ ∀ j, j ≠ 52 → j ≠ 53 → s' 60 j = s 60 j) (fun i s0 => (∀ j, j < i → s0 95 j = s 94 j) ∧ ∀ q, q ≠ 95 → s0 q = s q) 141 ?_ ?_ fu 0 s (Nat.zero_le _) (by omega) ⟨fun j hj => absurd hj (Nat.not_lt_zero j), fun _ _ => rfl⟩
  · obtain ⟨s', e, p, h1, h2⟩ := key
    exact ⟨s', e, p, YF_row h1 w.1 w.2.1 y, h2⟩
  · intro n s0 hs
    have h60 := hs.2 60 (by omega)
    have h81 := hs.2 81 (by omega)
    have h18 : s0 60 18 = nI lv := by rw [h60]; exact r2
    have h10 : s0 81 lv = sd := by rw [h81]; exact r10
    unfold f_X12_copies_2 p_X12_copies_2
    simp (disch := omega) only [ln_, leT, leF, ltT, ltF, eqT, eqF, vpT, nlT, nleT, lnF, lenF, eqnF, neqF, nnF, nI_add, pk_mul, pk_div, pk_sub, ni_m, nI_clamp, md10, dm10, gI_l, gI_n, ar_t, ar_f, it_t, it_f, true_and, and_true, not_true_eq_false, not_false_eq_true, implies_true, and_self, eq_self, h18, h10]
    refine ⟨_, rfl, ?_, ?_, ?_, fun q a b => ?_, fun j a b => ?_⟩
    · simp (disch := omega) only [wi_c, wi_u, upd_s, upd_n, su_r, su_c]; exact hs.1
    · simp (disch := omega) only [wi_c, wi_u, upd_s, upd_n, su_r, su_c]
    · simp (disch := omega) only [wi_c, wi_u, upd_s, upd_n, su_r, su_c]
    · simp (disch := omega) only [wi_c, wi_u, upd_s, upd_n, su_r, su_c]; exact hs.2 q a
    · simp (disch := omega) only [wi_c, wi_u, upd_s, upd_n, su_r, su_c]; rw [h60]
  · intro n i s0 hi hs ih
    have h94 := hs.2 94 (by omega)
    unfold f_X12_copies_2 p_X12_copies_2
    simp (disch := omega) only [ln_, leT, leF, ltT, ltF, eqT, eqF, vpT, nlT, nleT, lnF, lenF, eqnF, neqF, nnF, nI_add, pk_mul, pk_div, pk_sub, ni_m, nI_clamp, md10, dm10, gI_l, gI_n, ar_t, ar_f, it_t, it_f, true_and, and_true, not_true_eq_false, not_false_eq_true, implies_true, and_self, eq_self]
    refine ih _ ⟨fun j hj => ?_, fun q hq => by rw [wi_c hq]; exact hs.2 q hq⟩
    rw [wi_u]
    by_cases e : j = i
    · subst e; rw [upd_s, h94]
    · rw [upd_n e]; exact hs.1 j (by omega)
theorem cp_S (h1 : ∀ q, q ≠ 95 → q ≠ 60 → s1 q = s q) (h2 : ∀ j, j ≠ 52 → j ≠ 53 → s1 60 j = s 60 j) : rS s s1 := ⟨fun q a _ _ d _ _ _ _ => h1 q d a, fun j _ b c _ _ => h2 j b c⟩
end inv
