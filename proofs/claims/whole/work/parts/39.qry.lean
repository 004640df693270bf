/-! Questions about the yard -/
section qry
variable {fu t lv P np nl nw : Nat} {ht sg lo : Nat → Nat} {wd : Nat → List Nat} {wx wy rn sd : Int32} {LW : Lw} {Y : Yd} {s s1 s2 : fl_I} {l : fl_L} {D : fl_D} {a i b c q k n : Nat} {x y z v : Int32}
theorem c_lawOf (hfu : 20000 ≤ fu) (hL : LC fu t LW s) (hC : LWc LW) (y : yC P np Y a s) (w : YW P np ht Y) (hat : t = 9 ∨ t = 20) (haa : a = 31 ∨ a = 37) (hsg : ∀ i, i < P → s (t + 4) i = nI (sg i)) (hk : k < 3) (hi : i < P) : ∃ s', f_X9_lawOfPiece fu (nI k) (nI i) t a s l = (LW k (vrs sg P Y i), s', l) ∧ p_X9_lawOfPiece fu (nI k) (nI i) t a s l ∧ ∀ r, r ≠ 48 → r ≠ 49 → s' r = s r := by
  have hP := w.1
  have hn := w.2.1
  have hw := (w.2.2.1 i hi).1
  have h1 := (y.2.2.2.1 i hi).1
  have hc := c_countAt (fu := fu) (l := l) hfu y w (show Y.2.1 i < 84 by omega)
  obtain ⟨s', e, p, r⟩ := c_ofPiece (l := l) (x4 := nI (ct (fun k => Y.2.1 k == Y.2.1 i) P)) hL hC hk (show i < 32 by omega) hat haa (show Y.2.1 i < 84 by omega) h1 (y.2.2.2.1 i hi).2 y.1 (hsg i hi)
  refine ⟨s', ?_, ?_, r⟩
  · unfold f_X9_lawOfPiece
    simp (disch := omega) only [ln_, leT, leF, ltT, ltF, eqT, eqF, vpT, nlT, nleT, lnF, lenF, eqnF, neqF, nnF, nI_add, pk_mul, pk_div, pk_sub, ni_m, nI_clamp, md10, dm10, gI_l, gI_n, h1, hc]
    rw [e]; rfl
  · unfold p_X9_lawOfPiece
    simp (disch := omega) only [ln_, leT, leF, ltT, ltF, eqT, eqF, vpT, nlT, nleT, lnF, lenF, eqnF, neqF, nnF, nI_add, pk_mul, pk_div, pk_sub, ni_m, nI_clamp, md10, dm10, gI_l, gI_n, ar_t, ar_f, it_t, it_f, true_and, and_true, not_true_eq_false, not_false_eq_true, implies_true, and_self, eq_self, h1, hc]
    exact p
theorem c_takes (hfu : 20000 ≤ fu) (hL : LC fu t LW s) (hC : LWc LW) (y : yC P np Y a s) (w : YW P np ht Y) (hat : t = 9 ∨ t = 20) (haa : a = 31 ∨ a = 37) (hsg : ∀ i, i < P → s (t + 4) i = nI (sg i)) : ∃ s', f_X9_takesOfAll fu t a s l = (nI (sm (fun i => if Y.2.1 i < 80 then hdN (LW 1 (vrs sg P Y i)) 99 else 0) P), s', l) ∧ p_X9_takesOfAll fu t a s l ∧ ∀ r, r ≠ 48 → r ≠ 49 → r ≠ 50 → s' r = s r := by
  have hP := w.1
  have hn := w.2.1
  obtain ⟨s1, e1, p1, r1, c1⟩ := c_countAll (l := l) (q := 50) hfu y w (fun k hk => by omega)
  have key := loop_i (fun n i (z : Int32 × fl_I) => ∃ s', f_X9_takesOfAll_13 fu n z.1 (nI i) t a z.2 l = (nI (sm (fun i => if Y.2.1 i < 80 then hdN (LW 1 (vrs sg P Y i)) 99 else 0) P), s', l) ∧ p_X9_takesOfAll_13 fu n z.1 (nI i) t a z.2 l ∧ ∀ r, r ≠ 48 → r ≠ 49 → r ≠ 50 → s' r = s r) (fun i z => z.1 = nI (sm (fun i => if Y.2.1 i < 80 then hdN (LW 1 (vrs sg P Y i)) 99 else 0) i) ∧ z.2 50 = s1 50 ∧ ∀ r, r ≠ 48 → r ≠ 49 → r ≠ 50 → z.2 r = s r) P ?_ ?_ fu 0 (nI 0, s1) (Nat.zero_le _) (by omega) ⟨rfl, rfl, fun r _ _ h => r1 r h⟩
  · obtain ⟨s', e, p, r⟩ := key
    refine ⟨s', ?_, ?_, r⟩
    · unfold f_X9_takesOfAll; rw [e1]; exact e
    · unfold p_X9_takesOfAll; rw [e1]; exact ⟨p1, p⟩
  · intro n z hz
    obtain ⟨x, s0⟩ := z
    obtain ⟨z1, z2, z3⟩ := hz
    dsimp only at z1 z2 z3
    have h5 : s0 a 1 = nI P := by rw [z3 a (by omega) (by omega) (by omega)]; exact y.2.1
    refine ⟨s0, ?_, ?_, z3⟩
    · unfold f_X9_takesOfAll_13
      simp (disch := omega) only [ln_, leT, leF, ltT, ltF, eqT, eqF, vpT, nlT, nleT, lnF, lenF, eqnF, neqF, nnF, nI_add, pk_mul, pk_div, pk_sub, ni_m, nI_clamp, md10, dm10, gI_l, gI_n, ar_t, ar_f, it_t, it_f, true_and, and_true, not_true_eq_false, not_false_eq_true, implies_true, and_self, eq_self, h5, z1]
    · unfold p_X9_takesOfAll_13
      simp (disch := omega) only [ln_, leT, leF, ltT, ltF, eqT, eqF, vpT, nlT, nleT, lnF, lenF, eqnF, neqF, nnF, nI_add, pk_mul, pk_div, pk_sub, ni_m, nI_clamp, md10, dm10, gI_l, gI_n, ar_t, ar_f, it_t, it_f, true_and, and_true, not_true_eq_false, not_false_eq_true, implies_true, and_self, eq_self, h5]
  · intro n i z hi hz ih
    replace ih := fun x s' => ih (x, s')
    dsimp only at ih
    obtain ⟨x, s0⟩ := z
    obtain ⟨z1, z2, z3⟩ := hz
    dsimp only at z1 z2 z3
    have h5 : s0 a 1 = nI P := by rw [z3 a (by omega) (by omega) (by omega)]; exact y.2.1
    have ha : s0 a 0 = Y.1 := by rw [z3 a (by omega) (by omega) (by omega)]; exact y.1
    have h1 : s0 (a + 1) i = nI (Y.2.1 i) := by rw [z3 (a + 1) (by omega) (by omega) (by omega)]; exact (y.2.2.2.1 i hi).1
    have h2 : s0 (a + 2) i = nI (Y.2.2.1 i) := by rw [z3 (a + 2) (by omega) (by omega) (by omega)]; exact (y.2.2.2.1 i hi).2
    have h4 : s0 (t + 4) i = nI (sg i) := by rw [z3 (t + 4) (by omega) (by omega) (by omega)]; exact hsg i hi
    have hw := (w.2.2.1 i hi).1
    unfold p_X9_takesOfAll_13 f_X9_takesOfAll_13 p_X11_money f_X11_money
    by_cases h : Y.2.1 i < 80
    · have h50 : s0 50 (Y.2.1 i) = nI (ct (fun k => Y.2.1 k == Y.2.1 i) P) := by rw [z2]; exact c1 _ h
      obtain ⟨s2, e2, p2, r2⟩ := c_ofPiece (l := l) (x4 := nI (ct (fun k => Y.2.1 k == Y.2.1 i) P)) (LC_keep (z3 (t + 9) (by omega) (by omega) (by omega)) (z3 (t + 10) (by omega) (by omega) (by omega)) hL) hC (show 1 < 3 by omega) (show i < 32 by omega) hat haa (by omega) h1 h2 ha h4
      have e2 : f_X1_ofPiece fu (nI 1) (nI i) (nI (ct (fun k => Y.2.1 k == Y.2.1 i) P)) t a s0 l = (LW 1 (vrs sg P Y i), s2, l) := e2
      simp (disch := omega) only [ln_, leT, leF, ltT, ltF, eqT, eqF, vpT, nlT, nleT, lnF, lenF, eqnF, neqF, nnF, nI_add, pk_mul, pk_div, pk_sub, ni_m, nI_clamp, md10, dm10, gI_l, gI_n, ar_t, ar_f, it_t, it_f, true_and, and_true, not_true_eq_false, not_false_eq_true, implies_true, and_self, eq_self, h5, h1, h50, e2, p2, held_n, p_heldT]
      exact ih _ _ ⟨by rw [z1]; show nI _ + nI _ = nI (sm _ _ + (if _ then _ else _)); rw [if_pos h, nI_add], by rw [r2 50 (by omega) (by omega)]; exact z2, fun r a b c => by rw [r2 r a b]; exact z3 r a b c⟩
    · simp (disch := omega) only [ln_, leT, leF, ltT, ltF, eqT, eqF, vpT, nlT, nleT, lnF, lenF, eqnF, neqF, nnF, nI_add, pk_mul, pk_div, pk_sub, ni_m, nI_clamp, md10, dm10, gI_l, gI_n, ar_t, ar_f, it_t, it_f, true_and, and_true, not_true_eq_false, not_false_eq_true, implies_true, and_self, eq_self, h5, h1]
      exact ih _ _ ⟨by rw [z1]; show nI _ = nI (sm _ _ + (if _ then _ else _)); rw [if_neg h, Nat.add_zero], z2, z3⟩
theorem c_owed (hfu : 20000 ≤ fu) (hL : LC fu t LW s) (hC : LWc LW) (y : yC P np Y a s) (w : YW P np ht Y) (hat : t = 9 ∨ t = 20) (haa : a = 31 ∨ a = 37) (hsg : ∀ i, i < P → s (t + 4) i = nI (sg i)) (hht : ∀ b, b < np → s (t + 8) b = nI (ht b)) (hb : b < np) : ∃ s', f_X9_owed fu (nI b) t a s l = (nI (sm (fun i => if Y.2.1 i = 80 + b then hdN (LW 2 (vrp sg ht P Y b i)) 99 else 0) P), s', l) ∧ p_X9_owed fu (nI b) t a s l ∧ ∀ r, r ≠ 48 → r ≠ 49 → s' r = s r := by
  have hP := w.1
  have hn := w.2.1
  refine loop_i (fun n i (z : Int32 × fl_I) => ∃ s', f_X9_owed_6 fu n (nI b) z.1 (nI i) t a z.2 l = (nI (sm (fun i => if Y.2.1 i = 80 + b then hdN (LW 2 (vrp sg ht P Y b i)) 99 else 0) P), s', l) ∧ p_X9_owed_6 fu n (nI b) z.1 (nI i) t a z.2 l ∧ ∀ r, r ≠ 48 → r ≠ 49 → s' r = s r) (fun i z => z.1 = nI (sm (fun i => if Y.2.1 i = 80 + b then hdN (LW 2 (vrp sg ht P Y b i)) 99 else 0) i) ∧ ∀ r, r ≠ 48 → r ≠ 49 → z.2 r = s r) P ?_ ?_ fu 0 (nI 0, s) (Nat.zero_le _) (by omega) ⟨rfl, fun _ _ _ => rfl⟩
  · intro n z hz
    obtain ⟨x, s0⟩ := z
    obtain ⟨z1, z3⟩ := hz
    dsimp only at z1 z3
    have h5 : s0 a 1 = nI P := by rw [z3 a (by omega) (by omega)]; exact y.2.1
    refine ⟨s0, ?_, ?_, z3⟩
    · unfold f_X9_owed_6
      simp (disch := omega) only [ln_, leT, leF, ltT, ltF, eqT, eqF, vpT, nlT, nleT, lnF, lenF, eqnF, neqF, nnF, nI_add, pk_mul, pk_div, pk_sub, ni_m, nI_clamp, md10, dm10, gI_l, gI_n, ar_t, ar_f, it_t, it_f, true_and, and_true, not_true_eq_false, not_false_eq_true, implies_true, and_self, eq_self, h5, z1]
    · unfold p_X9_owed_6
      simp (disch := omega) only [ln_, leT, leF, ltT, ltF, eqT, eqF, vpT, nlT, nleT, lnF, lenF, eqnF, neqF, nnF, nI_add, pk_mul, pk_div, pk_sub, ni_m, nI_clamp, md10, dm10, gI_l, gI_n, ar_t, ar_f, it_t, it_f, true_and, and_true, not_true_eq_false, not_false_eq_true, implies_true, and_self, eq_self, h5]
  · intro n i z hi hz ih
    replace ih := fun x s' => ih (x, s')
    dsimp only at ih
    obtain ⟨x, s0⟩ := z
    obtain ⟨z1, z3⟩ := hz
    dsimp only at z1 z3
    have y0 : yC P np Y a s0 := yC_keep (fun k hk => z3 (a + k) (by omega) (by omega)) y
    have h5 := y0.2.1
    have hd := c_holder (fu := fu) (l := l) y0 w hi
    have hw := (w.2.2.1 i hi).1
    obtain ⟨s2, e2, p2, r2⟩ := c_pays (l := l) (Y := Y) (P := P) (ht := ht) (LC_keep (z3 (t + 9) (by omega) (by omega)) (z3 (t + 10) (by omega) (by omega)) hL) hC (show i < 32 by omega) (show b < 4 by omega) hat haa (by rw [z3 (t + 4) (by omega) (by omega)]; exact hsg i hi) (by rw [z3 (t + 8) (by omega) (by omega)]; exact hht b hb) y0.1 (y0.2.2.2.2 b hb).2.2
    unfold p_X9_owed_6 f_X9_owed_6 p_X11_money f_X11_money
    by_cases h : Y.2.1 i < 80
    · rw [if_pos h] at hd
      simp (disch := omega) only [ln_, leT, leF, ltT, ltF, eqT, eqF, vpT, nlT, nleT, lnF, lenF, eqnF, neqF, nnF, nI_add, pk_mul, pk_div, pk_sub, ni_m, nI_clamp, md10, dm10, gI_l, gI_n, ar_t, ar_f, it_t, it_f, true_and, and_true, not_true_eq_false, not_false_eq_true, implies_true, and_self, eq_self, h5, hd]
      exact ih _ _ ⟨by rw [z1]; show nI _ = nI (sm _ _ + (if _ then _ else _)); rw [if_neg (by omega), Nat.add_zero], z3⟩
    · rw [if_neg h] at hd
      by_cases e : Y.2.1 i = 80 + b
      · simp (disch := omega) only [ln_, leT, leF, ltT, ltF, eqT, eqF, vpT, nlT, nleT, lnF, lenF, eqnF, neqF, nnF, nI_add, pk_mul, pk_div, pk_sub, ni_m, nI_clamp, md10, dm10, gI_l, gI_n, ar_t, ar_f, it_t, it_f, true_and, and_true, not_true_eq_false, not_false_eq_true, implies_true, and_self, eq_self, h5, hd, e2, p2, held_n, p_heldT]
        exact ih _ _ ⟨by rw [z1]; show nI _ + nI _ = nI (sm _ _ + (if _ then _ else _)); rw [if_pos e, nI_add], fun r a b => by rw [r2 r a b]; exact z3 r a b⟩
      · simp (disch := omega) only [ln_, leT, leF, ltT, ltF, eqT, eqF, vpT, nlT, nleT, lnF, lenF, eqnF, neqF, nnF, nI_add, pk_mul, pk_div, pk_sub, ni_m, nI_clamp, md10, dm10, gI_l, gI_n, ar_t, ar_f, it_t, it_f, true_and, and_true, not_true_eq_false, not_false_eq_true, implies_true, and_self, eq_self, h5, hd]
        exact ih _ _ ⟨by rw [z1]; show nI _ = nI (sm _ _ + (if _ then _ else _)); rw [if_neg e, Nat.add_zero], z3⟩
/-! the methods that only look -/
theorem m_lies (hfu : 20000 ≤ fu) (cv : CV fu t P np nl nw ht sg lo wd wx wy rn sd LW Y s l) (rv : RV fu lv P np nl nw ht sg lo wd wx wy rn sd LW Y s l) : Qy s l (f_X11_lies fu x y s l, s, l) (p_X11_lies fu x y s l) (f_X12_lies fu x y) (p_X12_lies fu x y) := by
  obtain ⟨ht0, hT, hL, hC, yc, yw, tb⟩ := cv
  obtain ⟨rt, rx, lr, _, yf, _, _⟩ := rv
  obtain ⟨s2, e2, p2, y2, k1, k2, k3, k4⟩ := r_copies (l := l) hfu rt yf yw
  rcases cell_ag (fu := fu) x y with ⟨h1, h2⟩ | ⟨i, j, hi, hj, rfl, rfl, h1, h2⟩
  · refine Qy_mk (-nI 1) s s ?_ ?_ cS_rfl (fun _ _ => rfl) ?_ ?_ rS_rfl
    · unfold f_X11_lies; simp (disch := omega) only [ln_, leT, leF, ltT, ltF, eqT, eqF, vpT, nlT, nleT, lnF, lenF, eqnF, neqF, nnF, nI_add, pk_mul, pk_div, pk_sub, ni_m, nI_clamp, md10, dm10, gI_l, gI_n, ar_t, ar_f, it_t, it_f, true_and, and_true, not_true_eq_false, not_false_eq_true, implies_true, and_self, eq_self, h1]
    · unfold p_X11_lies; simp (disch := omega) only [ln_, leT, leF, ltT, ltF, eqT, eqF, vpT, nlT, nleT, lnF, lenF, eqnF, neqF, nnF, nI_add, pk_mul, pk_div, pk_sub, ni_m, nI_clamp, md10, dm10, gI_l, gI_n, ar_t, ar_f, it_t, it_f, true_and, and_true, not_true_eq_false, not_false_eq_true, implies_true, and_self, eq_self, h1, p_cellT]
    · unfold f_X12_lies; simp (disch := omega) only [ln_, leT, leF, ltT, ltF, eqT, eqF, vpT, nlT, nleT, lnF, lenF, eqnF, neqF, nnF, nI_add, pk_mul, pk_div, pk_sub, ni_m, nI_clamp, md10, dm10, gI_l, gI_n, ar_t, ar_f, it_t, it_f, true_and, and_true, not_true_eq_false, not_false_eq_true, implies_true, and_self, eq_self, h2]
    · unfold p_X12_lies; simp (disch := omega) only [ln_, leT, leF, ltT, ltF, eqT, eqF, vpT, nlT, nleT, lnF, lenF, eqnF, neqF, nnF, nI_add, pk_mul, pk_div, pk_sub, ni_m, nI_clamp, md10, dm10, gI_l, gI_n, ar_t, ar_f, it_t, it_f, true_and, and_true, not_true_eq_false, not_false_eq_true, implies_true, and_self, eq_self, h2, p_cell2T]
  · have hc := c_countAt (fu := fu) (l := l) hfu yc yw (show 10 * j + i < 84 by omega)
    have hr := r_lieAt (fu := fu) (l := l) (s := s2) hfu (by rw [k4 54 (by omega) (by omega)]; exact rt.2.2.1) y2 yw (show 10 * j + i < 80 by omega)
    refine Qy_mk (nI (ct (fun k => Y.2.1 k == 10 * j + i) P)) s s2 ?_ ?_ cS_rfl (fun _ _ => rfl) ?_ ?_ (cp_S k3 k4)
    · unfold f_X11_lies; simp (disch := omega) only [ln_, leT, leF, ltT, ltF, eqT, eqF, vpT, nlT, nleT, lnF, lenF, eqnF, neqF, nnF, nI_add, pk_mul, pk_div, pk_sub, ni_m, nI_clamp, md10, dm10, gI_l, gI_n, ar_t, ar_f, it_t, it_f, true_and, and_true, not_true_eq_false, not_false_eq_true, implies_true, and_self, eq_self, h1, hc]
    · unfold p_X11_lies; simp (disch := omega) only [ln_, leT, leF, ltT, ltF, eqT, eqF, vpT, nlT, nleT, lnF, lenF, eqnF, neqF, nnF, nI_add, pk_mul, pk_div, pk_sub, ni_m, nI_clamp, md10, dm10, gI_l, gI_n, ar_t, ar_f, it_t, it_f, true_and, and_true, not_true_eq_false, not_false_eq_true, implies_true, and_self, eq_self, h1, p_cellT, hc]
    · unfold f_X12_lies; simp (disch := omega) only [ln_, leT, leF, ltT, ltF, eqT, eqF, vpT, nlT, nleT, lnF, lenF, eqnF, neqF, nnF, nI_add, pk_mul, pk_div, pk_sub, ni_m, nI_clamp, md10, dm10, gI_l, gI_n, ar_t, ar_f, it_t, it_f, true_and, and_true, not_true_eq_false, not_false_eq_true, implies_true, and_self, eq_self, h2, e2, hr]
    · unfold p_X12_lies; simp (disch := omega) only [ln_, leT, leF, ltT, ltF, eqT, eqF, vpT, nlT, nleT, lnF, lenF, eqnF, neqF, nnF, nI_add, pk_mul, pk_div, pk_sub, ni_m, nI_clamp, md10, dm10, gI_l, gI_n, ar_t, ar_f, it_t, it_f, true_and, and_true, not_true_eq_false, not_false_eq_true, implies_true, and_self, eq_self, h2, p_cell2T, e2, p2, hr]
theorem m_steps (hfu : 20000 ≤ fu) (cv : CV fu t P np nl nw ht sg lo wd wx wy rn sd LW Y s l) (rv : RV fu lv P np nl nw ht sg lo wd wx wy rn sd LW Y s l) : Qy s l (f_X11_steps fu v x y s l, s, l) (p_X11_steps fu v x y s l) (f_X12_steps fu v x y) (p_X12_steps fu v x y) := by
  obtain ⟨ht0, hT, hL, hC, yc, yw, tb⟩ := cv
  obtain ⟨rt, rx, lr, _, yf, _, _⟩ := rv
  have hn := yw.2.1
  obtain ⟨s2, e2, p2, y2, k1, k2, k3, k4⟩ := r_copies (l := l) hfu rt yf yw
  have pk := p_isPk2 (fu := fu) (x := v) (l := l) rt
  unfold f_X11_steps p_X11_steps f_X12_steps p_X12_steps
  rcases ag v np (by omega) with h | ⟨b, hb, rfl⟩
  · have h1 := pk_no (fu := fu) (l := l) yc h
    have h2 := pk_no2 (fu := fu) (l := l) rt hn h
    refine Qy_mk (-nI 1) s s ?_ ?_ cS_rfl (fun _ _ => rfl) ?_ ?_ rS_rfl
    · simp (disch := omega) only [ln_, leT, leF, ltT, ltF, eqT, eqF, vpT, nlT, nleT, lnF, lenF, eqnF, neqF, nnF, nI_add, pk_mul, pk_div, pk_sub, ni_m, nI_clamp, md10, dm10, gI_l, gI_n, ar_t, ar_f, it_t, it_f, true_and, and_true, not_true_eq_false, not_false_eq_true, implies_true, and_self, eq_self, h1]
    · simp (disch := omega) only [ln_, leT, leF, ltT, ltF, eqT, eqF, vpT, nlT, nleT, lnF, lenF, eqnF, neqF, nnF, nI_add, pk_mul, pk_div, pk_sub, ni_m, nI_clamp, md10, dm10, gI_l, gI_n, ar_t, ar_f, it_t, it_f, true_and, and_true, not_true_eq_false, not_false_eq_true, implies_true, and_self, eq_self, h1, p_isPkT]
    · simp (disch := omega) only [ln_, leT, leF, ltT, ltF, eqT, eqF, vpT, nlT, nleT, lnF, lenF, eqnF, neqF, nnF, nI_add, pk_mul, pk_div, pk_sub, ni_m, nI_clamp, md10, dm10, gI_l, gI_n, ar_t, ar_f, it_t, it_f, true_and, and_true, not_true_eq_false, not_false_eq_true, implies_true, and_self, eq_self, h2]
    · simp (disch := omega) only [ln_, leT, leF, ltT, ltF, eqT, eqF, vpT, nlT, nleT, lnF, lenF, eqnF, neqF, nnF, nI_add, pk_mul, pk_div, pk_sub, ni_m, nI_clamp, md10, dm10, gI_l, gI_n, ar_t, ar_f, it_t, it_f, true_and, and_true, not_true_eq_false, not_false_eq_true, implies_true, and_self, eq_self, h2, pk]
  · have g1 := pk_yes (fu := fu) (l := l) yc hn hb
    have g2 := pk_yes2 (fu := fu) (l := l) rt hn hb
    rcases cell_ag (fu := fu) x y with ⟨h1, h2⟩ | ⟨i, j, hi, hj, rfl, rfl, h1, h2⟩
    · refine Qy_mk (-nI 1) s s ?_ ?_ cS_rfl (fun _ _ => rfl) ?_ ?_ rS_rfl
      · simp (disch := omega) only [ln_, leT, leF, ltT, ltF, eqT, eqF, vpT, nlT, nleT, lnF, lenF, eqnF, neqF, nnF, nI_add, pk_mul, pk_div, pk_sub, ni_m, nI_clamp, md10, dm10, gI_l, gI_n, ar_t, ar_f, it_t, it_f, true_and, and_true, not_true_eq_false, not_false_eq_true, implies_true, and_self, eq_self, g1, h1]
      · simp (disch := omega) only [ln_, leT, leF, ltT, ltF, eqT, eqF, vpT, nlT, nleT, lnF, lenF, eqnF, neqF, nnF, nI_add, pk_mul, pk_div, pk_sub, ni_m, nI_clamp, md10, dm10, gI_l, gI_n, ar_t, ar_f, it_t, it_f, true_and, and_true, not_true_eq_false, not_false_eq_true, implies_true, and_self, eq_self, g1, h1, p_isPkT, p_cellT]
      · simp (disch := omega) only [ln_, leT, leF, ltT, ltF, eqT, eqF, vpT, nlT, nleT, lnF, lenF, eqnF, neqF, nnF, nI_add, pk_mul, pk_div, pk_sub, ni_m, nI_clamp, md10, dm10, gI_l, gI_n, ar_t, ar_f, it_t, it_f, true_and, and_true, not_true_eq_false, not_false_eq_true, implies_true, and_self, eq_self, g2, h2]
      · simp (disch := omega) only [ln_, leT, leF, ltT, ltF, eqT, eqF, vpT, nlT, nleT, lnF, lenF, eqnF, neqF, nnF, nI_add, pk_mul, pk_div, pk_sub, ni_m, nI_clamp, md10, dm10, gI_l, gI_n, ar_t, ar_f, it_t, it_f, true_and, and_true, not_true_eq_false, not_false_eq_true, implies_true, and_self, eq_self, g2, h2, pk, p_cell2T]
    · have ha := (yc.2.2.2.2 b hb).1
      have hlt := (yw.2.2.2 b hb).1
      have hr := r_cellOfPicker (fu := fu) (l := l) y2 yw hb
      have ha : s 34 b = nI (Y.2.2.2.1 b) := ha
      refine Qy_mk (nI (dst (Y.2.2.2.1 b) (10 * j + i))) s s2 ?_ ?_ cS_rfl (fun _ _ => rfl) ?_ ?_ (cp_S k3 k4)
      · simp (disch := omega) only [ln_, leT, leF, ltT, ltF, eqT, eqF, vpT, nlT, nleT, lnF, lenF, eqnF, neqF, nnF, nI_add, pk_mul, pk_div, pk_sub, ni_m, nI_clamp, md10, dm10, gI_l, gI_n, ar_t, ar_f, it_t, it_f, true_and, and_true, not_true_eq_false, not_false_eq_true, implies_true, and_self, eq_self, g1, h1, ha, apart_n]
      · simp (disch := omega) only [ln_, leT, leF, ltT, ltF, eqT, eqF, vpT, nlT, nleT, lnF, lenF, eqnF, neqF, nnF, nI_add, pk_mul, pk_div, pk_sub, ni_m, nI_clamp, md10, dm10, gI_l, gI_n, ar_t, ar_f, it_t, it_f, true_and, and_true, not_true_eq_false, not_false_eq_true, implies_true, and_self, eq_self, g1, h1, p_isPkT, p_cellT, p_apartT]
      · simp (disch := omega) only [ln_, leT, leF, ltT, ltF, eqT, eqF, vpT, nlT, nleT, lnF, lenF, eqnF, neqF, nnF, nI_add, pk_mul, pk_div, pk_sub, ni_m, nI_clamp, md10, dm10, gI_l, gI_n, ar_t, ar_f, it_t, it_f, true_and, and_true, not_true_eq_false, not_false_eq_true, implies_true, and_self, eq_self, g2, h2, e2, hr, steps_n]
      · simp (disch := omega) only [ln_, leT, leF, ltT, ltF, eqT, eqF, vpT, nlT, nleT, lnF, lenF, eqnF, neqF, nnF, nI_add, pk_mul, pk_div, pk_sub, ni_m, nI_clamp, md10, dm10, gI_l, gI_n, ar_t, ar_f, it_t, it_f, true_and, and_true, not_true_eq_false, not_false_eq_true, implies_true, and_self, eq_self, g2, h2, pk, p_cell2T, p2, e2, hr, p_stepsT]
/-- the closest picker so far, and how far -/
def clo (f : Nat → Nat) : Nat → Nat × Nat
  | 0 => (99, 80)
  | b + 1 => if f b < (clo f b).2 then (b, f b) else clo f b
theorem clo_lt {f : Nat → Nat} {n : Nat} (hf : ∀ b, b < n → f b < 17) : ((clo f n).1 = 99 ∧ n = 0 ∧ (clo f n).2 = 80) ∨ ((clo f n).1 < n ∧ (clo f n).2 < 17) := by
  induction n with
  | zero => exact .inl ⟨rfl, rfl, rfl⟩
  | succ n ih =>
    have h1 := hf n (by omega)
    show ((if f n < (clo f n).2 then (n, f n) else clo f n).1 = 99 ∧ _) ∨ _
    right
    show (if f n < (clo f n).2 then (n, f n) else clo f n).1 < _ ∧ (if f n < (clo f n).2 then (n, f n) else clo f n).2 < _
    rcases ih (fun b hb => hf b (by omega)) with ⟨a1, a2, a3⟩ | ⟨a1, a2⟩
    · rw [if_pos (by omega)]; exact ⟨Nat.lt_succ_self n, h1⟩
    · split
      · exact ⟨Nat.lt_succ_self n, h1⟩
      · exact ⟨by omega, a2⟩
theorem m_closest (hfu : 20000 ≤ fu) (cv : CV fu t P np nl nw ht sg lo wd wx wy rn sd LW Y s l) (rv : RV fu lv P np nl nw ht sg lo wd wx wy rn sd LW Y s l) : Qy s l (f_X11_closest fu x y s l, s, l) (p_X11_closest fu x y s l) (f_X12_closest fu x y) (p_X12_closest fu x y) := by
  obtain ⟨ht0, hT, hL, hC, yc, yw, tb⟩ := cv
  obtain ⟨rt, rx, lr, _, yf, _, _⟩ := rv
  have hn := yw.2.1
  obtain ⟨s2, e2, p2, y2, k1, k2, k3, k4⟩ := r_copies (l := l) hfu rt yf yw
  unfold f_X11_closest p_X11_closest f_X12_closest p_X12_closest
  rcases cell_ag (fu := fu) x y with ⟨h1, h2⟩ | ⟨i, j, hi, hj, rfl, rfl, h1, h2⟩
  · refine Qy_mk (-nI 1) s s ?_ ?_ cS_rfl (fun _ _ => rfl) ?_ ?_ rS_rfl
    · simp (disch := omega) only [ln_, leT, leF, ltT, ltF, eqT, eqF, vpT, nlT, nleT, lnF, lenF, eqnF, neqF, nnF, nI_add, pk_mul, pk_div, pk_sub, ni_m, nI_clamp, md10, dm10, gI_l, gI_n, ar_t, ar_f, it_t, it_f, true_and, and_true, not_true_eq_false, not_false_eq_true, implies_true, and_self, eq_self, h1]
    · simp (disch := omega) only [ln_, leT, leF, ltT, ltF, eqT, eqF, vpT, nlT, nleT, lnF, lenF, eqnF, neqF, nnF, nI_add, pk_mul, pk_div, pk_sub, ni_m, nI_clamp, md10, dm10, gI_l, gI_n, ar_t, ar_f, it_t, it_f, true_and, and_true, not_true_eq_false, not_false_eq_true, implies_true, and_self, eq_self, h1, p_cellT]
    · simp (disch := omega) only [ln_, leT, leF, ltT, ltF, eqT, eqF, vpT, nlT, nleT, lnF, lenF, eqnF, neqF, nnF, nI_add, pk_mul, pk_div, pk_sub, ni_m, nI_clamp, md10, dm10, gI_l, gI_n, ar_t, ar_f, it_t, it_f, true_and, and_true, not_true_eq_false, not_false_eq_true, implies_true, and_self, eq_self, h2]
    · simp (disch := omega) only [ln_, leT, leF, ltT, ltF, eqT, eqF, vpT, nlT, nleT, lnF, lenF, eqnF, neqF, nnF, nI_add, pk_mul, pk_div, pk_sub, ni_m, nI_clamp, md10, dm10, gI_l, gI_n, ar_t, ar_f, it_t, it_f, true_and, and_true, not_true_eq_false, not_false_eq_true, implies_true, and_self, eq_self, h2, p_cell2T]
  · have hf : ∀ b, b < np → dst (Y.2.2.2.1 b) (10 * j + i) < 17 := fun b hb => dst_lt (yw.2.2.2 b hb).1 (by omega)
    have hcl := fun n (hn : n ≤ np) => clo_lt (f := fun b => dst (Y.2.2.2.1 b) (10 * j + i)) (n := n) (fun b hb => hf b (by omega))
    have gx : ∀ x : Nat, gI x = if x < 80 then nI x else -nI 2 := fun _ => rfl
    have A := loop_i (fun n b (z : Int32 × Int32) => p_X11_closest_20 fu n (nI i) (nI j) z.1 z.2 (nI b) s l ∧ f_X11_closest_20 fu n (nI i) (nI j) z.1 z.2 (nI b) s l = gI (clo (fun b => dst (Y.2.2.2.1 b) (10 * j + i)) np).1) (fun b z => z.1 = gI (clo (fun b => dst (Y.2.2.2.1 b) (10 * j + i)) b).1 ∧ z.2 = nI (clo (fun b => dst (Y.2.2.2.1 b) (10 * j + i)) b).2) np ?_ ?_ fu 0 (-nI 2, nI 80) (Nat.zero_le _) (by omega) ⟨rfl, rfl⟩
    · have B := loop_i (fun n b (z : Int32 × Int32) => p_X12_closest_23 fu n (nI i) (nI j) z.1 z.2 (nI b) s2 l ∧ f_X12_closest_23 fu n (nI i) (nI j) z.1 z.2 (nI b) s2 l = (gI (clo (fun b => dst (Y.2.2.2.1 b) (10 * j + i)) np).1, s2, l)) (fun b z => z.1 = gI (clo (fun b => dst (Y.2.2.2.1 b) (10 * j + i)) b).1 ∧ (0 < b → z.2 = nI (clo (fun b => dst (Y.2.2.2.1 b) (10 * j + i)) b).2)) np ?_ ?_ fu 0 (-nI 2, nI 0) (Nat.zero_le _) (by omega) ⟨rfl, fun h => absurd h (Nat.lt_irrefl 0)⟩
      · refine Qy_mk (gI (clo (fun b => dst (Y.2.2.2.1 b) (10 * j + i)) np).1) s s2 ?_ ?_ cS_rfl (fun _ _ => rfl) ?_ ?_ (cp_S k3 k4)
        · simp (disch := omega) only [ln_, eqF, ar_t, ar_f, it_t, it_f, true_and, and_true, not_true_eq_false, not_false_eq_true, implies_true, and_self, eq_self, h1]
          exact congrArg (fun v => (v, s, l)) A.2
        · simp (disch := omega) only [ln_, eqF, ar_t, ar_f, it_t, it_f, true_and, and_true, not_true_eq_false, not_false_eq_true, implies_true, and_self, eq_self, h1, p_cellT]; exact A.1
        · simp (disch := omega) only [ln_, eqF, ar_t, ar_f, it_t, it_f, true_and, and_true, not_true_eq_false, not_false_eq_true, implies_true, and_self, eq_self, h2, e2]; exact B.2
        · simp (disch := omega) only [ln_, eqF, ar_t, ar_f, it_t, it_f, true_and, and_true, not_true_eq_false, not_false_eq_true, implies_true, and_self, eq_self, h2, p_cell2T, p2, e2]; exact B.1
      · intro n z hz
        have r2 := rT_S (rS_V (cp_S k3 k4)) rt
        have h18 := r2.2.1
        have h74 := r2.2.2.2.1
        have hlv := rt.1
        unfold p_X12_closest_23 f_X12_closest_23
        simp (disch := omega) only [ln_, leT, leF, ltT, ltF, eqT, eqF, vpT, nlT, nleT, lnF, lenF, eqnF, neqF, nnF, nI_add, pk_mul, pk_div, pk_sub, ni_m, nI_clamp, md10, dm10, gI_l, gI_n, ar_t, ar_f, it_t, it_f, true_and, and_true, not_true_eq_false, not_false_eq_true, implies_true, and_self, eq_self, h18, h74, hz.1]
      · intro n b z hb hz ih
        replace ih := fun x s' => ih (x, s')
        dsimp only at ih
        obtain ⟨z1, z2⟩ := z
        obtain ⟨hz1, hz2⟩ := hz
        dsimp only at hz1 hz2
        have r2 := rT_S (rS_V (cp_S k3 k4)) rt
        have h18 := r2.2.1
        have h74 := r2.2.2.2.1
        have hlv := rt.1
        have hr := r_cellOfPicker (fu := fu) (l := l) y2 yw hb
        have hlt := (yw.2.2.2 b hb).1
        have hfb := hf b hb
        have hd : clo (fun b => dst (Y.2.2.2.1 b) (10 * j + i)) (b + 1) = if dst (Y.2.2.2.1 b) (10 * j + i) < (clo (fun b => dst (Y.2.2.2.1 b) (10 * j + i)) b).2 then (b, dst (Y.2.2.2.1 b) (10 * j + i)) else clo (fun b => dst (Y.2.2.2.1 b) (10 * j + i)) b := rfl
        unfold p_X12_closest_23 f_X12_closest_23
        rcases hcl b (by omega) with ⟨a1, a2, a3⟩ | ⟨a1, a2⟩
        · rw [a1] at hz1
          rw [if_pos (by omega)] at hd
          simp (disch := omega) only [ln_, leT, leF, ltT, ltF, eqT, eqF, vpT, nlT, nleT, lnF, lenF, eqnF, neqF, nnF, nI_add, pk_mul, pk_div, pk_sub, ni_m, nI_clamp, md10, dm10, gI_l, gI_n, ar_t, ar_f, it_t, it_f, true_and, and_true, not_true_eq_false, not_false_eq_true, implies_true, and_self, eq_self, h18, h74, hr, steps_n, p_stepsT, hz1]
          exact ih _ _ ⟨by rw [hd, gI_l (by show b < 80; omega)], fun _ => by rw [hd]⟩
        · have hz2 := hz2 (by omega)
          by_cases e : dst (Y.2.2.2.1 b) (10 * j + i) < (clo (fun b => dst (Y.2.2.2.1 b) (10 * j + i)) b).2
          · rw [if_pos e] at hd
            simp (disch := omega) only [ln_, leT, leF, ltT, ltF, eqT, eqF, vpT, nlT, nleT, lnF, lenF, eqnF, neqF, nnF, nI_add, pk_mul, pk_div, pk_sub, ni_m, nI_clamp, md10, dm10, gI_l, gI_n, ar_t, ar_f, it_t, it_f, true_and, and_true, not_true_eq_false, not_false_eq_true, implies_true, and_self, eq_self, h18, h74, hr, steps_n, p_stepsT, hz1, hz2]
            exact ih _ _ ⟨by rw [hd, gI_l (by show b < 80; omega)], fun _ => by rw [hd]⟩
          · rw [if_neg e] at hd
            simp (disch := omega) only [ln_, leT, leF, ltT, ltF, eqT, eqF, vpT, nlT, nleT, lnF, lenF, eqnF, neqF, nnF, nI_add, pk_mul, pk_div, pk_sub, ni_m, nI_clamp, md10, dm10, gI_l, gI_n, ar_t, ar_f, it_t, it_f, true_and, and_true, not_true_eq_false, not_false_eq_true, implies_true, and_self, eq_self, h18, h74, hr, steps_n, p_stepsT, hz1, hz2]
            exact ih _ _ ⟨by rw [hd, gI_l (by omega)], fun _ => by rw [hd]⟩
    · intro n z hz
      have h5 : s 31 2 = nI np := yc.2.2.1
      unfold p_X11_closest_20 f_X11_closest_20
      simp (disch := omega) only [ln_, leT, leF, ltT, ltF, eqT, eqF, vpT, nlT, nleT, lnF, lenF, eqnF, neqF, nnF, nI_add, pk_mul, pk_div, pk_sub, ni_m, nI_clamp, md10, dm10, gI_l, gI_n, ar_t, ar_f, it_t, it_f, true_and, and_true, not_true_eq_false, not_false_eq_true, implies_true, and_self, eq_self, h5, hz.1]
    · intro n b z hb hz ih
      replace ih := fun x s' => ih (x, s')
      dsimp only at ih
      obtain ⟨z1, z2⟩ := z
      obtain ⟨hz1, hz2⟩ := hz
      dsimp only at hz1 hz2
      have h5 : s 31 2 = nI np := yc.2.2.1
      have ha : s 34 b = nI (Y.2.2.2.1 b) := (yc.2.2.2.2 b hb).1
      have hlt := (yw.2.2.2 b hb).1
      have hfb := hf b hb
      have hd : clo (fun b => dst (Y.2.2.2.1 b) (10 * j + i)) (b + 1) = if dst (Y.2.2.2.1 b) (10 * j + i) < (clo (fun b => dst (Y.2.2.2.1 b) (10 * j + i)) b).2 then (b, dst (Y.2.2.2.1 b) (10 * j + i)) else clo (fun b => dst (Y.2.2.2.1 b) (10 * j + i)) b := rfl
      have hbd : (clo (fun b => dst (Y.2.2.2.1 b) (10 * j + i)) b).2 ≤ 80 := by
        rcases hcl b (by omega) with ⟨a1, a2, a3⟩ | ⟨a1, a2⟩ <;> omega
      unfold p_X11_closest_20 f_X11_closest_20
      by_cases e : dst (Y.2.2.2.1 b) (10 * j + i) < (clo (fun b => dst (Y.2.2.2.1 b) (10 * j + i)) b).2
      · rw [if_pos e] at hd
        simp (disch := omega) only [ln_, leT, leF, ltT, ltF, eqT, eqF, vpT, nlT, nleT, lnF, lenF, eqnF, neqF, nnF, nI_add, pk_mul, pk_div, pk_sub, ni_m, nI_clamp, md10, dm10, gI_l, gI_n, ar_t, ar_f, it_t, it_f, true_and, and_true, not_true_eq_false, not_false_eq_true, implies_true, and_self, eq_self, h5, ha, apart_n, p_apartT, hz2]
        exact ih _ _ ⟨by rw [hd, gI_l (by show b < 80; omega)], by rw [hd]⟩
      · rw [if_neg e] at hd
        simp (disch := omega) only [ln_, leT, leF, ltT, ltF, eqT, eqF, vpT, nlT, nleT, lnF, lenF, eqnF, neqF, nnF, nI_add, pk_mul, pk_div, pk_sub, ni_m, nI_clamp, md10, dm10, gI_l, gI_n, ar_t, ar_f, it_t, it_f, true_and, and_true, not_true_eq_false, not_false_eq_true, implies_true, and_self, eq_self, h5, ha, apart_n, p_apartT, hz2]
        exact ih _ _ ⟨by rw [hd]; exact hz1, by rw [hd]⟩
theorem m_whole (hfu : 20000 ≤ fu) (hD : (if D.2.2.1 then 20 else 9) = t) (cv : CV fu t P np nl nw ht sg lo wd wx wy rn sd LW Y s l) (rv : RV fu lv P np nl nw ht sg lo wd wx wy rn sd LW Y s l) : Qy s l (f_X11_whole fu D s l, s, l) (p_X11_whole fu D s l) (fun s l => (f_X12_whole fu s l, s, l)) (p_X12_whole fu) := by
  obtain ⟨ht0, hT, hL, hC, yc, yw, tb⟩ := cv
  obtain ⟨rt, rx, lr, _, yf, _, _⟩ := rv
  have hn := yw.2.1
  have hP := yw.1
  have h18 := rt.2.1
  have hlv := rt.1
  have h68 := rx.1
  have hn0 := hT.1.1
  have key := loop_i (fun n i (z : Int32) => p_X11_whole_14 fu n z (nI i) D s l ∧ p_X12_whole_16 fu n z (nI i) s l ∧ f_X12_whole_16 fu n z (nI i) s l = f_X11_whole_14 fu n z (nI i) D s l) (fun _ _ => True) P ?_ ?_ fu 0 (((1 : Int32) <<< (nI nl &&& 31)) - (1 : Int32)) (Nat.zero_le _) (by omega) trivial
  · refine Qy_mk (f_X11_whole fu D s l) s s rfl ?_ cS_rfl (fun _ _ => rfl) ?_ ?_ rS_rfl
    · unfold p_X11_whole; rw [hD, hn0]; exact key.1
    · unfold f_X11_whole f_X12_whole
      rw [hD, hn0, h18, nI_clamp (by omega), h68]
      exact congrArg (fun v => (v, s, l)) key.2.2
    · unfold p_X12_whole
      rw [h18, nI_clamp (by omega), h68]
      exact ⟨vp_in_nI (by omega) (by omega), key.2.1⟩
  · intro n z _
    have h5 : s 31 1 = nI P := yc.2.1
    have h6 := rt.2.2.1
    unfold p_X11_whole_14 f_X11_whole_14 p_X12_whole_16 f_X12_whole_16
    simp (disch := omega) only [leT, ar_t, ar_f, it_t, it_f, true_and, and_true, not_true_eq_false, not_false_eq_true, implies_true, and_self, eq_self, h5, h6]
  · intro n i z hi _ ih
    have h5 : s 31 1 = nI P := yc.2.1
    have h6 := rt.2.2.1
    have hl := c_lying (fu := fu) (l := l) yc yw hi
    have hlo := (hT.2.1 i hi).2
    have h97 := rx.2.2.1 i hi
    have hw := (yw.2.2.1 i hi).1
    obtain ⟨g1, g2, g3⟩ := yf.2.1 i hi
    have e0 : ((64 : Int32) + nI i).toNatClampNeg = 64 + i := by simp (disch := omega) only [ln_, leT, leF, ltT, ltF, eqT, eqF, vpT, nlT, nleT, lnF, lenF, eqnF, neqF, nnF, nI_add, pk_mul, pk_div, pk_sub, ni_m, nI_clamp, md10, dm10, gI_l, gI_n]
    have ei : (nI i).toNatClampNeg = i := nI_clamp (by omega)
    have e1 : nI i + 1 = nI (i + 1) := nI_1 i
    have v1 : vp_in ((64 : Int32) + nI i) 141 := by simp (disch := omega) only [ln_, leT, leF, ltT, ltF, eqT, eqF, vpT, nlT, nleT, lnF, lenF, eqnF, neqF, nnF, nI_add, pk_mul, pk_div, pk_sub, ni_m, nI_clamp, md10, dm10, gI_l, gI_n]
    have v2 : vp_in (nI i) 32 := vp_in_nI (by omega) (by omega)
    unfold p_X11_whole_14 f_X11_whole_14 p_X12_whole_16 f_X12_whole_16
    rw [hD]
    by_cases h : Y.2.1 i < 80
    · rw [if_pos h] at hl
      have h1 := (g1 h).2.2
      have c1 : ¬ (0 : Int32) ≤ -nI 2 := by decide +kernel
      have c2 : ¬ nI 1 = 0 := by decide +kernel
      simp (disch := omega) only [leF, ar_t, ar_f, it_t, it_f, true_and, and_true, not_true_eq_false, not_false_eq_true, implies_true, and_self, eq_self, h5, h6, hl, e0, ei, e1, h1, hlo, h97, c1, c2, v1, v2]
      exact ih _ trivial
    · rw [if_neg h] at hl
      have h1 := g2 (by omega)
      have c1 : (0 : Int32) ≤ nI (Y.2.1 i - 80) := nI_pos' (by omega)
      have c2 : nI 0 = (0 : Int32) := rfl
      simp (disch := omega) only [leF, ar_t, ar_f, it_t, it_f, true_and, and_true, not_true_eq_false, not_false_eq_true, implies_true, and_self, eq_self, h5, h6, hl, e0, e1, h1, c1, c2, v1]
      exact ih _ trivial
end qry
