/-! round, share -/
/-- as Qy, but a row of tours may be made, or written to -/
def Qd (D : fl_D) (s : fl_I) (l : fl_L) (fA : Int32 × fl_D × fl_I × fl_L) (pA : Prop) (fB : fl_I → fl_L → Int32 × fl_I × fl_L) (pB : fl_I → fl_L → Prop) : Prop :=
  ∃ v D1 s1 s2, fA = (v, D1, s1, l) ∧ pA ∧ cS s s1 ∧ (D1 = D ∨ (D.2.2.2.1 = 54 ∧ D1 = D_t D ∧ frok D1)) ∧ (∀ q, 107 ≤ q → q ≠ D1.2.2.2.1 → s1 q = s q) ∧ fB s1 l = (v, s2, l) ∧ pB s1 l ∧ rS s1 s2
section to4
variable {fu t lv P np nl nw : Nat} {ht sg lo : Nat → Nat} {wd : Nat → List Nat} {wx wy rn sd : Int32} {LW : Lw} {Y : Yd} {s s1 s2 : fl_I} {l : fl_L} {D : fl_D} {a i b c q k n g m F wo : Nat} {x y z v : Int32}
theorem Qd_mk {fA : Int32 × fl_D × fl_I × fl_L} {pA : Prop} {fB : fl_I → fl_L → Int32 × fl_I × fl_L} {pB : fl_I → fl_L → Prop} (v : Int32) (s2 : fl_I) (h1 : fA = (v, D, s, l)) (h2 : pA) (h5 : fB s l = (v, s2, l)) (h6 : pB s l) (h7 : rS s s2) : Qd D s l fA pA fB pB := ⟨v, D, s, s2, h1, h2, cS_rfl, .inl rfl, fun _ _ _ => rfl, h5, h6, h7⟩
theorem m_round (hfu : 20000 ≤ fu) (hok : fl_ok D) (hfr : D.2.2.2.1 = 54 ∨ (107 ≤ D.2.2.2.1 ∧ frok D)) (cv : CV fu t P np nl nw ht sg lo wd wx wy rn sd LW Y s l) (rv : RV fu lv P np nl nw ht sg lo wd wx wy rn sd LW Y s l) : Qd D s l (f_X11_round fu v x D s l) (p_X11_round fu v x D s l) (f_X12_round fu v x) (p_X12_round fu v x) := by
  have yc := cv.2.2.2.2.1
  have yw := cv.2.2.2.2.2.1
  have hn := yw.2.1
  have pk := p_isPk2 (fu := fu) (x := v) (l := l) rv.1
  unfold f_X11_round p_X11_round f_X12_round p_X12_round f_X12_round_17 p_X12_round_17
  rcases ag v np (by omega) with h | ⟨b, hb, rfl⟩
  · have h1 := pk_no (fu := fu) (l := l) yc h
    have h2 := pk_no2 (fu := fu) (l := l) rv.1 hn h
    refine Qd_mk (-nI 1) s ?_ ?_ ?_ ?_ rS_rfl <;> simp (disch := omega) only [ln_, leT, leF, ltT, ltF, eqT, eqF, vpT, nlT, nleT, lnF, lenF, eqnF, neqF, nnF, nI_add, pk_mul, pk_div, pk_sub, ni_m, nI_clamp, md10, dm10, gI_l, gI_n, ar_t, ar_f, it_t, it_f, true_and, and_true, not_true_eq_false, not_false_eq_true, implies_true, and_self, eq_self, h1, h2, p_isPkT, pk]
  · have g1 := pk_yes (fu := fu) (l := l) yc hn hb
    have g2 := pk_yes2 (fu := fu) (l := l) rv.1 hn hb
    rcases ag3 x 0 1 (by omega) (by omega) with h | ⟨h1, h2, h3⟩ | ⟨j, _, hj, rfl⟩
    · refine Qd_mk (-nI 1) s ?_ ?_ ?_ ?_ rS_rfl <;> simp (disch := omega) only [ln_, leT, leF, ltT, ltF, eqT, eqF, vpT, nlT, nleT, lnF, lenF, eqnF, neqF, nnF, nI_add, pk_mul, pk_div, pk_sub, ni_m, nI_clamp, md10, dm10, gI_l, gI_n, ar_t, ar_f, it_t, it_f, true_and, and_true, not_true_eq_false, not_false_eq_true, implies_true, and_self, eq_self, g1, g2, p_isPkT, pk, f_X12_in, h, p_inT]
    · refine Qd_mk (-nI 1) s ?_ ?_ ?_ ?_ rS_rfl <;> simp (disch := omega) only [ln_, leT, leF, ltT, ltF, eqT, eqF, vpT, nlT, nleT, lnF, lenF, eqnF, neqF, nnF, nI_add, pk_mul, pk_div, pk_sub, ni_m, nI_clamp, md10, dm10, gI_l, gI_n, ar_t, ar_f, it_t, it_f, true_and, and_true, not_true_eq_false, not_false_eq_true, implies_true, and_self, eq_self, g1, g2, p_isPkT, pk, f_X12_in, h1, h2, h3, p_inT]
    · have h34 : s 34 b = nI (Y.2.2.2.1 b) := (yc.2.2.2.2 b hb).1
      have ha := (yw.2.2.2 b hb).1
      have hx : ∀ c, c < 80 → ((nI c = nI (Y.2.2.2.1 b)) = (c = Y.2.2.2.1 b)) := fun c hc => propext (nI_eq (by omega) (by omega))
      generalize hA : Y.2.2.2.1 b = a at h34 ha hx
      rcases c_gather (l := l) hfu yc yw hok hfr hx with ⟨hm, s1, e1, p1, r1⟩ | ⟨hm, D1, s1, e1, p1, hD1, h107, hfo, h51, h52, hO, r1⟩
      · have cs : cS s s1 := fun q a b c d e f g h => r1 q (by omega) (by omega) (by omega)
        have rv1 := RV_S (cS_V cs) rv
        have g2 := pk_yes2 (fu := fu) (l := l) rv1.1 hn hb
        have pk := p_isPk2 (fu := fu) (x := nI b) (l := l) rv1.1
        obtain ⟨s4, e4, p4, y4, _, _, k4⟩ := r_cp hfu rv1 rS_rfl
        have hcp := r_cellOfPicker (fu := fu) (l := l) y4 yw hb
        rw [hA] at hcp
        obtain ⟨s5, e5, p5, h60, h100, k5, j5⟩ := r_fillsCells (l := l) hfu (rT_S (rS_V k4) rv1.1).2.2.1 y4 yw hx
        have hct := ct_le (qc P Y a) 80
        refine ⟨-nI 3, D, s1, s5, ?_, ?_, cs, .inl rfl, fun q h _ => r1 q (by omega) (by omega) (by omega), ?_, ?_, rS_tr k4 ⟨fun q a _ _ _ _ b _ _ => k5 q b a, fun j _ _ _ a _ => j5 j a⟩⟩
        · simp (disch := omega) only [ln_, leT, leF, ltT, ltF, eqT, eqF, vpT, nlT, nleT, lnF, lenF, eqnF, neqF, nnF, nI_add, pk_mul, pk_div, pk_sub, ni_m, nI_clamp, md10, dm10, gI_l, gI_n, ar_t, ar_f, it_t, it_f, true_and, and_true, not_true_eq_false, not_false_eq_true, implies_true, and_self, eq_self, g1, h34, e1]
        · simp (disch := omega) only [ln_, leT, leF, ltT, ltF, eqT, eqF, vpT, nlT, nleT, lnF, lenF, eqnF, neqF, nnF, nI_add, pk_mul, pk_div, pk_sub, ni_m, nI_clamp, md10, dm10, gI_l, gI_n, ar_t, ar_f, it_t, it_f, true_and, and_true, not_true_eq_false, not_false_eq_true, implies_true, and_self, eq_self, g1, h34, p_isPkT, e1, p1]
        · unfold f_X12_round_23 f_X12_round_35
          simp (disch := omega) only [ln_, leT, leF, ltT, ltF, eqT, eqF, vpT, nlT, nleT, lnF, lenF, eqnF, neqF, nnF, nI_add, pk_mul, pk_div, pk_sub, ni_m, nI_clamp, md10, dm10, gI_l, gI_n, ar_t, ar_f, it_t, it_f, true_and, and_true, not_true_eq_false, not_false_eq_true, implies_true, and_self, eq_self, g2, f_X12_in, e4, hcp, e5, h60]
        · unfold p_X12_round_23 p_X12_round_35
          simp (disch := omega) only [ln_, leT, leF, ltT, ltF, eqT, eqF, vpT, nlT, nleT, lnF, lenF, eqnF, neqF, nnF, nI_add, pk_mul, pk_div, pk_sub, ni_m, nI_clamp, md10, dm10, gI_l, gI_n, ar_t, ar_f, it_t, it_f, true_and, and_true, not_true_eq_false, not_false_eq_true, implies_true, and_self, eq_self, g2, pk, p_inT, f_X12_in, e4, p4, hcp, e5, p5, h60]
      · have cs : cS s s1 := fun q a b c d e f g h => r1 q (by omega) (by omega) (by omega) (by omega)
        have rv1 := RV_S (cS_V cs) rv
        have g2 := pk_yes2 (fu := fu) (l := l) rv1.1 hn hb
        have pk := p_isPk2 (fu := fu) (x := nI b) (l := l) rv1.1
        obtain ⟨s4, e4, p4, y4, _, _, k4⟩ := r_cp hfu rv1 rS_rfl
        have hcp := r_cellOfPicker (fu := fu) (l := l) y4 yw hb
        rw [hA] at hcp
        obtain ⟨s5, e5, p5, h60, h100, k5, j5⟩ := r_fillsCells (l := l) hfu (rT_S (rS_V k4) rv1.1).2.2.1 y4 yw hx
        have hcs : ∀ k, k < ct (qc P Y a) 80 → sel (qc P Y a) 80 k < 80 := fun k hk => sel_lt hk
        generalize ct (qc P Y a) 80 = m at *
        generalize sel (qc P Y a) 80 = cl at *
        have hp := Nat.two_pow_pos m
        have h10 := p10 hm
        obtain ⟨s6, e6, p6, o6, k6⟩ := r_rest (l := l) hfu hm h60 h100 hcs
        have m60 : s6 60 60 = nI m := by rw [k6 60 (by omega)]; exact h60
        have hon := one_n (k := m) (by omega)
        obtain ⟨s7, e7, p7, f7, k7, j7⟩ := r_round (l := l) (S := 2 ^ m - 1) hfu hm m60 (fun k hk => by rw [k6 100 (by omega)]; exact h100 k hk) hcs o6 ha (by omega)
        have hal := c_all (fu := fu) (l := l) hm h51
        have hO2 : fO D1.2.2.2.1 m cl (2 ^ m - 1 + 1) s1 := by rw [show 2 ^ m - 1 + 1 = 2 ^ m from by omega]; exact hO
        have hfe := c_fewest (l := l) (D := D1) (S := 2 ^ m - 1) hfu hm rfl h51 h52 hcs ha (by omega) hO2
        have hfc := c_first (l := l) (D := D1) hfu hm rfl h51 h52 hcs ha hO
        have hf7 : s7 60 63 = fcS cl m a := by
          rw [f7]; unfold fcS
          by_cases h0 : m = 0
          · subst h0; rfl
          · have : 2 ^ 1 ≤ 2 ^ m := Nat.pow_le_pow_right (by omega) (by omega)
            rw [if_neg h0, if_neg (by omega)]
        have hDD : D1 = D ∨ (D.2.2.2.1 = 54 ∧ D1 = D_t D ∧ frok D1) := by
          rcases hD1 with h | ⟨h, h2⟩
          · exact .inl h
          · exact .inr ⟨h, h2, hfo⟩
        have rs : rS s1 s7 := rS_tr k4 (rS_tr ⟨fun q a _ _ _ _ b _ _ => k5 q b a, fun j _ _ _ a _ => j5 j a⟩ ⟨fun q a _ _ _ _ _ b _ => by rw [k7 q a, k6 q b], fun j _ _ _ _ a => by rw [j7 j a, k6 60 (by omega)]⟩)
        have hj : j = 0 ∨ j = 1 := by omega
        rcases hj with rfl | rfl
        · refine ⟨nI (tq cl m a (2 ^ m - 1)), D1, s1, s7, ?_, ?_, cs, hDD, fun q h h2 => r1 q (by omega) (by omega) (by omega) (by omega), ?_, ?_, rs⟩
          · simp (disch := omega) only [ln_, leT, leF, ltT, ltF, eqT, eqF, vpT, nlT, nleT, lnF, lenF, eqnF, neqF, nnF, nI_add, pk_mul, pk_div, pk_sub, ni_m, nI_clamp, md10, dm10, gI_l, gI_n, ar_t, ar_f, it_t, it_f, true_and, and_true, not_true_eq_false, not_false_eq_true, implies_true, and_self, eq_self, g1, h34, e1, hal, hfe]
          · simp (disch := omega) only [ln_, leT, leF, ltT, ltF, eqT, eqF, vpT, nlT, nleT, lnF, lenF, eqnF, neqF, nnF, nI_add, pk_mul, pk_div, pk_sub, ni_m, nI_clamp, md10, dm10, gI_l, gI_n, ar_t, ar_f, it_t, it_f, true_and, and_true, not_true_eq_false, not_false_eq_true, implies_true, and_self, eq_self, g1, h34, p_isPkT, e1, p1, hal, hfe, hfo, p_X8_all]
          · unfold f_X12_round_23 f_X12_round_35 f_X12_round_51 f_X12_round_64
            simp (disch := omega) only [ln_, leT, leF, ltT, ltF, eqT, eqF, vpT, nlT, nleT, lnF, lenF, eqnF, neqF, nnF, nI_add, pk_mul, pk_div, pk_sub, ni_m, nI_clamp, md10, dm10, gI_l, gI_n, ar_t, ar_f, it_t, it_f, true_and, and_true, not_true_eq_false, not_false_eq_true, implies_true, and_self, eq_self, g2, f_X12_in, e4, hcp, e5, h60, e6, m60, hon, e7]
          · unfold p_X12_round_23 p_X12_round_35 p_X12_round_51 p_X12_round_64
            simp (disch := omega) only [ln_, leT, leF, ltT, ltF, eqT, eqF, vpT, nlT, nleT, lnF, lenF, eqnF, neqF, nnF, nI_add, pk_mul, pk_div, pk_sub, ni_m, nI_clamp, md10, dm10, gI_l, gI_n, ar_t, ar_f, it_t, it_f, true_and, and_true, not_true_eq_false, not_false_eq_true, implies_true, and_self, eq_self, g2, pk, p_inT, f_X12_in, e4, p4, hcp, e5, p5, h60, e6, p6, m60, hon, e7, p7]
        · refine ⟨fcS cl m a, D1, s1, s7, ?_, ?_, cs, hDD, fun q h h2 => r1 q (by omega) (by omega) (by omega) (by omega), ?_, ?_, rs⟩
          · simp (disch := omega) only [ln_, leT, leF, ltT, ltF, eqT, eqF, vpT, nlT, nleT, lnF, lenF, eqnF, neqF, nnF, nI_add, pk_mul, pk_div, pk_sub, ni_m, nI_clamp, md10, dm10, gI_l, gI_n, ar_t, ar_f, it_t, it_f, true_and, and_true, not_true_eq_false, not_false_eq_true, implies_true, and_self, eq_self, g1, h34, e1, hfc]
          · simp (disch := omega) only [ln_, leT, leF, ltT, ltF, eqT, eqF, vpT, nlT, nleT, lnF, lenF, eqnF, neqF, nnF, nI_add, pk_mul, pk_div, pk_sub, ni_m, nI_clamp, md10, dm10, gI_l, gI_n, ar_t, ar_f, it_t, it_f, true_and, and_true, not_true_eq_false, not_false_eq_true, implies_true, and_self, eq_self, g1, h34, p_isPkT, e1, p1, hfc, hfo]
          · unfold f_X12_round_23 f_X12_round_35 f_X12_round_51 f_X12_round_64
            simp (disch := omega) only [ln_, leT, leF, ltT, ltF, eqT, eqF, vpT, nlT, nleT, lnF, lenF, eqnF, neqF, nnF, nI_add, pk_mul, pk_div, pk_sub, ni_m, nI_clamp, md10, dm10, gI_l, gI_n, ar_t, ar_f, it_t, it_f, true_and, and_true, not_true_eq_false, not_false_eq_true, implies_true, and_self, eq_self, g2, f_X12_in, e4, hcp, e5, h60, e6, m60, hon, e7, hf7]
          · unfold p_X12_round_23 p_X12_round_35 p_X12_round_51 p_X12_round_64
            simp (disch := omega) only [ln_, leT, leF, ltT, ltF, eqT, eqF, vpT, nlT, nleT, lnF, lenF, eqnF, neqF, nnF, nI_add, pk_mul, pk_div, pk_sub, ni_m, nI_clamp, md10, dm10, gI_l, gI_n, ar_t, ar_f, it_t, it_f, true_and, and_true, not_true_eq_false, not_false_eq_true, implies_true, and_self, eq_self, g2, pk, p_inT, f_X12_in, e4, p4, hcp, e5, p5, h60, e6, p6, m60, hon, e7, p7]
theorem m_share (hfu : 20000 ≤ fu) (hok : fl_ok D) (hfr : D.2.2.2.1 = 54 ∨ (107 ≤ D.2.2.2.1 ∧ frok D)) (cv : CV fu t P np nl nw ht sg lo wd wx wy rn sd LW Y s l) (rv : RV fu lv P np nl nw ht sg lo wd wx wy rn sd LW Y s l) : Qd D s l (f_X11_share fu v x D s l) (p_X11_share fu v x D s l) (f_X12_share fu v x) (p_X12_share fu v x) := by
  have yc := cv.2.2.2.2.1
  have yw := cv.2.2.2.2.2.1
  have hn := yw.2.1
  have pk := fun x => p_isPk2 (fu := fu) (x := x) (l := l) rv.1
  unfold f_X11_share p_X11_share f_X12_share p_X12_share
  rcases ag v np (by omega) with h | ⟨b, hb, rfl⟩
  · have h1 := pk_no (fu := fu) (l := l) yc h
    have h2 := pk_no2 (fu := fu) (l := l) rv.1 hn h
    refine Qd_mk (-nI 1) s ?_ ?_ ?_ ?_ rS_rfl <;> simp (disch := omega) only [ln_, leT, leF, ltT, ltF, eqT, eqF, vpT, nlT, nleT, lnF, lenF, eqnF, neqF, nnF, nI_add, pk_mul, pk_div, pk_sub, ni_m, nI_clamp, md10, dm10, gI_l, gI_n, ar_t, ar_f, it_t, it_f, true_and, and_true, not_true_eq_false, not_false_eq_true, implies_true, and_self, eq_self, h1, h2, p_isPkT, pk]
  · have g1 := pk_yes (fu := fu) (l := l) yc hn hb
    have g2 := pk_yes2 (fu := fu) (l := l) rv.1 hn hb
    rcases ag x np (by omega) with h | ⟨c, hc, rfl⟩
    · have h1 := pk_no (fu := fu) (l := l) yc h
      have h2 := pk_no2 (fu := fu) (l := l) rv.1 hn h
      refine Qd_mk (-nI 1) s ?_ ?_ ?_ ?_ rS_rfl <;> simp (disch := omega) only [ln_, leT, leF, ltT, ltF, eqT, eqF, vpT, nlT, nleT, lnF, lenF, eqnF, neqF, nnF, nI_add, pk_mul, pk_div, pk_sub, ni_m, nI_clamp, md10, dm10, gI_l, gI_n, ar_t, ar_f, it_t, it_f, true_and, and_true, not_true_eq_false, not_false_eq_true, implies_true, and_self, eq_self, g1, g2, h1, h2, p_isPkT, pk]
    · have i1 := pk_yes (fu := fu) (l := l) yc hn hc
      have i2 := pk_yes2 (fu := fu) (l := l) rv.1 hn hc
      by_cases hbc : b = c
      · subst hbc
        refine Qd_mk (-nI 1) s ?_ ?_ ?_ ?_ rS_rfl <;> simp (disch := omega) only [ln_, leT, leF, ltT, ltF, eqT, eqF, vpT, nlT, nleT, lnF, lenF, eqnF, neqF, nnF, nI_add, pk_mul, pk_div, pk_sub, ni_m, nI_clamp, md10, dm10, gI_l, gI_n, ar_t, ar_f, it_t, it_f, true_and, and_true, not_true_eq_false, not_false_eq_true, implies_true, and_self, eq_self, g1, g2, p_isPkT, pk]
      · have ha := (yw.2.2.2 b hb).1
        have hd := (yw.2.2.2 c hc).1
        have hx1 : ∀ c, c < 80 → ((nI c = -nI 2) = (c = 99)) := fun c hc => by rw [eqnF (by omega) (by omega) (by omega)]; exact (eq_false (by omega)).symm
        have hx2 : ∀ c, c < 80 → ((nI c = -nI 1) = (c = 99)) := fun c hc => by rw [eqnF (by omega) (by omega) (by omega)]; exact (eq_false (by omega)).symm
        rcases c_gather (l := l) hfu yc yw hok hfr hx1 with ⟨hm, s1, e1, p1, r1⟩ | ⟨hm, D1, s1, e1, p1, hD1, h107, hfo, h51, h52, hO, r1⟩
        · have cs : cS s s1 := fun q a b c d e f g h => r1 q (by omega) (by omega) (by omega)
          have rv1 := RV_S (cS_V cs) rv
          have g2 := pk_yes2 (fu := fu) (l := l) rv1.1 hn hb
          have i2 := pk_yes2 (fu := fu) (l := l) rv1.1 hn hc
          have pk := fun x => p_isPk2 (fu := fu) (x := x) (l := l) rv1.1
          obtain ⟨s4, e4, p4, y4, _, _, k4⟩ := r_cp hfu rv1 rS_rfl
          have hc1 := r_cellOfPicker (fu := fu) (l := l) y4 yw hb
          have hc2 := r_cellOfPicker (fu := fu) (l := l) y4 yw hc
          obtain ⟨s5, e5, p5, h60, h100, k5, j5⟩ := r_fillsCells (l := l) hfu (rT_S (rS_V k4) rv1.1).2.2.1 y4 yw hx2
          have hct := ct_le (qc P Y 99) 80
          refine ⟨-nI 3, D, s1, s5, ?_, ?_, cs, .inl rfl, fun q h _ => r1 q (by omega) (by omega) (by omega), ?_, ?_, rS_tr k4 ⟨fun q a _ _ _ _ b _ _ => k5 q b a, fun j _ _ _ a _ => j5 j a⟩⟩
          · simp (disch := omega) only [ln_, leT, leF, ltT, ltF, eqT, eqF, vpT, nlT, nleT, lnF, lenF, eqnF, neqF, nnF, nI_add, pk_mul, pk_div, pk_sub, ni_m, nI_clamp, md10, dm10, gI_l, gI_n, ar_t, ar_f, it_t, it_f, true_and, and_true, not_true_eq_false, not_false_eq_true, implies_true, and_self, eq_self, g1, i1, e1]
          · simp (disch := omega) only [ln_, leT, leF, ltT, ltF, eqT, eqF, vpT, nlT, nleT, lnF, lenF, eqnF, neqF, nnF, nI_add, pk_mul, pk_div, pk_sub, ni_m, nI_clamp, md10, dm10, gI_l, gI_n, ar_t, ar_f, it_t, it_f, true_and, and_true, not_true_eq_false, not_false_eq_true, implies_true, and_self, eq_self, g1, i1, p_isPkT, e1, p1]
          · simp (disch := omega) only [ln_, leT, leF, ltT, ltF, eqT, eqF, vpT, nlT, nleT, lnF, lenF, eqnF, neqF, nnF, nI_add, pk_mul, pk_div, pk_sub, ni_m, nI_clamp, md10, dm10, gI_l, gI_n, ar_t, ar_f, it_t, it_f, true_and, and_true, not_true_eq_false, not_false_eq_true, implies_true, and_self, eq_self, g2, i2, e4, e5, h60]
          · simp (disch := omega) only [ln_, leT, leF, ltT, ltF, eqT, eqF, vpT, nlT, nleT, lnF, lenF, eqnF, neqF, nnF, nI_add, pk_mul, pk_div, pk_sub, ni_m, nI_clamp, md10, dm10, gI_l, gI_n, ar_t, ar_f, it_t, it_f, true_and, and_true, not_true_eq_false, not_false_eq_true, implies_true, and_self, eq_self, g2, i2, pk, e4, p4, hc1, hc2, e5, p5, h60]
        · have cs : cS s s1 := fun q a b c d e f g h => r1 q (by omega) (by omega) (by omega) (by omega)
          have rv1 := RV_S (cS_V cs) rv
          have g2 := pk_yes2 (fu := fu) (l := l) rv1.1 hn hb
          have i2 := pk_yes2 (fu := fu) (l := l) rv1.1 hn hc
          have pk := fun x => p_isPk2 (fu := fu) (x := x) (l := l) rv1.1
          obtain ⟨s4, e4, p4, y4, _, _, k4⟩ := r_cp hfu rv1 rS_rfl
          have hc1 := r_cellOfPicker (fu := fu) (l := l) y4 yw hb
          have hc2 := r_cellOfPicker (fu := fu) (l := l) y4 yw hc
          obtain ⟨s5, e5, p5, h60, h100, k5, j5⟩ := r_fillsCells (l := l) hfu (rT_S (rS_V k4) rv1.1).2.2.1 y4 yw hx2
          have hcs : ∀ k, k < ct (qc P Y 99) 80 → sel (qc P Y 99) 80 k < 80 := fun k hk => sel_lt hk
          have h34 : s1 34 b = nI (Y.2.2.2.1 b) := by rw [r1 34 (by omega) (by omega) (by omega) (by omega)]; exact (yc.2.2.2.2 b hb).1
          have h35 : s1 34 c = nI (Y.2.2.2.1 c) := by rw [r1 34 (by omega) (by omega) (by omega) (by omega)]; exact (yc.2.2.2.2 c hc).1
          generalize ct (qc P Y 99) 80 = m at *
          generalize sel (qc P Y 99) 80 = cl at *
          generalize Y.2.2.2.1 b = a at *
          generalize Y.2.2.2.1 c = d at *
          have hp := Nat.two_pow_pos m
          have h10 := p10 hm
          obtain ⟨s6, e6, p6, o6, k6⟩ := r_rest (l := l) hfu hm h60 h100 hcs
          have m60 : s6 60 60 = nI m := by rw [k6 60 (by omega)]; exact h60
          have m100 : ∀ k, k < m → s6 100 k = nI (cl k) := fun k hk => by rw [k6 100 (by omega)]; exact h100 k hk
          have hon := one_n (k := m) (by omega)
          have hsh := c_shared (l := l) (D := D1) hfu hm rfl h51 h52 hcs ha hd hO
          have hsb : ∀ S, S < 2 ^ m → shF cl m a d S ≤ 170 := fun S hS => by
            have b1 := tq_b (S := S) hcs hm hS ha
            have b2 := tq_b (S := 2 ^ m - 1 - S) hcs hm (by omega) hd
            unfold shF; split <;> omega
          have hmm : ∀ n, n ≤ 2 ^ m → (n = 0 ∧ mnF 9999 (shF cl m a d) n = 9999) ∨ (0 < n ∧ mnF 9999 (shF cl m a d) n ≤ 170 ∧ mnF 1000000 (shF cl m a d) n = mnF 9999 (shF cl m a d) n) := by
            intro n
            induction n with
            | zero => intro _; exact .inl ⟨rfl, rfl⟩
            | succ n ih =>
              intro hn2
              right
              have hs := hsb n (by omega)
              have d1 : mnF 9999 (shF cl m a d) (n + 1) = if shF cl m a d n < mnF 9999 (shF cl m a d) n then shF cl m a d n else mnF 9999 (shF cl m a d) n := rfl
              have d2 : mnF 1000000 (shF cl m a d) (n + 1) = if shF cl m a d n < mnF 1000000 (shF cl m a d) n then shF cl m a d n else mnF 1000000 (shF cl m a d) n := rfl
              rcases ih (by omega) with ⟨h1, h2⟩ | ⟨h1, h2, h3⟩
              · subst h1
                have e3 : mnF 1000000 (shF cl m a d) 0 = 1000000 := rfl
                rw [d1, d2, e3, h2, if_pos (by omega), if_pos (by omega)]
                exact ⟨by omega, hs, rfl⟩
              · rw [d1, d2, h3]
                refine ⟨by omega, ?_, rfl⟩
                split <;> omega
          have hfin : mnF 1000000 (shF cl m a d) (2 ^ m) = mnF 9999 (shF cl m a d) (2 ^ m) := by
            rcases hmm (2 ^ m) (Nat.le_refl _) with ⟨h1, _⟩ | ⟨_, _, h3⟩
            · omega
            · exact h3
          have B := loop_i (fun n S (z : Int32 × fl_I) => ∃ s', f_X12_share_80 fu n (nI a) (nI d) (nI (2 ^ m - 1)) z.1 (nI S) z.2 l = (nI (mnF 9999 (shF cl m a d) (2 ^ m)), s', l) ∧ p_X12_share_80 fu n (nI a) (nI d) (nI (2 ^ m - 1)) z.1 (nI S) z.2 l ∧ (∀ q, q ≠ 60 → s' q = s6 q) ∧ ∀ j, j ≠ 63 → s' 60 j = s6 60 j) (fun S z => z.1 = nI (mnF 9999 (shF cl m a d) S) ∧ (∀ q, q ≠ 60 → z.2 q = s6 q) ∧ ∀ j, j ≠ 63 → z.2 60 j = s6 60 j) (2 ^ m) ?_ ?_ fu 0 (nI 9999, s6) (Nat.zero_le _) (by omega) ⟨rfl, fun _ _ => rfl, fun _ _ => rfl⟩
          · obtain ⟨s7, e7, p7, k7, j7⟩ := B
            dsimp only at e7 p7
            have hDD : D1 = D ∨ (D.2.2.2.1 = 54 ∧ D1 = D_t D ∧ frok D1) := by
              rcases hD1 with h | ⟨h, h2⟩
              · exact .inl h
              · exact .inr ⟨h, h2, hfo⟩
            have rs : rS s1 s7 := rS_tr k4 (rS_tr ⟨fun q a _ _ _ _ b _ _ => k5 q b a, fun j _ _ _ a _ => j5 j a⟩ ⟨fun q a _ _ _ _ _ b _ => by rw [k7 q a, k6 q b], fun j _ _ _ _ a => by rw [j7 j a, k6 60 (by omega)]⟩)
            refine ⟨nI (mnF 9999 (shF cl m a d) (2 ^ m)), D1, s1, s7, ?_, ?_, cs, hDD, fun q h h2 => r1 q (by omega) (by omega) (by omega) (by omega), ?_, ?_, rs⟩
            · simp (disch := omega) only [ln_, leT, leF, ltT, ltF, eqT, eqF, vpT, nlT, nleT, lnF, lenF, eqnF, neqF, nnF, nI_add, pk_mul, pk_div, pk_sub, ni_m, nI_clamp, md10, dm10, gI_l, gI_n, ar_t, ar_f, it_t, it_f, true_and, and_true, not_true_eq_false, not_false_eq_true, implies_true, and_self, eq_self, g1, i1, e1, h34, h35, hsh, hfin]
            · simp (disch := omega) only [ln_, leT, leF, ltT, ltF, eqT, eqF, vpT, nlT, nleT, lnF, lenF, eqnF, neqF, nnF, nI_add, pk_mul, pk_div, pk_sub, ni_m, nI_clamp, md10, dm10, gI_l, gI_n, ar_t, ar_f, it_t, it_f, true_and, and_true, not_true_eq_false, not_false_eq_true, implies_true, and_self, eq_self, g1, i1, p_isPkT, e1, p1, h34, h35, hsh, hfo]
            · simp (disch := omega) only [ln_, leT, leF, ltT, ltF, eqT, eqF, vpT, nlT, nleT, lnF, lenF, eqnF, neqF, nnF, nI_add, pk_mul, pk_div, pk_sub, ni_m, nI_clamp, md10, dm10, gI_l, gI_n, ar_t, ar_f, it_t, it_f, true_and, and_true, not_true_eq_false, not_false_eq_true, implies_true, and_self, eq_self, g2, i2, e4, hc1, hc2, e5, h60, e6, m60, hon]; exact e7
            · simp (disch := omega) only [ln_, leT, leF, ltT, ltF, eqT, eqF, vpT, nlT, nleT, lnF, lenF, eqnF, neqF, nnF, nI_add, pk_mul, pk_div, pk_sub, ni_m, nI_clamp, md10, dm10, gI_l, gI_n, ar_t, ar_f, it_t, it_f, true_and, and_true, not_true_eq_false, not_false_eq_true, implies_true, and_self, eq_self, g2, i2, pk, e4, p4, hc1, hc2, e5, p5, h60, e6, p6, m60, hon]; exact p7
          · intro n z hz
            obtain ⟨r, s0⟩ := z
            obtain ⟨hz, hk, hj⟩ := hz
            dsimp only at hz hk hj ⊢
            refine ⟨s0, ?_, ?_, hk, hj⟩
            · unfold f_X12_share_80
              simp (disch := omega) only [ln_, leT, leF, ltT, ltF, eqT, eqF, vpT, nlT, nleT, lnF, lenF, eqnF, neqF, nnF, nI_add, pk_mul, pk_div, pk_sub, ni_m, nI_clamp, md10, dm10, gI_l, gI_n, ar_t, ar_f, it_t, it_f, true_and, and_true, not_true_eq_false, not_false_eq_true, implies_true, and_self, eq_self, hz]
            · unfold p_X12_share_80
              simp (disch := omega) only [ln_, leT, leF, ltT, ltF, eqT, eqF, vpT, nlT, nleT, lnF, lenF, eqnF, neqF, nnF, nI_add, pk_mul, pk_div, pk_sub, ni_m, nI_clamp, md10, dm10, gI_l, gI_n, ar_t, ar_f, it_t, it_f, true_and, and_true, not_true_eq_false, not_false_eq_true, implies_true, and_self, eq_self]
          · intro n S z hS hz ih
            replace ih := fun x1 s' => ih (x1, s')
            dsimp only at ih
            obtain ⟨r, s0⟩ := z
            obtain ⟨hz, hk, hj⟩ := hz
            dsimp only at hz hk hj ⊢
            have b1 := tq_b (S := S) hcs hm hS ha
            have b2 := tq_b (S := 2 ^ m - 1 - S) hcs hm (by omega) hd
            have hcp := cpl_n hm hS
            obtain ⟨s7, e7, p7, _, k7, j7⟩ := r_round (l := l) (s := s0) (S := S) hfu hm (by rw [hj 60 (by omega)]; exact m60) (fun k hk2 => by rw [hk 100 (by omega)]; exact m100 k hk2) hcs (by rw [hk 101 (by omega)]; exact o6) ha hS
            obtain ⟨s8, e8, p8, _, k8, j8⟩ := r_round (l := l) (s := s7) (S := 2 ^ m - 1 - S) hfu hm (by rw [j7 60 (by omega), hj 60 (by omega)]; exact m60) (fun k hk2 => by rw [k7 100 (by omega), hk 100 (by omega)]; exact m100 k hk2) hcs (by rw [k7 101 (by omega), hk 101 (by omega)]; exact o6) hd (by omega)
            have hk8 : ∀ q, q ≠ 60 → s8 q = s6 q := fun q hq => by rw [k8 q hq, k7 q hq]; exact hk q hq
            have hj8 : ∀ j, j ≠ 63 → s8 60 j = s6 60 j := fun j hq => by rw [j8 j hq, j7 j hq]; exact hj j hq
            have dd : mnF 9999 (shF cl m a d) (S + 1) = if shF cl m a d S < mnF 9999 (shF cl m a d) S then shF cl m a d S else mnF 9999 (shF cl m a d) S := rfl
            have hmb : mnF 9999 (shF cl m a d) S ≤ 9999 := by
              rcases hmm S (by omega) with ⟨_, h2⟩ | ⟨_, h2, _⟩ <;> omega
            unfold p_X12_share_80 f_X12_share_80
            by_cases e : tq cl m a S < tq cl m d (2 ^ m - 1 - S)
            · have es : shF cl m a d S = tq cl m d (2 ^ m - 1 - S) := if_pos e
              rw [es] at dd
              by_cases e2 : tq cl m d (2 ^ m - 1 - S) < mnF 9999 (shF cl m a d) S
              · rw [if_pos e2] at dd
                simp (disch := omega) only [ln_, leT, leF, ltT, ltF, eqT, eqF, vpT, nlT, nleT, lnF, lenF, eqnF, neqF, nnF, nI_add, pk_mul, pk_div, pk_sub, ni_m, nI_clamp, md10, dm10, gI_l, gI_n, ar_t, ar_f, it_t, it_f, true_and, and_true, not_true_eq_false, not_false_eq_true, implies_true, and_self, eq_self, hcp, e7, p7, e8, p8, hz]
                exact ih _ _ ⟨by rw [dd], hk8, hj8⟩
              · rw [if_neg e2] at dd
                simp (disch := omega) only [ln_, leT, leF, ltT, ltF, eqT, eqF, vpT, nlT, nleT, lnF, lenF, eqnF, neqF, nnF, nI_add, pk_mul, pk_div, pk_sub, ni_m, nI_clamp, md10, dm10, gI_l, gI_n, ar_t, ar_f, it_t, it_f, true_and, and_true, not_true_eq_false, not_false_eq_true, implies_true, and_self, eq_self, hcp, e7, p7, e8, p8, hz]
                exact ih _ _ ⟨by rw [dd], hk8, hj8⟩
            · have es : shF cl m a d S = tq cl m a S := if_neg e
              rw [es] at dd
              by_cases e2 : tq cl m a S < mnF 9999 (shF cl m a d) S
              · rw [if_pos e2] at dd
                simp (disch := omega) only [ln_, leT, leF, ltT, ltF, eqT, eqF, vpT, nlT, nleT, lnF, lenF, eqnF, neqF, nnF, nI_add, pk_mul, pk_div, pk_sub, ni_m, nI_clamp, md10, dm10, gI_l, gI_n, ar_t, ar_f, it_t, it_f, true_and, and_true, not_true_eq_false, not_false_eq_true, implies_true, and_self, eq_self, hcp, e7, p7, e8, p8, hz]
                exact ih _ _ ⟨by rw [dd], hk8, hj8⟩
              · rw [if_neg e2] at dd
                simp (disch := omega) only [ln_, leT, leF, ltT, ltF, eqT, eqF, vpT, nlT, nleT, lnF, lenF, eqnF, neqF, nnF, nI_add, pk_mul, pk_div, pk_sub, ni_m, nI_clamp, md10, dm10, gI_l, gI_n, ar_t, ar_f, it_t, it_f, true_and, and_true, not_true_eq_false, not_false_eq_true, implies_true, and_self, eq_self, hcp, e7, p7, e8, p8, hz]
                exact ih _ _ ⟨by rw [dd], hk8, hj8⟩
end to4
