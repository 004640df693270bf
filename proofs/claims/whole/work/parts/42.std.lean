/-! Where to stand; years -/
section std
variable {fu t lv P np nl nw : Nat} {ht sg lo : Nat → Nat} {wd : Nat → List Nat} {wx wy rn sd : Int32} {LW : Lw} {Y : Yd} {s s1 s2 : fl_I} {l : fl_L} {D : fl_D} {a i b c q k n g : Nat} {x y z v : Int32} {st : Bool} {Z : Yd}
def glY (Z : Yd) (b g : Nat) : Yd := (Z.1, Z.2.1, Z.2.2.1, Z.2.2.2.1, un Z.2.2.2.2 b g)
theorem glY_W (w : YW P np ht Z) (hg : g ≤ 80) : YW P np ht (glY Z b g) := by
  refine ⟨w.1, w.2.1, w.2.2.1, fun c hc => ?_⟩
  obtain ⟨g1, g2, g3, g4⟩ := w.2.2.2 c hc
  refine ⟨g1, ?_, g3, g4⟩
  show un _ _ _ _ ≤ 80
  by_cases e : c = b
  · subst e; rw [un_s]; exact hg
  · rw [un_n e]; exact g2
theorem glY_C (y : yC P np Z a s) : yC P np (glY Z b g) a (wi s (a + 4) b (gI g)) := by
  obtain ⟨y1, y2, y3, y4, y5⟩ := y
  simp (disch := omega) only [yC, wi_c, wi_u, upd_s, upd_n, su_r, su_c]
  refine ⟨y1, y2, y3, y4, fun c hc => ?_⟩
  obtain ⟨g1, g2, g3⟩ := y5 c hc
  refine ⟨g1, ?_, g3⟩
  show _ = gI (un _ _ _ _)
  by_cases e : c = b
  · subst e; rw [un_s, upd_s]
  · rw [un_n e, upd_n e]; exact g2
theorem glY_F {R : Nat → Int32} (y : YF P np Z R) (hP : P ≤ 32) (hn : np ≤ 4) (hb : b < np) : YF P np (glY Z b g) (upd R (136 + b) (gI g)) := by
  refine ⟨by rw [upd_n (by omega)]; exact y.1, fun i hi => by rw [upd_n (by omega), upd_n (by omega), upd_n (by omega), upd_n (by omega)]; exact y.2.1 i hi, fun c hc => ?_⟩
  obtain ⟨g1, g2, g3⟩ := y.2.2 c hc
  rw [upd_n (by omega), upd_n (by omega)]
  refine ⟨g1, g2, ?_⟩
  show _ = gI (un _ _ _ _)
  by_cases e : c = b
  · subst e; rw [un_s, upd_s]
  · rw [un_n e, upd_n (by omega)]; exact g3
theorem r_goalAt (y : YF P np Z (s 94)) (w : YW P np ht Z) (hb : b < np) (hc : c < 80) : p_X12_goalAt fu (nI b) (nI c) s l ∧ f_X12_goalAt fu (nI b) (nI c) s l = gI (if c = Z.2.2.2.1 b then 80 else c) := by
  have hn := w.2.1
  have hw := (w.2.2.2 b hb).1
  obtain ⟨g1, g2, g3⟩ := y.2.2 b hb
  unfold p_X12_goalAt f_X12_goalAt
  by_cases e : c = Z.2.2.2.1 b
  · simp (disch := omega) only [ln_, leT, leF, ltT, ltF, eqT, eqF, vpT, nlT, nleT, lnF, lenF, eqnF, neqF, nnF, nI_add, pk_mul, pk_div, pk_sub, ni_m, nI_clamp, md10, dm10, gI_l, gI_n, ar_t, ar_f, it_t, it_f, true_and, and_true, not_true_eq_false, not_false_eq_true, implies_true, and_self, eq_self, g1, g2, if_pos e]
  · simp (disch := omega) only [ln_, leT, leF, ltT, ltF, eqT, eqF, vpT, nlT, nleT, lnF, lenF, eqnF, neqF, nnF, nI_add, pk_mul, pk_div, pk_sub, ni_m, nI_clamp, md10, dm10, gI_l, gI_n, ar_t, ar_f, it_t, it_f, true_and, and_true, not_true_eq_false, not_false_eq_true, implies_true, and_self, eq_self, g1, g2, if_neg e]
/-- what is lost if picker b is sent to cell c -/
def lsF (LW : Lw) (sg ht : Nat → Nat) (wx wy rn : Int32) (P np : Nat) (Y : Yd) (b n c : Nat) : Nat :=
  sm (fun i => if (goY LW sg ht wx wy rn P np true (-nI 1) (glY Y b (if c = Y.2.2.2.1 b then 80 else c)) n).2.1 i < 80 then hdN (LW 1 (vrs sg P (goY LW sg ht wx wy rn P np true (-nI 1) (glY Y b (if c = Y.2.2.2.1 b then 80 else c)) n) i)) 99 else 0) P
theorem lsF_le (hP : P ≤ 32) : lsF LW sg ht wx wy rn P np Y b n c ≤ 3168 := by
  unfold lsF
  generalize goY LW sg ht wx wy rn P np true (-nI 1) _ n = Z
  refine Nat.le_trans (sm_le (m := 99) (fun i => ?_) P) (by omega)
  by_cases h : Z.2.1 i < 80
  · rw [if_pos h]; exact hdN_le (by omega)
  · rw [if_neg h]; exact Nat.zero_le _
set_option maxRecDepth 100000 in
theorem m_stand (hfu : 20000 ≤ fu) (hD : (if D.2.2.1 then 20 else 9) = t) (cv : CV fu t P np nl nw ht sg lo wd wx wy rn sd LW Y s l) (rv : RV fu lv P np nl nw ht sg lo wd wx wy rn sd LW Y s l) : Qy s l (f_X11_stand fu v x y D s l) (p_X11_stand fu v x y D s l) (f_X12_stand fu v x y) (p_X12_stand fu v x y) := by
  have yc := cv.2.2.2.2.1
  have yw := cv.2.2.2.2.2.1
  have hn := yw.2.1
  have hP := yw.1
  have pk := p_isPk2 (fu := fu) (x := v) (l := l) rv.1
  unfold f_X11_stand p_X11_stand f_X12_stand p_X12_stand
  rcases ag v np (by omega) with h | ⟨b, hb, rfl⟩
  · have h1 := pk_no (fu := fu) (l := l) yc h
    have h2 := pk_no2 (fu := fu) (l := l) rv.1 hn h
    refine Qy_mk (-nI 1) s s ?_ ?_ cS_rfl (fun _ _ => rfl) ?_ ?_ rS_rfl <;> simp (disch := omega) only [ln_, leT, leF, ltT, ltF, eqT, eqF, vpT, nlT, nleT, lnF, lenF, eqnF, neqF, nnF, nI_add, pk_mul, pk_div, pk_sub, ni_m, nI_clamp, md10, dm10, gI_l, gI_n, ar_t, ar_f, it_t, it_f, true_and, and_true, not_true_eq_false, not_false_eq_true, implies_true, and_self, eq_self, h1, h2, p_isPkT, pk]
  · have g1 := pk_yes (fu := fu) (l := l) yc hn hb
    have g2 := pk_yes2 (fu := fu) (l := l) rv.1 hn hb
    rcases ag3 x 1 12 (by omega) (by omega) with h | ⟨h1, h2, h3⟩ | ⟨n, hn1, hn4, rfl⟩
    · refine Qy_mk (-nI 1) s s ?_ ?_ cS_rfl (fun _ _ => rfl) ?_ ?_ rS_rfl <;> simp (disch := omega) only [ln_, leT, leF, ltT, ltF, eqT, eqF, vpT, nlT, nleT, lnF, lenF, eqnF, neqF, nnF, nI_add, pk_mul, pk_div, pk_sub, ni_m, nI_clamp, md10, dm10, gI_l, gI_n, ar_t, ar_f, it_t, it_f, true_and, and_true, not_true_eq_false, not_false_eq_true, implies_true, and_self, eq_self, g1, g2, p_isPkT, pk, f_X12_in, h, p_inT]
    · refine Qy_mk (-nI 1) s s ?_ ?_ cS_rfl (fun _ _ => rfl) ?_ ?_ rS_rfl <;> simp (disch := omega) only [ln_, leT, leF, ltT, ltF, eqT, eqF, vpT, nlT, nleT, lnF, lenF, eqnF, neqF, nnF, nI_add, pk_mul, pk_div, pk_sub, ni_m, nI_clamp, md10, dm10, gI_l, gI_n, ar_t, ar_f, it_t, it_f, true_and, and_true, not_true_eq_false, not_false_eq_true, implies_true, and_self, eq_self, g1, g2, p_isPkT, pk, f_X12_in, h1, h2, h3, p_inT]
    · rcases ag3 y 0 1 (by omega) (by omega) with h | ⟨h1, h2, h3⟩ | ⟨j, _, hj, rfl⟩
      · refine Qy_mk (-nI 1) s s ?_ ?_ cS_rfl (fun _ _ => rfl) ?_ ?_ rS_rfl <;> simp (disch := omega) only [ln_, leT, leF, ltT, ltF, eqT, eqF, vpT, nlT, nleT, lnF, lenF, eqnF, neqF, nnF, nI_add, pk_mul, pk_div, pk_sub, ni_m, nI_clamp, md10, dm10, gI_l, gI_n, ar_t, ar_f, it_t, it_f, true_and, and_true, not_true_eq_false, not_false_eq_true, implies_true, and_self, eq_self, g1, g2, p_isPkT, pk, f_X12_in, h, p_inT]
      · refine Qy_mk (-nI 1) s s ?_ ?_ cS_rfl (fun _ _ => rfl) ?_ ?_ rS_rfl <;> simp (disch := omega) only [ln_, leT, leF, ltT, ltF, eqT, eqF, vpT, nlT, nleT, lnF, lenF, eqnF, neqF, nnF, nI_add, pk_mul, pk_div, pk_sub, ni_m, nI_clamp, md10, dm10, gI_l, gI_n, ar_t, ar_f, it_t, it_f, true_and, and_true, not_true_eq_false, not_false_eq_true, implies_true, and_self, eq_self, g1, g2, p_isPkT, pk, f_X12_in, h1, h2, h3, p_inT]
      · have hfe : ∀ c, lsF LW sg ht wx wy rn P np Y b n c = sm (fun i => if (goY LW sg ht wx wy rn P np true (-nI 1) (glY Y b (if c = Y.2.2.2.1 b then 80 else c)) n).2.1 i < 80 then hdN (LW 1 (vrs sg P (goY LW sg ht wx wy rn P np true (-nI 1) (glY Y b (if c = Y.2.2.2.1 b then 80 else c)) n) i)) 99 else 0) P := fun _ => rfl
        have hf : ∀ c, lsF LW sg ht wx wy rn P np Y b n c ≤ 3168 := fun c => lsF_le hP
        generalize lsF LW sg ht wx wy rn P np Y b n = f at hfe hf
        have hsb := fun c => sta_b (n := c) hf
        have hat := (yw.2.2.2 b hb).1
        have h0 : (sta f 0).2 * 80 + (sta f 0).1 = 1000000 := by simp [sta]
        have A := loop_i (fun m c (z : Int32 × fl_I) => ∃ s', f_X11_stand_38 fu m (nI b) (nI n) (nI j) z.1 (nI c) D z.2 l = (if j = 0 then nI (sta f 80).1 else nI (sta f 80).2, s', l) ∧ p_X11_stand_38 fu m (nI b) (nI n) (nI j) z.1 (nI c) D z.2 l ∧ cW s s') (fun c z => z.1 = nI ((sta f c).2 * 80 + (sta f c).1) ∧ cW s z.2) 80 ?_ ?_ fu 0 (nI 1000000, s) (Nat.zero_le _) (by omega) ⟨by rw [h0], cW_rfl⟩
        · obtain ⟨s3, e3, p3, w3⟩ := A
          dsimp only at e3 p3
          have rv := RV_S (cS_V (cW_S w3)) rv
          have g2 := pk_yes2 (fu := fu) (l := l) rv.1 hn hb
          have pk := p_isPk2 (fu := fu) (x := nI b) (l := l) rv.1
          have B := loop_i (fun m c (z : Int32 × Int32 × fl_I) => ∃ s', f_X12_stand_38 fu m (nI b) (nI n) (nI j) z.1 z.2.1 (nI c) z.2.2 l = (if j = 0 then nI (sta f 80).1 else nI (sta f 80).2, s', l) ∧ p_X12_stand_38 fu m (nI b) (nI n) (nI j) z.1 z.2.1 (nI c) z.2.2 l ∧ rS s3 s') (fun c z => ((c = 0 ∧ z.1 = -nI 1) ∨ (0 < c ∧ z.1 = nI (sta f c).1 ∧ z.2.1 = nI (sta f c).2)) ∧ rS s3 z.2.2) 80 ?_ ?_ fu 0 (-nI 1, nI 0, s3) (Nat.zero_le _) (by omega) ⟨.inl ⟨rfl, rfl⟩, rS_rfl⟩
          · obtain ⟨s5, e5, p5, k5⟩ := B
            dsimp only at e5 p5
            refine Qy_mk (if j = 0 then nI (sta f 80).1 else nI (sta f 80).2) s3 s5 ?_ ?_ (cW_S w3) (cW_k w3) ?_ ?_ k5
            · simp (disch := omega) only [ln_, leT, leF, ltT, ltF, eqT, eqF, vpT, nlT, nleT, lnF, lenF, eqnF, neqF, nnF, nI_add, pk_mul, pk_div, pk_sub, ni_m, nI_clamp, md10, dm10, gI_l, gI_n, ar_t, ar_f, it_t, it_f, true_and, and_true, not_true_eq_false, not_false_eq_true, implies_true, and_self, eq_self, g1]; exact e3
            · simp (disch := omega) only [ln_, leT, leF, ltT, ltF, eqT, eqF, vpT, nlT, nleT, lnF, lenF, eqnF, neqF, nnF, nI_add, pk_mul, pk_div, pk_sub, ni_m, nI_clamp, md10, dm10, gI_l, gI_n, ar_t, ar_f, it_t, it_f, true_and, and_true, not_true_eq_false, not_false_eq_true, implies_true, and_self, eq_self, g1, p_isPkT]; exact p3
            · simp (disch := omega) only [ln_, leT, leF, ltT, ltF, eqT, eqF, vpT, nlT, nleT, lnF, lenF, eqnF, neqF, nnF, nI_add, pk_mul, pk_div, pk_sub, ni_m, nI_clamp, md10, dm10, gI_l, gI_n, ar_t, ar_f, it_t, it_f, true_and, and_true, not_true_eq_false, not_false_eq_true, implies_true, and_self, eq_self, g2, f_X12_in]; exact e5
            · simp (disch := omega) only [ln_, leT, leF, ltT, ltF, eqT, eqF, vpT, nlT, nleT, lnF, lenF, eqnF, neqF, nnF, nI_add, pk_mul, pk_div, pk_sub, ni_m, nI_clamp, md10, dm10, gI_l, gI_n, ar_t, ar_f, it_t, it_f, true_and, and_true, not_true_eq_false, not_false_eq_true, implies_true, and_self, eq_self, g2, pk, f_X12_in, p_inT]; exact p5
          · intro m z hz
            obtain ⟨x1, x2, s0⟩ := z
            obtain ⟨hz, hk⟩ := hz
            dsimp only at hz hk ⊢
            rcases hz with ⟨h, _⟩ | ⟨_, hz1, hz2⟩
            · omega
            · refine ⟨s0, ?_, ?_, hk⟩
              · unfold f_X12_stand_38
                by_cases e : j = 0
                · subst e; simp (disch := omega) only [ln_, leT, leF, ltT, ltF, eqT, eqF, vpT, nlT, nleT, lnF, lenF, eqnF, neqF, nnF, nI_add, pk_mul, pk_div, pk_sub, ni_m, nI_clamp, md10, dm10, gI_l, gI_n, ar_t, ar_f, it_t, it_f, true_and, and_true, not_true_eq_false, not_false_eq_true, implies_true, and_self, eq_self, hz1, hz2]
                · simp (disch := omega) only [ln_, leT, leF, ltT, ltF, eqT, eqF, vpT, nlT, nleT, lnF, lenF, eqnF, neqF, nnF, nI_add, pk_mul, pk_div, pk_sub, ni_m, nI_clamp, md10, dm10, gI_l, gI_n, ar_t, ar_f, it_t, it_f, true_and, and_true, not_true_eq_false, not_false_eq_true, implies_true, and_self, eq_self, hz1, hz2, e]
              · unfold p_X12_stand_38
                simp (disch := omega) only [ln_, leT, leF, ltT, ltF, eqT, eqF, vpT, nlT, nleT, lnF, lenF, eqnF, neqF, nnF, nI_add, pk_mul, pk_div, pk_sub, ni_m, nI_clamp, md10, dm10, gI_l, gI_n, ar_t, ar_f, it_t, it_f, true_and, and_true, not_true_eq_false, not_false_eq_true, implies_true, and_self, eq_self]
          · intro m c z hc hz ih
            replace ih := fun x1 x2 s' => ih (x1, x2, s')
            dsimp only at ih
            obtain ⟨x1, x2, s0⟩ := z
            obtain ⟨hz, hk⟩ := hz
            dsimp only at hz hk ⊢
            have hg80 : (if c = Y.2.2.2.1 b then 80 else c) ≤ 80 := by split <;> omega
            obtain ⟨s4, e4, p4, y4, a4, b4, k4⟩ := r_cps hfu rv hk
            have hga := r_goalAt (fu := fu) (l := l) (s := s4) (by rw [k4.1 94 (by omega) (by omega) (by omega) (by omega) (by omega) (by omega) (by omega) (by omega)]; exact rv.2.2.2.2.1) yw hb hc
            have y5 := glY_F (g := if c = Y.2.2.2.1 b then 80 else c) y4 hP hn hb
            obtain ⟨s6, e6, p6, y6, k6, _, _⟩ := r_run (n := n) (st := true) (s1 := wi s4 95 (136 + b) (gI (if c = Y.2.2.2.1 b then 80 else c))) hfu rv ⟨fun q a b c d e f g i => by rw [wi_c d]; exact k4.1 q a b c d e f g i, fun j a b c d e => by rw [wi_c (by omega)]; exact k4.2 j a b c d e⟩ (by rw [wi_u]; exact y5) (glY_W yw hg80) (by rw [wi_c (by omega)]; exact b4) (by omega)
            rw [goY_st (sd' := -nI 1)] at y6
            obtain ⟨s7, e7, p7, k7⟩ := r_loss hfu rv k6 y6 (goY_W (glY_W yw hg80))
            rw [← hfe] at e7
            have hfc := hf c
            have hd : sta f (c + 1) = if f c < (sta f c).2 then (c, f c) else sta f c := rfl
            unfold p_X12_stand_38 f_X12_stand_38
            rcases hz with ⟨h, hz1⟩ | ⟨hc0, hz1, hz2⟩
            · rcases hsb c with ⟨a1, a2, a3⟩ | ⟨a1, a2⟩
              · rw [if_pos (by omega)] at hd
                simp (disch := omega) only [ln_, leT, leF, ltT, ltF, eqT, eqF, vpT, nlT, nleT, lnF, lenF, eqnF, neqF, nnF, nI_add, pk_mul, pk_div, pk_sub, ni_m, nI_clamp, md10, dm10, gI_l, gI_n, ar_t, ar_f, it_t, it_f, true_and, and_true, not_true_eq_false, not_false_eq_true, implies_true, and_self, eq_self, hz1, e4, p4, hga, e6, p6, e7, p7]
                exact ih _ _ _ ⟨.inr ⟨by omega, by rw [hd], by rw [hd]⟩, k7⟩
              · omega
            · rcases hsb c with ⟨a1, a2, a3⟩ | ⟨a1, a2⟩
              · omega
              · by_cases e : f c < (sta f c).2
                · rw [if_pos e] at hd
                  simp (disch := omega) only [ln_, leT, leF, ltT, ltF, eqT, eqF, vpT, nlT, nleT, lnF, lenF, eqnF, neqF, nnF, nI_add, pk_mul, pk_div, pk_sub, ni_m, nI_clamp, md10, dm10, gI_l, gI_n, ar_t, ar_f, it_t, it_f, true_and, and_true, not_true_eq_false, not_false_eq_true, implies_true, and_self, eq_self, hz1, hz2, e4, p4, hga, e6, p6, e7, p7]
                  exact ih _ _ _ ⟨.inr ⟨by omega, by rw [hd], by rw [hd]⟩, k7⟩
                · rw [if_neg e] at hd
                  simp (disch := omega) only [ln_, leT, leF, ltT, ltF, eqT, eqF, vpT, nlT, nleT, lnF, lenF, eqnF, neqF, nnF, nI_add, pk_mul, pk_div, pk_sub, ni_m, nI_clamp, md10, dm10, gI_l, gI_n, ar_t, ar_f, it_t, it_f, true_and, and_true, not_true_eq_false, not_false_eq_true, implies_true, and_self, eq_self, hz1, hz2, e4, p4, hga, e6, p6, e7, p7]
                  exact ih _ _ _ ⟨.inr ⟨by omega, by rw [hd], by rw [hd]⟩, k7⟩
        · intro m z hz
          obtain ⟨x1, s0⟩ := z
          obtain ⟨hz1, hk⟩ := hz
          dsimp only at hz1 hk ⊢
          rcases hsb 80 with ⟨a1, a2, a3⟩ | ⟨a1, a2⟩
          · omega
          · have d1 : ((sta f 80).2 * 80 + (sta f 80).1) / 80 = (sta f 80).2 := by omega
            have d2 : (sta f 80).2 * 80 + (sta f 80).1 - (sta f 80).2 * 80 = (sta f 80).1 := by omega
            refine ⟨s0, ?_, ?_, hk⟩
            · unfold f_X11_stand_38
              by_cases e : j = 0
              · subst e; simp (disch := omega) only [ln_, leT, leF, ltT, ltF, eqT, eqF, vpT, nlT, nleT, lnF, lenF, eqnF, neqF, nnF, nI_add, pk_mul, pk_div, pk_sub, ni_m, nI_clamp, md10, dm10, gI_l, gI_n, ar_t, ar_f, it_t, it_f, true_and, and_true, not_true_eq_false, not_false_eq_true, implies_true, and_self, eq_self, hz1, d1, d2]
              · simp (disch := omega) only [ln_, leT, leF, ltT, ltF, eqT, eqF, vpT, nlT, nleT, lnF, lenF, eqnF, neqF, nnF, nI_add, pk_mul, pk_div, pk_sub, ni_m, nI_clamp, md10, dm10, gI_l, gI_n, ar_t, ar_f, it_t, it_f, true_and, and_true, not_true_eq_false, not_false_eq_true, implies_true, and_self, eq_self, hz1, d1, d2, e]
            · unfold p_X11_stand_38
              simp (disch := omega) only [ln_, leT, leF, ltT, ltF, eqT, eqF, vpT, nlT, nleT, lnF, lenF, eqnF, neqF, nnF, nI_add, pk_mul, pk_div, pk_sub, ni_m, nI_clamp, md10, dm10, gI_l, gI_n, ar_t, ar_f, it_t, it_f, true_and, and_true, not_true_eq_false, not_false_eq_true, implies_true, and_self, eq_self]
        · intro m c z hc hz ih
          replace ih := fun x1 s' => ih (x1, s')
          dsimp only at ih
          obtain ⟨x1, s0⟩ := z
          obtain ⟨hz1, hk⟩ := hz
          dsimp only at hz1 hk ⊢
          have hbd : (sta f c).1 < 80 ∧ (sta f c).2 ≤ 12500 := by
            rcases hsb c with ⟨a1, a2, a3⟩ | ⟨a1, a2⟩ <;> omega
          have d1 : ((sta f c).2 * 80 + (sta f c).1) / 80 = (sta f c).2 := by omega
          have d2 : (sta f c).2 * 80 + (sta f c).1 - (sta f c).2 * 80 = (sta f c).1 := by omega
          by_cases h0 : (sta f c).2 = 0
          · have e80 : sta f 80 = sta f c := by have := sta_0 h0 (80 - c); rwa [show c + (80 - c) = 80 from by omega] at this
            refine ⟨s0, ?_, ?_, hk⟩
            · unfold f_X11_stand_38
              rw [e80]
              by_cases e : j = 0
              · subst e; simp (disch := omega) only [ln_, leT, leF, ltT, ltF, eqT, eqF, vpT, nlT, nleT, lnF, lenF, eqnF, neqF, nnF, nI_add, pk_mul, pk_div, pk_sub, ni_m, nI_clamp, md10, dm10, gI_l, gI_n, ar_t, ar_f, it_t, it_f, true_and, and_true, not_true_eq_false, not_false_eq_true, implies_true, and_self, eq_self, hz1, d1, d2]
              · simp (disch := omega) only [ln_, leT, leF, ltT, ltF, eqT, eqF, vpT, nlT, nleT, lnF, lenF, eqnF, neqF, nnF, nI_add, pk_mul, pk_div, pk_sub, ni_m, nI_clamp, md10, dm10, gI_l, gI_n, ar_t, ar_f, it_t, it_f, true_and, and_true, not_true_eq_false, not_false_eq_true, implies_true, and_self, eq_self, hz1, d1, d2, e]
            · unfold p_X11_stand_38
              simp (disch := omega) only [ln_, leT, leF, ltT, ltF, eqT, eqF, vpT, nlT, nleT, lnF, lenF, eqnF, neqF, nnF, nI_add, pk_mul, pk_div, pk_sub, ni_m, nI_clamp, md10, dm10, gI_l, gI_n, ar_t, ar_f, it_t, it_f, true_and, and_true, not_true_eq_false, not_false_eq_true, implies_true, and_self, eq_self, hz1]
          · obtain ⟨s1, e1, p1, y1, w1⟩ := c_cp (fu := fu) cv hk
            have h34 : s1 34 b = nI (Y.2.2.2.1 b) := by rw [w1 34 (by omega) (by omega) (by omega) (by omega)]; exact (yc.2.2.2.2 b hb).1
            have hg80 : (if c = Y.2.2.2.1 b then 80 else c) ≤ 80 := by split <;> omega
            have y2 := glY_C (b := b) (g := if c = Y.2.2.2.1 b then 80 else c) y1
            obtain ⟨s3, e3, p3, y3, w3⟩ := c_run (n := n) (st := true) hfu cv (fun q a b c d => by rw [wi_c (by omega)]; exact w1 q a b c d) y2 (glY_W yw hg80) (by omega) (.inl ⟨rfl, rfl⟩)
            obtain ⟨s4, e4, p4, w4⟩ := c_loss hfu cv w3 y3 (goY_W (glY_W yw hg80))
            rw [← hfe] at e4
            have hfc := hf c
            have hd : sta f (c + 1) = if f c < (sta f c).2 then (c, f c) else sta f c := rfl
            have hmin : i_min (nI ((sta f c).2 * 80 + (sta f c).1)) (nI (f c * 80 + c)) = nI ((sta f (c + 1)).2 * 80 + (sta f (c + 1)).1) := by
              show (if nI (f c * 80 + c) < nI ((sta f c).2 * 80 + (sta f c).1) then nI (f c * 80 + c) else nI ((sta f c).2 * 80 + (sta f c).1)) = _
              by_cases e : f c < (sta f c).2
              · rw [if_pos e] at hd
                rw [if_pos (nI_lt (by omega) (by omega)), hd]
              · rw [if_neg e] at hd
                rcases hsb c with ⟨a1, a2, a3⟩ | ⟨a1, a2⟩
                · omega
                · rw [if_neg (nI_nlt (by omega) (by omega)), hd]
            unfold p_X11_stand_38 f_X11_stand_38
            rw [hD]
            by_cases ec : c = Y.2.2.2.1 b
            · rw [if_pos ec, gI_n (Nat.le_refl 80)] at e3 p3
              simp (disch := omega) only [ln_, leT, leF, ltT, ltF, eqT, eqF, vpT, nlT, nleT, lnF, lenF, eqnF, neqF, nnF, nI_add, pk_mul, pk_div, pk_sub, ni_m, nI_clamp, md10, dm10, gI_l, gI_n, ar_t, ar_f, it_t, it_f, true_and, and_true, not_true_eq_false, not_false_eq_true, implies_true, and_self, eq_self, hz1, e1, p1, h34, e3, p3, e4, p4, hmin]
              exact ih _ _ ⟨rfl, w4⟩
            · rw [if_neg ec, gI_l hc] at e3 p3
              simp (disch := omega) only [ln_, leT, leF, ltT, ltF, eqT, eqF, vpT, nlT, nleT, lnF, lenF, eqnF, neqF, nnF, nI_add, pk_mul, pk_div, pk_sub, ni_m, nI_clamp, md10, dm10, gI_l, gI_n, ar_t, ar_f, it_t, it_f, true_and, and_true, not_true_eq_false, not_false_eq_true, implies_true, and_self, eq_self, hz1, e1, p1, h34, e3, p3, e4, p4, hmin]
              exact ih _ _ ⟨rfl, w4⟩
end std
