/-! Years -/
section yea
variable {fu t lv P np nl nw : Nat} {ht sg lo : Nat → Nat} {wd : Nat → List Nat} {wx wy rn sd : Int32} {LW : Lw} {Y : Yd} {s s1 s2 : fl_I} {l : fl_L} {D : fl_D} {a i b c q k n g : Nat} {x y z v : Int32} {st : Bool} {Z : Yd}
theorem ush1 (y : Int32) : ∃ k, k < 2 ^ 31 ∧ i_ushr y (1 : Int32) = nI k := by
  have h := pk_ushr y 1 1 (by decide)
  have hy := y.toBitVec.isLt
  refine ⟨y.toBitVec.toNat / 2, by omega, ?_⟩
  refine Int32.toBitVec_inj.mp (BitVec.eq_of_toNat_eq ?_)
  rw [h, pk_tn (by omega)]
theorem rl_b (sd h : Int32) : ∃ k, k < 100 ∧ rl sd h = nI k := by
  obtain ⟨k, hk, e⟩ := ush1 (f_X11_stirred 0 (f_X11_stirred 0 sd (145 : Int32)) (nI 4 * h))
  refine ⟨k % 100, Nat.mod_lt _ (by omega), ?_⟩
  unfold rl f_X11_lot
  rw [if_neg (by decide +kernel), e]
  exact pk_rem hk (by omega) (by omega)
theorem hrY_al {r : Nat} {sd' : Int32} (hr : r = 0 ∨ r = 100) : hrY LW sg ht wx wy (nI r) P np st sd Y = hrY LW sg ht wx wy (nI r) P np st sd' Y := by
  obtain ⟨k, hk, e⟩ := rl_b sd Y.1
  obtain ⟨k', hk', e'⟩ := rl_b sd' Y.1
  unfold hrY
  rw [e, e']
  rcases hr with rfl | rfl
  · rw [if_neg (fun h => h.2 (nI_le (Nat.zero_le _) (by omega))), if_neg (fun h => h.2 (nI_le (Nat.zero_le _) (by omega)))]
  · cases st with
    | true => rw [if_neg (fun h => Bool.noConfusion h.1), if_neg (fun h => Bool.noConfusion h.1)]
    | false => rw [if_pos ⟨rfl, nI_ge (by omega) (by omega)⟩, if_pos ⟨rfl, nI_ge (by omega) (by omega)⟩]
theorem goY_al {r : Nat} {sd' : Int32} (hr : r = 0 ∨ r = 100) : goY LW sg ht wx wy (nI r) P np st sd Y n = goY LW sg ht wx wy (nI r) P np st sd' Y n := by
  induction n with
  | zero => rfl
  | succ n ih => show hrY _ _ _ _ _ _ _ _ _ _ (goY _ _ _ _ _ _ _ _ _ _ _ n) = _; rw [ih]; exact hrY_al hr
theorem ct_const {p : Nat → Bool} {n : Nat} (h : ∀ k, k < n → p k = p 0) : ct p n = (if p 0 then 1 else 0) * n := by
  induction n with
  | zero => rfl
  | succ n ih =>
    rw [ct_s, ih (fun k hk => h k (by omega)), h n (by omega)]
    by_cases e : p 0 = true
    · rw [if_pos e, Nat.one_mul, Nat.one_mul]
    · rw [if_neg e, Nat.zero_mul, Nat.zero_mul]
theorem m_year (hfu : 20000 ≤ fu) (hD : (if D.2.2.1 then 20 else 9) = t) (cv : CV fu t P np nl nw ht sg lo wd wx wy rn sd LW Y s l) (rv : RV fu lv P np nl nw ht sg lo wd wx wy rn sd LW Y s l) : Qy s l (f_X11_year fu x y D s l) (p_X11_year fu x y D s l) (f_X12_year fu x y) (p_X12_year fu x y) := by
  have cv0 := cv
  obtain ⟨ht0, hT, hL, hC, yc, yw, tb⟩ := cv
  have hn := yw.2.1
  have hP := yw.1
  have h17 := hT.2.2.2.1.2.2.1
  have h18 := hT.2.2.2.1.2.2.2
  obtain ⟨r, hr, hrn⟩ := tb.2.2.2.2.2.2.2.1
  obtain ⟨d, hd, hsd⟩ := tb.2.2.2.2.2.2.2.2
  unfold f_X11_year p_X11_year f_X12_year p_X12_year f_X11_year_21 p_X11_year_21
  rw [hD]
  rcases ag3 x 0 40 (by omega) (by omega) with h | ⟨h1, h2, h3⟩ | ⟨n, _, hn4, rfl⟩
  · refine Qy_mk (-nI 1) s s ?_ ?_ cS_rfl (fun _ _ => rfl) ?_ ?_ rS_rfl <;> simp (disch := omega) only [ln_, leT, leF, ltT, ltF, eqT, eqF, vpT, nlT, nleT, lnF, lenF, eqnF, neqF, nnF, nI_add, pk_mul, pk_div, pk_sub, ni_m, nI_clamp, md10, dm10, gI_l, gI_n, ar_t, ar_f, it_t, it_f, true_and, and_true, not_true_eq_false, not_false_eq_true, implies_true, and_self, eq_self, f_X12_isLong, f_X12_in, h, p_isLgT]
  · refine Qy_mk (-nI 1) s s ?_ ?_ cS_rfl (fun _ _ => rfl) ?_ ?_ rS_rfl <;> simp (disch := omega) only [ln_, leT, leF, ltT, ltF, eqT, eqF, vpT, nlT, nleT, lnF, lenF, eqnF, neqF, nnF, nI_add, pk_mul, pk_div, pk_sub, ni_m, nI_clamp, md10, dm10, gI_l, gI_n, ar_t, ar_f, it_t, it_f, true_and, and_true, not_true_eq_false, not_false_eq_true, implies_true, and_self, eq_self, f_X12_isLong, f_X12_in, h1, h2, h3, p_isLgT]
  · rcases ag3 y 1 20 (by omega) (by omega) with h | ⟨h1, h2, h3⟩ | ⟨m, hm1, hm, rfl⟩
    · refine Qy_mk (-nI 1) s s ?_ ?_ cS_rfl (fun _ _ => rfl) ?_ ?_ rS_rfl <;> simp (disch := omega) only [ln_, leT, leF, ltT, ltF, eqT, eqF, vpT, nlT, nleT, lnF, lenF, eqnF, neqF, nnF, nI_add, pk_mul, pk_div, pk_sub, ni_m, nI_clamp, md10, dm10, gI_l, gI_n, ar_t, ar_f, it_t, it_f, true_and, and_true, not_true_eq_false, not_false_eq_true, implies_true, and_self, eq_self, f_X12_isLong, f_X12_in, h, p_isLgT, p_inT]
    · refine Qy_mk (-nI 1) s s ?_ ?_ cS_rfl (fun _ _ => rfl) ?_ ?_ rS_rfl <;> simp (disch := omega) only [ln_, leT, leF, ltT, ltF, eqT, eqF, vpT, nlT, nleT, lnF, lenF, eqnF, neqF, nnF, nI_add, pk_mul, pk_div, pk_sub, ni_m, nI_clamp, md10, dm10, gI_l, gI_n, ar_t, ar_f, it_t, it_f, true_and, and_true, not_true_eq_false, not_false_eq_true, implies_true, and_self, eq_self, f_X12_isLong, f_X12_in, h1, h2, h3, p_isLgT, p_inT]
    · generalize hp : (fun k => decide (lyn (goY LW sg ht wx wy rn P np false (nI (d + k)) Y n).2.1 P = 0)) = p
      have hpk : ∀ k, p k = decide (lyn (goY LW sg ht wx wy rn P np false (nI (d + k)) Y n).2.1 P = 0) := fun k => by rw [← hp]
      -- one year of the class
      have one : ∀ (s0 : fl_I) (k : Nat), cW s s0 → k < 100 → ∃ s1 s2, f_X10_copy fu 37 31 s0 l = (s1, l) ∧ p_X10_copy fu 37 31 s0 l ∧ s1 t 18 = nI d ∧ f_X9_goOn fu (nI n) (nI (d + k)) t 37 s1 l = (s2, l) ∧ p_X9_goOn fu (nI n) (nI (d + k)) t 37 s1 l ∧ cW s s2 ∧ p_X10_countLying fu 37 s2 l ∧ (p k = true → f_X10_countLying fu 37 s2 l = nI 0) ∧ (p k = false → ¬ f_X10_countLying fu 37 s2 l = nI 0) := by
        intro s0 k w0 hk
        obtain ⟨s1, e1, p1, y1, w1⟩ := c_cp (fu := fu) cv0 w0
        have h18 : s1 t 18 = nI d := by rw [w1 t (by omega) (by omega) (by omega) (by omega), h18, hsd]
        obtain ⟨s2, e2, p2, y2, w2⟩ := c_run (n := n) (st := false) (x := nI (d + k)) hfu cv0 w1 y1 yw (by omega) (.inr ⟨rfl, by rw [eqnF (by omega) (by omega) (by omega)]; exact fun h => h⟩)
        have wz := goY_W (LW := LW) (sg := sg) (wx := wx) (wy := wy) (rn := rn) (st := false) (sd := nI (d + k)) (n := n) yw
        have hl := c_countLying (fu := fu) (l := l) hfu y2 wz
        have hb : lyn (goY LW sg ht wx wy rn P np false (nI (d + k)) Y n).2.1 P ≤ 32 := Nat.le_trans (ct_le _ _) hP
        refine ⟨s1, s2, e1, p1, h18, e2, p2, w2, hl.1, fun h => ?_, fun h => ?_⟩
        · rw [hpk k] at h; rw [hl.2, of_decide_eq_true h]
        · rw [hpk k] at h; rw [hl.2]; have := of_decide_eq_false h; rw [eqF this (by omega) (by omega)]; exact fun h => h
      have B : ∀ s3, cW s s3 → ∃ s', f_X12_year_24 fu fu (nI n) (nI m) (nI 0) (nI 0) s3 l = (nI (ct p m), s', l) ∧ p_X12_year_24 fu fu (nI n) (nI m) (nI 0) (nI 0) s3 l ∧ rS s3 s' := by
        intro s3 w3
        have rv := RV_S (cS_V (cW_S w3)) rv
        refine loop_i (fun f k (z : Int32 × fl_I) => ∃ s', f_X12_year_24 fu f (nI n) (nI m) z.1 (nI k) z.2 l = (nI (ct p m), s', l) ∧ p_X12_year_24 fu f (nI n) (nI m) z.1 (nI k) z.2 l ∧ rS s3 s') (fun k z => z.1 = nI (ct p k) ∧ rS s3 z.2) m ?_ ?_ fu 0 (nI 0, s3) (Nat.zero_le _) (by omega) ⟨rfl, rS_rfl⟩
        · intro f z hz
          obtain ⟨x1, s0⟩ := z
          obtain ⟨hz1, hk⟩ := hz
          dsimp only at hz1 hk ⊢
          refine ⟨s0, ?_, ?_, hk⟩
          · unfold f_X12_year_24
            simp (disch := omega) only [ln_, leT, leF, ltT, ltF, eqT, eqF, vpT, nlT, nleT, lnF, lenF, eqnF, neqF, nnF, nI_add, pk_mul, pk_div, pk_sub, ni_m, nI_clamp, md10, dm10, gI_l, gI_n, ar_t, ar_f, it_t, it_f, true_and, and_true, not_true_eq_false, not_false_eq_true, implies_true, and_self, eq_self, hz1]
          · unfold p_X12_year_24
            simp (disch := omega) only [ln_, leT, leF, ltT, ltF, eqT, eqF, vpT, nlT, nleT, lnF, lenF, eqnF, neqF, nnF, nI_add, pk_mul, pk_div, pk_sub, ni_m, nI_clamp, md10, dm10, gI_l, gI_n, ar_t, ar_f, it_t, it_f, true_and, and_true, not_true_eq_false, not_false_eq_true, implies_true, and_self, eq_self]
        · intro f k z hk0 hz ih
          replace ih := fun x1 s' => ih (x1, s')
          dsimp only at ih
          obtain ⟨x1, s0⟩ := z
          obtain ⟨hz1, hk⟩ := hz
          dsimp only at hz1 hk ⊢
          obtain ⟨s4, e4, p4, y4, a4, b4, k4⟩ := r_cp hfu rv hk
          rw [hsd] at a4
          obtain ⟨s5, e5, p5, y5, k5, _, _⟩ := r_run (n := n) (st := false) (s1 := wi s4 60 52 (nI (d + k))) hfu rv ⟨fun q a b c d e f g i => by rw [wi_c a]; exact k4.1 q a b c d e f g i, fun j a b c d e => by rw [wi_u, upd_n b]; exact k4.2 j a b c d e⟩ (by rw [wi_c (by omega)]; exact y4) yw (by rw [wi_u, upd_n (by omega)]; exact b4) (by omega)
          rw [wi_s] at y5
          have wz := goY_W (LW := LW) (sg := sg) (wx := wx) (wy := wy) (rn := rn) (st := false) (sd := nI (d + k)) (n := n) yw
          have hl := r_lieMany (fu := fu) (l := l) hfu (rT_S (rS_V k5) rv.1).2.2.1 y5 wz
          have hb : lyn (goY LW sg ht wx wy rn P np false (nI (d + k)) Y n).2.1 P ≤ 32 := Nat.le_trans (ct_le _ _) hP
          unfold p_X12_year_24 f_X12_year_24
          by_cases e : lyn (goY LW sg ht wx wy rn P np false (nI (d + k)) Y n).2.1 P = 0
          · simp (disch := omega) only [ln_, leT, leF, ltT, ltF, eqT, eqF, vpT, nlT, nleT, lnF, lenF, eqnF, neqF, nnF, nI_add, pk_mul, pk_div, pk_sub, ni_m, nI_clamp, md10, dm10, gI_l, gI_n, ar_t, ar_f, it_t, it_f, true_and, and_true, not_true_eq_false, not_false_eq_true, implies_true, and_self, eq_self, e4, p4, a4, e5, p5, hl]
            exact ih _ _ ⟨by rw [hz1, ct_t (by rw [hpk]; simp [e]), nI_add], k5⟩
          · simp (disch := omega) only [ln_, leT, leF, ltT, ltF, eqT, eqF, vpT, nlT, nleT, lnF, lenF, eqnF, neqF, nnF, nI_add, pk_mul, pk_div, pk_sub, ni_m, nI_clamp, md10, dm10, gI_l, gI_n, ar_t, ar_f, it_t, it_f, true_and, and_true, not_true_eq_false, not_false_eq_true, implies_true, and_self, eq_self, e4, p4, a4, e5, p5, hl]
            exact ih _ _ ⟨by rw [hz1, ct_f (by rw [hpk]; simp [e])], k5⟩
      by_cases hal : r = 0 ∨ r = 100
      · have hc : ct p m = (if p 0 then 1 else 0) * m := ct_const (fun k _ => by rw [hpk, hpk, hrn, goY_al (sd' := nI (d + 0)) hal])
        obtain ⟨s1, s2, e1, p1, a1, e2, p2, w2, p3, t3, f3⟩ := one s 0 cW_rfl (by omega)
        have A : f_X11_year_45 fu (nI n) (nI m) D s l = (nI (ct p m), s2, l) ∧ p_X11_year_45 fu (nI n) (nI m) D s l := by
          unfold f_X11_year_45 p_X11_year_45
          obtain ⟨f2, hf2⟩ : ∃ f2, fu = f2 + 2 := ⟨fu - 2, by omega⟩
          have s1' : ∀ x1 x2 x3 x4 x5 D s l, f_X11_year_57 fu fu x1 x2 x3 x4 x5 D s l = f_X11_year_57 fu (f2 + 1 + 1) x1 x2 x3 x4 x5 D s l := by intros; rw [← hf2]
          have s2' : ∀ x1 x2 x3 x4 x5 D s l, p_X11_year_57 fu fu x1 x2 x3 x4 x5 D s l = p_X11_year_57 fu (f2 + 1 + 1) x1 x2 x3 x4 x5 D s l := by intros; rw [← hf2]
          rw [s1', s2']
          by_cases h0 : p 0 = true
          · have t3 := t3 h0
            rw [hc, if_pos h0]
            unfold f_X11_year_57 p_X11_year_57 f_X11_year_82 p_X11_year_82 f_X11_year_108 p_X11_year_108 f_X11_year_121 p_X11_year_121 f_X11_year_57 p_X11_year_57
            rw [hD]
            simp (disch := omega) only [ln_, leT, leF, ltT, ltF, eqT, eqF, vpT, nlT, nleT, lnF, lenF, eqnF, neqF, nnF, nI_add, pk_mul, pk_div, pk_sub, ni_m, nI_clamp, md10, dm10, gI_l, gI_n, ar_t, ar_f, it_t, it_f, true_and, and_true, not_true_eq_false, not_false_eq_true, implies_true, and_self, eq_self, e1, p1, a1, e2, p2, t3, p3]
          · have f3 := f3 (by simpa using h0)
            rw [hc, if_neg h0]
            unfold f_X11_year_57 p_X11_year_57 f_X11_year_82 p_X11_year_82 f_X11_year_108 p_X11_year_108 f_X11_year_121 p_X11_year_121 f_X11_year_57 p_X11_year_57
            rw [hD]
            simp (disch := omega) only [ln_, leT, leF, ltT, ltF, eqT, eqF, vpT, nlT, nleT, lnF, lenF, eqnF, neqF, nnF, nI_add, pk_mul, pk_div, pk_sub, ni_m, nI_clamp, md10, dm10, gI_l, gI_n, ar_t, ar_f, it_t, it_f, true_and, and_true, not_true_eq_false, not_false_eq_true, implies_true, and_self, eq_self, e1, p1, a1, e2, p2, f3, p3]
        obtain ⟨s5, e5, p5, k5⟩ := B s2 w2
        refine Qy_mk (nI (ct p m)) s2 s5 ?_ ?_ (cW_S w2) (cW_k w2) ?_ ?_ k5
        · rcases hal with rfl | rfl <;> simp (disch := omega) only [ln_, leT, leF, ltT, ltF, eqT, eqF, vpT, nlT, nleT, lnF, lenF, eqnF, neqF, nnF, nI_add, pk_mul, pk_div, pk_sub, ni_m, nI_clamp, md10, dm10, gI_l, gI_n, ar_t, ar_f, it_t, it_f, true_and, and_true, not_true_eq_false, not_false_eq_true, implies_true, and_self, eq_self, h17, hrn, A]
        · rcases hal with rfl | rfl <;> simp (disch := omega) only [ln_, leT, leF, ltT, ltF, eqT, eqF, vpT, nlT, nleT, lnF, lenF, eqnF, neqF, nnF, nI_add, pk_mul, pk_div, pk_sub, ni_m, nI_clamp, md10, dm10, gI_l, gI_n, ar_t, ar_f, it_t, it_f, true_and, and_true, not_true_eq_false, not_false_eq_true, implies_true, and_self, eq_self, h17, hrn, A]
        · simp (disch := omega) only [ln_, leT, leF, ltT, ltF, eqT, eqF, vpT, nlT, nleT, lnF, lenF, eqnF, neqF, nnF, nI_add, pk_mul, pk_div, pk_sub, ni_m, nI_clamp, md10, dm10, gI_l, gI_n, ar_t, ar_f, it_t, it_f, true_and, and_true, not_true_eq_false, not_false_eq_true, implies_true, and_self, eq_self, f_X12_isLong, f_X12_in, e5]
        · simp (disch := omega) only [ln_, leT, leF, ltT, ltF, eqT, eqF, vpT, nlT, nleT, lnF, lenF, eqnF, neqF, nnF, nI_add, pk_mul, pk_div, pk_sub, ni_m, nI_clamp, md10, dm10, gI_l, gI_n, ar_t, ar_f, it_t, it_f, true_and, and_true, not_true_eq_false, not_false_eq_true, implies_true, and_self, eq_self, f_X12_isLong, f_X12_in, p_isLgT, p_inT, p5]
      · have A := loop_i (fun f k (z : Int32 × fl_I) => ∃ s', f_X11_year_57 fu f (nI n) (nI m) (nI 0) z.1 (nI k) D z.2 l = (nI (ct p m), s', l) ∧ p_X11_year_57 fu f (nI n) (nI m) (nI 0) z.1 (nI k) D z.2 l ∧ cW s s') (fun k z => z.1 = nI (ct p k) ∧ cW s z.2) m ?_ ?_ fu 0 (nI 0, s) (Nat.zero_le _) (by omega) ⟨rfl, cW_rfl⟩
        · obtain ⟨s2, e2, p2, w2⟩ := A
          dsimp only at e2 p2
          obtain ⟨s5, e5, p5, k5⟩ := B s2 w2
          refine Qy_mk (nI (ct p m)) s2 s5 ?_ ?_ (cW_S w2) (cW_k w2) ?_ ?_ k5
          · simp (disch := omega) only [ln_, leT, leF, ltT, ltF, eqT, eqF, vpT, nlT, nleT, lnF, lenF, eqnF, neqF, nnF, nI_add, pk_mul, pk_div, pk_sub, ni_m, nI_clamp, md10, dm10, gI_l, gI_n, ar_t, ar_f, it_t, it_f, true_and, and_true, not_true_eq_false, not_false_eq_true, implies_true, and_self, eq_self, h17, hrn, e2]
          · simp (disch := omega) only [ln_, leT, leF, ltT, ltF, eqT, eqF, vpT, nlT, nleT, lnF, lenF, eqnF, neqF, nnF, nI_add, pk_mul, pk_div, pk_sub, ni_m, nI_clamp, md10, dm10, gI_l, gI_n, ar_t, ar_f, it_t, it_f, true_and, and_true, not_true_eq_false, not_false_eq_true, implies_true, and_self, eq_self, h17, hrn, p2]
          · simp (disch := omega) only [ln_, leT, leF, ltT, ltF, eqT, eqF, vpT, nlT, nleT, lnF, lenF, eqnF, neqF, nnF, nI_add, pk_mul, pk_div, pk_sub, ni_m, nI_clamp, md10, dm10, gI_l, gI_n, ar_t, ar_f, it_t, it_f, true_and, and_true, not_true_eq_false, not_false_eq_true, implies_true, and_self, eq_self, f_X12_isLong, f_X12_in, e5]
          · simp (disch := omega) only [ln_, leT, leF, ltT, ltF, eqT, eqF, vpT, nlT, nleT, lnF, lenF, eqnF, neqF, nnF, nI_add, pk_mul, pk_div, pk_sub, ni_m, nI_clamp, md10, dm10, gI_l, gI_n, ar_t, ar_f, it_t, it_f, true_and, and_true, not_true_eq_false, not_false_eq_true, implies_true, and_self, eq_self, f_X12_isLong, f_X12_in, p_isLgT, p_inT, p5]
        · intro f z hz
          obtain ⟨x1, s0⟩ := z
          obtain ⟨hz1, hk⟩ := hz
          dsimp only at hz1 hk ⊢
          refine ⟨s0, ?_, ?_, hk⟩
          · unfold f_X11_year_57
            simp (disch := omega) only [ln_, leT, leF, ltT, ltF, eqT, eqF, vpT, nlT, nleT, lnF, lenF, eqnF, neqF, nnF, nI_add, pk_mul, pk_div, pk_sub, ni_m, nI_clamp, md10, dm10, gI_l, gI_n, ar_t, ar_f, it_t, it_f, true_and, and_true, not_true_eq_false, not_false_eq_true, implies_true, and_self, eq_self, hz1]
          · unfold p_X11_year_57
            simp (disch := omega) only [ln_, leT, leF, ltT, ltF, eqT, eqF, vpT, nlT, nleT, lnF, lenF, eqnF, neqF, nnF, nI_add, pk_mul, pk_div, pk_sub, ni_m, nI_clamp, md10, dm10, gI_l, gI_n, ar_t, ar_f, it_t, it_f, true_and, and_true, not_true_eq_false, not_false_eq_true, implies_true, and_self, eq_self]
        · intro f k z hk0 hz ih
          replace ih := fun x1 s' => ih (x1, s')
          dsimp only at ih
          obtain ⟨x1, s0⟩ := z
          obtain ⟨hz1, hk⟩ := hz
          dsimp only at hz1 hk ⊢
          obtain ⟨s1, s2, e1, p1, a1, e2, p2, w2, p3, t3, f3⟩ := one s0 k hk (by omega)
          unfold p_X11_year_57 f_X11_year_57 f_X11_year_82 p_X11_year_82 f_X11_year_108 p_X11_year_108 f_X11_year_121 p_X11_year_121
          rw [hD]
          by_cases h0 : p k = true
          · have t3 := t3 h0
            simp (disch := omega) only [ln_, leT, leF, ltT, ltF, eqT, eqF, vpT, nlT, nleT, lnF, lenF, eqnF, neqF, nnF, nI_add, pk_mul, pk_div, pk_sub, ni_m, nI_clamp, md10, dm10, gI_l, gI_n, ar_t, ar_f, it_t, it_f, true_and, and_true, not_true_eq_false, not_false_eq_true, implies_true, and_self, eq_self, e1, p1, a1, e2, p2, t3, p3]
            exact ih _ _ ⟨by rw [hz1, ct_t h0, nI_add], w2⟩
          · have h0 : p k = false := by simpa using h0
            have f3 := f3 h0
            simp (disch := omega) only [ln_, leT, leF, ltT, ltF, eqT, eqF, vpT, nlT, nleT, lnF, lenF, eqnF, neqF, nnF, nI_add, pk_mul, pk_div, pk_sub, ni_m, nI_clamp, md10, dm10, gI_l, gI_n, ar_t, ar_f, it_t, it_f, true_and, and_true, not_true_eq_false, not_false_eq_true, implies_true, and_self, eq_self, e1, p1, a1, e2, p2, f3, p3]
            exact ih _ _ ⟨by rw [hz1, ct_f h0], w2⟩
end yea
