/-! What would be: loss, pieceIn, pickerIn, late, stand, year -/
section wld
variable {fu t lv P np nl nw : Nat} {ht sg lo : Nat → Nat} {wd : Nat → List Nat} {wx wy rn sd : Int32} {LW : Lw} {Y : Yd} {s s1 s2 : fl_I} {l : fl_L} {D : fl_D} {a i b c q k n : Nat} {x y z v : Int32} {st : Bool} {Z : Yd}
/-- nothing but what would be, and how laws are told, has changed -/
def cW (s s' : fl_I) : Prop := ∀ q, (q < 37 ∨ 42 < q) → q ≠ 48 → q ≠ 49 → q ≠ 50 → s' q = s q
theorem cW_rfl : cW s s := fun _ _ _ _ _ => rfl
theorem cW_tr (h : cW s s1) (h' : cW s1 s2) : cW s s2 := fun q a b c d => (h' q a b c d).trans (h q a b c d)
theorem cW_S (h : cW s s1) : cS s s1 := fun q a b c d _ _ _ _ => h q a b c d
theorem cW_k (h : cW s s1) : ∀ q, 107 ≤ q → s1 q = s q := fun q hq => h q (by omega) (by omega) (by omega) (by omega)
/-- hours in what would be -/
theorem c_run (hfu : 20000 ≤ fu) (cv : CV fu t P np nl nw ht sg lo wd wx wy rn sd LW Y s l) (w : cW s s1) (y : yC P np Z 37 s1) (yw : YW P np ht Z) (hn : n ≤ 100) (hx : (st = true ∧ x = -nI 1) ∨ (st = false ∧ ¬ x = -nI 1)) :
    ∃ s', f_X9_goOn fu (nI n) x t 37 s1 l = (s', l) ∧ p_X9_goOn fu (nI n) x t 37 s1 l ∧ yC P np (goY LW sg ht wx wy rn P np st x Z n) 37 s' ∧ cW s s' := by
  obtain ⟨ht0, ⟨_, hT2, hT3, ⟨h15, h16, h17, _⟩, _⟩, hL, hC, _, _, _⟩ := cv
  have g : ∀ q, t ≤ q → q ≤ t + 10 → s1 q = s q := fun q a b => w q (by omega) (by omega) (by omega) (by omega)
  obtain ⟨s', e, p, y', r⟩ := c_goOn (l := l) (sg := sg) (wx := wx) (wy := wy) (rn := rn) hfu y yw (LC_keep (g (t + 9) (by omega) (by omega)) (g (t + 10) (by omega) (by omega)) hL) hC ht0 (.inr rfl) (fun i hi => by rw [g (t + 4) (by omega) (by omega)]; exact (hT2 i hi).1) (fun b hb => by rw [g (t + 8) (by omega) (by omega)]; exact hT3 b hb) (by rw [g t (by omega) (by omega)]; exact h15) (by rw [g t (by omega) (by omega)]; exact h16) (by rw [g t (by omega) (by omega)]; exact h17) hn hx
  exact ⟨s', e, p, y', fun q a b c d => by rw [r q (by omega) b c d]; exact w q a b c d⟩
theorem c_loss (hfu : 20000 ≤ fu) (cv : CV fu t P np nl nw ht sg lo wd wx wy rn sd LW Y s l) (w : cW s s1) (y : yC P np Z 37 s1) (yw : YW P np ht Z) :
    ∃ s', f_X9_takesOfAll fu t 37 s1 l = (nI (sm (fun i => if Z.2.1 i < 80 then hdN (LW 1 (vrs sg P Z i)) 99 else 0) P), s', l) ∧ p_X9_takesOfAll fu t 37 s1 l ∧ cW s s' := by
  obtain ⟨ht0, ⟨_, hT2, hT3, ⟨h15, h16, h17, _⟩, _⟩, hL, hC, _, _, _⟩ := cv
  have g : ∀ q, t ≤ q → q ≤ t + 10 → s1 q = s q := fun q a b => w q (by omega) (by omega) (by omega) (by omega)
  obtain ⟨s', e, p, r⟩ := c_takes (l := l) (sg := sg) hfu (LC_keep (g (t + 9) (by omega) (by omega)) (g (t + 10) (by omega) (by omega)) hL) hC y yw ht0 (.inr rfl) (fun i hi => by rw [g (t + 4) (by omega) (by omega)]; exact (hT2 i hi).1)
  exact ⟨s', e, p, fun q a b c d => by rw [r q b c d]; exact w q a b c d⟩
theorem c_cp (cv : CV fu t P np nl nw ht sg lo wd wx wy rn sd LW Y s l) (w : cW s s1) : ∃ s', f_X10_copy fu 37 31 s1 l = (s', l) ∧ p_X10_copy fu 37 31 s1 l ∧ yC P np Y 37 s' ∧ cW s s' := by
  obtain ⟨_, _, _, _, yc, yw, _⟩ := cv
  obtain ⟨s', e, p, y, r⟩ := c_copy (fu := fu) (a := 37) (l := l) (yC_keep (fun k hk => w (31 + k) (by omega) (by omega) (by omega) (by omega)) yc) yw.1 yw.2.1 (by omega)
  exact ⟨s', e, p, y, fun q a b c d => by rw [r q (by omega)]; exact w q a b c d⟩
theorem r_run (hfu : 20000 ≤ fu) (rv : RV fu lv P np nl nw ht sg lo wd wx wy rn sd LW Y s l) (h : rS s s1) (y : YF P np Z (s1 95)) (yw : YW P np ht Z) (hst : s1 60 53 = if st = true then nI 1 else nI 0) (hn : n ≤ 100) :
    ∃ s', f_X12_goes fu (nI n) s1 l = (s', l) ∧ p_X12_goes fu (nI n) s1 l ∧ YF P np (goY LW sg ht wx wy rn P np st (s1 60 52) Z n) (s' 95) ∧ rS s s' ∧ s' 60 53 = s1 60 53 ∧ s' 60 52 = s1 60 52 := by
  obtain ⟨rt, rx, lr, hC, yf, _, _⟩ := rv
  obtain ⟨s', e, p, y', r⟩ := r_goes (st := st) (l := l) hfu (rT_S (rS_V h) rt) y yw (LR_S (rS_V h) lr) hC hst hn
  exact ⟨s', e, p, y', rS_tr h (rR_S r), r.2 53 (by omega), r.2 52 (by omega)⟩
theorem r_loss (hfu : 20000 ≤ fu) (rv : RV fu lv P np nl nw ht sg lo wd wx wy rn sd LW Y s l) (h : rS s s1) (y : YF P np Z (s1 95)) (yw : YW P np ht Z) :
    ∃ s', f_X12_lossNow fu s1 l = (nI (sm (fun i => if Z.2.1 i < 80 then hdN (LW 1 (vrs sg P Z i)) 99 else 0) P), s', l) ∧ p_X12_lossNow fu s1 l ∧ rS s s' := by
  obtain ⟨rt, rx, lr, hC, yf, _, _⟩ := rv
  obtain ⟨s', e, p, r⟩ := r_lossNow (l := l) hfu (rT_S (rS_V h) rt) y yw (LR_S (rS_V h) lr) hC
  exact ⟨s', e, p, rS_tr h (rK_S r)⟩
theorem r_cp (hfu : 20000 ≤ fu) (rv : RV fu lv P np nl nw ht sg lo wd wx wy rn sd LW Y s l) (h : rS s s1) : ∃ s', f_X12_copies fu s1 l = (s', l) ∧ p_X12_copies fu s1 l ∧ YF P np Y (s' 95) ∧ s' 60 52 = sd ∧ s' 60 53 = nI 0 ∧ rS s s' := by
  obtain ⟨rt, rx, lr, hC, yf, yw, _⟩ := RV_S (rS_V h) rv
  obtain ⟨s2, e2, p2, y2, k1, k2, k3, k4⟩ := r_copies (l := l) hfu rt yf yw
  exact ⟨s2, e2, p2, y2, k1, k2, rS_tr h (cp_S k3 k4)⟩
theorem r_cps (hfu : 20000 ≤ fu) (rv : RV fu lv P np nl nw ht sg lo wd wx wy rn sd LW Y s l) (h : rS s s1) : ∃ s', f_X12_copiesStill fu s1 l = (s', l) ∧ p_X12_copiesStill fu s1 l ∧ YF P np Y (s' 95) ∧ s' 60 52 = sd ∧ s' 60 53 = nI 1 ∧ rS s s' := by
  obtain ⟨s2, e2, p2, y2, k1, k2, k3⟩ := r_cp (l := l) hfu rv h
  refine ⟨wi s2 60 53 (nI 1), ?_, ?_, ?_, ?_, ?_, ?_⟩
  · unfold f_X12_copiesStill; rw [e2]; rfl
  · unfold p_X12_copiesStill; simp (disch := omega) only [ar_t, ar_f, it_t, it_f, true_and, and_true, not_true_eq_false, not_false_eq_true, implies_true, and_self, eq_self, p2]
  · simp (disch := omega) only [wi_c, wi_u, upd_s, upd_n, su_r, su_c]; exact y2
  · simp (disch := omega) only [wi_c, wi_u, upd_s, upd_n, su_r, su_c]; exact k1
  · simp (disch := omega) only [wi_c, wi_u, upd_s, upd_n, su_r, su_c]
  · refine ⟨fun q a b c d e f g i => ?_, fun j a b c d e => ?_⟩
    · simp (disch := omega) only [wi_c, wi_u, upd_s, upd_n, su_r, su_c]; exact k3.1 q a b c d e f g i
    · simp (disch := omega) only [wi_c, wi_u, upd_s, upd_n, su_r, su_c]; exact k3.2 j a b c d e
theorem sd_ne (tb : TB P np nl nw ht sg lo wd rn sd) : ¬ sd = -nI 1 := by
  obtain ⟨d, hd, rfl⟩ := tb.2.2.2.2.2.2.2.2
  rw [eqnF (by omega) (by omega) (by omega)]; exact fun h => h
theorem hrY_st {sd' : Int32} : hrY LW sg ht wx wy rn P np true sd Y = hrY LW sg ht wx wy rn P np true sd' Y := by
  unfold hrY
  rw [if_neg (fun h => Bool.noConfusion h.1), if_neg (fun h => Bool.noConfusion h.1)]
theorem goY_st {sd' : Int32} : goY LW sg ht wx wy rn P np true sd Y n = goY LW sg ht wx wy rn P np true sd' Y n := by
  induction n with
  | zero => rfl
  | succ n ih => show hrY _ _ _ _ _ _ _ _ _ _ (goY _ _ _ _ _ _ _ _ _ _ _ n) = _; rw [ih]; exact hrY_st
theorem m_loss (hfu : 20000 ≤ fu) (hD : (if D.2.2.1 then 20 else 9) = t) (cv : CV fu t P np nl nw ht sg lo wd wx wy rn sd LW Y s l) (rv : RV fu lv P np nl nw ht sg lo wd wx wy rn sd LW Y s l) : Qy s l (f_X11_loss fu x D s l) (p_X11_loss fu x D s l) (f_X12_loss fu x) (p_X12_loss fu x) := by
  have yw := cv.2.2.2.2.2.1
  unfold f_X11_loss p_X11_loss f_X12_loss p_X12_loss
  rw [hD]
  rcases ag3 x 0 40 (by omega) (by omega) with h | ⟨h1, h2, h3⟩ | ⟨n, _, hn, rfl⟩
  · refine Qy_mk (-nI 1) s s ?_ ?_ cS_rfl (fun _ _ => rfl) ?_ ?_ rS_rfl <;> simp (disch := omega) only [ln_, leT, leF, ltT, ltF, eqT, eqF, vpT, nlT, nleT, lnF, lenF, eqnF, neqF, nnF, nI_add, pk_mul, pk_div, pk_sub, ni_m, nI_clamp, md10, dm10, gI_l, gI_n, ar_t, ar_f, it_t, it_f, true_and, and_true, not_true_eq_false, not_false_eq_true, implies_true, and_self, eq_self, f_X12_isLong, f_X12_in, h, p_isLgT]
  · refine Qy_mk (-nI 1) s s ?_ ?_ cS_rfl (fun _ _ => rfl) ?_ ?_ rS_rfl <;> simp (disch := omega) only [ln_, leT, leF, ltT, ltF, eqT, eqF, vpT, nlT, nleT, lnF, lenF, eqnF, neqF, nnF, nI_add, pk_mul, pk_div, pk_sub, ni_m, nI_clamp, md10, dm10, gI_l, gI_n, ar_t, ar_f, it_t, it_f, true_and, and_true, not_true_eq_false, not_false_eq_true, implies_true, and_self, eq_self, f_X12_isLong, f_X12_in, h1, h2, h3, p_isLgT]
  · obtain ⟨s1, e1, p1, y1, w1⟩ := c_cp (fu := fu) cv cW_rfl
    obtain ⟨s2, e2, p2, y2, w2⟩ := c_run (n := n) (st := true) hfu cv w1 y1 yw (by omega) (.inl ⟨rfl, rfl⟩)
    obtain ⟨s3, e3, p3, w3⟩ := c_loss hfu cv w2 y2 (goY_W yw)
    have rv := RV_S (cS_V (cW_S w3)) rv
    obtain ⟨s4, e4, p4, y4, a4, b4, k4⟩ := r_cps hfu rv rS_rfl
    obtain ⟨s5, e5, p5, y5, k5, _, _⟩ := r_run (n := n) (st := true) hfu rv k4 y4 yw b4 (by omega)
    have y5 : YF P np (goY LW sg ht wx wy rn P np true (-nI 1) Y n) (s5 95) := by
      rw [goY_st (sd' := s4 60 52)]; exact y5
    obtain ⟨s6, e6, p6, k6⟩ := r_loss hfu rv k5 y5 (goY_W yw)
    refine Qy_mk (nI (sm (fun i => if (goY LW sg ht wx wy rn P np true (-nI 1) Y n).2.1 i < 80 then hdN (LW 1 (vrs sg P (goY LW sg ht wx wy rn P np true (-nI 1) Y n) i)) 99 else 0) P)) s3 s6 ?_ ?_ (cW_S w3) (cW_k w3) ?_ ?_ k6
    · simp (disch := omega) only [ln_, leT, leF, ltT, ltF, eqT, eqF, vpT, nlT, nleT, lnF, lenF, eqnF, neqF, nnF, nI_add, pk_mul, pk_div, pk_sub, ni_m, nI_clamp, md10, dm10, gI_l, gI_n, ar_t, ar_f, it_t, it_f, true_and, and_true, not_true_eq_false, not_false_eq_true, implies_true, and_self, eq_self, e1, e2, e3]
    · simp (disch := omega) only [ln_, leT, leF, ltT, ltF, eqT, eqF, vpT, nlT, nleT, lnF, lenF, eqnF, neqF, nnF, nI_add, pk_mul, pk_div, pk_sub, ni_m, nI_clamp, md10, dm10, gI_l, gI_n, ar_t, ar_f, it_t, it_f, true_and, and_true, not_true_eq_false, not_false_eq_true, implies_true, and_self, eq_self, e1, p1, e2, p2, e3, p3]
    · simp (disch := omega) only [ln_, leT, leF, ltT, ltF, eqT, eqF, vpT, nlT, nleT, lnF, lenF, eqnF, neqF, nnF, nI_add, pk_mul, pk_div, pk_sub, ni_m, nI_clamp, md10, dm10, gI_l, gI_n, ar_t, ar_f, it_t, it_f, true_and, and_true, not_true_eq_false, not_false_eq_true, implies_true, and_self, eq_self, f_X12_isLong, f_X12_in, e4, e5, e6]
    · simp (disch := omega) only [ln_, leT, leF, ltT, ltF, eqT, eqF, vpT, nlT, nleT, lnF, lenF, eqnF, neqF, nnF, nI_add, pk_mul, pk_div, pk_sub, ni_m, nI_clamp, md10, dm10, gI_l, gI_n, ar_t, ar_f, it_t, it_f, true_and, and_true, not_true_eq_false, not_false_eq_true, implies_true, and_self, eq_self, f_X12_isLong, f_X12_in, p_isLgT, e4, p4, e5, p5, e6, p6]
theorem m_pieceIn (hfu : 20000 ≤ fu) (hD : (if D.2.2.1 then 20 else 9) = t) (cv : CV fu t P np nl nw ht sg lo wd wx wy rn sd LW Y s l) (rv : RV fu lv P np nl nw ht sg lo wd wx wy rn sd LW Y s l) : Qy s l (f_X11_pieceIn fu v x y D s l) (p_X11_pieceIn fu v x y D s l) (f_X12_pieceIn fu v x y) (p_X12_pieceIn fu v x y) := by
  have cv0 := cv
  obtain ⟨ht0, hT, hL, hC, yc, yw, tb⟩ := cv
  have hn := yw.2.1
  have hP := yw.1
  have h18 := hT.2.2.2.1.2.2.2
  have pk := fun s1 => p_isPc2 (fu := fu) (x := v) (s := s1) (l := l)
  unfold f_X11_pieceIn p_X11_pieceIn f_X12_pieceIn p_X12_pieceIn
  rw [hD]
  rcases ag v P (by omega) with h | ⟨i, hi, rfl⟩
  · have h1 := pc_no (fu := fu) (l := l) yc h
    have h2 := pc_no2 (fu := fu) (l := l) rv.1 hP h
    refine Qy_mk (-nI 1) s s ?_ ?_ cS_rfl (fun _ _ => rfl) ?_ ?_ rS_rfl <;> simp (disch := omega) only [ln_, leT, leF, ltT, ltF, eqT, eqF, vpT, nlT, nleT, lnF, lenF, eqnF, neqF, nnF, nI_add, pk_mul, pk_div, pk_sub, ni_m, nI_clamp, md10, dm10, gI_l, gI_n, ar_t, ar_f, it_t, it_f, true_and, and_true, not_true_eq_false, not_false_eq_true, implies_true, and_self, eq_self, h1, h2, p_isPcT, pk]
  · have g1 := pc_yes (fu := fu) (l := l) yc hP hi
    have g2 := pc_yes2 (fu := fu) (l := l) rv.1 hP hi
    rcases ag3 x 0 40 (by omega) (by omega) with h | ⟨h1, h2, h3⟩ | ⟨n, _, hn4, rfl⟩
    · refine Qy_mk (-nI 1) s s ?_ ?_ cS_rfl (fun _ _ => rfl) ?_ ?_ rS_rfl <;> simp (disch := omega) only [ln_, leT, leF, ltT, ltF, eqT, eqF, vpT, nlT, nleT, lnF, lenF, eqnF, neqF, nnF, nI_add, pk_mul, pk_div, pk_sub, ni_m, nI_clamp, md10, dm10, gI_l, gI_n, ar_t, ar_f, it_t, it_f, true_and, and_true, not_true_eq_false, not_false_eq_true, implies_true, and_self, eq_self, g1, g2, p_isPcT, pk, f_X12_isLong, f_X12_in, h, p_isLgT]
    · refine Qy_mk (-nI 1) s s ?_ ?_ cS_rfl (fun _ _ => rfl) ?_ ?_ rS_rfl <;> simp (disch := omega) only [ln_, leT, leF, ltT, ltF, eqT, eqF, vpT, nlT, nleT, lnF, lenF, eqnF, neqF, nnF, nI_add, pk_mul, pk_div, pk_sub, ni_m, nI_clamp, md10, dm10, gI_l, gI_n, ar_t, ar_f, it_t, it_f, true_and, and_true, not_true_eq_false, not_false_eq_true, implies_true, and_self, eq_self, g1, g2, p_isPcT, pk, f_X12_isLong, f_X12_in, h1, h2, h3, p_isLgT]
    · rcases ag3 y 0 2 (by omega) (by omega) with h | ⟨h1, h2, h3⟩ | ⟨j, _, hj, rfl⟩
      · refine Qy_mk (-nI 1) s s ?_ ?_ cS_rfl (fun _ _ => rfl) ?_ ?_ rS_rfl <;> simp (disch := omega) only [ln_, leT, leF, ltT, ltF, eqT, eqF, vpT, nlT, nleT, lnF, lenF, eqnF, neqF, nnF, nI_add, pk_mul, pk_div, pk_sub, ni_m, nI_clamp, md10, dm10, gI_l, gI_n, ar_t, ar_f, it_t, it_f, true_and, and_true, not_true_eq_false, not_false_eq_true, implies_true, and_self, eq_self, g1, g2, p_isPcT, pk, f_X12_isLong, f_X12_in, h, p_isLgT, p_inT]
      · refine Qy_mk (-nI 1) s s ?_ ?_ cS_rfl (fun _ _ => rfl) ?_ ?_ rS_rfl <;> simp (disch := omega) only [ln_, leT, leF, ltT, ltF, eqT, eqF, vpT, nlT, nleT, lnF, lenF, eqnF, neqF, nnF, nI_add, pk_mul, pk_div, pk_sub, ni_m, nI_clamp, md10, dm10, gI_l, gI_n, ar_t, ar_f, it_t, it_f, true_and, and_true, not_true_eq_false, not_false_eq_true, implies_true, and_self, eq_self, g1, g2, p_isPcT, pk, f_X12_isLong, f_X12_in, h1, h2, h3, p_isLgT, p_inT]
      · obtain ⟨s1, e1, p1, y1, w1⟩ := c_cp (fu := fu) cv0 cW_rfl
        have h18 : s1 t 18 = sd := by rw [w1 t (by omega) (by omega) (by omega) (by omega)]; exact h18
        obtain ⟨s2, e2, p2, y2, w2⟩ := c_run (n := n) (st := false) hfu cv0 w1 y1 yw (by omega) (.inr ⟨rfl, sd_ne tb⟩)
        have wz := goY_W (LW := LW) (sg := sg) (wx := wx) (wy := wy) (rn := rn) (st := false) (sd := sd) (n := n) yw
        have hho := c_holder (fu := fu) (l := l) y2 wz hi
        have hce := c_cellOf (fu := fu) (l := l) y2 wz hi
        have hcl := cell_lt wz hi
        have rv := RV_S (cS_V (cW_S w2)) rv
        obtain ⟨s4, e4, p4, y4, a4, b4, k4⟩ := r_cp hfu rv rS_rfl
        obtain ⟨s5, e5, p5, y5, k5, _, _⟩ := r_run (n := n) (st := false) hfu rv k4 y4 yw b4 (by omega)
        rw [a4] at y5
        have g2 := pc_yes2 (fu := fu) (l := l) rv.1 hP hi
        have hac := r_across (fu := fu) (l := l) y5 wz hi
        have hdo := r_down (fu := fu) (l := l) y5 wz hi
        obtain ⟨q1, q2, q3⟩ := y5.2.1 i hi
        have a2 : s5 95 (64 + i) = if (goY LW sg ht wx wy rn P np false sd Y n).2.1 i < 80 then -nI 2 else nI ((goY LW sg ht wx wy rn P np false sd Y n).2.1 i - 80) := by
          by_cases h : (goY LW sg ht wx wy rn P np false sd Y n).2.1 i < 80
          · rw [if_pos h]; exact (q1 h).2.2
          · rw [if_neg h]; exact q2 (by omega)
        have hj : j = 0 ∨ j = 1 ∨ j = 2 := by omega
        rcases hj with rfl | rfl | rfl
        · refine Qy_mk (nI ((if (goY LW sg ht wx wy rn P np false sd Y n).2.1 i < 80 then (goY LW sg ht wx wy rn P np false sd Y n).2.1 i else (goY LW sg ht wx wy rn P np false sd Y n).2.2.2.1 ((goY LW sg ht wx wy rn P np false sd Y n).2.1 i - 80)) % 10)) s2 s5 ?_ ?_ (cW_S w2) (cW_k w2) ?_ ?_ k5 <;> simp (disch := omega) only [ln_, leT, leF, ltT, ltF, eqT, eqF, vpT, nlT, nleT, lnF, lenF, eqnF, neqF, nnF, nI_add, pk_mul, pk_div, pk_sub, ni_m, nI_clamp, md10, dm10, gI_l, gI_n, ar_t, ar_f, it_t, it_f, true_and, and_true, not_true_eq_false, not_false_eq_true, implies_true, and_self, eq_self, g1, g2, p_isPcT, pk, f_X12_isLong, f_X12_in, p_isLgT, p_inT, e1, p1, h18, e2, p2, hho, hce, e4, p4, e5, p5, hac]
        · refine Qy_mk (nI ((if (goY LW sg ht wx wy rn P np false sd Y n).2.1 i < 80 then (goY LW sg ht wx wy rn P np false sd Y n).2.1 i else (goY LW sg ht wx wy rn P np false sd Y n).2.2.2.1 ((goY LW sg ht wx wy rn P np false sd Y n).2.1 i - 80)) / 10)) s2 s5 ?_ ?_ (cW_S w2) (cW_k w2) ?_ ?_ k5 <;> simp (disch := omega) only [ln_, leT, leF, ltT, ltF, eqT, eqF, vpT, nlT, nleT, lnF, lenF, eqnF, neqF, nnF, nI_add, pk_mul, pk_div, pk_sub, ni_m, nI_clamp, md10, dm10, gI_l, gI_n, ar_t, ar_f, it_t, it_f, true_and, and_true, not_true_eq_false, not_false_eq_true, implies_true, and_self, eq_self, g1, g2, p_isPcT, pk, f_X12_isLong, f_X12_in, p_isLgT, p_inT, e1, p1, h18, e2, p2, hho, hce, e4, p4, e5, p5, hdo]
        · refine Qy_mk (if (goY LW sg ht wx wy rn P np false sd Y n).2.1 i < 80 then -nI 2 else nI ((goY LW sg ht wx wy rn P np false sd Y n).2.1 i - 80)) s2 s5 ?_ ?_ (cW_S w2) (cW_k w2) ?_ ?_ k5 <;> simp (disch := omega) only [ln_, leT, leF, ltT, ltF, eqT, eqF, vpT, nlT, nleT, lnF, lenF, eqnF, neqF, nnF, nI_add, pk_mul, pk_div, pk_sub, ni_m, nI_clamp, md10, dm10, gI_l, gI_n, ar_t, ar_f, it_t, it_f, true_and, and_true, not_true_eq_false, not_false_eq_true, implies_true, and_self, eq_self, g1, g2, p_isPcT, pk, f_X12_isLong, f_X12_in, p_isLgT, p_inT, e1, p1, h18, e2, p2, hho, hce, e4, p4, e5, p5, a2]
theorem m_pickerIn (hfu : 20000 ≤ fu) (hD : (if D.2.2.1 then 20 else 9) = t) (cv : CV fu t P np nl nw ht sg lo wd wx wy rn sd LW Y s l) (rv : RV fu lv P np nl nw ht sg lo wd wx wy rn sd LW Y s l) : Qy s l (f_X11_pickerIn fu v x y D s l) (p_X11_pickerIn fu v x y D s l) (f_X12_pickerIn fu v x y) (p_X12_pickerIn fu v x y) := by
  have cv0 := cv
  obtain ⟨ht0, hT, hL, hC, yc, yw, tb⟩ := cv
  have hn := yw.2.1
  have hP := yw.1
  have h18 := hT.2.2.2.1.2.2.2
  have pk := p_isPk2 (fu := fu) (x := v) (l := l) rv.1
  unfold f_X11_pickerIn p_X11_pickerIn f_X12_pickerIn p_X12_pickerIn
  rw [hD]
  rcases ag v np (by omega) with h | ⟨i, hi, rfl⟩
  · have h1 := pk_no (fu := fu) (l := l) yc h
    have h2 := pk_no2 (fu := fu) (l := l) rv.1 hn h
    refine Qy_mk (-nI 1) s s ?_ ?_ cS_rfl (fun _ _ => rfl) ?_ ?_ rS_rfl <;> simp (disch := omega) only [ln_, leT, leF, ltT, ltF, eqT, eqF, vpT, nlT, nleT, lnF, lenF, eqnF, neqF, nnF, nI_add, pk_mul, pk_div, pk_sub, ni_m, nI_clamp, md10, dm10, gI_l, gI_n, ar_t, ar_f, it_t, it_f, true_and, and_true, not_true_eq_false, not_false_eq_true, implies_true, and_self, eq_self, h1, h2, p_isPkT, pk]
  · have g1 := pk_yes (fu := fu) (l := l) yc hn hi
    have g2 := pk_yes2 (fu := fu) (l := l) rv.1 hn hi
    rcases ag3 x 0 40 (by omega) (by omega) with h | ⟨h1, h2, h3⟩ | ⟨n, _, hn4, rfl⟩
    · refine Qy_mk (-nI 1) s s ?_ ?_ cS_rfl (fun _ _ => rfl) ?_ ?_ rS_rfl <;> simp (disch := omega) only [ln_, leT, leF, ltT, ltF, eqT, eqF, vpT, nlT, nleT, lnF, lenF, eqnF, neqF, nnF, nI_add, pk_mul, pk_div, pk_sub, ni_m, nI_clamp, md10, dm10, gI_l, gI_n, ar_t, ar_f, it_t, it_f, true_and, and_true, not_true_eq_false, not_false_eq_true, implies_true, and_self, eq_self, g1, g2, p_isPkT, pk, f_X12_isLong, f_X12_in, h, p_isLgT]
    · refine Qy_mk (-nI 1) s s ?_ ?_ cS_rfl (fun _ _ => rfl) ?_ ?_ rS_rfl <;> simp (disch := omega) only [ln_, leT, leF, ltT, ltF, eqT, eqF, vpT, nlT, nleT, lnF, lenF, eqnF, neqF, nnF, nI_add, pk_mul, pk_div, pk_sub, ni_m, nI_clamp, md10, dm10, gI_l, gI_n, ar_t, ar_f, it_t, it_f, true_and, and_true, not_true_eq_false, not_false_eq_true, implies_true, and_self, eq_self, g1, g2, p_isPkT, pk, f_X12_isLong, f_X12_in, h1, h2, h3, p_isLgT]
    · rcases ag3 y 0 2 (by omega) (by omega) with h | ⟨h1, h2, h3⟩ | ⟨j, _, hj, rfl⟩
      · refine Qy_mk (-nI 1) s s ?_ ?_ cS_rfl (fun _ _ => rfl) ?_ ?_ rS_rfl <;> simp (disch := omega) only [ln_, leT, leF, ltT, ltF, eqT, eqF, vpT, nlT, nleT, lnF, lenF, eqnF, neqF, nnF, nI_add, pk_mul, pk_div, pk_sub, ni_m, nI_clamp, md10, dm10, gI_l, gI_n, ar_t, ar_f, it_t, it_f, true_and, and_true, not_true_eq_false, not_false_eq_true, implies_true, and_self, eq_self, g1, g2, p_isPkT, pk, f_X12_isLong, f_X12_in, h, p_isLgT, p_inT]
      · refine Qy_mk (-nI 1) s s ?_ ?_ cS_rfl (fun _ _ => rfl) ?_ ?_ rS_rfl <;> simp (disch := omega) only [ln_, leT, leF, ltT, ltF, eqT, eqF, vpT, nlT, nleT, lnF, lenF, eqnF, neqF, nnF, nI_add, pk_mul, pk_div, pk_sub, ni_m, nI_clamp, md10, dm10, gI_l, gI_n, ar_t, ar_f, it_t, it_f, true_and, and_true, not_true_eq_false, not_false_eq_true, implies_true, and_self, eq_self, g1, g2, p_isPkT, pk, f_X12_isLong, f_X12_in, h1, h2, h3, p_isLgT, p_inT]
      · obtain ⟨s1, e1, p1, y1, w1⟩ := c_cp (fu := fu) cv0 cW_rfl
        have h18 : s1 t 18 = sd := by rw [w1 t (by omega) (by omega) (by omega) (by omega)]; exact h18
        obtain ⟨s2, e2, p2, y2, w2⟩ := c_run (n := n) (st := false) hfu cv0 w1 y1 yw (by omega) (.inr ⟨rfl, sd_ne tb⟩)
        have wz := goY_W (LW := LW) (sg := sg) (wx := wx) (wy := wy) (rn := rn) (st := false) (sd := sd) (n := n) yw
        have rv := RV_S (cS_V (cW_S w2)) rv
        obtain ⟨s4, e4, p4, y4, a4, b4, k4⟩ := r_cp hfu rv rS_rfl
        obtain ⟨s5, e5, p5, y5, k5, _, _⟩ := r_run (n := n) (st := false) hfu rv k4 y4 yw b4 (by omega)
        rw [a4] at y5
        have g2 := pk_yes2 (fu := fu) (l := l) rv.1 hn hi
        have pk := p_isPk2 (fu := fu) (x := nI i) (l := l) rv.1
        generalize goY LW sg ht wx wy rn P np false sd Y n = Z at y2 y5 wz
        have h40 : s2 40 i = nI (Z.2.2.2.1 i) := (y2.2.2.2.2 i hi).1
        have h42 : s2 42 i = nI (cnt Z.2.1 P i) := (y2.2.2.2.2 i hi).2.2
        obtain ⟨b3, b4, b5⟩ := y5.2.2 i hi
        have w80 := (wz.2.2.2 i hi).1
        have hih := r_inHat (fu := fu) (l := l) (s := s5) hfu (rT_S (rS_V k5) rv.1).2.2.1 y5 wz (show i < 4 by omega)
        have hj : j = 0 ∨ j = 1 ∨ j = 2 := by omega
        rcases hj with rfl | rfl | rfl
        · refine Qy_mk (nI (Z.2.2.2.1 i % 10)) s2 s5 ?_ ?_ (cW_S w2) (cW_k w2) ?_ ?_ k5 <;> simp (disch := omega) only [ln_, leT, leF, ltT, ltF, eqT, eqF, vpT, nlT, nleT, lnF, lenF, eqnF, neqF, nnF, nI_add, pk_mul, pk_div, pk_sub, ni_m, nI_clamp, md10, dm10, gI_l, gI_n, ar_t, ar_f, it_t, it_f, true_and, and_true, not_true_eq_false, not_false_eq_true, implies_true, and_self, eq_self, g1, g2, p_isPkT, pk, f_X12_isLong, f_X12_in, p_isLgT, p_inT, e1, p1, h18, e2, p2, h40, e4, p4, e5, p5, b3, Nat.reduceMul, Nat.reduceAdd]
        · refine Qy_mk (nI (Z.2.2.2.1 i / 10)) s2 s5 ?_ ?_ (cW_S w2) (cW_k w2) ?_ ?_ k5 <;> simp (disch := omega) only [ln_, leT, leF, ltT, ltF, eqT, eqF, vpT, nlT, nleT, lnF, lenF, eqnF, neqF, nnF, nI_add, pk_mul, pk_div, pk_sub, ni_m, nI_clamp, md10, dm10, gI_l, gI_n, ar_t, ar_f, it_t, it_f, true_and, and_true, not_true_eq_false, not_false_eq_true, implies_true, and_self, eq_self, g1, g2, p_isPkT, pk, f_X12_isLong, f_X12_in, p_isLgT, p_inT, e1, p1, h18, e2, p2, h40, e4, p4, e5, p5, b4, Nat.reduceMul, Nat.reduceAdd]
        · refine Qy_mk (nI (cnt Z.2.1 P i)) s2 s5 ?_ ?_ (cW_S w2) (cW_k w2) ?_ ?_ k5 <;> simp (disch := omega) only [ln_, leT, leF, ltT, ltF, eqT, eqF, vpT, nlT, nleT, lnF, lenF, eqnF, neqF, nnF, nI_add, pk_mul, pk_div, pk_sub, ni_m, nI_clamp, md10, dm10, gI_l, gI_n, ar_t, ar_f, it_t, it_f, true_and, and_true, not_true_eq_false, not_false_eq_true, implies_true, and_self, eq_self, g1, g2, p_isPkT, pk, f_X12_isLong, f_X12_in, p_isLgT, p_inT, e1, p1, h18, e2, p2, h42, e4, p4, e5, p5, hih]
/-- the first hour from i on, of m, in which nothing lies -/
def lat (c : Nat → Nat) : Nat → Nat → Int32
  | 0, _ => -nI 2
  | m + 1, i => if c i = 0 then nI i else lat c m (i + 1)
theorem m_late (hfu : 20000 ≤ fu) (hD : (if D.2.2.1 then 20 else 9) = t) (cv : CV fu t P np nl nw ht sg lo wd wx wy rn sd LW Y s l) (rv : RV fu lv P np nl nw ht sg lo wd wx wy rn sd LW Y s l) : Qy s l (f_X11_late fu D s l) (p_X11_late fu D s l) (f_X12_late fu) (p_X12_late fu) := by
  have yw := cv.2.2.2.2.2.1
  have hP := yw.1
  have hlb : ∀ i, lyn (goY LW sg ht wx wy rn P np true (-nI 1) Y i).2.1 P ≤ 32 := fun i => Nat.le_trans (ct_le _ _) hP
  have wz := fun i => goY_W (LW := LW) (sg := sg) (wx := wx) (wy := wy) (rn := rn) (st := true) (sd := -nI 1) (n := i) yw
  obtain ⟨s1, e1, p1, y1, w1⟩ := c_cp (fu := fu) cv cW_rfl
  have A := loop_i (fun n i s0 => ∃ s', f_X11_late_13 fu n (nI i) D s0 l = (lat (fun i => lyn (goY LW sg ht wx wy rn P np true (-nI 1) Y i).2.1 P) (101 - i) i, s', l) ∧ p_X11_late_13 fu n (nI i) D s0 l ∧ cW s s') (fun i s0 => yC P np (goY LW sg ht wx wy rn P np true (-nI 1) Y i) 37 s0 ∧ cW s s0) 101 ?_ ?_ fu 0 s1 (Nat.zero_le _) (by omega) ⟨y1, w1⟩
  · obtain ⟨s3, e3, p3, w3⟩ := A
    have rv := RV_S (cS_V (cW_S w3)) rv
    obtain ⟨s4, e4, p4, y4, a4, b4, k4⟩ := r_cps hfu rv rS_rfl
    have B := loop_i (fun n i s0 => ∃ s', f_X12_late_6 fu n (nI i) s0 l = (lat (fun i => lyn (goY LW sg ht wx wy rn P np true (-nI 1) Y i).2.1 P) (101 - i) i, s', l) ∧ p_X12_late_6 fu n (nI i) s0 l ∧ rS s3 s') (fun i s0 => YF P np (goY LW sg ht wx wy rn P np true (-nI 1) Y i) (s0 95) ∧ rS s3 s0 ∧ s0 60 53 = nI 1) 101 ?_ ?_ fu 0 s4 (Nat.zero_le _) (by omega) ⟨y4, k4, b4⟩
    · obtain ⟨s5, e5, p5, k5⟩ := B
      refine Qy_mk (lat (fun i => lyn (goY LW sg ht wx wy rn P np true (-nI 1) Y i).2.1 P) 101 0) s3 s5 ?_ ?_ (cW_S w3) (cW_k w3) ?_ ?_ k5
      · unfold f_X11_late; simp only [e1]; exact e3
      · unfold p_X11_late; simp only [e1]; exact ⟨p1, p3⟩
      · unfold f_X12_late; simp only [e4]; exact e5
      · unfold p_X12_late; simp only [e4]; exact ⟨p4, p5⟩
    · intro n s0 hs
      refine ⟨s0, ?_, ?_, hs.2.1⟩
      · unfold f_X12_late_6
        simp (disch := omega) only [ln_, leT, leF, ltT, ltF, eqT, eqF, vpT, nlT, nleT, lnF, lenF, eqnF, neqF, nnF, nI_add, pk_mul, pk_div, pk_sub, ni_m, nI_clamp, md10, dm10, gI_l, gI_n, ar_t, ar_f, it_t, it_f, true_and, and_true, not_true_eq_false, not_false_eq_true, implies_true, and_self, eq_self, Nat.sub_self, lat]
      · unfold p_X12_late_6
        simp (disch := omega) only [ln_, leT, leF, ltT, ltF, eqT, eqF, vpT, nlT, nleT, lnF, lenF, eqnF, neqF, nnF, nI_add, pk_mul, pk_div, pk_sub, ni_m, nI_clamp, md10, dm10, gI_l, gI_n, ar_t, ar_f, it_t, it_f, true_and, and_true, not_true_eq_false, not_false_eq_true, implies_true, and_self, eq_self]
    · intro n i s0 hi hs ih
      obtain ⟨hy, hk, h53⟩ := hs
      obtain ⟨rt, rx, lr, hC, _, _, _⟩ := RV_S (rS_V hk) rv
      have hl := r_lieMany (fu := fu) (l := l) hfu rt.2.2.1 hy (wz i)
      have hb := hlb i
      have hla : lat (fun i => lyn (goY LW sg ht wx wy rn P np true (-nI 1) Y i).2.1 P) (101 - i) i = if lyn (goY LW sg ht wx wy rn P np true (-nI 1) Y i).2.1 P = 0 then nI i else lat (fun i => lyn (goY LW sg ht wx wy rn P np true (-nI 1) Y i).2.1 P) (101 - (i + 1)) (i + 1) := by
        rw [show 101 - i = (101 - (i + 1)) + 1 from by omega]; rfl
      by_cases e : lyn (goY LW sg ht wx wy rn P np true (-nI 1) Y i).2.1 P = 0
      · rw [if_pos e] at hla
        refine ⟨s0, ?_, ?_, hk⟩
        · unfold f_X12_late_6
          simp (disch := omega) only [ln_, leT, leF, ltT, ltF, eqT, eqF, vpT, nlT, nleT, lnF, lenF, eqnF, neqF, nnF, nI_add, pk_mul, pk_div, pk_sub, ni_m, nI_clamp, md10, dm10, gI_l, gI_n, ar_t, ar_f, it_t, it_f, true_and, and_true, not_true_eq_false, not_false_eq_true, implies_true, and_self, eq_self, hl, hla]
        · unfold p_X12_late_6
          simp (disch := omega) only [ln_, leT, leF, ltT, ltF, eqT, eqF, vpT, nlT, nleT, lnF, lenF, eqnF, neqF, nnF, nI_add, pk_mul, pk_div, pk_sub, ni_m, nI_clamp, md10, dm10, gI_l, gI_n, ar_t, ar_f, it_t, it_f, true_and, and_true, not_true_eq_false, not_false_eq_true, implies_true, and_self, eq_self, hl]
      · rw [if_neg e] at hla
        obtain ⟨s5, e5, p5, y5, k5⟩ := r_hour (st := true) (l := l) hfu rt hy (wz i) lr hC h53
        rw [hrY_st (sd' := -nI 1)] at y5
        unfold p_X12_late_6 f_X12_late_6
        simp (disch := omega) only [ln_, leT, leF, ltT, ltF, eqT, eqF, vpT, nlT, nleT, lnF, lenF, eqnF, neqF, nnF, nI_add, pk_mul, pk_div, pk_sub, ni_m, nI_clamp, md10, dm10, gI_l, gI_n, ar_t, ar_f, it_t, it_f, true_and, and_true, not_true_eq_false, not_false_eq_true, implies_true, and_self, eq_self, hl, hla, e5, p5]
        exact ih _ ⟨y5, rS_tr hk (rR_S k5), by rw [k5.2 53 (by omega)]; exact h53⟩
  · intro n s0 hs
    refine ⟨s0, ?_, ?_, hs.2⟩
    · unfold f_X11_late_13
      simp (disch := omega) only [ln_, leT, leF, ltT, ltF, eqT, eqF, vpT, nlT, nleT, lnF, lenF, eqnF, neqF, nnF, nI_add, pk_mul, pk_div, pk_sub, ni_m, nI_clamp, md10, dm10, gI_l, gI_n, ar_t, ar_f, it_t, it_f, true_and, and_true, not_true_eq_false, not_false_eq_true, implies_true, and_self, eq_self, Nat.sub_self, lat]
    · unfold p_X11_late_13
      simp (disch := omega) only [ln_, leT, leF, ltT, ltF, eqT, eqF, vpT, nlT, nleT, lnF, lenF, eqnF, neqF, nnF, nI_add, pk_mul, pk_div, pk_sub, ni_m, nI_clamp, md10, dm10, gI_l, gI_n, ar_t, ar_f, it_t, it_f, true_and, and_true, not_true_eq_false, not_false_eq_true, implies_true, and_self, eq_self]
  · intro n i s0 hi hs ih
    obtain ⟨hy, hk⟩ := hs
    have hl := c_countLying (fu := fu) (l := l) hfu hy (wz i)
    have hb := hlb i
    have hla : lat (fun i => lyn (goY LW sg ht wx wy rn P np true (-nI 1) Y i).2.1 P) (101 - i) i = if lyn (goY LW sg ht wx wy rn P np true (-nI 1) Y i).2.1 P = 0 then nI i else lat (fun i => lyn (goY LW sg ht wx wy rn P np true (-nI 1) Y i).2.1 P) (101 - (i + 1)) (i + 1) := by
      rw [show 101 - i = (101 - (i + 1)) + 1 from by omega]; rfl
    by_cases e : lyn (goY LW sg ht wx wy rn P np true (-nI 1) Y i).2.1 P = 0
    · rw [if_pos e] at hla
      refine ⟨s0, ?_, ?_, hk⟩
      · unfold f_X11_late_13
        simp (disch := omega) only [ln_, leT, leF, ltT, ltF, eqT, eqF, vpT, nlT, nleT, lnF, lenF, eqnF, neqF, nnF, nI_add, pk_mul, pk_div, pk_sub, ni_m, nI_clamp, md10, dm10, gI_l, gI_n, ar_t, ar_f, it_t, it_f, true_and, and_true, not_true_eq_false, not_false_eq_true, implies_true, and_self, eq_self, hl, hla]
      · unfold p_X11_late_13
        simp (disch := omega) only [ln_, leT, leF, ltT, ltF, eqT, eqF, vpT, nlT, nleT, lnF, lenF, eqnF, neqF, nnF, nI_add, pk_mul, pk_div, pk_sub, ni_m, nI_clamp, md10, dm10, gI_l, gI_n, ar_t, ar_f, it_t, it_f, true_and, and_true, not_true_eq_false, not_false_eq_true, implies_true, and_self, eq_self, hl]
    · rw [if_neg e] at hla
      obtain ⟨s5, e5, p5, y5, k5⟩ := c_run (n := 1) (st := true) hfu cv hk hy (wz i) (by omega) (.inl ⟨rfl, rfl⟩)
      unfold p_X11_late_13 f_X11_late_13
      rw [hD]
      simp (disch := omega) only [ln_, leT, leF, ltT, ltF, eqT, eqF, vpT, nlT, nleT, lnF, lenF, eqnF, neqF, nnF, nI_add, pk_mul, pk_div, pk_sub, ni_m, nI_clamp, md10, dm10, gI_l, gI_n, ar_t, ar_f, it_t, it_f, true_and, and_true, not_true_eq_false, not_false_eq_true, implies_true, and_self, eq_self, hl, hla, e5, p5]
      exact ih _ ⟨y5, k5⟩
/-- where to stand, so far: the cell, and what is lost -/
def sta (f : Nat → Nat) : Nat → Nat × Nat
  | 0 => (0, 12500)
  | c + 1 => if f c < (sta f c).2 then (c, f c) else sta f c
theorem sta_b {f : Nat → Nat} {n : Nat} (hf : ∀ c, f c ≤ 3168) : ((sta f n).2 = 12500 ∧ n = 0 ∧ (sta f n).1 = 0) ∨ ((sta f n).1 < n ∧ (sta f n).2 ≤ 3168) := by
  induction n with
  | zero => exact .inl ⟨rfl, rfl, rfl⟩
  | succ n ih =>
    have h1 := hf n
    right
    show (if f n < (sta f n).2 then (n, f n) else sta f n).1 < _ ∧ (if f n < (sta f n).2 then (n, f n) else sta f n).2 ≤ _
    rcases ih with ⟨a1, a2, a3⟩ | ⟨a1, a2⟩
    · rw [if_pos (by omega)]; exact ⟨Nat.lt_succ_self n, h1⟩
    · split
      · exact ⟨Nat.lt_succ_self n, h1⟩
      · exact ⟨by omega, a2⟩
theorem sta_0 {f : Nat → Nat} {n : Nat} (h : (sta f n).2 = 0) : ∀ m, sta f (n + m) = sta f n := by
  intro m
  induction m with
  | zero => rfl
  | succ m ih => show (if f (n + m) < (sta f (n + m)).2 then _ else sta f (n + m)) = _; rw [ih, if_neg (by omega)]
theorem sm_le {f : Nat → Nat} {m : Nat} (h : ∀ i, f i ≤ m) : ∀ n, sm f n ≤ n * m := by
  intro n
  induction n with
  | zero => exact Nat.zero_le _
  | succ n ih => rw [sm_s, Nat.succ_mul]; exact Nat.add_le_add ih (h n)
end wld
