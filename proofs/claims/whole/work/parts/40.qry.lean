/-! More questions: richest, piece, picker -/
section qr2
variable {fu t lv P np nl nw : Nat} {ht sg lo : Nat → Nat} {wd : Nat → List Nat} {wx wy rn sd : Int32} {LW : Lw} {Y : Yd} {s s1 s2 : fl_I} {l : fl_L} {D : fl_D} {a i b c q k n : Nat} {x y z v : Int32}
theorem r_across (y : YF P np Y (s 95)) (w : YW P np ht Y) (hi : i < P) : p_X12_pieceAcross fu (nI i) s l ∧ f_X12_pieceAcross fu (nI i) s l = nI ((if Y.2.1 i < 80 then Y.2.1 i else Y.2.2.2.1 (Y.2.1 i - 80)) % 10) := by
  have hP := w.1
  have hn := w.2.1
  have hw := (w.2.2.1 i hi).1
  have h1 := r_doesLie (fu := fu) (l := l) y w hi
  obtain ⟨g1, g2, g3⟩ := y.2.1 i hi
  unfold p_X12_pieceAcross f_X12_pieceAcross
  by_cases h : Y.2.1 i < 80
  · rw [if_pos h] at h1
    obtain ⟨a1, a2, a3⟩ := g1 h
    simp (disch := omega) only [ln_, leT, leF, ltT, ltF, eqT, eqF, vpT, nlT, nleT, lnF, lenF, eqnF, neqF, nnF, nI_add, pk_mul, pk_div, pk_sub, ni_m, nI_clamp, md10, dm10, gI_l, gI_n, ar_t, ar_f, it_t, it_f, true_and, and_true, not_true_eq_false, not_false_eq_true, implies_true, and_self, eq_self, h1, a1, h]
  · rw [if_neg h] at h1
    have a1 := g2 (by omega)
    have a2 := (y.2.2 (Y.2.1 i - 80) (by omega)).1
    simp (disch := omega) only [ln_, leT, leF, ltT, ltF, eqT, eqF, vpT, nlT, nleT, lnF, lenF, eqnF, neqF, nnF, nI_add, pk_mul, pk_div, pk_sub, ni_m, nI_clamp, md10, dm10, gI_l, gI_n, ar_t, ar_f, it_t, it_f, true_and, and_true, not_true_eq_false, not_false_eq_true, implies_true, and_self, eq_self, h1, a1, a2, h]
theorem r_down (y : YF P np Y (s 95)) (w : YW P np ht Y) (hi : i < P) : p_X12_pieceDown fu (nI i) s l ∧ f_X12_pieceDown fu (nI i) s l = nI ((if Y.2.1 i < 80 then Y.2.1 i else Y.2.2.2.1 (Y.2.1 i - 80)) / 10) := by
  have hP := w.1
  have hn := w.2.1
  have hw := (w.2.2.1 i hi).1
  have h1 := r_doesLie (fu := fu) (l := l) y w hi
  obtain ⟨g1, g2, g3⟩ := y.2.1 i hi
  unfold p_X12_pieceDown f_X12_pieceDown
  by_cases h : Y.2.1 i < 80
  · rw [if_pos h] at h1
    obtain ⟨a1, a2, a3⟩ := g1 h
    simp (disch := omega) only [ln_, leT, leF, ltT, ltF, eqT, eqF, vpT, nlT, nleT, lnF, lenF, eqnF, neqF, nnF, nI_add, pk_mul, pk_div, pk_sub, ni_m, nI_clamp, md10, dm10, gI_l, gI_n, ar_t, ar_f, it_t, it_f, true_and, and_true, not_true_eq_false, not_false_eq_true, implies_true, and_self, eq_self, h1, a2, h]
  · rw [if_neg h] at h1
    have a1 := g2 (by omega)
    have a2 := (y.2.2 (Y.2.1 i - 80) (by omega)).2.1
    simp (disch := omega) only [ln_, leT, leF, ltT, ltF, eqT, eqF, vpT, nlT, nleT, lnF, lenF, eqnF, neqF, nnF, nI_add, pk_mul, pk_div, pk_sub, ni_m, nI_clamp, md10, dm10, gI_l, gI_n, ar_t, ar_f, it_t, it_f, true_and, and_true, not_true_eq_false, not_false_eq_true, implies_true, and_self, eq_self, h1, a1, a2, h]
theorem cell_lt (w : YW P np ht Y) (hi : i < P) : (if Y.2.1 i < 80 then Y.2.1 i else Y.2.2.2.1 (Y.2.1 i - 80)) < 80 := by
  have hw := (w.2.2.1 i hi).1
  by_cases h : Y.2.1 i < 80
  · rw [if_pos h]; exact h
  · rw [if_neg h]; exact (w.2.2.2 (Y.2.1 i - 80) (by omega)).1
theorem out_ne {m : Nat} (h : v < nI 0 ∨ (¬ v < nI 0 ∧ nI m < v ∧ ¬ v ≤ nI m)) (hm : m < 2 ^ 31) : ∀ k, k ≤ m → (v = nI k) = False := by
  intro k hk
  refine eq_false (fun e => ?_)
  subst e
  rcases h with h | ⟨_, h, _⟩
  · exact nI_pos (n := k) (by omega) h
  · exact nI_nlt hk (by omega) h
theorem or_out {A B C D E : Prop} (h : A ∨ (B ∧ C ∧ D) ∨ E) : (A ∨ (B ∧ C ∧ D)) ∨ E := by
  rcases h with h | h | h
  · exact .inl (.inl h)
  · exact .inl (.inr h)
  · exact .inr h
/-- the richest cell so far, and how many lie there -/
def ric (f : Nat → Nat) : Nat → Nat × Nat
  | 0 => (99, 0)
  | b + 1 => if (ric f b).2 < f b then (b, f b) else ric f b
theorem ric_b {f : Nat → Nat} {n : Nat} (hf : ∀ b, f b ≤ 32) : ((ric f n).1 = 99 ∨ (ric f n).1 < n) ∧ (ric f n).2 ≤ 32 := by
  induction n with
  | zero => exact ⟨.inl rfl, Nat.zero_le _⟩
  | succ n ih =>
    have h1 := hf n
    show ((if (ric f n).2 < f n then (n, f n) else ric f n).1 = 99 ∨ (if (ric f n).2 < f n then (n, f n) else ric f n).1 < _) ∧ (if (ric f n).2 < f n then (n, f n) else ric f n).2 ≤ _
    split
    · exact ⟨.inr (Nat.lt_succ_self n), h1⟩
    · exact ⟨by omega, ih.2⟩
theorem m_richest (hfu : 20000 ≤ fu) (cv : CV fu t P np nl nw ht sg lo wd wx wy rn sd LW Y s l) (rv : RV fu lv P np nl nw ht sg lo wd wx wy rn sd LW Y s l) : Qy s l (f_X11_richest fu x s l) (p_X11_richest fu x s l) (f_X12_richest fu x) (p_X12_richest fu x) := by
  have rv0 := rv
  obtain ⟨ht0, hT, hL, hC, yc, yw, tb⟩ := cv
  have hn := yw.2.1
  have hP := yw.1
  obtain ⟨s1, e1, p1, r1, c1⟩ := c_countAll (l := l) (q := 59) hfu yc yw (fun k hk => by omega)
  have cs : cS s s1 := fun q _ _ _ _ h _ _ _ => r1 q h
  have ck : ∀ q, 107 ≤ q → s1 q = s q := fun q h => r1 q (by omega)
  obtain ⟨rt, rx, lr, _, yf, _, _⟩ := RV_S (cS_V cs) rv
  obtain ⟨s2, e2, p2, y2, k1, k2, k3, k4⟩ := r_copies (l := l) hfu rt yf yw
  have h54 : s2 60 54 = nI P := by rw [k4 54 (by omega) (by omega)]; exact rt.2.2.1
  unfold f_X11_richest p_X11_richest f_X12_richest p_X12_richest f_X12_in
  rcases ag3 x 0 1 (by omega) (by omega) with h | ⟨h1, h2, h3⟩ | ⟨j, _, hj, rfl⟩
  · refine Qy_mk (-nI 1) s s ?_ ?_ cS_rfl (fun _ _ => rfl) ?_ ?_ rS_rfl <;> simp (disch := omega) only [ln_, leT, leF, ltT, ltF, eqT, eqF, vpT, nlT, nleT, lnF, lenF, eqnF, neqF, nnF, nI_add, pk_mul, pk_div, pk_sub, ni_m, nI_clamp, md10, dm10, gI_l, gI_n, ar_t, ar_f, it_t, it_f, true_and, and_true, not_true_eq_false, not_false_eq_true, implies_true, and_self, eq_self, h, p_inT]
  · refine Qy_mk (-nI 1) s s ?_ ?_ cS_rfl (fun _ _ => rfl) ?_ ?_ rS_rfl <;> simp (disch := omega) only [ln_, leT, leF, ltT, ltF, eqT, eqF, vpT, nlT, nleT, lnF, lenF, eqnF, neqF, nnF, nI_add, pk_mul, pk_div, pk_sub, ni_m, nI_clamp, md10, dm10, gI_l, gI_n, ar_t, ar_f, it_t, it_f, true_and, and_true, not_true_eq_false, not_false_eq_true, implies_true, and_self, eq_self, h1, h2, h3, p_inT]
  · generalize hg : (fun c => ct (fun k => Y.2.1 k == c) P) = f
    have hfc : ∀ c, ct (fun k => Y.2.1 k == c) P = f c := fun c => by rw [← hg]
    have hf : ∀ c, f c ≤ 32 := fun c => by rw [← hfc]; exact Nat.le_trans (ct_le _ _) hP
    have hb80 : ∀ m, m ≤ 80 → ((ric f m).1 = 99 ∨ (ric f m).1 < m) ∧ (ric f m).2 ≤ 32 := fun m _ => ric_b hf
    have A := loop_i (fun n c (z : Int32 × Int32) => p_X11_richest_30 fu n (nI j) z.1 z.2 (nI c) s1 l ∧ f_X11_richest_30 fu n (nI j) z.1 z.2 (nI c) s1 l = (if j = 0 then gI (ric f 80).1 else if (ric f 80).1 < 80 then nI (ric f 80).2 else -nI 2, s1, l)) (fun c z => z.1 = gI (ric f c).1 ∧ z.2 = nI (ric f c).2) 80 ?_ ?_ fu 0 (-nI 2, nI 0) (Nat.zero_le _) (by omega) ⟨rfl, rfl⟩
    · have B := loop_i (fun n c (z : Int32 × Int32) => p_X12_richest_23 fu n (nI j) z.1 z.2 (nI c) s2 l ∧ f_X12_richest_23 fu n (nI j) z.1 z.2 (nI c) s2 l = (if j = 0 then gI (ric f 80).1 else if (ric f 80).1 < 80 then nI (ric f 80).2 else -nI 2, s2, l)) (fun c z => z.1 = gI (ric f c).1 ∧ z.2 = nI (ric f c).2) 80 ?_ ?_ fu 0 (-nI 2, nI 0) (Nat.zero_le _) (by omega) ⟨rfl, rfl⟩
      · dsimp only at A B
        refine Qy_mk (if j = 0 then gI (ric f 80).1 else if (ric f 80).1 < 80 then nI (ric f 80).2 else -nI 2) s1 s2 ?_ ?_ cs ck ?_ ?_ (cp_S k3 k4)
        · simp (disch := omega) only [ln_, leT, leF, ltT, ltF, eqT, eqF, vpT, nlT, nleT, lnF, lenF, eqnF, neqF, nnF, nI_add, pk_mul, pk_div, pk_sub, ni_m, nI_clamp, md10, dm10, gI_l, gI_n, ar_t, ar_f, it_t, it_f, true_and, and_true, not_true_eq_false, not_false_eq_true, implies_true, and_self, eq_self, e1]; exact A.2
        · simp (disch := omega) only [ln_, leT, leF, ltT, ltF, eqT, eqF, vpT, nlT, nleT, lnF, lenF, eqnF, neqF, nnF, nI_add, pk_mul, pk_div, pk_sub, ni_m, nI_clamp, md10, dm10, gI_l, gI_n, ar_t, ar_f, it_t, it_f, true_and, and_true, not_true_eq_false, not_false_eq_true, implies_true, and_self, eq_self, e1, p1]; exact A.1
        · simp (disch := omega) only [ln_, leT, leF, ltT, ltF, eqT, eqF, vpT, nlT, nleT, lnF, lenF, eqnF, neqF, nnF, nI_add, pk_mul, pk_div, pk_sub, ni_m, nI_clamp, md10, dm10, gI_l, gI_n, ar_t, ar_f, it_t, it_f, true_and, and_true, not_true_eq_false, not_false_eq_true, implies_true, and_self, eq_self, e2]; exact B.2
        · simp (disch := omega) only [ln_, leT, leF, ltT, ltF, eqT, eqF, vpT, nlT, nleT, lnF, lenF, eqnF, neqF, nnF, nI_add, pk_mul, pk_div, pk_sub, ni_m, nI_clamp, md10, dm10, gI_l, gI_n, ar_t, ar_f, it_t, it_f, true_and, and_true, not_true_eq_false, not_false_eq_true, implies_true, and_self, eq_self, e2, p2, p_inT]; exact B.1
      · intro n z hz
        obtain ⟨z1, z2⟩ := z
        obtain ⟨hz1, hz2⟩ := hz
        dsimp only at hz1 hz2 ⊢
        unfold p_X12_richest_23 f_X12_richest_23
        rcases (hb80 80 (by omega)).1 with hh | hh
        · have hh2 : ¬ (ric f 80).1 < 80 := by omega
          by_cases e : j = 0
          · subst e; simp (disch := omega) only [ln_, leT, leF, ltT, ltF, eqT, eqF, vpT, nlT, nleT, lnF, lenF, eqnF, neqF, nnF, nI_add, pk_mul, pk_div, pk_sub, ni_m, nI_clamp, md10, dm10, gI_l, gI_n, ar_t, ar_f, it_t, it_f, true_and, and_true, not_true_eq_false, not_false_eq_true, implies_true, and_self, eq_self, hz1, hz2]
          · simp (disch := omega) only [ln_, leT, leF, ltT, ltF, eqT, eqF, vpT, nlT, nleT, lnF, lenF, eqnF, neqF, nnF, nI_add, pk_mul, pk_div, pk_sub, ni_m, nI_clamp, md10, dm10, gI_l, gI_n, ar_t, ar_f, it_t, it_f, true_and, and_true, not_true_eq_false, not_false_eq_true, implies_true, and_self, eq_self, hz1, hz2, hh2, e]
        · by_cases e : j = 0
          · subst e; simp (disch := omega) only [ln_, leT, leF, ltT, ltF, eqT, eqF, vpT, nlT, nleT, lnF, lenF, eqnF, neqF, nnF, nI_add, pk_mul, pk_div, pk_sub, ni_m, nI_clamp, md10, dm10, gI_l, gI_n, ar_t, ar_f, it_t, it_f, true_and, and_true, not_true_eq_false, not_false_eq_true, implies_true, and_self, eq_self, hz1, hz2, hh]
          · simp (disch := omega) only [ln_, leT, leF, ltT, ltF, eqT, eqF, vpT, nlT, nleT, lnF, lenF, eqnF, neqF, nnF, nI_add, pk_mul, pk_div, pk_sub, ni_m, nI_clamp, md10, dm10, gI_l, gI_n, ar_t, ar_f, it_t, it_f, true_and, and_true, not_true_eq_false, not_false_eq_true, implies_true, and_self, eq_self, hz1, hz2, hh, e]
      · intro n c z hc hz ih
        replace ih := fun x s' => ih (x, s')
        dsimp only at ih
        obtain ⟨z1, z2⟩ := z
        obtain ⟨hz1, hz2⟩ := hz
        dsimp only at hz1 hz2
        have hr := r_lieAt (fu := fu) (l := l) (s := s2) hfu h54 y2 yw hc
        rw [hfc] at hr
        have hfx := hf c
        have hbb := (hb80 c (by omega)).2
        have hd : ric f (c + 1) = if (ric f c).2 < f c then (c, f c) else ric f c := rfl
        unfold p_X12_richest_23 f_X12_richest_23
        by_cases e : (ric f c).2 < f c
        · rw [if_pos e] at hd
          simp (disch := omega) only [ln_, leT, leF, ltT, ltF, eqT, eqF, vpT, nlT, nleT, lnF, lenF, eqnF, neqF, nnF, nI_add, pk_mul, pk_div, pk_sub, ni_m, nI_clamp, md10, dm10, gI_l, gI_n, ar_t, ar_f, it_t, it_f, true_and, and_true, not_true_eq_false, not_false_eq_true, implies_true, and_self, eq_self, hr, hz2]
          exact ih _ _ ⟨by rw [hd, gI_l (by show c < 80; omega)], by rw [hd]⟩
        · rw [if_neg e] at hd
          simp (disch := omega) only [ln_, leT, leF, ltT, ltF, eqT, eqF, vpT, nlT, nleT, lnF, lenF, eqnF, neqF, nnF, nI_add, pk_mul, pk_div, pk_sub, ni_m, nI_clamp, md10, dm10, gI_l, gI_n, ar_t, ar_f, it_t, it_f, true_and, and_true, not_true_eq_false, not_false_eq_true, implies_true, and_self, eq_self, hr, hz2]
          exact ih _ _ ⟨by rw [hd]; exact hz1, by rw [hd]⟩
    · intro n z hz
      obtain ⟨z1, z2⟩ := z
      obtain ⟨hz1, hz2⟩ := hz
      dsimp only at hz1 hz2 ⊢
      unfold p_X11_richest_30 f_X11_richest_30
      rcases (hb80 80 (by omega)).1 with hh | hh
      · have hh2 : ¬ (ric f 80).1 < 80 := by omega
        by_cases e : j = 0
        · subst e; simp (disch := omega) only [ln_, leT, leF, ltT, ltF, eqT, eqF, vpT, nlT, nleT, lnF, lenF, eqnF, neqF, nnF, nI_add, pk_mul, pk_div, pk_sub, ni_m, nI_clamp, md10, dm10, gI_l, gI_n, ar_t, ar_f, it_t, it_f, true_and, and_true, not_true_eq_false, not_false_eq_true, implies_true, and_self, eq_self, hz1, hz2]
        · simp (disch := omega) only [ln_, leT, leF, ltT, ltF, eqT, eqF, vpT, nlT, nleT, lnF, lenF, eqnF, neqF, nnF, nI_add, pk_mul, pk_div, pk_sub, ni_m, nI_clamp, md10, dm10, gI_l, gI_n, ar_t, ar_f, it_t, it_f, true_and, and_true, not_true_eq_false, not_false_eq_true, implies_true, and_self, eq_self, hz1, hz2, hh2, e]
      · by_cases e : j = 0
        · subst e; simp (disch := omega) only [ln_, leT, leF, ltT, ltF, eqT, eqF, vpT, nlT, nleT, lnF, lenF, eqnF, neqF, nnF, nI_add, pk_mul, pk_div, pk_sub, ni_m, nI_clamp, md10, dm10, gI_l, gI_n, ar_t, ar_f, it_t, it_f, true_and, and_true, not_true_eq_false, not_false_eq_true, implies_true, and_self, eq_self, hz1, hz2, hh]
        · simp (disch := omega) only [ln_, leT, leF, ltT, ltF, eqT, eqF, vpT, nlT, nleT, lnF, lenF, eqnF, neqF, nnF, nI_add, pk_mul, pk_div, pk_sub, ni_m, nI_clamp, md10, dm10, gI_l, gI_n, ar_t, ar_f, it_t, it_f, true_and, and_true, not_true_eq_false, not_false_eq_true, implies_true, and_self, eq_self, hz1, hz2, hh, e]
    · intro n c z hc hz ih
      replace ih := fun x s' => ih (x, s')
      dsimp only at ih
      obtain ⟨z1, z2⟩ := z
      obtain ⟨hz1, hz2⟩ := hz
      dsimp only at hz1 hz2
      have hr := c1 c hc
      rw [hfc] at hr
      have hfx := hf c
      have hbb := (hb80 c (by omega)).2
      have hd : ric f (c + 1) = if (ric f c).2 < f c then (c, f c) else ric f c := rfl
      unfold p_X11_richest_30 f_X11_richest_30
      by_cases e : (ric f c).2 < f c
      · rw [if_pos e] at hd
        simp (disch := omega) only [ln_, leT, leF, ltT, ltF, eqT, eqF, vpT, nlT, nleT, lnF, lenF, eqnF, neqF, nnF, nI_add, pk_mul, pk_div, pk_sub, ni_m, nI_clamp, md10, dm10, gI_l, gI_n, ar_t, ar_f, it_t, it_f, true_and, and_true, not_true_eq_false, not_false_eq_true, implies_true, and_self, eq_self, hr, hz2]
        exact ih _ _ ⟨by rw [hd, gI_l (by show c < 80; omega)], by rw [hd]⟩
      · rw [if_neg e] at hd
        simp (disch := omega) only [ln_, leT, leF, ltT, ltF, eqT, eqF, vpT, nlT, nleT, lnF, lenF, eqnF, neqF, nnF, nI_add, pk_mul, pk_div, pk_sub, ni_m, nI_clamp, md10, dm10, gI_l, gI_n, ar_t, ar_f, it_t, it_f, true_and, and_true, not_true_eq_false, not_false_eq_true, implies_true, and_self, eq_self, hr, hz2]
        exact ih _ _ ⟨by rw [hd]; exact hz1, by rw [hd]⟩
theorem cS_48 (h : ∀ r, r ≠ 48 → r ≠ 49 → s1 r = s r) : cS s s1 := fun q _ a b _ _ _ _ _ => h q a b
theorem m_piece (hfu : 20000 ≤ fu) (hD : (if D.2.2.1 then 20 else 9) = t) (cv : CV fu t P np nl nw ht sg lo wd wx wy rn sd LW Y s l) (rv : RV fu lv P np nl nw ht sg lo wd wx wy rn sd LW Y s l) : Qy s l (f_X11_piece fu v x D s l) (p_X11_piece fu v x D s l) (f_X12_piece fu v x) (p_X12_piece fu v x) := by
  have rv0 := rv
  obtain ⟨ht0, hT, hL, hC, yc, yw, tb⟩ := cv
  obtain ⟨rt, rx, lr, _, yf, _, _⟩ := rv
  have hn := yw.2.1
  have hP := yw.1
  have pk := p_isPc2 (fu := fu) (x := v) (s := s) (l := l)
  obtain ⟨s2, e2, p2, y2, k1, k2, k3, k4⟩ := r_copies (l := l) hfu rt yf yw
  have cp := cp_S k3 k4
  unfold f_X11_piece p_X11_piece f_X12_piece p_X12_piece
  rw [hD]
  rcases ag v P (by omega) with h | ⟨i, hi, rfl⟩
  · have h1 := pc_no (fu := fu) (l := l) yc h
    have h2 := pc_no2 (fu := fu) (l := l) rt hP h
    refine Qy_mk (-nI 1) s s ?_ ?_ cS_rfl (fun _ _ => rfl) ?_ ?_ rS_rfl <;> simp (disch := omega) only [ln_, leT, leF, ltT, ltF, eqT, eqF, vpT, nlT, nleT, lnF, lenF, eqnF, neqF, nnF, nI_add, pk_mul, pk_div, pk_sub, ni_m, nI_clamp, md10, dm10, gI_l, gI_n, ar_t, ar_f, it_t, it_f, true_and, and_true, not_true_eq_false, not_false_eq_true, implies_true, and_self, eq_self, h1, h2, p_isPcT, pk]
  · have g1 := pc_yes (fu := fu) (l := l) yc hP hi
    have g2 := pc_yes2 (fu := fu) (l := l) rt hP hi
    have hly := c_lying (fu := fu) (l := l) yc yw hi
    have hce := c_cellOf (fu := fu) (l := l) yc yw hi
    have hcl := cell_lt yw hi
    rcases or_out (ag3 x 0 7 (by omega) (by omega)) with h | ⟨j, _, hj, rfl⟩
    · have hx := out_ne h (by omega)
      refine Qy_mk (-nI 1) s s2 ?_ ?_ cS_rfl (fun _ _ => rfl) ?_ ?_ cp <;> simp (disch := omega) only [ln_, eqF, ar_t, ar_f, it_t, it_f, true_and, and_true, not_true_eq_false, not_false_eq_true, implies_true, and_self, eq_self, g1, g2, p_isPcT, pk, hx, e2, p2, vpT, hly, hce]
    · have hj : j = 0 ∨ j = 1 ∨ j = 2 ∨ j = 3 ∨ j = 4 ∨ j = 5 ∨ j = 6 ∨ j = 7 := by omega
      rcases hj with rfl | rfl | rfl | rfl | rfl | rfl | rfl | rfl
      · have a1 := (hT.2.1 i hi).1
        have a2 : s2 96 i = nI (sg i) := by rw [k3 96 (by omega) (by omega)]; exact rt.2.2.2.2.2.1 i hi
        refine Qy_mk (nI (sg i)) s s2 ?_ ?_ cS_rfl (fun _ _ => rfl) ?_ ?_ cp <;> simp (disch := omega) only [ln_, leT, leF, ltT, ltF, eqT, eqF, vpT, nlT, nleT, lnF, lenF, eqnF, neqF, nnF, nI_add, pk_mul, pk_div, pk_sub, ni_m, nI_clamp, md10, dm10, gI_l, gI_n, ar_t, ar_f, it_t, it_f, true_and, and_true, not_true_eq_false, not_false_eq_true, implies_true, and_self, eq_self, g1, g2, p_isPcT, pk, e2, p2, hly, hce, a1, a2]
      · have a1 := (hT.2.1 i hi).2
        have a2 : s2 97 i = nI (lo i) := by rw [k3 97 (by omega) (by omega)]; exact rx.2.2.1 i hi
        refine Qy_mk (nI (lo i)) s s2 ?_ ?_ cS_rfl (fun _ _ => rfl) ?_ ?_ cp <;> simp (disch := omega) only [ln_, leT, leF, ltT, ltF, eqT, eqF, vpT, nlT, nleT, lnF, lenF, eqnF, neqF, nnF, nI_add, pk_mul, pk_div, pk_sub, ni_m, nI_clamp, md10, dm10, gI_l, gI_n, ar_t, ar_f, it_t, it_f, true_and, and_true, not_true_eq_false, not_false_eq_true, implies_true, and_self, eq_self, g1, g2, p_isPcT, pk, e2, p2, hly, hce, a1, a2]
      · have a2 := r_across (fu := fu) (l := l) y2 yw hi
        refine Qy_mk (nI ((if Y.2.1 i < 80 then Y.2.1 i else Y.2.2.2.1 (Y.2.1 i - 80)) % 10)) s s2 ?_ ?_ cS_rfl (fun _ _ => rfl) ?_ ?_ cp <;> simp (disch := omega) only [ln_, leT, leF, ltT, ltF, eqT, eqF, vpT, nlT, nleT, lnF, lenF, eqnF, neqF, nnF, nI_add, pk_mul, pk_div, pk_sub, ni_m, nI_clamp, md10, dm10, gI_l, gI_n, ar_t, ar_f, it_t, it_f, true_and, and_true, not_true_eq_false, not_false_eq_true, implies_true, and_self, eq_self, g1, g2, p_isPcT, pk, e2, p2, hly, hce, a2]
      · have a2 := r_down (fu := fu) (l := l) y2 yw hi
        refine Qy_mk (nI ((if Y.2.1 i < 80 then Y.2.1 i else Y.2.2.2.1 (Y.2.1 i - 80)) / 10)) s s2 ?_ ?_ cS_rfl (fun _ _ => rfl) ?_ ?_ cp <;> simp (disch := omega) only [ln_, leT, leF, ltT, ltF, eqT, eqF, vpT, nlT, nleT, lnF, lenF, eqnF, neqF, nnF, nI_add, pk_mul, pk_div, pk_sub, ni_m, nI_clamp, md10, dm10, gI_l, gI_n, ar_t, ar_f, it_t, it_f, true_and, and_true, not_true_eq_false, not_false_eq_true, implies_true, and_self, eq_self, g1, g2, p_isPcT, pk, e2, p2, hly, hce, a2]
      · have a1 := c_holder (fu := fu) (l := l) yc yw hi
        obtain ⟨q1, q2, q3⟩ := y2.2.1 i hi
        have a2 : s2 95 (64 + i) = if Y.2.1 i < 80 then -nI 2 else nI (Y.2.1 i - 80) := by
          by_cases h : Y.2.1 i < 80
          · rw [if_pos h]; exact (q1 h).2.2
          · rw [if_neg h]; exact q2 (by omega)
        refine Qy_mk (if Y.2.1 i < 80 then -nI 2 else nI (Y.2.1 i - 80)) s s2 ?_ ?_ cS_rfl (fun _ _ => rfl) ?_ ?_ cp <;> simp (disch := omega) only [ln_, leT, leF, ltT, ltF, eqT, eqF, vpT, nlT, nleT, lnF, lenF, eqnF, neqF, nnF, nI_add, pk_mul, pk_div, pk_sub, ni_m, nI_clamp, md10, dm10, gI_l, gI_n, ar_t, ar_f, it_t, it_f, true_and, and_true, not_true_eq_false, not_false_eq_true, implies_true, and_self, eq_self, g1, g2, p_isPcT, pk, e2, p2, hly, hce, a1, a2]
      · have a1 : s 33 i = nI (Y.2.2.1 i) := (yc.2.2.2.1 i hi).2
        have a2 := (y2.2.1 i hi).2.2
        refine Qy_mk (nI (Y.2.2.1 i)) s s2 ?_ ?_ cS_rfl (fun _ _ => rfl) ?_ ?_ cp <;> simp (disch := omega) only [ln_, leT, leF, ltT, ltF, eqT, eqF, vpT, nlT, nleT, lnF, lenF, eqnF, neqF, nnF, nI_add, pk_mul, pk_div, pk_sub, ni_m, nI_clamp, md10, dm10, gI_l, gI_n, ar_t, ar_f, it_t, it_f, true_and, and_true, not_true_eq_false, not_false_eq_true, implies_true, and_self, eq_self, g1, g2, p_isPcT, pk, e2, p2, hly, hce, a1, a2]
      · have hdl := r_doesLie (fu := fu) (l := l) y2 yw hi
        by_cases h : Y.2.1 i < 80
        · rw [if_pos h] at hly hdl
          obtain ⟨s3, e3, p3, r3⟩ := c_lawOf (k := 0) (l := l) hfu hL hC yc yw ht0 (.inl rfl) (fun i hi => (hT.2.1 i hi).1) (by omega) hi
          have cs := cS_48 r3
          obtain ⟨rt, rx, lr, _, yf, _, _⟩ := RV_S (cS_V cs) rv0
          obtain ⟨s4, e4, p4, y4, m1, m2, m3, m4⟩ := r_copies (l := l) hfu rt yf yw
          have cp4 := cp_S m3 m4
          have hdl := r_doesLie (fu := fu) (l := l) y4 yw hi
          rw [if_pos h] at hdl
          obtain ⟨s5, e5, p5, k5⟩ := r_isBlown (l := l) hfu (rT_S (rS_V cp4) rt) y4 yw hi h (LR_S (rS_V cp4) lr) hC
          have g2 := pc_yes2 (fu := fu) (l := l) rt hP hi
          have pk := p_isPc2 (fu := fu) (x := nI i) (s := s3) (l := l)
          by_cases hb : LW 0 (vrs sg P Y i) ≤ nI 0
          · rw [if_pos hb] at e5
            refine Qy_mk (nI 0) s3 s5 ?_ ?_ cs (fun q h => r3 q (by omega) (by omega)) ?_ ?_ (rS_tr cp4 (rK_S k5)) <;> simp (disch := omega) only [ln_, leT, leF, ltT, ltF, eqT, eqF, vpT, nlT, nleT, lnF, lenF, eqnF, neqF, nnF, nI_add, pk_mul, pk_div, pk_sub, ni_m, nI_clamp, md10, dm10, gI_l, gI_n, ar_t, ar_f, it_t, it_f, true_and, and_true, not_true_eq_false, not_false_eq_true, implies_true, and_self, eq_self, g1, g2, p_isPcT, pk, e4, p4, hly, hce, hdl, e3, p3, e5, p5, hb]
          · rw [if_neg hb] at e5
            refine Qy_mk (nI 1) s3 s5 ?_ ?_ cs (fun q h => r3 q (by omega) (by omega)) ?_ ?_ (rS_tr cp4 (rK_S k5)) <;> simp (disch := omega) only [ln_, leT, leF, ltT, ltF, eqT, eqF, vpT, nlT, nleT, lnF, lenF, eqnF, neqF, nnF, nI_add, pk_mul, pk_div, pk_sub, ni_m, nI_clamp, md10, dm10, gI_l, gI_n, ar_t, ar_f, it_t, it_f, true_and, and_true, not_true_eq_false, not_false_eq_true, implies_true, and_self, eq_self, g1, g2, p_isPcT, pk, e4, p4, hly, hce, hdl, e3, p3, e5, p5, hb]
        · rw [if_neg h] at hly hdl
          refine Qy_mk (nI 0) s s2 ?_ ?_ cS_rfl (fun _ _ => rfl) ?_ ?_ cp <;> simp (disch := omega) only [ln_, leT, leF, ltT, ltF, eqT, eqF, vpT, nlT, nleT, lnF, lenF, eqnF, neqF, nnF, nI_add, pk_mul, pk_div, pk_sub, ni_m, nI_clamp, md10, dm10, gI_l, gI_n, ar_t, ar_f, it_t, it_f, true_and, and_true, not_true_eq_false, not_false_eq_true, implies_true, and_self, eq_self, g1, g2, p_isPcT, pk, e2, p2, hly, hce, hdl]
      · have hdl := r_doesLie (fu := fu) (l := l) y2 yw hi
        by_cases h : Y.2.1 i < 80
        · rw [if_pos h] at hly hdl
          obtain ⟨s3, e3, p3, r3⟩ := c_lawOf (k := 1) (l := l) hfu hL hC yc yw ht0 (.inl rfl) (fun i hi => (hT.2.1 i hi).1) (by omega) hi
          have cs := cS_48 r3
          obtain ⟨rt, rx, lr, _, yf, _, _⟩ := RV_S (cS_V cs) rv0
          obtain ⟨s4, e4, p4, y4, m1, m2, m3, m4⟩ := r_copies (l := l) hfu rt yf yw
          have cp4 := cp_S m3 m4
          have hdl := r_doesLie (fu := fu) (l := l) y4 yw hi
          rw [if_pos h] at hdl
          obtain ⟨s5, e5, p5, k5⟩ := r_takesOf (l := l) hfu (rT_S (rS_V cp4) rt) y4 yw hi h (LR_S (rS_V cp4) lr) hC
          have g2 := pc_yes2 (fu := fu) (l := l) rt hP hi
          have pk := p_isPc2 (fu := fu) (x := nI i) (s := s3) (l := l)
          refine Qy_mk (nI (hdN (LW 1 (vrs sg P Y i)) 99)) s3 s5 ?_ ?_ cs (fun q h => r3 q (by omega) (by omega)) ?_ ?_ (rS_tr cp4 (rK_S k5)) <;> simp (disch := omega) only [ln_, leT, leF, ltT, ltF, eqT, eqF, vpT, nlT, nleT, lnF, lenF, eqnF, neqF, nnF, nI_add, pk_mul, pk_div, pk_sub, ni_m, nI_clamp, md10, dm10, gI_l, gI_n, ar_t, ar_f, it_t, it_f, true_and, and_true, not_true_eq_false, not_false_eq_true, implies_true, and_self, eq_self, g1, g2, p_isPcT, pk, e4, p4, hly, hce, hdl, e3, p3, e5, p5, p_X11_money, f_X11_money, held_n, p_heldT]
        · rw [if_neg h] at hly hdl
          refine Qy_mk (nI 0) s s2 ?_ ?_ cS_rfl (fun _ _ => rfl) ?_ ?_ cp <;> simp (disch := omega) only [ln_, leT, leF, ltT, ltF, eqT, eqF, vpT, nlT, nleT, lnF, lenF, eqnF, neqF, nnF, nI_add, pk_mul, pk_div, pk_sub, ni_m, nI_clamp, md10, dm10, gI_l, gI_n, ar_t, ar_f, it_t, it_f, true_and, and_true, not_true_eq_false, not_false_eq_true, implies_true, and_self, eq_self, g1, g2, p_isPcT, pk, e2, p2, hly, hce, hdl]
theorem m_picker (hfu : 20000 ≤ fu) (hD : (if D.2.2.1 then 20 else 9) = t) (cv : CV fu t P np nl nw ht sg lo wd wx wy rn sd LW Y s l) (rv : RV fu lv P np nl nw ht sg lo wd wx wy rn sd LW Y s l) : Qy s l (f_X11_picker fu v x D s l) (p_X11_picker fu v x D s l) (f_X12_picker fu v x) (p_X12_picker fu v x) := by
  have rv0 := rv
  obtain ⟨ht0, hT, hL, hC, yc, yw, tb⟩ := cv
  obtain ⟨rt, rx, lr, _, yf, _, _⟩ := rv
  have hn := yw.2.1
  have hP := yw.1
  have pk := p_isPk2 (fu := fu) (x := v) (l := l) rt
  obtain ⟨s2, e2, p2, y2, k1, k2, k3, k4⟩ := r_copies (l := l) hfu rt yf yw
  have cp := cp_S k3 k4
  unfold f_X11_picker p_X11_picker f_X12_picker p_X12_picker
  rw [hD]
  rcases ag v np (by omega) with h | ⟨b, hb, rfl⟩
  · have h1 := pk_no (fu := fu) (l := l) yc h
    have h2 := pk_no2 (fu := fu) (l := l) rt hn h
    refine Qy_mk (-nI 1) s s ?_ ?_ cS_rfl (fun _ _ => rfl) ?_ ?_ rS_rfl <;> simp (disch := omega) only [ln_, leT, leF, ltT, ltF, eqT, eqF, vpT, nlT, nleT, lnF, lenF, eqnF, neqF, nnF, nI_add, pk_mul, pk_div, pk_sub, ni_m, nI_clamp, md10, dm10, gI_l, gI_n, ar_t, ar_f, it_t, it_f, true_and, and_true, not_true_eq_false, not_false_eq_true, implies_true, and_self, eq_self, h1, h2, p_isPkT, pk]
  · have g1 := pk_yes (fu := fu) (l := l) yc hn hb
    have g2 := pk_yes2 (fu := fu) (l := l) rt hn hb
    have a3 : s 34 b = nI (Y.2.2.2.1 b) := (yc.2.2.2.2 b hb).1
    have a4 : s 35 b = gI (Y.2.2.2.2 b) := (yc.2.2.2.2 b hb).2.1
    have a5 : s 36 b = nI (cnt Y.2.1 P b) := (yc.2.2.2.2 b hb).2.2
    obtain ⟨b3, b4, b5⟩ := y2.2.2 b hb
    obtain ⟨w1, w2, w3, w4⟩ := yw.2.2.2 b hb
    have r2 := rT_S (rS_V cp) rt
    have h18 := r2.2.1
    have h78 := r2.2.2.2.2.1 b hb
    have hlv := rt.1
    rcases or_out (ag3 x 0 6 (by omega) (by omega)) with h | ⟨j, _, hj, rfl⟩
    · have hx := out_ne h (by omega)
      refine Qy_mk (-nI 1) s s2 ?_ ?_ cS_rfl (fun _ _ => rfl) ?_ ?_ cp <;> simp (disch := omega) only [ln_, eqF, ar_t, ar_f, it_t, it_f, true_and, and_true, not_true_eq_false, not_false_eq_true, implies_true, and_self, eq_self, g1, g2, p_isPkT, pk, hx, e2, p2, nI_add, vpT]
    · have hj : j = 0 ∨ j = 1 ∨ j = 2 ∨ j = 3 ∨ j = 4 ∨ j = 5 ∨ j = 6 := by omega
      rcases hj with rfl | rfl | rfl | rfl | rfl | rfl | rfl
      · refine Qy_mk (nI (Y.2.2.2.1 b % 10)) s s2 ?_ ?_ cS_rfl (fun _ _ => rfl) ?_ ?_ cp <;> simp (disch := omega) only [ln_, leT, leF, ltT, ltF, eqT, eqF, vpT, nlT, nleT, lnF, lenF, eqnF, neqF, nnF, nI_add, pk_mul, pk_div, pk_sub, ni_m, nI_clamp, md10, dm10, gI_l, gI_n, ar_t, ar_f, it_t, it_f, true_and, and_true, not_true_eq_false, not_false_eq_true, implies_true, and_self, eq_self, g1, g2, p_isPkT, pk, e2, p2, a3, b3]
      · refine Qy_mk (nI (Y.2.2.2.1 b / 10)) s s2 ?_ ?_ cS_rfl (fun _ _ => rfl) ?_ ?_ cp <;> simp (disch := omega) only [ln_, leT, leF, ltT, ltF, eqT, eqF, vpT, nlT, nleT, lnF, lenF, eqnF, neqF, nnF, nI_add, pk_mul, pk_div, pk_sub, ni_m, nI_clamp, md10, dm10, gI_l, gI_n, ar_t, ar_f, it_t, it_f, true_and, and_true, not_true_eq_false, not_false_eq_true, implies_true, and_self, eq_self, g1, g2, p_isPkT, pk, e2, p2, a3, b4]
      · have a1 := hT.2.2.1 b hb
        refine Qy_mk (nI (ht b)) s s2 ?_ ?_ cS_rfl (fun _ _ => rfl) ?_ ?_ cp <;> simp (disch := omega) only [ln_, leT, leF, ltT, ltF, eqT, eqF, vpT, nlT, nleT, lnF, lenF, eqnF, neqF, nnF, nI_add, pk_mul, pk_div, pk_sub, ni_m, nI_clamp, md10, dm10, gI_l, gI_n, ar_t, ar_f, it_t, it_f, true_and, and_true, not_true_eq_false, not_false_eq_true, implies_true, and_self, eq_self, g1, g2, p_isPkT, pk, e2, p2, a1, h18, h78]
      · have a2 := r_inHat (fu := fu) (l := l) (s := s2) hfu r2.2.2.1 y2 yw (show b < 4 by omega)
        refine Qy_mk (nI (cnt Y.2.1 P b)) s s2 ?_ ?_ cS_rfl (fun _ _ => rfl) ?_ ?_ cp <;> simp (disch := omega) only [ln_, leT, leF, ltT, ltF, eqT, eqF, vpT, nlT, nleT, lnF, lenF, eqnF, neqF, nnF, nI_add, pk_mul, pk_div, pk_sub, ni_m, nI_clamp, md10, dm10, gI_l, gI_n, ar_t, ar_f, it_t, it_f, true_and, and_true, not_true_eq_false, not_false_eq_true, implies_true, and_self, eq_self, g1, g2, p_isPkT, pk, e2, p2, a5, a2]
      · by_cases h : Y.2.2.2.2 b < 80
        · refine Qy_mk (nI (Y.2.2.2.2 b % 10)) s s2 ?_ ?_ cS_rfl (fun _ _ => rfl) ?_ ?_ cp <;> simp (disch := omega) only [ln_, leT, leF, ltT, ltF, eqT, eqF, vpT, nlT, nleT, lnF, lenF, eqnF, neqF, nnF, nI_add, pk_mul, pk_div, pk_sub, ni_m, nI_clamp, md10, dm10, gI_l, gI_n, ar_t, ar_f, it_t, it_f, true_and, and_true, not_true_eq_false, not_false_eq_true, implies_true, and_self, eq_self, g1, g2, p_isPkT, pk, e2, p2, a4, b5]
        · refine Qy_mk (-nI 2) s s2 ?_ ?_ cS_rfl (fun _ _ => rfl) ?_ ?_ cp <;> simp (disch := omega) only [ln_, leT, leF, ltT, ltF, eqT, eqF, vpT, nlT, nleT, lnF, lenF, eqnF, neqF, nnF, nI_add, pk_mul, pk_div, pk_sub, ni_m, nI_clamp, md10, dm10, gI_l, gI_n, ar_t, ar_f, it_t, it_f, true_and, and_true, not_true_eq_false, not_false_eq_true, implies_true, and_self, eq_self, g1, g2, p_isPkT, pk, e2, p2, a4, b5]
      · by_cases h : Y.2.2.2.2 b < 80
        · refine Qy_mk (nI (Y.2.2.2.2 b / 10)) s s2 ?_ ?_ cS_rfl (fun _ _ => rfl) ?_ ?_ cp <;> simp (disch := omega) only [ln_, leT, leF, ltT, ltF, eqT, eqF, vpT, nlT, nleT, lnF, lenF, eqnF, neqF, nnF, nI_add, pk_mul, pk_div, pk_sub, ni_m, nI_clamp, md10, dm10, gI_l, gI_n, ar_t, ar_f, it_t, it_f, true_and, and_true, not_true_eq_false, not_false_eq_true, implies_true, and_self, eq_self, g1, g2, p_isPkT, pk, e2, p2, a4, b5]
        · refine Qy_mk (-nI 2) s s2 ?_ ?_ cS_rfl (fun _ _ => rfl) ?_ ?_ cp <;> simp (disch := omega) only [ln_, leT, leF, ltT, ltF, eqT, eqF, vpT, nlT, nleT, lnF, lenF, eqnF, neqF, nnF, nI_add, pk_mul, pk_div, pk_sub, ni_m, nI_clamp, md10, dm10, gI_l, gI_n, ar_t, ar_f, it_t, it_f, true_and, and_true, not_true_eq_false, not_false_eq_true, implies_true, and_self, eq_self, g1, g2, p_isPkT, pk, e2, p2, a4, b5]
      · obtain ⟨s3, e3, p3, r3⟩ := c_owed (l := l) (ht := ht) hfu hL hC yc yw ht0 (.inl rfl) (fun i hi => (hT.2.1 i hi).1) hT.2.2.1 hb
        have cs := cS_48 r3
        obtain ⟨rt, rx, lr, _, yf, _, _⟩ := RV_S (cS_V cs) rv0
        obtain ⟨s4, e4, p4, y4, m1, m2, m3, m4⟩ := r_copies (l := l) hfu rt yf yw
        have cp4 := cp_S m3 m4
        obtain ⟨s5, e5, p5, k5⟩ := r_owedTo (l := l) hfu (rT_S (rS_V cp4) rt) y4 yw hb (LR_S (rS_V cp4) lr) hC
        have g2 := pk_yes2 (fu := fu) (l := l) rt hn hb
        have pk := p_isPk2 (fu := fu) (x := nI b) (l := l) rt
        refine Qy_mk (nI (sm (fun i => if Y.2.1 i = 80 + b then hdN (LW 2 (vrp sg ht P Y b i)) 99 else 0) P)) s3 s5 ?_ ?_ cs (fun q h => r3 q (by omega) (by omega)) ?_ ?_ (rS_tr cp4 (rK_S k5)) <;> simp (disch := omega) only [ln_, leT, leF, ltT, ltF, eqT, eqF, vpT, nlT, nleT, lnF, lenF, eqnF, neqF, nnF, nI_add, pk_mul, pk_div, pk_sub, ni_m, nI_clamp, md10, dm10, gI_l, gI_n, ar_t, ar_f, it_t, it_f, true_and, and_true, not_true_eq_false, not_false_eq_true, implies_true, and_self, eq_self, g1, g2, p_isPkT, pk, e4, p4, e3, p3, e5, p5]
end qr2
