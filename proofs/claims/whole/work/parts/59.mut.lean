/-! give, hold, restore -/
section gvs
variable {fu t lv P np nl nw : Nat} {ht sg lo : Nat → Nat} {wd : Nat → List Nat} {wx wy rn sd : Int32} {LW : Lw} {Y : Yd} {s s1 s2 : fl_I} {l : fl_L} {D : fl_D} {u hm nt nb : Nat} {hs hy : Nat → Yd} {tl : Nat → Nat} {th : Nat → Bool} {D1 : fl_D} {a i b c q k n g m : Nat} {x y z v w : Int32} {Z : Yd}
def gv1 (ht : Nat → Nat) (P a b : Nat) (Y : Yd) (i : Nat) : Yd := if Y.2.1 i = 80 + a ∧ cnt Y.2.1 P b < ht b then (Y.1, un Y.2.1 i (80 + b), un Y.2.2.1 i 0, Y.2.2.2) else Y
def gvL (ht : Nat → Nat) (P a b : Nat) (Y : Yd) : Nat → Yd
  | 0 => Y
  | i + 1 => gv1 ht P a b (gvL ht P a b Y i) i
theorem cnt_mv {w : Nat → Nat} (hi : i < P) (hw : w i = 80 + a) (hab : a ≠ b) : cnt (un w i (80 + b)) P b = cnt w P b + 1 ∧ cnt (un w i (80 + b)) P a + 1 = cnt w P a ∧ ∀ c, c ≠ a → c ≠ b → cnt (un w i (80 + b)) P c = cnt w P c := by
  refine ⟨?_, ?_, fun c hca hcb => ?_⟩
  · exact ct_up hi (fun j _ hj => by rw [un_n hj]) (by rw [hw]; simp; omega) (by rw [un_s]; simp)
  · exact ct_dn hi (fun j _ hj => by rw [un_n hj]) (by rw [hw]; simp) (by rw [un_s]; simp; omega)
  · refine ct_congr (fun j _ => ?_)
    by_cases e : j = i
    · subst e; rw [un_s, hw, beq_false_of_ne (by omega), beq_false_of_ne (by omega)]
    · rw [un_n e]
theorem gv1_W (yw : YW P np ht Y) (ha : a < np) (hb : b < np) (hab : a ≠ b) (hi : i < P) : YW P np ht (gv1 ht P a b Y i) := by
  unfold gv1
  by_cases h : Y.2.1 i = 80 + a ∧ cnt Y.2.1 P b < ht b
  · rw [if_pos h]
    obtain ⟨m1, m2, m3⟩ := cnt_mv (P := P) (b := b) hi h.1 hab
    refine ⟨yw.1, yw.2.1, fun j hj => ?_, fun c hc => ?_⟩
    · show un _ _ _ _ < _ ∧ un _ _ _ _ ≤ _ ∧ (_ ≤ un _ _ _ _ → un _ _ _ _ = _)
      by_cases e : j = i
      · subst e; rw [un_s, un_s]; exact ⟨by omega, by omega, fun _ => rfl⟩
      · rw [un_n e, un_n e]; exact yw.2.2.1 j hj
    · obtain ⟨g1, g2, g3, g4⟩ := yw.2.2.2 c hc
      refine ⟨g1, g2, ?_, g4⟩
      show cnt (un Y.2.1 i _) P c ≤ ht c
      by_cases e1 : c = b
      · subst e1; omega
      · by_cases e2 : c = a
        · subst e2; omega
        · rw [m3 c e2 e1]; exact g3
  · rw [if_neg h]; exact yw
theorem gvL_W (yw : YW P np ht Y) (ha : a < np) (hb : b < np) (hab : a ≠ b) (hi : i ≤ P) : YW P np ht (gvL ht P a b Y i) := by
  induction i with
  | zero => exact yw
  | succ i ih => exact gv1_W (ih (by omega)) ha hb hab (by omega)
theorem gvL_at : (gvL ht P a b Y k).2.2.2 = Y.2.2.2 ∧ (gvL ht P a b Y k).1 = Y.1 := by
  induction k with
  | zero => exact ⟨rfl, rfl⟩
  | succ k ih => show (gv1 ht P a b (gvL ht P a b Y k) k).2.2.2 = _ ∧ (gv1 ht P a b (gvL ht P a b Y k) k).1 = _; unfold gv1; split <;> exact ih
theorem gvL_ge (yw : YW P np ht Y) (ha : a < np) (hb : b < np) (hab : a ≠ b) (hi : i ≤ P) : cnt Y.2.1 P b ≤ cnt (gvL ht P a b Y i).2.1 P b := by
  induction i with
  | zero => exact Nat.le_refl _
  | succ i ih =>
    refine Nat.le_trans (ih (by omega)) ?_
    show _ ≤ cnt (gv1 ht P a b (gvL ht P a b Y i) i).2.1 P b
    unfold gv1
    by_cases h : (gvL ht P a b Y i).2.1 i = 80 + a ∧ cnt (gvL ht P a b Y i).2.1 P b < ht b
    · rw [if_pos h]
      have := (cnt_mv (P := P) (b := b) (i := i) (by omega) h.1 hab).1
      show _ ≤ cnt (un _ _ _) P b
      omega
    · rw [if_neg h]; exact Nat.le_refl _
theorem s_give (hfu : 20000 ≤ fu) (hD : (if D.2.2.1 then 20 else 9) = t) (cv : CV fu t P np nl nw ht sg lo wd wx wy rn sd LW Y s l) (rv : RV fu lv P np nl nw ht sg lo wd wx wy rn sd LW Y s l) (mi : MI D P np ht u hs hm hy nt tl th nb s l) : Both fu (f_X11_give fu v x D s l) (p_X11_give fu v x D s l) (f_X12_give fu v x) (p_X12_give fu v x) := by
  have ht0 := cv.1
  have yc := cv.2.2.2.2.1
  have yw := cv.2.2.2.2.2.1
  have hP := yw.1
  have hn := yw.2.1
  have pk := fun x => p_isPk2 (fu := fu) (x := x) (l := l) rv.1
  unfold f_X11_give p_X11_give f_X12_give p_X12_give
  rcases ag v np (by omega) with h | ⟨a, ha, rfl⟩
  · have h1 := pk_no (fu := fu) (l := l) yc h
    have h2 := pk_no2 (fu := fu) (l := l) rv.1 hn h
    refine st_N (v := -nI 1) hD cv rv mi ?_ ?_ ?_ ?_ <;> simp (disch := omega) only [ln_, leT, leF, ltT, ltF, eqT, eqF, vpT, nlT, nleT, lnF, lenF, eqnF, neqF, nnF, nI_add, pk_mul, pk_div, pk_sub, ni_m, nI_clamp, md10, dm10, gI_l, gI_n, ar_t, ar_f, it_t, it_f, true_and, and_true, not_true_eq_false, not_false_eq_true, implies_true, and_self, eq_self, h1, h2, p_isPkT, pk]
  · have g1 := pk_yes (fu := fu) (l := l) yc hn ha
    have g2 := pk_yes2 (fu := fu) (l := l) rv.1 hn ha
    rcases ag x np (by omega) with h | ⟨b, hb, rfl⟩
    · have h1 := pk_no (fu := fu) (l := l) yc h
      have h2 := pk_no2 (fu := fu) (l := l) rv.1 hn h
      refine st_N (v := -nI 1) hD cv rv mi ?_ ?_ ?_ ?_ <;> simp (disch := omega) only [ln_, leT, leF, ltT, ltF, eqT, eqF, vpT, nlT, nleT, lnF, lenF, eqnF, neqF, nnF, nI_add, pk_mul, pk_div, pk_sub, ni_m, nI_clamp, md10, dm10, gI_l, gI_n, ar_t, ar_f, it_t, it_f, true_and, and_true, not_true_eq_false, not_false_eq_true, implies_true, and_self, eq_self, g1, g2, h1, h2, p_isPkT, pk]
    · have i1 := pk_yes (fu := fu) (l := l) yc hn hb
      have i2 := pk_yes2 (fu := fu) (l := l) rv.1 hn hb
      by_cases hab : a = b
      · subst hab
        refine st_N (v := -nI 1) hD cv rv mi ?_ ?_ ?_ ?_ <;> simp (disch := omega) only [ln_, leT, leF, ltT, ltF, eqT, eqF, vpT, nlT, nleT, lnF, lenF, eqnF, neqF, nnF, nI_add, pk_mul, pk_div, pk_sub, ni_m, nI_clamp, md10, dm10, gI_l, gI_n, ar_t, ar_f, it_t, it_f, true_and, and_true, not_true_eq_false, not_false_eq_true, implies_true, and_self, eq_self, g1, g2, p_isPkT, pk]
      · obtain ⟨D1, s1, e1, p1, d1, d2, c1, c2, c3⟩ := c_keep (fu := fu) (l := l) mi.1 mi.2.1.1 mi.2.2.1.1 yc hP hn
        have hD1 : (if D1.2.2.1 then 20 else 9) = t := by rw [d2]; exact hD
        have y1 : yC P np Y 31 s1 := yC_keep (fun k hk => c3 (31 + k) (by omega) (by omega)) yc
        have hht : ∀ b, b < np → s1 (t + 8) b = nI (ht b) := fun b hb => by rw [c3 (t + 8) (by omega) (by omega)]; exact cv.2.1.2.2.1 b hb
        have wk := fun i (hi : i ≤ P) => gvL_W yw ha hb hab hi
        have gk := fun i (hi : i ≤ P) => gvL_ge yw ha hb hab hi
        have hb4 : ∀ i, cnt (gvL ht P a b Y i).2.1 P b ≤ 32 := fun i => Nat.le_trans (ct_le _ _) hP
        have A := loop_i (fun f i (z : Int32 × fl_I) => ∃ s', f_X11_give_39 fu f (nI a) (nI b) z.1 (nI i) D1 z.2 l = (nI (cnt (gvL ht P a b Y P).2.1 P b - cnt Y.2.1 P b), D1, s', l) ∧ p_X11_give_39 fu f (nI a) (nI b) z.1 (nI i) D1 z.2 l ∧ yC P np (gvL ht P a b Y P) 31 s' ∧ ∀ q, q ≠ 32 → q ≠ 33 → q ≠ 36 → s' q = s1 q) (fun i z => z.1 = nI (cnt (gvL ht P a b Y i).2.1 P b - cnt Y.2.1 P b) ∧ yC P np (gvL ht P a b Y i) 31 z.2 ∧ ∀ q, q ≠ 32 → q ≠ 33 → q ≠ 36 → z.2 q = s1 q) P ?_ ?_ fu 0 (nI 0, s1) (Nat.zero_le _) (by omega) ⟨by show nI 0 = nI (_ - _); congr 1; show 0 = cnt Y.2.1 P b - cnt Y.2.1 P b; omega, y1, fun _ _ _ _ => rfl⟩
        · obtain ⟨s2, e2, p2, y2, r2⟩ := A
          dsimp only at e2 p2
          have c1' := cP_keep (s1 := s2) (fun _ _ _ => trivial) (r2 43 (by omega) (by omega) (by omega)) (fun p hp k hk => by have := hp.1; exact r2 (p + k) (by omega) (by omega) (by omega)) d1 c1
          have c2' := cL_keep (s1 := s2) (by rw [r2 0 (by omega) (by omega) (by omega)]) (fun p hp k hk => by have := hp.1; exact r2 (p + k) (by omega) (by omega) (by omega)) d1 c2
          have fr : ∀ q, q < 107 → (q < 31 ∨ 36 < q) → q ≠ 43 → s2 q = s q := fun q h1 h2 h3 => by rw [r2 q (by omega) (by omega) (by omega)]; exact c3 q h1 h3
          have rv2 : RV fu lv P np nl nw ht sg lo wd wx wy rn sd LW Y s2 l := RV_S (rV_of (fun q h1 h2 => fr q h2 (by omega) (by omega))) rv
          have g2 := pk_yes2 (fu := fu) (l := l) rv2.1 hn ha
          have i2 := pk_yes2 (fu := fu) (l := l) rv2.1 hn hb
          have pk := fun x => p_isPk2 (fu := fu) (x := x) (l := l) rv2.1
          obtain ⟨s4, e4, p4, y4, _, _, k3, k4⟩ := r_copies (l := l) hfu rv2.1 rv2.2.2.2.2.1 yw
          have rt4 := rT_S (rS_V (cp_S k3 k4)) rv2.1
          have hih := r_inHat (fu := fu) (l := l) (s := s4) hfu rt4.2.2.1 y4 yw (show b < 4 by omega)
          have hlv := rt4.1
          have B := loop_i (fun f i (z : Int32 × fl_I) => ∃ s5, f_X12_give_39 fu f (nI a) (nI b) z.1 (nI (cnt Y.2.1 P b)) (nI i) z.2 l = (nI (cnt (gvL ht P a b Y P).2.1 P b - cnt Y.2.1 P b), (f_X12_records fu s5 l).1, (f_X12_records fu s5 l).2) ∧ (p_X12_records fu s5 l → p_X12_give_39 fu f (nI a) (nI b) z.1 (nI (cnt Y.2.1 P b)) (nI i) z.2 l) ∧ YF P np (gvL ht P a b Y P) (s5 95) ∧ ∀ q, q ≠ 95 → s5 q = s4 q) (fun i z => z.1 = nI (cnt (gvL ht P a b Y i).2.1 P b - cnt Y.2.1 P b) ∧ YF P np (gvL ht P a b Y i) (z.2 95) ∧ ∀ q, q ≠ 95 → z.2 q = s4 q) P ?_ ?_ fu 0 (nI 0, s4) (Nat.zero_le _) (by omega) ⟨by show nI 0 = nI (_ - _); congr 1; show 0 = cnt Y.2.1 P b - cnt Y.2.1 P b; omega, y4, fun _ _ => rfl⟩
          · obtain ⟨s5, e5, p5, y5, r5⟩ := B
            dsimp only at e5 p5
            obtain ⟨s6, e6, p6, rp6, y6, j6, k6⟩ := r_records (Y := Y) (u := u) (hs := hs) (s := s5) (l := l) hfu mi.2.1.1.1 ⟨by rw [r5 60 (by omega), k4 58 (by omega) (by omega), fr 60 (by omega) (by omega) (by omega)]; exact mi.2.1.2.1.1, by rw [r5 99 (by omega), k3 99 (by omega) (by omega), fr 99 (by omega) (by omega) (by omega)]; exact mi.2.1.2.1.2⟩ (by rw [r5 94 (by omega), k3 94 (by omega) (by omega)]; exact rv2.2.2.2.2.1) y5 hP hn
            have hp5 := p5 p6
            rw [e6] at e5
            refine st_M (D1 := D1) (s1 := s2) (s2 := s6) (v := nI (cnt (gvL ht P a b Y P).2.1 P b - cnt Y.2.1 P b)) hD cv rv mi (wk P (Nat.le_refl _)) (nhs_W yw mi.2.1.2.2) ?_ ?_ d1 d2 c1' c2' y2 (fun q h1 h2 h3 _ _ _ => fr q h1 h2 h3) ?_ ?_ rp6 y6 (fun j h1 h2 h3 h4 => by rw [j6 j h4, r5 60 (by omega)]; exact k4 j h2 h3) (fun q h1 h2 h3 h4 h5 h6 h7 => by rw [k6 q h4 h7 h1, r5 q h5]; exact k3 q h5 h1)
            · simp (disch := omega) only [ln_, leT, leF, ltT, ltF, eqT, eqF, vpT, nlT, nleT, lnF, lenF, eqnF, neqF, nnF, nI_add, pk_mul, pk_div, pk_sub, ni_m, nI_clamp, md10, dm10, gI_l, gI_n, ar_t, ar_f, it_t, it_f, true_and, and_true, not_true_eq_false, not_false_eq_true, implies_true, and_self, eq_self, g1, i1, e1, e2]
            · simp (disch := omega) only [ln_, leT, leF, ltT, ltF, eqT, eqF, vpT, nlT, nleT, lnF, lenF, eqnF, neqF, nnF, nI_add, pk_mul, pk_div, pk_sub, ni_m, nI_clamp, md10, dm10, gI_l, gI_n, ar_t, ar_f, it_t, it_f, true_and, and_true, not_true_eq_false, not_false_eq_true, implies_true, and_self, eq_self, g1, i1, p_isPkT, e1, p1, p2]
            · simp (disch := omega) only [ln_, leT, leF, ltT, ltF, eqT, eqF, vpT, nlT, nleT, lnF, lenF, eqnF, neqF, nnF, nI_add, pk_mul, pk_div, pk_sub, ni_m, nI_clamp, md10, dm10, gI_l, gI_n, ar_t, ar_f, it_t, it_f, true_and, and_true, not_true_eq_false, not_false_eq_true, implies_true, and_self, eq_self, g2, i2, e4, hih, e5]
            · simp (disch := omega) only [ln_, leT, leF, ltT, ltF, eqT, eqF, vpT, nlT, nleT, lnF, lenF, eqnF, neqF, nnF, nI_add, pk_mul, pk_div, pk_sub, ni_m, nI_clamp, md10, dm10, gI_l, gI_n, ar_t, ar_f, it_t, it_f, true_and, and_true, not_true_eq_false, not_false_eq_true, implies_true, and_self, eq_self, g2, i2, pk, e4, p4, hih, hp5]
          · intro f z hz
            obtain ⟨r, s0⟩ := z
            obtain ⟨z1, z2, z3⟩ := hz
            dsimp only at z1 z2 z3 ⊢
            have h5 : s0 60 54 = nI P := by rw [z3 60 (by omega)]; exact rt4.2.2.1
            refine ⟨s0, ?_, ?_, z2, z3⟩
            · unfold f_X12_give_39
              simp (disch := omega) only [leT, ar_t, ar_f, it_t, it_f, true_and, and_true, not_true_eq_false, not_false_eq_true, implies_true, and_self, eq_self, h5, z1]
            · unfold p_X12_give_39
              simp (disch := omega) only [leT, ar_t, ar_f, it_t, it_f, true_and, and_true, not_true_eq_false, not_false_eq_true, implies_true, and_self, eq_self, h5]
              exact fun h => h
          · intro f i z hi hz ih
            replace ih := fun x s' => ih (x, s')
            dsimp only at ih
            obtain ⟨r, s0⟩ := z
            obtain ⟨z1, z2, z3⟩ := hz
            dsimp only at z1 z2 z3 ⊢
            have h5 : s0 60 54 = nI P := by rw [z3 60 (by omega)]; exact rt4.2.2.1
            have h18 : s0 60 18 = nI lv := by rw [z3 60 (by omega)]; exact rt4.2.1
            have h78 : s0 78 (4 * lv + b) = nI (ht b) := by rw [z3 78 (by omega)]; exact rt4.2.2.2.2.1 b hb
            have w0 := wk i (by omega)
            have hwi := (w0.2.2.1 i hi)
            have hge := gk i (by omega)
            have hcb := hb4 i
            obtain ⟨q1, q2, q3⟩ := z2.2.1 i hi
            obtain ⟨o1, o2, o3, o4⟩ := w0.2.2.2 b hb
            have hst : gvL ht P a b Y (i + 1) = if (gvL ht P a b Y i).2.1 i = 80 + a ∧ cnt (gvL ht P a b Y i).2.1 P b < ht b then ((gvL ht P a b Y i).1, un (gvL ht P a b Y i).2.1 i (80 + b), un (gvL ht P a b Y i).2.2.1 i 0, (gvL ht P a b Y i).2.2.2) else gvL ht P a b Y i := rfl
            have hsum : nI (cnt Y.2.1 P b) + nI (cnt (gvL ht P a b Y i).2.1 P b - cnt Y.2.1 P b) = nI (cnt (gvL ht P a b Y i).2.1 P b) := by rw [nI_add]; congr 1; omega
            unfold p_X12_give_39 f_X12_give_39
            by_cases e8 : (gvL ht P a b Y i).2.1 i < 80
            · rw [if_neg (by omega)] at hst
              have b3 := (q1 e8).2.2
              simp (disch := omega) only [ln_, leT, leF, ltT, ltF, eqT, eqF, vpT, nlT, nleT, lnF, lenF, eqnF, neqF, nnF, nI_add, pk_mul, pk_div, pk_sub, ni_m, nI_clamp, md10, dm10, gI_l, gI_n, ar_t, ar_f, it_t, it_f, true_and, and_true, not_true_eq_false, not_false_eq_true, implies_true, and_self, eq_self, h5, b3]
              exact ih _ _ (by rw [hst]; exact ⟨z1, z2, z3⟩)
            · have b3 := q2 (by omega)
              by_cases ea : (gvL ht P a b Y i).2.1 i = 80 + a
              · by_cases ef : cnt (gvL ht P a b Y i).2.1 P b < ht b
                · rw [if_pos ⟨ea, ef⟩] at hst
                  obtain ⟨m1, m2, m3⟩ := cnt_mv (P := P) (b := b) hi ea hab
                  have hl0 : (gvL ht P a b Y i).2.2.1 i = 0 := hwi.2.2 (by omega)
                  simp (disch := omega) only [ln_, leF, eqT, eqF, vpT, nI_clamp, nI_add, pk_mul, pk_sub, ar_t, ar_f, it_t, it_f, true_and, and_true, not_true_eq_false, not_false_eq_true, implies_true, and_self, eq_self, h5, b3, z1, hsum, h18, h78]
                  refine ih _ _ ?_
                  rw [hst]
                  refine ⟨?_, ?_, fun q hq => by rw [wi_c hq]; exact z3 q hq⟩
                  · show _ = nI (cnt (un _ _ _) P b - _)
                    rw [m1]; congr 1; omega
                  · refine YF_put hP hn z2 hi (fun j h1 h2 => by rw [wi_u, upd_n h1]) (by rw [wi_u, upd_s]) (by rw [wi_u, upd_n (by omega), q3, hl0])
                · rw [if_neg (fun h => ef h.2)] at hst
                  simp (disch := omega) only [ln_, leF, eqT, eqF, vpT, nI_clamp, nI_add, pk_mul, pk_sub, ar_t, ar_f, it_t, it_f, true_and, and_true, not_true_eq_false, not_false_eq_true, implies_true, and_self, eq_self, h5, b3, z1, hsum, h18, h78]
                  exact ih _ _ (by rw [hst]; exact ⟨rfl, z2, z3⟩)
              · rw [if_neg (fun h => ea h.1)] at hst
                simp (disch := omega) only [ln_, leF, eqT, eqF, vpT, nI_clamp, nI_add, pk_sub, ar_t, ar_f, it_t, it_f, true_and, and_true, not_true_eq_false, not_false_eq_true, implies_true, and_self, eq_self, h5, b3]
                exact ih _ _ (by rw [hst]; exact ⟨z1, z2, z3⟩)
        · intro f z hz
          obtain ⟨r, s0⟩ := z
          obtain ⟨z1, z2, z3⟩ := hz
          dsimp only at z1 z2 z3 ⊢
          have h5 : s0 31 1 = nI P := z2.2.1
          refine ⟨s0, ?_, ?_, z2, z3⟩
          · unfold f_X11_give_39
            simp (disch := omega) only [leT, ar_t, ar_f, it_t, it_f, true_and, and_true, not_true_eq_false, not_false_eq_true, implies_true, and_self, eq_self, h5, z1]
          · unfold p_X11_give_39
            simp (disch := omega) only [leT, ar_t, ar_f, it_t, it_f, true_and, and_true, not_true_eq_false, not_false_eq_true, implies_true, and_self, eq_self, h5]
        · intro f i z hi hz ih
          replace ih := fun x s' => ih (x, s')
          dsimp only at ih
          obtain ⟨r, s0⟩ := z
          obtain ⟨z1, z2, z3⟩ := hz
          dsimp only at z1 z2 z3 ⊢
          have h5 : s0 31 1 = nI P := z2.2.1
          have w0 := wk i (by omega)
          have hwi := (w0.2.2.1 i hi)
          have hge := gk i (by omega)
          have hcb := hb4 i
          have hho := c_holder (fu := fu) (l := l) z2 w0 hi
          have h36a : s0 36 a = nI (cnt (gvL ht P a b Y i).2.1 P a) := (z2.2.2.2.2 a ha).2.2
          have h36b : s0 36 b = nI (cnt (gvL ht P a b Y i).2.1 P b) := (z2.2.2.2.2 b hb).2.2
          have hhb : s0 (t + 8) b = nI (ht b) := by rw [z3 (t + 8) (by omega) (by omega) (by omega)]; exact hht b hb
          obtain ⟨o1, o2, o3, o4⟩ := w0.2.2.2 b hb
          have hst : gvL ht P a b Y (i + 1) = if (gvL ht P a b Y i).2.1 i = 80 + a ∧ cnt (gvL ht P a b Y i).2.1 P b < ht b then ((gvL ht P a b Y i).1, un (gvL ht P a b Y i).2.1 i (80 + b), un (gvL ht P a b Y i).2.2.1 i 0, (gvL ht P a b Y i).2.2.2) else gvL ht P a b Y i := rfl
          unfold p_X11_give_39 f_X11_give_39 p_X10_putInHat f_X10_putInHat
          rw [hD1]
          by_cases e8 : (gvL ht P a b Y i).2.1 i < 80
          · rw [if_neg (by omega)] at hst
            rw [if_pos e8] at hho
            simp (disch := omega) only [ln_, leT, leF, ltT, ltF, eqT, eqF, vpT, nlT, nleT, lnF, lenF, eqnF, neqF, nnF, nI_add, pk_mul, pk_div, pk_sub, ni_m, nI_clamp, md10, dm10, gI_l, gI_n, ar_t, ar_f, it_t, it_f, true_and, and_true, not_true_eq_false, not_false_eq_true, implies_true, and_self, eq_self, h5, hho]
            exact ih _ _ (by rw [hst]; exact ⟨z1, z2, z3⟩)
          · rw [if_neg e8] at hho
            by_cases ea : (gvL ht P a b Y i).2.1 i = 80 + a
            · by_cases ef : cnt (gvL ht P a b Y i).2.1 P b < ht b
              · rw [if_pos ⟨ea, ef⟩] at hst
                obtain ⟨m1, m2, m3⟩ := cnt_mv (P := P) (b := b) hi ea hab
                simp (disch := omega) only [ln_, leT, leF, ltT, ltF, eqT, eqF, vpT, nlT, nleT, lnF, lenF, eqnF, neqF, nnF, nI_add, pk_mul, pk_div, pk_sub, ni_m, nI_clamp, md10, dm10, gI_l, gI_n, ar_t, ar_f, it_t, it_f, true_and, and_true, not_true_eq_false, not_false_eq_true, implies_true, and_self, eq_self, h5, hho, hhb, h36a, h36b, z1, wi_c, wi_u, upd_s, upd_n, su_r, su_c, Nat.reduceAdd]
                refine ih _ _ ?_
                rw [hst]
                refine ⟨?_, ?_, fun q h1 h2 h3 => by rw [wi_c h3, wi_c h2, wi_c h1, wi_c h3]; exact z3 q h1 h2 h3⟩
                · show _ = nI (cnt (un _ _ _) P b - _)
                  rw [m1]; congr 1; omega
                · obtain ⟨k1, k2, k3, k4, k5⟩ := z2
                  simp (disch := omega) only [yC, wi_c, wi_u, upd_s, upd_n, su_r, su_c, Nat.reduceAdd]
                  refine ⟨k1, k2, k3, fun j hj => ?_, fun c hc => ?_⟩
                  · show _ = nI (un _ _ _ _) ∧ _ = nI (un _ _ _ _)
                    by_cases e : j = i
                    · subst e; rw [upd_s, upd_s, un_s, un_s]; exact ⟨rfl, rfl⟩
                    · rw [upd_n e, upd_n e, un_n e, un_n e]; exact k4 j hj
                  · obtain ⟨n1, n2, n3⟩ := k5 c hc
                    refine ⟨n1, n2, ?_⟩
                    show _ = nI (cnt (un _ _ _) P c)
                    by_cases e1 : c = b
                    · rw [e1, upd_s, m1]
                    · rw [upd_n e1]
                      by_cases e2 : c = a
                      · rw [e2, upd_s]; congr 1; omega
                      · rw [upd_n e2, m3 c e2 e1]; exact n3
              · rw [if_neg (fun h => ef h.2)] at hst
                simp (disch := omega) only [ln_, leT, leF, ltT, ltF, eqT, eqF, vpT, nlT, nleT, lnF, lenF, eqnF, neqF, nnF, nI_add, pk_mul, pk_div, pk_sub, ni_m, nI_clamp, md10, dm10, gI_l, gI_n, ar_t, ar_f, it_t, it_f, true_and, and_true, not_true_eq_false, not_false_eq_true, implies_true, and_self, eq_self, h5, hho, hhb, h36b]
                exact ih _ _ (by rw [hst]; exact ⟨z1, z2, z3⟩)
            · rw [if_neg (fun h => ea h.1)] at hst
              simp (disch := omega) only [ln_, leT, leF, ltT, ltF, eqT, eqF, vpT, nlT, nleT, lnF, lenF, eqnF, neqF, nnF, nI_add, pk_mul, pk_div, pk_sub, ni_m, nI_clamp, md10, dm10, gI_l, gI_n, ar_t, ar_f, it_t, it_f, true_and, and_true, not_true_eq_false, not_false_eq_true, implies_true, and_self, eq_self, h5, hho]
              exact ih _ _ (by rw [hst]; exact ⟨z1, z2, z3⟩)
end gvs
