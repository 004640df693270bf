/-! send, drop, give, hours, undo, hold, restore -/
section mtt
variable {fu t lv P np nl nw : Nat} {ht sg lo : Nat → Nat} {wd : Nat → List Nat} {wx wy rn sd : Int32} {LW : Lw} {Y : Yd} {s s1 s2 : fl_I} {l : fl_L} {D : fl_D} {u hm nt nb : Nat} {hs hy : Nat → Yd} {tl : Nat → Nat} {th : Nat → Bool} {D1 : fl_D} {a i b c q k n g m : Nat} {x y z v w : Int32} {Z : Yd}
theorem layY_W (yw : YW P np ht Y) (hi : i < P) (h80 : 80 ≤ Y.2.1 i) : YW P np ht (Y.1, un Y.2.1 i (Y.2.2.2.1 (Y.2.1 i - 80)), un Y.2.2.1 i 0, Y.2.2.2) := by
  have hw := (yw.2.2.1 i hi).1
  have ha := (yw.2.2.2 (Y.2.1 i - 80) (by omega)).1
  refine ⟨yw.1, yw.2.1, fun j hj => ?_, fun c hc => ?_⟩
  · show un _ _ _ _ < _ ∧ un _ _ _ _ ≤ _ ∧ (_ ≤ un _ _ _ _ → un _ _ _ _ = _)
    by_cases e : j = i
    · subst e; rw [un_s, un_s]; exact ⟨by omega, by omega, fun _ => rfl⟩
    · rw [un_n e, un_n e]; exact yw.2.2.1 j hj
  · obtain ⟨g1, g2, g3, g4⟩ := yw.2.2.2 c hc
    refine ⟨g1, g2, Nat.le_trans ?_ g3, g4⟩
    show cnt (un Y.2.1 i _) P c ≤ cnt Y.2.1 P c
    by_cases e : Y.2.1 i = 80 + c
    · have := ct_dn (p := fun j => Y.2.1 j == 80 + c) (r := fun j => un Y.2.1 i (Y.2.2.2.1 (Y.2.1 i - 80)) j == 80 + c) hi (fun j _ hn => by rw [un_n hn]) (by simp [e]) (by rw [un_s]; simp; omega)
      unfold cnt; omega
    · refine Nat.le_of_eq (ct_congr (fun j _ => ?_))
      by_cases e2 : j = i
      · subst e2; rw [un_s, beq_false_of_ne (by omega), beq_false_of_ne e]
      · rw [un_n e2]
theorem s_drop (hfu : 20000 ≤ fu) (hD : (if D.2.2.1 then 20 else 9) = t) (cv : CV fu t P np nl nw ht sg lo wd wx wy rn sd LW Y s l) (rv : RV fu lv P np nl nw ht sg lo wd wx wy rn sd LW Y s l) (mi : MI D P np ht u hs hm hy nt tl th nb s l) : Both fu (f_X11_drop fu v D s l) (p_X11_drop fu v D s l) (f_X12_drop fu v) (p_X12_drop fu v) := by
  have yc := cv.2.2.2.2.1
  have yw := cv.2.2.2.2.2.1
  have hP := yw.1
  have hn := yw.2.1
  have pk := fun s1 => p_isPc2 (fu := fu) (x := v) (s := s1) (l := l)
  rcases ag v P (by omega) with h | ⟨i, hi, rfl⟩
  · have h1 := pc_no (fu := fu) (l := l) yc h
    have h2 := pc_no2 (fu := fu) (l := l) rv.1 hP h
    refine st_N (v := nI 0) hD cv rv mi ?_ ?_ ?_ ?_
    · unfold f_X11_drop; simp (disch := omega) only [ln_, leT, leF, ltT, ltF, eqT, eqF, vpT, nlT, nleT, lnF, lenF, eqnF, neqF, nnF, nI_add, pk_mul, pk_div, pk_sub, ni_m, nI_clamp, md10, dm10, gI_l, gI_n, ar_t, ar_f, it_t, it_f, true_and, and_true, not_true_eq_false, not_false_eq_true, implies_true, and_self, eq_self, h1]
    · unfold p_X11_drop; simp (disch := omega) only [ln_, leT, leF, ltT, ltF, eqT, eqF, vpT, nlT, nleT, lnF, lenF, eqnF, neqF, nnF, nI_add, pk_mul, pk_div, pk_sub, ni_m, nI_clamp, md10, dm10, gI_l, gI_n, ar_t, ar_f, it_t, it_f, true_and, and_true, not_true_eq_false, not_false_eq_true, implies_true, and_self, eq_self, h1, p_isPcT]
    · unfold f_X12_drop; simp (disch := omega) only [ln_, leT, leF, ltT, ltF, eqT, eqF, vpT, nlT, nleT, lnF, lenF, eqnF, neqF, nnF, nI_add, pk_mul, pk_div, pk_sub, ni_m, nI_clamp, md10, dm10, gI_l, gI_n, ar_t, ar_f, it_t, it_f, true_and, and_true, not_true_eq_false, not_false_eq_true, implies_true, and_self, eq_self, h2]
    · unfold p_X12_drop; simp (disch := omega) only [ln_, leT, leF, ltT, ltF, eqT, eqF, vpT, nlT, nleT, lnF, lenF, eqnF, neqF, nnF, nI_add, pk_mul, pk_div, pk_sub, ni_m, nI_clamp, md10, dm10, gI_l, gI_n, ar_t, ar_f, it_t, it_f, true_and, and_true, not_true_eq_false, not_false_eq_true, implies_true, and_self, eq_self, h2, pk]
  · have g1 := pc_yes (fu := fu) (l := l) yc hP hi
    have g2 := pc_yes2 (fu := fu) (l := l) rv.1 hP hi
    have hly := c_lying (fu := fu) (l := l) yc yw hi
    obtain ⟨a1, a2, a3⟩ := rv.2.2.2.2.1.2.1 i hi
    by_cases h80 : Y.2.1 i < 80
    · rw [if_pos h80] at hly
      have a3 := (a1 h80).2.2
      refine st_N (v := nI 0) hD cv rv mi ?_ ?_ ?_ ?_
      · unfold f_X11_drop; simp (disch := omega) only [ln_, leT, leF, ltT, ltF, eqT, eqF, vpT, nlT, nleT, lnF, lenF, eqnF, neqF, nnF, nI_add, pk_mul, pk_div, pk_sub, ni_m, nI_clamp, md10, dm10, gI_l, gI_n, ar_t, ar_f, it_t, it_f, true_and, and_true, not_true_eq_false, not_false_eq_true, implies_true, and_self, eq_self, g1, hly]
      · unfold p_X11_drop; simp (disch := omega) only [ln_, leT, leF, ltT, ltF, eqT, eqF, vpT, nlT, nleT, lnF, lenF, eqnF, neqF, nnF, nI_add, pk_mul, pk_div, pk_sub, ni_m, nI_clamp, md10, dm10, gI_l, gI_n, ar_t, ar_f, it_t, it_f, true_and, and_true, not_true_eq_false, not_false_eq_true, implies_true, and_self, eq_self, g1, hly, p_isPcT]
      · unfold f_X12_drop; simp (disch := omega) only [ln_, leT, leF, ltT, ltF, eqT, eqF, vpT, nlT, nleT, lnF, lenF, eqnF, neqF, nnF, nI_add, pk_mul, pk_div, pk_sub, ni_m, nI_clamp, md10, dm10, gI_l, gI_n, ar_t, ar_f, it_t, it_f, true_and, and_true, not_true_eq_false, not_false_eq_true, implies_true, and_self, eq_self, g2, a3]
      · unfold p_X12_drop; simp (disch := omega) only [ln_, leT, leF, ltT, ltF, eqT, eqF, vpT, nlT, nleT, lnF, lenF, eqnF, neqF, nnF, nI_add, pk_mul, pk_div, pk_sub, ni_m, nI_clamp, md10, dm10, gI_l, gI_n, ar_t, ar_f, it_t, it_f, true_and, and_true, not_true_eq_false, not_false_eq_true, implies_true, and_self, eq_self, g2, pk, a3]
    · rw [if_neg h80] at hly
      have hw := (yw.2.2.1 i hi).1
      have hwl := (yw.2.2.2 (Y.2.1 i - 80) (by omega))
      obtain ⟨D1, s1, e1, p1, d1, d2, c1, c2, c3⟩ := c_keep (fu := fu) (l := l) mi.1 mi.2.1.1 mi.2.2.1.1 yc hP hn
      have y1 : yC P np Y 31 s1 := yC_keep (fun k hk => c3 (31 + k) (by omega) (by omega)) yc
      have hho := c_holder (fu := fu) (l := l) y1 yw hi
      rw [if_neg h80] at hho
      have hAt : s1 34 (Y.2.1 i - 80) = nI (Y.2.2.2.1 (Y.2.1 i - 80)) := (y1.2.2.2.2 (Y.2.1 i - 80) (by omega)).1
      have hHs : s1 36 (Y.2.1 i - 80) = nI (cnt Y.2.1 P (Y.2.1 i - 80)) := (y1.2.2.2.2 (Y.2.1 i - 80) (by omega)).2.2
      have hcp : 1 ≤ cnt Y.2.1 P (Y.2.1 i - 80) := ct_pos hi (by simp; omega)
      have hcb : cnt Y.2.1 P (Y.2.1 i - 80) ≤ 32 := Nat.le_trans (ct_le _ _) hP
      have hld : f_X10_layDown fu (nI i) 31 s1 l = (wi (wi (wi s1 36 (Y.2.1 i - 80) (nI (cnt Y.2.1 P (Y.2.1 i - 80) - 1))) 32 i (nI (Y.2.2.2.1 (Y.2.1 i - 80)))) 33 i (nI 0), l) ∧ p_X10_layDown fu (nI i) 31 s1 l := by
        unfold f_X10_layDown p_X10_layDown
        simp (disch := omega) only [ln_, leT, leF, ltT, ltF, eqT, eqF, vpT, nlT, nleT, lnF, lenF, eqnF, neqF, nnF, nI_add, pk_mul, pk_div, pk_sub, ni_m, nI_clamp, md10, dm10, gI_l, gI_n, ar_t, ar_f, it_t, it_f, true_and, and_true, not_true_eq_false, not_false_eq_true, implies_true, and_self, eq_self, hho, wi_c, wi_u, upd_s, upd_n, su_r, su_c, Nat.reduceAdd, hAt, hHs]
      have yl : yC P np (Y.1, un Y.2.1 i (Y.2.2.2.1 (Y.2.1 i - 80)), un Y.2.2.1 i 0, Y.2.2.2) 31 (wi (wi (wi s1 36 (Y.2.1 i - 80) (nI (cnt Y.2.1 P (Y.2.1 i - 80) - 1))) 32 i (nI (Y.2.2.2.1 (Y.2.1 i - 80)))) 33 i (nI 0)) := by
        obtain ⟨z1, z2, z3, z4, z5⟩ := y1
        simp (disch := omega) only [yC, wi_c, wi_u, upd_s, upd_n, su_r, su_c, Nat.reduceAdd]
        refine ⟨z1, z2, z3, fun j hj => ?_, fun c hc => ?_⟩
        · show _ = nI (un _ _ _ _) ∧ _ = nI (un _ _ _ _)
          by_cases e : j = i
          · subst e; rw [upd_s, upd_s, un_s, un_s]; exact ⟨rfl, rfl⟩
          · rw [upd_n e, upd_n e, un_n e, un_n e]; exact z4 j hj
        · obtain ⟨m1, m2, m3⟩ := z5 c hc
          refine ⟨m1, m2, ?_⟩
          show _ = nI (cnt (un Y.2.1 i _) P c)
          by_cases e : c = Y.2.1 i - 80
          · have := ct_dn (p := fun j => Y.2.1 j == 80 + c) (r := fun j => un Y.2.1 i (Y.2.2.2.1 (Y.2.1 i - 80)) j == 80 + c) hi (fun j _ hn => by rw [un_n hn]) (by simp; omega) (by rw [un_s]; simp; omega)
            rw [e, upd_s]
            rw [e] at this
            congr 1
            unfold cnt
            omega
          · rw [upd_n e, m3]
            congr 1
            refine ct_congr (fun j _ => ?_)
            by_cases e2 : j = i
            · subst e2; rw [un_s, beq_false_of_ne (by omega), beq_false_of_ne (by omega)]
            · rw [un_n e2]
      have c1' : cP D1 P np (nhu u) (nhs u hs Y) (wi (wi (wi s1 36 (Y.2.1 i - 80) (nI (cnt Y.2.1 P (Y.2.1 i - 80) - 1))) 32 i (nI (Y.2.2.2.1 (Y.2.1 i - 80)))) 33 i (nI 0)) := cP_keep (fun _ _ _ => trivial) (by simp (disch := omega) only [wi_c, wi_u, upd_s, upd_n, su_r, su_c]) (fun p hp k hk => by have := hp.1; simp (disch := omega) only [wi_c, wi_u, upd_s, upd_n, su_r, su_c]) d1 c1
      have c2' : cL D1 P np hm hy (wi (wi (wi s1 36 (Y.2.1 i - 80) (nI (cnt Y.2.1 P (Y.2.1 i - 80) - 1))) 32 i (nI (Y.2.2.2.1 (Y.2.1 i - 80)))) 33 i (nI 0)) := cL_keep (by simp (disch := omega) only [wi_c, wi_u, upd_s, upd_n, su_r, su_c]) (fun p hp k hk => by have := hp.1; simp (disch := omega) only [wi_c, wi_u, upd_s, upd_n, su_r, su_c]) d1 c2
      generalize hs9 : wi (wi (wi s1 36 (Y.2.1 i - 80) (nI (cnt Y.2.1 P (Y.2.1 i - 80) - 1))) 32 i (nI (Y.2.2.2.1 (Y.2.1 i - 80)))) 33 i (nI 0) = s9 at hld yl c1' c2'
      have fr9 : ∀ q, q < 107 → (q < 31 ∨ 36 < q) → q ≠ 43 → s9 q = s q := fun q h1 h2 h3 => by
        rw [← hs9]; simp (disch := omega) only [wi_c, wi_u, upd_s, upd_n, su_r, su_c]; exact c3 q h1 h3
      have rv9 : RV fu lv P np nl nw ht sg lo wd wx wy rn sd LW Y s9 l := RV_S (rV_of (fun q h1 h2 => fr9 q h2 (by omega) (by omega))) rv
      obtain ⟨s4, e4, p4, y4, _, _, k3, k4⟩ := r_copies (l := l) hfu rv9.1 rv9.2.2.2.2.1 yw
      have g2 := pc_yes2 (fu := fu) (l := l) rv9.1 hP hi
      have b3 : s9 94 (64 + i) = nI (Y.2.1 i - 80) := (rv9.2.2.2.2.1.2.1 i hi).2.1 (by omega)
      have b4 : s4 94 (64 + i) = nI (Y.2.1 i - 80) := by rw [k3 94 (by omega) (by omega)]; exact b3
      have v1 : s4 95 (128 + (Y.2.1 i - 80)) = nI (Y.2.2.2.1 (Y.2.1 i - 80) % 10) := (y4.2.2 (Y.2.1 i - 80) (by omega)).1
      have v2 : s4 95 (132 + (Y.2.1 i - 80)) = nI (Y.2.2.2.1 (Y.2.1 i - 80) / 10) := (y4.2.2 (Y.2.1 i - 80) (by omega)).2.1
      have rP9 : rP P np u hs s9 := ⟨by rw [fr9 60 (by omega) (by omega) (by omega)]; exact mi.2.1.2.1.1, by rw [fr9 99 (by omega) (by omega) (by omega)]; exact mi.2.1.2.1.2⟩
      have zrow : YF P np (Y.1, un Y.2.1 i (Y.2.2.2.1 (Y.2.1 i - 80)), un Y.2.2.1 i 0, Y.2.2.2) (upd (upd (upd (upd (s4 95) i (nI (Y.2.2.2.1 (Y.2.1 i - 80) % 10))) (32 + i) (nI (Y.2.2.2.1 (Y.2.1 i - 80) / 10))) (64 + i) (-nI 2)) (96 + i) (nI 0)) := by
        refine ⟨by simp (disch := omega) only [upd_n]; exact y4.1, fun j hj => ?_, fun c hc => ?_⟩
        · show (un _ _ _ _ < 80 → upd _ _ _ j = nI (un _ _ _ _ % 10) ∧ upd _ _ _ (32 + j) = nI (un _ _ _ _ / 10) ∧ upd _ _ _ (64 + j) = _) ∧ (80 ≤ un _ _ _ _ → upd _ _ _ (64 + j) = nI (un _ _ _ _ - 80)) ∧ upd _ _ _ (96 + j) = nI (un _ _ _ _)
          by_cases e : j = i
          · subst e
            have := hwl.1
            rw [un_s, un_s]
            simp (disch := omega) only [upd_s, upd_n]
            exact ⟨fun _ => ⟨trivial, trivial, trivial⟩, fun h => by omega, trivial⟩
          · rw [un_n e, un_n e]
            simp (disch := omega) only [upd_n]
            exact y4.2.1 j hj
        · simp (disch := omega) only [upd_n]; exact y4.2.2 c hc
      obtain ⟨s5, e5, p5, rp5, y5, j5, k5⟩ := r_records (Y := Y) (Z := (Y.1, un Y.2.1 i (Y.2.2.2.1 (Y.2.1 i - 80)), un Y.2.2.1 i 0, Y.2.2.2)) (u := u) (hs := hs) (s := wi (wi (wi (wi s4 95 i (nI (Y.2.2.2.1 (Y.2.1 i - 80) % 10))) 95 (32 + i) (nI (Y.2.2.2.1 (Y.2.1 i - 80) / 10))) 95 (64 + i) (-nI 2)) 95 (96 + i) (nI 0)) (l := l) hfu mi.2.1.1.1 ⟨by simp (disch := omega) only [wi_c, wi_u, upd_s, upd_n, su_r, su_c]; rw [k4 58 (by omega) (by omega)]; exact rP9.1, by simp (disch := omega) only [wi_c, wi_u, upd_s, upd_n, su_r, su_c]; rw [k3 99 (by omega) (by omega)]; exact rP9.2⟩ (by simp (disch := omega) only [wi_c, wi_u, upd_s, upd_n, su_r, su_c]; rw [k3 94 (by omega) (by omega)]; exact rv9.2.2.2.2.1) (by simp (disch := omega) only [wi_c, wi_u, upd_s, upd_n, su_r, su_c]; exact zrow) hP hn
      refine st_M (D1 := D1) (s1 := s9) (s2 := s5) (v := nI 1) hD cv rv mi (layY_W yw hi (by omega)) (nhs_W yw mi.2.1.2.2) ?_ ?_ d1 d2 c1' c2' yl (fun q h1 h2 h3 _ _ _ => fr9 q h1 h2 h3) ?_ ?_ rp5 y5 (fun j h1 h2 h3 h4 => ?_) (fun q h1 h2 h3 h4 h5 h6 h7 => ?_)
      · unfold f_X11_drop; simp (disch := omega) only [ln_, leT, leF, ltT, ltF, eqT, eqF, vpT, nlT, nleT, lnF, lenF, eqnF, neqF, nnF, nI_add, pk_mul, pk_div, pk_sub, ni_m, nI_clamp, md10, dm10, gI_l, gI_n, ar_t, ar_f, it_t, it_f, true_and, and_true, not_true_eq_false, not_false_eq_true, implies_true, and_self, eq_self, g1, hly, e1, hld]
      · unfold p_X11_drop; simp (disch := omega) only [ln_, leT, leF, ltT, ltF, eqT, eqF, vpT, nlT, nleT, lnF, lenF, eqnF, neqF, nnF, nI_add, pk_mul, pk_div, pk_sub, ni_m, nI_clamp, md10, dm10, gI_l, gI_n, ar_t, ar_f, it_t, it_f, true_and, and_true, not_true_eq_false, not_false_eq_true, implies_true, and_self, eq_self, g1, hly, p_isPcT, e1, p1, hld]
      · unfold f_X12_drop; simp (disch := omega) only [ln_, leT, leF, ltT, ltF, eqT, eqF, vpT, nlT, nleT, lnF, lenF, eqnF, neqF, nnF, nI_add, pk_mul, pk_div, pk_sub, ni_m, nI_clamp, md10, dm10, gI_l, gI_n, ar_t, ar_f, it_t, it_f, true_and, and_true, not_true_eq_false, not_false_eq_true, implies_true, and_self, eq_self, g2, b3, e4, b4, wi_c, wi_u, upd_s, upd_n, su_r, su_c, v1, v2, e5]
      · unfold p_X12_drop; simp (disch := omega) only [ln_, leT, leF, ltT, ltF, eqT, eqF, vpT, nlT, nleT, lnF, lenF, eqnF, neqF, nnF, nI_add, pk_mul, pk_div, pk_sub, ni_m, nI_clamp, md10, dm10, gI_l, gI_n, ar_t, ar_f, it_t, it_f, true_and, and_true, not_true_eq_false, not_false_eq_true, implies_true, and_self, eq_self, g2, pk, b3, e4, p4, b4, wi_c, wi_u, upd_s, upd_n, su_r, su_c, v1, v2, p5]
      · rw [j5 j h4]; simp (disch := omega) only [wi_c, wi_u, upd_s, upd_n, su_r, su_c]; exact k4 j h2 h3
      · rw [k5 q h4 h7 h1]; simp (disch := omega) only [wi_c, wi_u, upd_s, upd_n, su_r, su_c]; exact k3 q h5 h1
theorem s_hours (hfu : 20000 ≤ fu) (hD : (if D.2.2.1 then 20 else 9) = t) (cv : CV fu t P np nl nw ht sg lo wd wx wy rn sd LW Y s l) (rv : RV fu lv P np nl nw ht sg lo wd wx wy rn sd LW Y s l) (mi : MI D P np ht u hs hm hy nt tl th nb s l) : Both fu (f_X11_hours fu v D s l) (p_X11_hours fu v D s l) (f_X12_hours fu v) (p_X12_hours fu v) := by
  have cv0 := cv
  obtain ⟨ht0, ⟨_, hT2, hT3, ⟨h15, h16, h17, h18⟩, _⟩, hL, hC, yc, yw, tb⟩ := cv
  have hP := yw.1
  have hn := yw.2.1
  unfold f_X11_hours p_X11_hours f_X12_hours p_X12_hours
  rcases ag3 v 0 40 (by omega) (by omega) with h | ⟨h1, h2, h3⟩ | ⟨n, _, hn4, rfl⟩
  · refine st_N (v := -nI 1) hD cv0 rv mi ?_ ?_ ?_ ?_ <;> simp (disch := omega) only [ln_, leT, leF, ltT, ltF, eqT, eqF, vpT, nlT, nleT, lnF, lenF, eqnF, neqF, nnF, nI_add, pk_mul, pk_div, pk_sub, ni_m, nI_clamp, md10, dm10, gI_l, gI_n, ar_t, ar_f, it_t, it_f, true_and, and_true, not_true_eq_false, not_false_eq_true, implies_true, and_self, eq_self, f_X12_isLong, f_X12_in, h, p_isLgT]
  · refine st_N (v := -nI 1) hD cv0 rv mi ?_ ?_ ?_ ?_ <;> simp (disch := omega) only [ln_, leT, leF, ltT, ltF, eqT, eqF, vpT, nlT, nleT, lnF, lenF, eqnF, neqF, nnF, nI_add, pk_mul, pk_div, pk_sub, ni_m, nI_clamp, md10, dm10, gI_l, gI_n, ar_t, ar_f, it_t, it_f, true_and, and_true, not_true_eq_false, not_false_eq_true, implies_true, and_self, eq_self, f_X12_isLong, f_X12_in, h1, h2, h3, p_isLgT]
  · by_cases h0 : n = 0
    · subst h0
      have a1 : s 31 0 = Y.1 := yc.1
      have a2 : s 94 140 = Y.1 := rv.2.2.2.2.1.1
      refine st_N (v := Y.1) hD cv0 rv mi ?_ ?_ ?_ ?_ <;> simp (disch := omega) only [ln_, leT, leF, ltT, ltF, eqT, eqF, vpT, nlT, nleT, lnF, lenF, eqnF, neqF, nnF, nI_add, pk_mul, pk_div, pk_sub, ni_m, nI_clamp, md10, dm10, gI_l, gI_n, ar_t, ar_f, it_t, it_f, true_and, and_true, not_true_eq_false, not_false_eq_true, implies_true, and_self, eq_self, f_X12_isLong, f_X12_in, p_isLgT, a1, a2]
    · obtain ⟨D1, s1, e1, p1, d1, d2, c1, c2, c3⟩ := c_keep (fu := fu) (l := l) mi.1 mi.2.1.1 mi.2.2.1.1 yc hP hn
      have g : ∀ q, t ≤ q → q ≤ t + 10 → s1 q = s q := fun q a b => c3 q (by omega) (by omega)
      have hD1 : (if D1.2.2.1 then 20 else 9) = t := by rw [d2]; exact hD
      obtain ⟨s2, e2, p2, y2, r2⟩ := c_goOn (l := l) (sg := sg) (wx := wx) (wy := wy) (rn := rn) (a := 31) (s := s1) (n := n) (st := false) (x := sd) hfu (yC_keep (fun k hk => c3 (31 + k) (by omega) (by omega)) yc) yw (LC_keep (g (t + 9) (by omega) (by omega)) (g (t + 10) (by omega) (by omega)) hL) hC ht0 (.inl rfl) (fun i hi => by rw [g (t + 4) (by omega) (by omega)]; exact (hT2 i hi).1) (fun b hb => by rw [g (t + 8) (by omega) (by omega)]; exact hT3 b hb) (by rw [g t (by omega) (by omega)]; exact h15) (by rw [g t (by omega) (by omega)]; exact h16) (by rw [g t (by omega) (by omega)]; exact h17) (by omega) (.inr ⟨rfl, sd_ne tb⟩)
      have h18' : s1 t 18 = sd := by rw [g t (by omega) (by omega)]; exact h18
      have c1' := cP_keep (fun _ _ _ => trivial) (r2 43 (by omega) (by omega) (by omega) (by omega)) (fun p hp k hk => by have := hp.1; exact r2 (p + k) (by omega) (by omega) (by omega) (by omega)) d1 c1
      have c2' := cL_keep (s1 := s2) (by rw [r2 0 (by omega) (by omega) (by omega) (by omega)]) (fun p hp k hk => by have := hp.1; exact r2 (p + k) (by omega) (by omega) (by omega) (by omega)) d1 c2
      have fr : ∀ q, q < 107 → (q < 31 ∨ 36 < q) → q ≠ 43 → q ≠ 48 → q ≠ 49 → q ≠ 50 → s2 q = s q := fun q h1 h2 h3 h4 h5 h6 => by rw [r2 q (by omega) (by omega) (by omega) (by omega)]; exact c3 q h1 h3
      have rv2 : RV fu lv P np nl nw ht sg lo wd wx wy rn sd LW Y s2 l := RV_S (rV_of (fun q h1 h2 => fr q h2 (by omega) (by omega) (by omega) (by omega) (by omega))) rv
      obtain ⟨s4, e4, p4, y4, a4, b4, k3, k4⟩ := r_copies (l := l) hfu rv2.1 rv2.2.2.2.2.1 yw
      have k34 : rS s2 s4 := cp_S k3 k4
      obtain ⟨s5, e5, p5, y5, k5⟩ := r_goes (st := false) (n := n) (l := l) hfu (rT_S (rS_V k34) rv2.1) y4 yw (LR_S (rS_V k34) rv2.2.2.1) hC b4 (by omega)
      rw [a4] at y5
      obtain ⟨s6, e6, p6, rp6, y6, j6, k6⟩ := r_records (Y := Y) (u := u) (hs := hs) (s := s5) (l := l) hfu mi.2.1.1.1 ⟨by rw [k5.2 58 (by omega), k4 58 (by omega) (by omega), fr 60 (by omega) (by omega) (by omega) (by omega) (by omega) (by omega)]; exact mi.2.1.2.1.1, by rw [k5.1 99 (by omega) (by omega) (by omega) (by omega) (by omega), k3 99 (by omega) (by omega), fr 99 (by omega) (by omega) (by omega) (by omega) (by omega) (by omega)]; exact mi.2.1.2.1.2⟩ (by rw [k5.1 94 (by omega) (by omega) (by omega) (by omega) (by omega), k3 94 (by omega) (by omega)]; exact rv2.2.2.2.2.1) y5 hP hn
      have a1 : s2 31 0 = (goY LW sg ht wx wy rn P np false sd Y n).1 := y2.1
      have a2 : s6 94 140 = (goY LW sg ht wx wy rn P np false sd Y n).1 := y6.1
      refine st_M (D1 := D1) (s1 := s2) (s2 := s6) (v := (goY LW sg ht wx wy rn P np false sd Y n).1) hD cv0 rv mi (goY_W yw) (nhs_W yw mi.2.1.2.2) ?_ ?_ d1 d2 c1' c2' y2 fr ?_ ?_ rp6 y6 (fun j h1 h2 h3 h4 => by rw [j6 j h4, k5.2 j h1]; exact k4 j h2 h3) (fun q h1 h2 h3 h4 h5 h6 h7 => by rw [k6 q h4 h7 h1, k5.1 q h2 h3 h6 h1 h5]; exact k3 q h5 h1)
      · simp (disch := omega) only [ln_, leT, leF, ltT, ltF, eqT, eqF, vpT, nlT, nleT, lnF, lenF, eqnF, neqF, nnF, nI_add, pk_mul, pk_div, pk_sub, ni_m, nI_clamp, md10, dm10, gI_l, gI_n, ar_t, ar_f, it_t, it_f, true_and, and_true, not_true_eq_false, not_false_eq_true, implies_true, and_self, eq_self, e1, hD1, h18', e2, a1]
      · simp (disch := omega) only [ln_, leT, leF, ltT, ltF, eqT, eqF, vpT, nlT, nleT, lnF, lenF, eqnF, neqF, nnF, nI_add, pk_mul, pk_div, pk_sub, ni_m, nI_clamp, md10, dm10, gI_l, gI_n, ar_t, ar_f, it_t, it_f, true_and, and_true, not_true_eq_false, not_false_eq_true, implies_true, and_self, eq_self, e1, p1, hD1, h18', e2, p2]
      · simp (disch := omega) only [ln_, leT, leF, ltT, ltF, eqT, eqF, vpT, nlT, nleT, lnF, lenF, eqnF, neqF, nnF, nI_add, pk_mul, pk_div, pk_sub, ni_m, nI_clamp, md10, dm10, gI_l, gI_n, ar_t, ar_f, it_t, it_f, true_and, and_true, not_true_eq_false, not_false_eq_true, implies_true, and_self, eq_self, f_X12_isLong, f_X12_in, e4, e5, e6, a2]
      · simp (disch := omega) only [ln_, leT, leF, ltT, ltF, eqT, eqF, vpT, nlT, nleT, lnF, lenF, eqnF, neqF, nnF, nI_add, pk_mul, pk_div, pk_sub, ni_m, nI_clamp, md10, dm10, gI_l, gI_n, ar_t, ar_f, it_t, it_f, true_and, and_true, not_true_eq_false, not_false_eq_true, implies_true, and_self, eq_self, f_X12_isLong, f_X12_in, p_isLgT, e4, p4, e5, p5, e6, p6]
theorem s_send (hfu : 20000 ≤ fu) (hD : (if D.2.2.1 then 20 else 9) = t) (cv : CV fu t P np nl nw ht sg lo wd wx wy rn sd LW Y s l) (rv : RV fu lv P np nl nw ht sg lo wd wx wy rn sd LW Y s l) (mi : MI D P np ht u hs hm hy nt tl th nb s l) : Both fu (f_X11_send fu v x y D s l) (p_X11_send fu v x y D s l) (f_X12_send fu v x y) (p_X12_send fu v x y) := by
  have yc := cv.2.2.2.2.1
  have yw := cv.2.2.2.2.2.1
  have hP := yw.1
  have hn := yw.2.1
  have pk := p_isPk2 (fu := fu) (x := v) (l := l) rv.1
  rcases ag v np (by omega) with h | ⟨b, hb, rfl⟩
  · have h1 := pk_no (fu := fu) (l := l) yc h
    have h2 := pk_no2 (fu := fu) (l := l) rv.1 hn h
    unfold f_X11_send p_X11_send f_X12_send p_X12_send f_X12_send_21 p_X12_send_21
    refine st_N (v := nI 0) hD cv rv mi ?_ ?_ ?_ ?_ <;> simp (disch := omega) only [ln_, leT, leF, ltT, ltF, eqT, eqF, vpT, nlT, nleT, lnF, lenF, eqnF, neqF, nnF, nI_add, pk_mul, pk_div, pk_sub, ni_m, nI_clamp, md10, dm10, gI_l, gI_n, ar_t, ar_f, it_t, it_f, true_and, and_true, not_true_eq_false, not_false_eq_true, implies_true, and_self, eq_self, h1, h2, p_isPkT, pk]
  · have g1 := pk_yes (fu := fu) (l := l) yc hn hb
    have g2 := pk_yes2 (fu := fu) (l := l) rv.1 hn hb
    have a3 : s 34 b = nI (Y.2.2.2.1 b) := (yc.2.2.2.2 b hb).1
    have a4 : s 35 b = gI (Y.2.2.2.2 b) := (yc.2.2.2.2 b hb).2.1
    obtain ⟨w1, w2, w3, w4⟩ := yw.2.2.2 b hb
    have r94 : s 94 (136 + b) = gI (Y.2.2.2.2 b) := (rv.2.2.2.2.1.2.2 b hb).2.2
    -- the change itself, for a new goal g
    have chg : ∀ (g : Nat) (fA : Int32 × fl_D × fl_I × fl_L) (pA : Prop) (fB : fl_I → fl_L → Int32 × fl_I × fl_L) (pB : fl_I → fl_L → Prop), g ≤ 80 → (fA = (nI 1, (f_keep fu D s l).1, wi (f_keep fu D s l).2.1 35 b (gI g), (f_keep fu D s l).2.2)) → (p_keep fu D s l → pA) → (∀ s1 s4 s5 : fl_I, RV fu lv P np nl nw ht sg lo wd wx wy rn sd LW Y s1 l → f_X12_copies fu s1 l = (s4, l) → p_X12_copies fu s1 l → f_X12_records fu (wi s4 95 (136 + b) (gI g)) l = (s5, l) → p_X12_records fu (wi s4 95 (136 + b) (gI g)) l → fB s1 l = (nI 1, s5, l) ∧ pB s1 l) → Both fu fA pA fB pB := by
      intro g fA pA fB pB hg hA hpA hB
      obtain ⟨D1, s1, e1, p1, d1, d2, c1, c2, c3⟩ := c_keep (fu := fu) (l := l) mi.1 mi.2.1.1 mi.2.2.1.1 yc hP hn
      have y2 : yC P np (glY Y b g) 31 (wi s1 35 b (gI g)) := glY_C (b := b) (g := g) (yC_keep (fun k hk => c3 (31 + k) (by omega) (by omega)) yc)
      have c1' := cP_keep (s1 := wi s1 35 b (gI g)) (fun _ _ _ => trivial) (by simp (disch := omega) only [wi_c, wi_u, upd_s, upd_n, su_r, su_c]) (fun p hp k hk => by have := hp.1; simp (disch := omega) only [wi_c, wi_u, upd_s, upd_n, su_r, su_c]) d1 c1
      have c2' := cL_keep (s1 := wi s1 35 b (gI g)) (by simp (disch := omega) only [wi_c, wi_u, upd_s, upd_n, su_r, su_c]) (fun p hp k hk => by have := hp.1; simp (disch := omega) only [wi_c, wi_u, upd_s, upd_n, su_r, su_c]) d1 c2
      have fr : ∀ q, q < 107 → (q < 31 ∨ 36 < q) → q ≠ 43 → (wi s1 35 b (gI g)) q = s q := fun q h1 h2 h3 => by rw [wi_c (by omega)]; exact c3 q h1 h3
      have rv2 : RV fu lv P np nl nw ht sg lo wd wx wy rn sd LW Y (wi s1 35 b (gI g)) l := RV_S (rV_of (fun q h1 h2 => fr q h2 (by omega) (by omega))) rv
      obtain ⟨s4, e4, p4, y4, _, _, k3, k4⟩ := r_copies (l := l) hfu rv2.1 rv2.2.2.2.2.1 yw
      have y5 := glY_F (g := g) y4 hP hn hb
      obtain ⟨s6, e6, p6, rp6, y6, j6, k6⟩ := r_records (Y := Y) (Z := glY Y b g) (u := u) (hs := hs) (s := wi s4 95 (136 + b) (gI g)) (l := l) hfu mi.2.1.1.1 ⟨by rw [wi_c (by omega), k4 58 (by omega) (by omega), fr 60 (by omega) (by omega) (by omega)]; exact mi.2.1.2.1.1, by rw [wi_c (by omega), k3 99 (by omega) (by omega), fr 99 (by omega) (by omega) (by omega)]; exact mi.2.1.2.1.2⟩ (by rw [wi_c (by omega), k3 94 (by omega) (by omega)]; exact rv2.2.2.2.2.1) (by rw [wi_u]; exact y5) hP hn
      obtain ⟨q1, q2⟩ := hB _ s4 s6 rv2 e4 p4 e6 p6
      rw [e1] at hA
      exact st_M (D1 := D1) (s1 := wi s1 35 b (gI g)) (s2 := s6) (v := nI 1) hD cv rv mi (glY_W yw hg) (nhs_W yw mi.2.1.2.2) hA (hpA p1) d1 d2 c1' c2' y2 (fun q h1 h2 h3 _ _ _ => fr q h1 h2 h3) q1 q2 rp6 y6 (fun j h1 h2 h3 h4 => by rw [j6 j h4, wi_c (by omega)]; exact k4 j h2 h3) (fun q h1 h2 h3 h4 h5 h6 h7 => by rw [k6 q h4 h7 h1, wi_c h5]; exact k3 q h5 h1)
    by_cases hx1 : x = -nI 1
    · subst hx1
      by_cases hg : Y.2.2.2.2 b < 80
      · refine chg 80 _ _ _ _ (Nat.le_refl _) ?_ ?_ ?_
        · unfold f_X11_send; simp (disch := omega) only [ln_, leT, leF, ltT, ltF, eqT, eqF, vpT, nlT, nleT, lnF, lenF, eqnF, neqF, nnF, nI_add, pk_mul, pk_div, pk_sub, ni_m, nI_clamp, md10, dm10, gI_l, gI_n, ar_t, ar_f, it_t, it_f, true_and, and_true, not_true_eq_false, not_false_eq_true, implies_true, and_self, eq_self, g1, a3, a4]
        · intro hk; unfold p_X11_send; simp (disch := omega) only [ln_, leT, leF, ltT, ltF, eqT, eqF, vpT, nlT, nleT, lnF, lenF, eqnF, neqF, nnF, nI_add, pk_mul, pk_div, pk_sub, ni_m, nI_clamp, md10, dm10, gI_l, gI_n, ar_t, ar_f, it_t, it_f, true_and, and_true, not_true_eq_false, not_false_eq_true, implies_true, and_self, eq_self, g1, p_isPkT, a3, a4, hk]
        · intro s1 s4 s5 rv1 e4 p4 e6 p6
          have g2 := pk_yes2 (fu := fu) (l := l) rv1.1 hn hb
          have pk := p_isPk2 (fu := fu) (x := nI b) (l := l) rv1.1
          have r94 : s1 94 (136 + b) = gI (Y.2.2.2.2 b) := (rv1.2.2.2.2.1.2.2 b hb).2.2
          rw [gI_n (Nat.le_refl 80)] at e6 p6
          unfold f_X12_send p_X12_send f_X12_send_23 p_X12_send_23 f_X12_send_67 p_X12_send_67 f_X12_send_83 p_X12_send_83
          simp (disch := omega) only [ln_, leT, leF, ltT, ltF, eqT, eqF, vpT, nlT, nleT, lnF, lenF, eqnF, neqF, nnF, nI_add, pk_mul, pk_div, pk_sub, ni_m, nI_clamp, md10, dm10, gI_l, gI_n, ar_t, ar_f, it_t, it_f, true_and, and_true, not_true_eq_false, not_false_eq_true, implies_true, and_self, eq_self, g2, pk, r94, e4, p4, e6, p6]
      · unfold f_X11_send p_X11_send f_X12_send p_X12_send f_X12_send_23 p_X12_send_23
        refine st_N (v := nI 0) hD cv rv mi ?_ ?_ ?_ ?_ <;> simp (disch := omega) only [ln_, leT, leF, ltT, ltF, eqT, eqF, vpT, nlT, nleT, lnF, lenF, eqnF, neqF, nnF, nI_add, pk_mul, pk_div, pk_sub, ni_m, nI_clamp, md10, dm10, gI_l, gI_n, ar_t, ar_f, it_t, it_f, true_and, and_true, not_true_eq_false, not_false_eq_true, implies_true, and_self, eq_self, g1, g2, p_isPkT, pk, a3, a4, r94]
    · rcases cell_ag (fu := fu) x y with ⟨h1, h2⟩ | ⟨i, j, hi, hj, rfl, rfl, h1, h2⟩
      · unfold f_X11_send p_X11_send f_X12_send p_X12_send f_X12_send_21 p_X12_send_21
        refine st_N (v := nI 0) hD cv rv mi ?_ ?_ ?_ ?_ <;> simp (disch := omega) only [ln_, leT, leF, ltT, ltF, eqT, eqF, vpT, nlT, nleT, lnF, lenF, eqnF, neqF, nnF, nI_add, pk_mul, pk_div, pk_sub, ni_m, nI_clamp, md10, dm10, gI_l, gI_n, ar_t, ar_f, it_t, it_f, true_and, and_true, not_true_eq_false, not_false_eq_true, implies_true, and_self, eq_self, g1, g2, p_isPkT, pk, hx1, h1, h2, p_cellT, p_cell2T]
      · have hga := fun (s1 : fl_I) (h : YF P np Y (s1 94)) => r_goalAt (fu := fu) (l := l) (c := 10 * j + i) h yw hb (by omega)
        by_cases ec : 10 * j + i = Y.2.2.2.1 b
        · have hga := fun s1 h => (by have := hga s1 h; rw [if_pos ec] at this; exact this : p_X12_goalAt fu (nI b) (nI (10 * j + i)) s1 l ∧ f_X12_goalAt fu (nI b) (nI (10 * j + i)) s1 l = gI 80)
          by_cases hg : Y.2.2.2.2 b < 80
          · refine chg 80 _ _ _ _ (Nat.le_refl _) ?_ ?_ ?_
            · unfold f_X11_send; simp (disch := omega) only [ln_, leT, leF, ltT, ltF, eqT, eqF, vpT, nlT, nleT, lnF, lenF, eqnF, neqF, nnF, nI_add, pk_mul, pk_div, pk_sub, ni_m, nI_clamp, md10, dm10, gI_l, gI_n, ar_t, ar_f, it_t, it_f, true_and, and_true, not_true_eq_false, not_false_eq_true, implies_true, and_self, eq_self, g1, a3, a4, h1]
            · intro hk; unfold p_X11_send; simp (disch := omega) only [ln_, leT, leF, ltT, ltF, eqT, eqF, vpT, nlT, nleT, lnF, lenF, eqnF, neqF, nnF, nI_add, pk_mul, pk_div, pk_sub, ni_m, nI_clamp, md10, dm10, gI_l, gI_n, ar_t, ar_f, it_t, it_f, true_and, and_true, not_true_eq_false, not_false_eq_true, implies_true, and_self, eq_self, g1, p_isPkT, a3, a4, hk, h1, p_cellT]
            · intro s1 s4 s5 rv1 e4 p4 e6 p6
              have g2 := pk_yes2 (fu := fu) (l := l) rv1.1 hn hb
              have pk := p_isPk2 (fu := fu) (x := nI b) (l := l) rv1.1
              have r94 : s1 94 (136 + b) = gI (Y.2.2.2.2 b) := (rv1.2.2.2.2.1.2.2 b hb).2.2
              have ga := hga s1 rv1.2.2.2.2.1
              rw [gI_n (Nat.le_refl 80)] at e6 p6
              unfold f_X12_send p_X12_send f_X12_send_23 p_X12_send_23 f_X12_send_67 p_X12_send_67 f_X12_send_83 p_X12_send_83
              simp (disch := omega) only [ln_, leT, leF, ltT, ltF, eqT, eqF, vpT, nlT, nleT, lnF, lenF, eqnF, neqF, nnF, nI_add, pk_mul, pk_div, pk_sub, ni_m, nI_clamp, md10, dm10, gI_l, gI_n, ar_t, ar_f, it_t, it_f, true_and, and_true, not_true_eq_false, not_false_eq_true, implies_true, and_self, eq_self, g2, pk, h2, p_cell2T, r94, ga, e4, p4, e6, p6]
          · have ga := hga s rv.2.2.2.2.1
            unfold f_X11_send p_X11_send f_X12_send p_X12_send f_X12_send_23 p_X12_send_23
            refine st_N (v := nI 0) hD cv rv mi ?_ ?_ ?_ ?_ <;> simp (disch := omega) only [ln_, leT, leF, ltT, ltF, eqT, eqF, vpT, nlT, nleT, lnF, lenF, eqnF, neqF, nnF, nI_add, pk_mul, pk_div, pk_sub, ni_m, nI_clamp, md10, dm10, gI_l, gI_n, ar_t, ar_f, it_t, it_f, true_and, and_true, not_true_eq_false, not_false_eq_true, implies_true, and_self, eq_self, g1, g2, p_isPkT, pk, a3, a4, h1, h2, p_cellT, p_cell2T, r94, ga]
        · have hga := fun s1 h => (by have := hga s1 h; rw [if_neg ec] at this; exact this : p_X12_goalAt fu (nI b) (nI (10 * j + i)) s1 l ∧ f_X12_goalAt fu (nI b) (nI (10 * j + i)) s1 l = gI (10 * j + i))
          by_cases hg : 10 * j + i = Y.2.2.2.2 b
          · have ga := hga s rv.2.2.2.2.1
            unfold f_X11_send p_X11_send f_X12_send p_X12_send f_X12_send_23 p_X12_send_23
            refine st_N (v := nI 0) hD cv rv mi ?_ ?_ ?_ ?_ <;> simp (disch := omega) only [ln_, leT, leF, ltT, ltF, eqT, eqF, vpT, nlT, nleT, lnF, lenF, eqnF, neqF, nnF, nI_add, pk_mul, pk_div, pk_sub, ni_m, nI_clamp, md10, dm10, gI_l, gI_n, ar_t, ar_f, it_t, it_f, true_and, and_true, not_true_eq_false, not_false_eq_true, implies_true, and_self, eq_self, g1, g2, p_isPkT, pk, a3, a4, h1, h2, p_cellT, p_cell2T, r94, ga]
          · have hne : (gI (Y.2.2.2.2 b) = nI (10 * j + i)) = False := by
              by_cases e8 : Y.2.2.2.2 b < 80
              · rw [gI_l e8, eqF (by omega) (by omega) (by omega)]
              · rw [gI_n (by omega), neqF (by omega) (by omega) (by omega)]
            have hne2 : (nI (10 * j + i) = gI (Y.2.2.2.2 b)) = False := by
              refine eq_false (fun e => ?_)
              rw [← e] at hne
              exact of_eq_true (by rw [← hne]; exact eq_true rfl)
            refine chg (10 * j + i) _ _ _ _ (by omega) ?_ ?_ ?_
            · rw [gI_l (show 10 * j + i < 80 by omega)]
              unfold f_X11_send
              simp (disch := omega) only [ln_, eqF, eqnF, nI_add, pk_mul, nI_clamp, ar_t, ar_f, it_t, it_f, true_and, and_true, not_true_eq_false, not_false_eq_true, implies_true, and_self, eq_self, g1, a3, a4, h1, hne2]
            · intro hk; unfold p_X11_send
              simp (disch := omega) only [ln_, eqF, eqnF, nI_add, pk_mul, nI_clamp, vpT, ar_t, ar_f, it_t, it_f, true_and, and_true, not_true_eq_false, not_false_eq_true, implies_true, and_self, eq_self, g1, p_isPkT, a3, a4, hk, h1, p_cellT, hne2]
            · intro s1 s4 s5 rv1 e4 p4 e6 p6
              have g2 := pk_yes2 (fu := fu) (l := l) rv1.1 hn hb
              have pk := p_isPk2 (fu := fu) (x := nI b) (l := l) rv1.1
              have r94 : s1 94 (136 + b) = gI (Y.2.2.2.2 b) := (rv1.2.2.2.2.1.2.2 b hb).2.2
              have ga := hga s1 rv1.2.2.2.2.1
              rw [gI_l (show 10 * j + i < 80 by omega)] at e6 p6 ga
              unfold f_X12_send p_X12_send f_X12_send_23 p_X12_send_23 f_X12_send_67 p_X12_send_67 f_X12_send_83 p_X12_send_83
              simp (disch := omega) only [ln_, eqF, eqnF, nI_add, pk_mul, nI_clamp, vpT, ar_t, ar_f, it_t, it_f, true_and, and_true, not_true_eq_false, not_false_eq_true, implies_true, and_self, eq_self, g2, pk, h2, p_cell2T, r94, ga, hne, e4, p4, e6, p6]
theorem s_undo (hfu : 20000 ≤ fu) (hD : (if D.2.2.1 then 20 else 9) = t) (cv : CV fu t P np nl nw ht sg lo wd wx wy rn sd LW Y s l) (rv : RV fu lv P np nl nw ht sg lo wd wx wy rn sd LW Y s l) (mi : MI D P np ht u hs hm hy nt tl th nb s l) : Both fu ((f_X11_undo fu D s l).1, D, (f_X11_undo fu D s l).2.1, (f_X11_undo fu D s l).2.2) (p_X11_undo fu D s l) (f_X12_undo fu) (p_X12_undo fu) := by
  have yc := cv.2.2.2.2.1
  have yw := cv.2.2.2.2.2.1
  have hP := yw.1
  have hn := yw.2.1
  obtain ⟨u40, h430, nn, hnn, h432, hpast⟩ := mi.2.1.1
  have h58 := mi.2.1.2.1.1
  unfold f_X11_undo p_X11_undo
  by_cases h0 : u = 0
  · subst h0
    have eb : f_bring fu D s l = (0, s, l) := by unfold f_bring; rw [h430, if_pos (show nI 0 ≤ 0 from nI_le (b := 0) (Nat.le_refl _) (by omega))]
    refine st_N (v := nI 0) hD cv rv mi ?_ ?_ ?_ ?_
    · rw [eb]; rfl
    · rw [eb]; refine ⟨?_, .inl rfl, trivial⟩; unfold p_bring; rw [h432]; exact vp_in_nI hnn (by omega)
    · unfold f_X12_undo; simp (disch := omega) only [ln_, leT, leF, ltT, ltF, eqT, eqF, vpT, nlT, nleT, lnF, lenF, eqnF, neqF, nnF, nI_add, pk_mul, pk_div, pk_sub, ni_m, nI_clamp, md10, dm10, gI_l, gI_n, ar_t, ar_f, it_t, it_f, true_and, and_true, not_true_eq_false, not_false_eq_true, implies_true, and_self, eq_self, h58]
    · unfold p_X12_undo; simp (disch := omega) only [ln_, leT, leF, ltT, ltF, eqT, eqF, vpT, nlT, nleT, lnF, lenF, eqnF, neqF, nnF, nI_add, pk_mul, pk_div, pk_sub, ni_m, nI_clamp, md10, dm10, gI_l, gI_n, ar_t, ar_f, it_t, it_f, true_and, and_true, not_true_eq_false, not_false_eq_true, implies_true, and_self, eq_self, h58]
  · obtain ⟨s1, e1, p1, y1, c1, r1⟩ := c_bring (fu := fu) (l := l) mi.1 mi.2.1.1 (by omega) hP hn
    obtain ⟨s2, e2, p2, y2, rp2, j2, k2⟩ := r_undo (s := s1) (l := l) (u := u) (hs := hs) hfu (by omega) u40 ⟨by rw [r1 60 (by omega) (by omega)]; exact h58, by rw [r1 99 (by omega) (by omega)]; exact mi.2.1.2.1.2⟩ hP hn
    refine st_M (D1 := D) (s1 := s1) (s2 := s2) (v := nI 1) hD cv rv mi (mi.2.1.2.2 (u - 1) (by omega)) (fun k hk => mi.2.1.2.2 k (by omega)) ?_ ?_ mi.1 rfl c1 (cL_keep (by rw [r1 0 (by omega) (by omega)]) (fun p hp k hk => by have := hp.1; exact r1 (p + k) (by omega) (by omega)) mi.1 mi.2.2.1.1) y1 (fun q h1 h2 h3 _ _ _ => r1 q h2 h3) e2 p2 rp2 y2 (fun j _ _ _ h4 => j2 j h4) (fun q h1 _ _ h4 _ _ _ => k2 q h4 h1)
    · rw [e1]
    · rw [e1]; exact ⟨p1, .inr rfl, trivial⟩
end mtt
