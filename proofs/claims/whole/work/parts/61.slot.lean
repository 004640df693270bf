/-! The slots -/
def hmn (hm k : Nat) : Nat := if bt hm k = 1 then hm else hm + 2 ^ k
theorem hm_or : ∀ (a : Fin 8) (k : Fin 3), nI a.1 ||| (nI 1 <<< (nI k.1 &&& nI 31)) = nI (hmn a.1 k.1) := by decide +kernel
theorem hm_lt : ∀ (a : Fin 8) (k : Fin 3), hmn a.1 k.1 < 8 := by decide +kernel
theorem hm_bt : ∀ (a : Fin 8) (k j : Fin 3), bt (hmn a.1 k.1) j.1 = if j = k then 1 else bt a.1 j.1 := by decide +kernel
section slo
variable {fu t lv P np nl nw : Nat} {ht sg lo : Nat → Nat} {wd : Nat → List Nat} {wx wy rn sd : Int32} {LW : Lw} {Y : Yd} {s s1 s2 : fl_I} {l : fl_L} {D : fl_D} {u hm nt nb : Nat} {hs hy : Nat → Yd} {tl : Nat → Nat} {th : Nat → Bool} {D1 : fl_D} {a i b c q k n g m : Nat} {x y z v w : Int32} {Z : Yd}
theorem r_hold20 (hfu : 20000 ≤ fu) (hk : k < 3) : ∃ s', f_X12_hold_20 fu fu (nI k) (nI 0) s l = (nI 1, s', l) ∧ p_X12_hold_20 fu fu (nI k) (nI 0) s l ∧ (∀ j, j < 141 → s' 106 (141 * k + j) = s 94 j) ∧ (∀ j, j < 141 * k ∨ 141 * k + 141 ≤ j → s' 106 j = s 106 j) ∧ ∀ q, q ≠ 106 → s' q = s q := by
  refine loop_i (fun f i s0 => ∃ s', f_X12_hold_20 fu f (nI k) (nI i) s0 l = (nI 1, s', l) ∧ p_X12_hold_20 fu f (nI k) (nI i) s0 l ∧ (∀ j, j < 141 → s' 106 (141 * k + j) = s 94 j) ∧ (∀ j, j < 141 * k ∨ 141 * k + 141 ≤ j → s' 106 j = s 106 j) ∧ ∀ q, q ≠ 106 → s' q = s q) (fun i s0 => (∀ j, j < i → s0 106 (141 * k + j) = s 94 j) ∧ (∀ j, j < 141 * k ∨ 141 * k + 141 ≤ j → s0 106 j = s 106 j) ∧ ∀ q, q ≠ 106 → s0 q = s q) 141 ?_ ?_ fu 0 s (Nat.zero_le _) (by omega) ⟨fun j hj => absurd hj (Nat.not_lt_zero j), fun _ _ => rfl, fun _ _ => rfl⟩
  · intro f s0 hs
    refine ⟨s0, ?_, ?_, hs⟩
    · unfold f_X12_hold_20
      simp (disch := omega) only [ln_, leT, leF, ltT, ltF, eqT, eqF, vpT, nlT, nleT, lnF, lenF, eqnF, neqF, nnF, nI_add, pk_mul, pk_div, pk_sub, ni_m, nI_clamp, md10, dm10, gI_l, gI_n, ar_t, ar_f, it_t, it_f, true_and, and_true, not_true_eq_false, not_false_eq_true, implies_true, and_self, eq_self]
    · unfold p_X12_hold_20
      simp (disch := omega) only [ln_, leT, leF, ltT, ltF, eqT, eqF, vpT, nlT, nleT, lnF, lenF, eqnF, neqF, nnF, nI_add, pk_mul, pk_div, pk_sub, ni_m, nI_clamp, md10, dm10, gI_l, gI_n, ar_t, ar_f, it_t, it_f, true_and, and_true, not_true_eq_false, not_false_eq_true, implies_true, and_self, eq_self]
  · intro f i s0 hi hs ih
    have h94 := hs.2.2 94 (by omega)
    unfold f_X12_hold_20 p_X12_hold_20
    simp (disch := omega) only [ln_, leT, leF, ltT, ltF, eqT, eqF, vpT, nlT, nleT, lnF, lenF, eqnF, neqF, nnF, nI_add, pk_mul, pk_div, pk_sub, ni_m, nI_clamp, md10, dm10, gI_l, gI_n, ar_t, ar_f, it_t, it_f, true_and, and_true, not_true_eq_false, not_false_eq_true, implies_true, and_self, eq_self]
    refine ih _ ⟨fun j hj => ?_, fun j hj => by rw [wi_u, upd_n (by omega)]; exact hs.2.1 j hj, fun q hq => by rw [wi_c hq]; exact hs.2.2 q hq⟩
    rw [wi_u]
    by_cases e : j = i
    · subst e; rw [upd_s, h94]
    · rw [upd_n (by omega)]; exact hs.1 j (by omega)
theorem r_rest22 (hfu : 20000 ≤ fu) (hk : k < 3) : ∃ s', f_X12_restore_22 fu fu (nI k) (nI 0) s l = (nI 1, s', l) ∧ p_X12_restore_22 fu fu (nI k) (nI 0) s l ∧ (∀ j, j < 141 → s' 94 j = s 106 (141 * k + j)) ∧ s' 60 58 = nI 0 ∧ (∀ j, j ≠ 58 → s' 60 j = s 60 j) ∧ ∀ q, q ≠ 94 → q ≠ 60 → s' q = s q := by
  refine loop_i (fun f i s0 => ∃ s', f_X12_restore_22 fu f (nI k) (nI i) s0 l = (nI 1, s', l) ∧ p_X12_restore_22 fu f (nI k) (nI i) s0 l ∧ (∀ j, j < 141 → s' 94 j = s 106 (141 * k + j)) ∧ s' 60 58 = nI 0 ∧ (∀ j, j ≠ 58 → s' 60 j = s 60 j) ∧ ∀ q, q ≠ 94 → q ≠ 60 → s' q = s q) (fun i s0 => (∀ j, j < i → s0 94 j = s 106 (141 * k + j)) ∧ ∀ q, q ≠ 94 → s0 q = s q) 141 ?_ ?_ fu 0 s (Nat.zero_le _) (by omega) ⟨fun j hj => absurd hj (Nat.not_lt_zero j), fun _ _ => rfl⟩
  · intro f s0 hs
    refine ⟨wi s0 60 58 (nI 0), ?_, ?_, fun j hj => by simp (disch := omega) only [wi_c, wi_u, upd_s, upd_n, su_r, su_c]; exact hs.1 j hj, by simp (disch := omega) only [wi_c, wi_u, upd_s, upd_n, su_r, su_c], fun j hj => by simp (disch := omega) only [wi_c, wi_u, upd_s, upd_n, su_r, su_c]; rw [hs.2 60 (by omega)], fun q h1 h2 => by rw [wi_c h2]; exact hs.2 q h1⟩
    · unfold f_X12_restore_22
      simp (disch := omega) only [ln_, leT, leF, ltT, ltF, eqT, eqF, vpT, nlT, nleT, lnF, lenF, eqnF, neqF, nnF, nI_add, pk_mul, pk_div, pk_sub, ni_m, nI_clamp, md10, dm10, gI_l, gI_n, ar_t, ar_f, it_t, it_f, true_and, and_true, not_true_eq_false, not_false_eq_true, implies_true, and_self, eq_self]
    · unfold p_X12_restore_22
      simp (disch := omega) only [ln_, leT, leF, ltT, ltF, eqT, eqF, vpT, nlT, nleT, lnF, lenF, eqnF, neqF, nnF, nI_add, pk_mul, pk_div, pk_sub, ni_m, nI_clamp, md10, dm10, gI_l, gI_n, ar_t, ar_f, it_t, it_f, true_and, and_true, not_true_eq_false, not_false_eq_true, implies_true, and_self, eq_self]
  · intro f i s0 hi hs ih
    have h106 := hs.2 106 (by omega)
    unfold f_X12_restore_22 p_X12_restore_22
    simp (disch := omega) only [ln_, leT, leF, ltT, ltF, eqT, eqF, vpT, nlT, nleT, lnF, lenF, eqnF, neqF, nnF, nI_add, pk_mul, pk_div, pk_sub, ni_m, nI_clamp, md10, dm10, gI_l, gI_n, ar_t, ar_f, it_t, it_f, true_and, and_true, not_true_eq_false, not_false_eq_true, implies_true, and_self, eq_self]
    refine ih _ ⟨fun j hj => ?_, fun q hq => by rw [wi_c hq]; exact hs.2 q hq⟩
    rw [wi_u]
    by_cases e : j = i
    · subst e; rw [upd_s, h106]
    · rw [upd_n e]; exact hs.1 j (by omega)
theorem YF_ext {f h : Nat → Int32} (hP : P ≤ 32) (hn : np ≤ 4) (e : ∀ j, j < 141 → h j = f j) (y : YF P np Y f) : YF P np Y h := YF_row e hP hn y
theorem c_hold (hd : dI D) (hc : cP D P np u hs s) (hl : cL D P np hm hy s) (yc : yC P np Y 31 s) (hP : P ≤ 32) (hn : np ≤ 4) (hk : k < 3) :
    ∃ D' s', f_hold fu (nI k) D s l = (nI 1, D', s', l) ∧ dI D' ∧ D'.2.2.1 = D.2.2.1 ∧ cP D' P np u hs s' ∧ cL D' P np (hmn hm k) (ups hy k Y) s' ∧ s' 0 14 = s 0 14 ∧ ∀ q, q < 107 → q ≠ 0 → s' q = s q := by
  obtain ⟨u40, h430, nn, hnn, h432, hpast⟩ := hc
  obtain ⟨l1, l2, l3⟩ := hl
  have hor := hm_or ⟨hm, l1⟩ ⟨k, hk⟩
  have hlt := hm_lt ⟨hm, l1⟩ ⟨k, hk⟩
  have hbt := hm_bt ⟨hm, l1⟩ ⟨k, hk⟩
  dsimp only at hor hlt hbt
  have body : ∀ (D' : fl_D) (p : Nat) (s0 : fl_I), dI D' → D'.2.2.1 = D.2.2.1 → D'.2.2.2.2.2 k = some p → (∀ j, j ≠ k → D'.2.2.2.2.2 j = D.2.2.2.2.2 j) → D'.2.2.2.2.1 = D.2.2.2.2.1 → (∀ q, q < 107 → s0 q = s q) → (∀ p', p' ≠ p → pYd D p' → pYd D' p' ∧ ∀ j, j ≤ 5 → s0 (p' + j) = s (p' + j)) →
      ∃ s', h_33 fu p (nI k) s0 l = (s', l) ∧ cP D' P np u hs s' ∧ cL D' P np (hmn hm k) (ups hy k Y) s' ∧ s' 0 14 = s 0 14 ∧ ∀ q, q < 107 → q ≠ 0 → s' q = s q := by
    intro D' p s0 hd' hD1 hpk hpo hsl hlow hoth
    have hpy := hd'.2.2.2.1 k p hpk
    have h107 := hpy.1
    obtain ⟨s1, e1, _, y1, r1⟩ := c_copy (fu := fu) (a := p) (b := 31) (l := l) (s := s0) (yC_keep (s := s) (fun j hj => by rw [hlow (31 + j) (by omega)]) yc) hP hn (by omega)
    have h08 : s1 0 8 = nI hm := by rw [r1 0 (by omega), hlow 0 (by omega)]; exact l2
    refine ⟨wi s1 0 8 (nI (hmn hm k)), ?_, ?_, ?_, by rw [wi_u, upd_n (by omega), r1 0 (by omega), hlow 0 (by omega)], fun q h1 h2 => by rw [wi_c h2, r1 q (by omega), hlow q h1]⟩
    · unfold h_33; rw [e1]; dsimp only; rw [h08, ← hor]; rfl
    · refine ⟨u40, by rw [wi_c (by omega), r1 43 (by omega), hlow 43 (by omega)]; exact h430, nn, hnn, by rw [wi_c (by omega), r1 43 (by omega), hlow 43 (by omega)]; exact h432, fun j hj => ?_⟩
      obtain ⟨p', hp', hy'⟩ := hpast j hj
      have hpd := hd.2.2.1 _ p' hp'
      have hpp : p' ≠ p := fun e => hd'.2.2.2.2.2.2 _ k p (by rw [hsl, ← e]; exact hp') hpk
      obtain ⟨hpd', hsame⟩ := hoth p' hpp hpd
      have hdj := pYd_dj hpd' hpy hpp
      refine ⟨p', by rw [hsl]; exact hp', ?_⟩
      exact yC_keep (s := s) (fun j2 hj2 => by rw [wi_c (by have := hpd.1; omega), r1 (p' + j2) (by omega)]; exact hsame j2 hj2) hy'
    · refine ⟨hlt, wi_s, fun k2 hk2 hb => ?_⟩
      have hb2 := hbt ⟨k2, hk2⟩
      by_cases ek : k2 = k
      · subst ek
        refine ⟨p, hpk, ?_⟩
        rw [ups_s]
        exact yC_keep (s := s1) (fun j hj => by rw [wi_c (by omega)]) y1
      · rw [if_neg (fun e => ek (congrArg Fin.val e))] at hb2
        obtain ⟨p', hp', hy'⟩ := l3 k2 hk2 (by rw [← hb2]; exact hb)
        have hpd := hd.2.2.2.1 _ p' hp'
        have hp'' : D'.2.2.2.2.2 k2 = some p' := by rw [hpo _ ek]; exact hp'
        have hpp : p' ≠ p := fun e => ek (hd'.2.2.2.2.2.1 _ k p (by rw [← e]; exact hp'') hpk)
        obtain ⟨hpd', hsame⟩ := hoth p' hpp hpd
        have hdj := pYd_dj hpd' hpy hpp
        refine ⟨p', hp'', ?_⟩
        rw [ups_n ek]
        exact yC_keep (s := s) (fun j2 hj2 => by rw [wi_c (by have := hpd.1; omega), r1 (p' + j2) (by omega)]; exact hsame j2 hj2) hy'
  unfold f_hold
  simp (disch := omega) only [ln_, leT, leF, ltT, ltF, eqT, eqF, vpT, nlT, nleT, lnF, lenF, eqnF, neqF, nnF, nI_add, pk_mul, pk_div, pk_sub, ni_m, nI_clamp, md10, dm10, gI_l, gI_n, ar_t, ar_f, it_t, it_f, true_and, and_true, not_true_eq_false, not_false_eq_true, implies_true, and_self, eq_self]
  cases hc : D.2.2.2.2.2 k with
  | some p =>
    obtain ⟨s', e, c1, c2, c3, c4⟩ := body D p s hd rfl hc (fun _ _ => rfl) rfl (fun _ _ => rfl) (fun p' _ hp' => ⟨hp', fun j hj => rfl⟩)
    refine ⟨D, s', ?_, hd, rfl, c1, c2, c3, c4⟩
    dsimp only
    rw [e]
  | none =>
    obtain ⟨hdp, hnew⟩ := dI_q hd k hc
    have hok := hd.1
    obtain ⟨s', e, c1, c2, c3, c4⟩ := body (D_q D k) D.1 (sz s D.1) hdp rfl va_s (fun j hj => va_n hj) rfl (fun q hq => sz_low (by have := hok.1; omega)) (fun p' hne hp' => ⟨pYd_o hok rfl hp', fun j hj => by
      have := pYd_lt hok hp'
      rw [sz_low (by omega)]⟩)
    refine ⟨D_q D k, s', ?_, hdp, rfl, c1, c2, c3, c4⟩
    dsimp only
    rw [e]
theorem s_hold' (hfu : 20000 ≤ fu) (hD : (if D.2.2.1 then 20 else 9) = t) (cv : CV fu t P np nl nw ht sg lo wd wx wy rn sd LW Y s l) (rv : RV fu lv P np nl nw ht sg lo wd wx wy rn sd LW Y s l) (mi : MI D P np ht u hs hm hy nt tl th nb s l) : Both fu (f_hold fu v D s l) True (f_X12_hold fu v) (p_X12_hold fu v) := by
  have yc := cv.2.2.2.2.1
  have yw := cv.2.2.2.2.2.1
  have hP := yw.1
  have hn := yw.2.1
  unfold f_X12_hold p_X12_hold f_X12_in p_X12_in
  rcases ag3 v 0 2 (by omega) (by omega) with h | ⟨h1, h2, h3⟩ | ⟨k, _, hk, rfl⟩
  · unfold f_hold
    refine st_N (v := nI 0) hD cv rv mi ?_ trivial ?_ ?_ <;> simp (disch := omega) only [ln_, leT, leF, ltT, ltF, eqT, eqF, vpT, nlT, nleT, lnF, lenF, eqnF, neqF, nnF, nI_add, pk_mul, pk_div, pk_sub, ni_m, nI_clamp, md10, dm10, gI_l, gI_n, ar_t, ar_f, it_t, it_f, true_and, and_true, not_true_eq_false, not_false_eq_true, implies_true, and_self, eq_self, h]
  · have h4 : ¬ v < nI 3 := fun h => h3 (by rw [Int32.le_iff_toInt_le, ni_T (by omega)]; rw [Int32.lt_iff_toInt_lt, ni_T (by omega)] at h; omega)
    unfold f_hold
    refine st_N (v := nI 0) hD cv rv mi ?_ trivial ?_ ?_ <;> simp (disch := omega) only [ln_, leT, leF, ltT, ltF, eqT, eqF, vpT, nlT, nleT, lnF, lenF, eqnF, neqF, nnF, nI_add, pk_mul, pk_div, pk_sub, ni_m, nI_clamp, md10, dm10, gI_l, gI_n, ar_t, ar_f, it_t, it_f, true_and, and_true, not_true_eq_false, not_false_eq_true, implies_true, and_self, eq_self, h1, h2, h3, h4]
  · obtain ⟨D1, s1, e1, d1, d2, c1, c2, c3, c4⟩ := c_hold (fu := fu) (l := l) (k := k) mi.1 mi.2.1.1 mi.2.2.1.1 yc hP hn (by omega)
    obtain ⟨s2, e2, p2, a2, b2, k2⟩ := r_hold20 (fu := fu) (l := l) (s := wi s1 105 k (nI 1)) (k := k) hfu (by omega)
    have g : ∀ q, q < 107 → q ≠ 0 → q ≠ 105 → q ≠ 106 → s2 q = s q := fun q h1 h2 h3 h4 => by rw [k2 q h4, wi_c h3]; exact c4 q h1 h2
    have gk : ∀ q, q ≠ 105 → q ≠ 106 → s2 q = s1 q := fun q h3 h4 => by rw [k2 q h4, wi_c h3]
    have hbt := hm_bt ⟨hm, mi.2.2.1.1.1⟩ ⟨k, by omega⟩
    dsimp only at hbt
    have cv2 : CV fu t P np nl nw ht sg lo wd wx wy rn sd LW Y s2 l := by
      obtain ⟨r0, ⟨q1, q2, q3, q4, q5⟩, q6, q7, q8, q9, q10⟩ := cv
      have gt : ∀ q, t ≤ q → q ≤ t + 10 → s2 q = s q := fun q h1 h2 => g q (by omega) (by omega) (by omega) (by omega)
      refine ⟨r0, ⟨?_, ?_, ?_, ?_, q5⟩, LC_keep (gt (t + 9) (by omega) (by omega)) (gt (t + 10) (by omega) (by omega)) q6, q7, yC_keep (fun k hk => g (31 + k) (by omega) (by omega) (by omega) (by omega)) q8, q9, q10⟩
      · rw [gt t (by omega) (by omega)]; exact q1
      · rw [gt (t + 4) (by omega) (by omega), gt (t + 5) (by omega) (by omega)]; exact q2
      · rw [gt (t + 8) (by omega) (by omega)]; exact q3
      · rw [gt t (by omega) (by omega)]; exact q4
    have rv2 : RV fu lv P np nl nw ht sg lo wd wx wy rn sd LW Y s2 l := by
      obtain ⟨⟨a1, a2, a3, a4, a5, a6, a7, a8, a9, a10⟩, ⟨z1, z2, z3, z4⟩, lr, q7, yf, q9, q10⟩ := rv
      refine ⟨⟨a1, by rw [g 60 (by omega) (by omega) (by omega) (by omega)]; exact a2, by rw [g 60 (by omega) (by omega) (by omega) (by omega)]; exact a3, ?_, ?_, ?_, ?_, ?_, ?_, ?_⟩, ⟨?_, ?_, ?_, z4⟩, ?_, q7, by rw [g 94 (by omega) (by omega) (by omega) (by omega)]; exact yf, q9, q10⟩
      · rw [g 74 (by omega) (by omega) (by omega) (by omega)]; exact a4
      · rw [g 78 (by omega) (by omega) (by omega) (by omega)]; exact a5
      · rw [g 96 (by omega) (by omega) (by omega) (by omega)]; exact a6
      · rw [g 79 (by omega) (by omega) (by omega) (by omega)]; exact a7
      · rw [g 79 (by omega) (by omega) (by omega) (by omega)]; exact a8
      · rw [g 80 (by omega) (by omega) (by omega) (by omega)]; exact a9
      · rw [g 81 (by omega) (by omega) (by omega) (by omega)]; exact a10
      · rw [g 68 (by omega) (by omega) (by omega) (by omega)]; exact z1
      · rw [g 72 (by omega) (by omega) (by omega) (by omega)]; exact z2
      · rw [g 97 (by omega) (by omega) (by omega) (by omega)]; exact z3
      · exact LR_keep lr (fun q h1 h2 => g q (by omega) (by omega) (by omega) (by omega)) (by rw [g 60 (by omega) (by omega) (by omega) (by omega)])
    have hk' : ∀ p, pYd D1 p → ∀ k, k ≤ 5 → s2 (p + k) = s1 (p + k) := fun p hp k hk => by have := hp.1; exact gk (p + k) (by omega) (by omega)
    have mi2 : MI D1 P np ht u hs (hmn hm k) (ups hy k Y) nt tl th nb s2 l := by
      obtain ⟨hd, ⟨k1, k2', k3⟩, ⟨l1, l2, l3⟩, tt, ⟨t1, t2, t3, t4⟩, pl, ky⟩ := mi
      refine ⟨d1, ⟨cP_keep (fun _ _ _ => trivial) (gk 43 (by omega) (by omega)) hk' d1 c1, ⟨by rw [g 60 (by omega) (by omega) (by omega) (by omega)]; exact k2'.1, by rw [g 99 (by omega) (by omega) (by omega) (by omega)]; exact k2'.2⟩, k3⟩, ⟨cL_keep (by rw [gk 0 (by omega) (by omega)]) hk' d1 c2, fun k3 hk3 => ?_, fun k3 hk3 hb => ?_⟩, tl_keep (g 57 (by omega) (by omega) (by omega) (by omega)) (g 58 (by omega) (by omega) (by omega) (by omega)) (by rw [g 60 (by omega) (by omega) (by omega) (by omega)]) (g 103 (by omega) (by omega) (by omega) (by omega)) (g 104 (by omega) (by omega) (by omega) (by omega)) tt, ⟨t1, by rw [g 1 (by omega) (by omega) (by omega) (by omega)]; exact t2, by rw [g 60 (by omega) (by omega) (by omega) (by omega)]; exact t3, by rw [g 61 (by omega) (by omega) (by omega) (by omega), g 2 (by omega) (by omega) (by omega) (by omega)]; exact t4⟩, by rw [gk 0 (by omega) (by omega), g 60 (by omega) (by omega) (by omega) (by omega), c3]; exact pl, ky⟩
      · have hb2 := hbt ⟨k3, hk3⟩
        dsimp only at hb2
        by_cases ek : k3 = k
        · subst ek
          rw [if_pos rfl] at hb2
          refine ⟨by rw [k2 105 (by omega), wi_u, upd_s, hb2], fun _ => ?_⟩
          rw [ups_s]
          exact YF_ext hP hn (fun j hj => by show s2 106 (141 * k3 + j) = s 94 j; rw [a2 j hj, wi_c (by omega), c4 94 (by omega) (by omega)]) rv.2.2.2.2.1
        · rw [if_neg (fun e => ek (congrArg Fin.val e))] at hb2
          rw [hb2, ups_n ek, k2 105 (by omega), wi_u, upd_n ek, c4 105 (by omega) (by omega)]
          refine ⟨(l2 k3 hk3).1, fun hb => YF_ext hP hn (fun j hj => ?_) ((l2 k3 hk3).2 hb)⟩
          show s2 106 (141 * k3 + j) = s 106 (141 * k3 + j)
          rw [b2 (141 * k3 + j) (by omega), wi_c (by omega), c4 106 (by omega) (by omega)]
      · have hb2 := hbt ⟨k3, hk3⟩
        dsimp only at hb2
        by_cases ek : k3 = k
        · rw [ek, ups_s]; exact yw
        · rw [if_neg (fun e => ek (congrArg Fin.val e))] at hb2
          rw [ups_n ek]; exact l3 k3 hk3 (by rw [← hb2]; exact hb)
    refine ⟨nI 1, D1, s1, l, s2, l, e1, trivial, ?_, ?_, t, lv, P, np, nl, nw, ht, sg, lo, wd, wx, wy, rn, sd, LW, Y, u, hs, hmn hm k, ups hy k Y, nt, tl, th, nb, by rw [d2]; exact hD, cv2, rv2, mi2⟩
    · simp (disch := omega) only [ln_, leT, leF, ltT, ltF, eqT, eqF, vpT, nlT, nleT, lnF, lenF, eqnF, neqF, nnF, nI_add, pk_mul, pk_div, pk_sub, ni_m, nI_clamp, md10, dm10, gI_l, gI_n, ar_t, ar_f, it_t, it_f, true_and, and_true, not_true_eq_false, not_false_eq_true, implies_true, and_self, eq_self, nar1, e2]
    · simp (disch := omega) only [ln_, leT, leF, ltT, ltF, eqT, eqF, vpT, nlT, nleT, lnF, lenF, eqnF, neqF, nnF, nI_add, pk_mul, pk_div, pk_sub, ni_m, nI_clamp, md10, dm10, gI_l, gI_n, ar_t, ar_f, it_t, it_f, true_and, and_true, not_true_eq_false, not_false_eq_true, implies_true, and_self, eq_self, nar1, p2]
theorem s_restore' (hfu : 20000 ≤ fu) (hD : (if D.2.2.1 then 20 else 9) = t) (cv : CV fu t P np nl nw ht sg lo wd wx wy rn sd LW Y s l) (rv : RV fu lv P np nl nw ht sg lo wd wx wy rn sd LW Y s l) (mi : MI D P np ht u hs hm hy nt tl th nb s l) : Both fu ((f_restore fu v D s l).1, D, (f_restore fu v D s l).2.1, (f_restore fu v D s l).2.2) True (f_X12_restore fu v) (p_X12_restore fu v) := by
  have yc := cv.2.2.2.2.1
  have yw := cv.2.2.2.2.2.1
  have hP := yw.1
  have hn := yw.2.1
  unfold f_X12_restore p_X12_restore f_X12_in p_X12_in f_restore
  rcases ag3 v 0 2 (by omega) (by omega) with h | ⟨h1, h2, h3⟩ | ⟨k, _, hk, rfl⟩
  · refine st_N (v := nI 0) hD cv rv mi ?_ trivial ?_ ?_ <;> simp (disch := omega) only [ln_, leT, leF, ltT, ltF, eqT, eqF, vpT, nlT, nleT, lnF, lenF, eqnF, neqF, nnF, nI_add, pk_mul, pk_div, pk_sub, ni_m, nI_clamp, md10, dm10, gI_l, gI_n, ar_t, ar_f, it_t, it_f, true_and, and_true, not_true_eq_false, not_false_eq_true, implies_true, and_self, eq_self, h]
  · have h4 : nI 3 ≤ v := by
      rw [Int32.lt_iff_toInt_lt, ni_T (by omega)] at h2
      rw [Int32.le_iff_toInt_le, ni_T (by omega)]; omega
    refine st_N (v := nI 0) hD cv rv mi ?_ trivial ?_ ?_ <;> simp (disch := omega) only [ln_, leT, leF, ltT, ltF, eqT, eqF, vpT, nlT, nleT, lnF, lenF, eqnF, neqF, nnF, nI_add, pk_mul, pk_div, pk_sub, ni_m, nI_clamp, md10, dm10, gI_l, gI_n, ar_t, ar_f, it_t, it_f, true_and, and_true, not_true_eq_false, not_false_eq_true, implies_true, and_self, eq_self, h1, h2, h3, h4]
  · obtain ⟨l1, l2, l3⟩ := mi.2.2.1.1
    obtain ⟨m1, m2⟩ := mi.2.2.1.2.1 k (by omega)
    have hb := bitN (S := hm) (k := k) (by omega) (by omega)
    have := bt_lt hm k
    by_cases e : bt hm k = 1
    · obtain ⟨p, hp, hyp⟩ := l3 k (by omega) e
      have hpy := mi.1.2.2.2.1 k p hp
      have := hpy.1
      obtain ⟨s1, e1, _, y1, r1⟩ := c_copy (fu := fu) (a := 31) (b := p) (l := l) (s := s) hyp hP hn (by omega)
      obtain ⟨s2, e2, p2, a2, b2, j2, k2⟩ := r_rest22 (fu := fu) (l := l) (s := wi s1 43 0 (nI 0)) (k := k) hfu (by omega)
      have k105 : wi s1 43 0 (nI 0) 105 k = nI 1 := by rw [wi_c (by omega), r1 105 (by omega), m1, e]
      have hk' : ∀ p, pYd D p → ∀ k, k ≤ 5 → wi s1 43 0 (nI 0) (p + k) = s (p + k) := fun p hp k hk => by have := hp.1; rw [wi_c (by omega)]; exact r1 (p + k) (by omega)
      obtain ⟨_, _, nn, hnn, h432, _⟩ := mi.2.1.1
      refine st_M (D1 := D) (s1 := wi s1 43 0 (nI 0)) (s2 := s2) (v := nI 1) (Z := hy k) (u' := 0) (hs' := hs) hD cv rv mi (mi.2.2.1.2.2 k (by omega) e) (fun k hk => absurd hk (Nat.not_lt_zero k)) ?_ trivial mi.1 rfl ⟨by omega, wi_s, nn, hnn, by rw [wi_u, upd_n (by omega), r1 43 (by omega)]; exact h432, fun j hj => absurd hj (Nat.not_lt_zero j)⟩ (cL_keep (by rw [wi_c (by omega), r1 0 (by omega)]) hk' mi.1 mi.2.2.1.1) (yC_keep (fun k hk => by rw [wi_c (by omega)]) y1) (fun q h1 h2 h3 _ _ _ => by rw [wi_c h3]; exact r1 q (by omega)) ?_ ?_ ⟨b2, fun k hk => absurd hk (Nat.not_lt_zero k)⟩ (YF_ext hP hn (fun j hj => by rw [a2 j hj, wi_c (by omega), r1 106 (by omega)]) (m2 e)) (fun j _ _ _ h => j2 j h) (fun q h1 _ _ h4 _ _ _ => k2 q h4 h1)
      · simp (disch := omega) only [ln_, leT, leF, ltT, ltF, eqT, eqF, vpT, nlT, nleT, lnF, lenF, eqnF, neqF, nnF, nI_add, pk_mul, pk_div, pk_sub, ni_m, nI_clamp, md10, dm10, gI_l, gI_n, ar_t, ar_f, it_t, it_f, true_and, and_true, not_true_eq_false, not_false_eq_true, implies_true, and_self, eq_self, l2, hb, e, hp, e1]
      · simp (disch := omega) only [ln_, leT, leF, ltT, ltF, eqT, eqF, vpT, nlT, nleT, lnF, lenF, eqnF, neqF, nnF, nI_add, pk_mul, pk_div, pk_sub, ni_m, nI_clamp, md10, dm10, gI_l, gI_n, ar_t, ar_f, it_t, it_f, true_and, and_true, not_true_eq_false, not_false_eq_true, implies_true, and_self, eq_self, k105, e2]
      · simp (disch := omega) only [ln_, leT, leF, ltT, ltF, eqT, eqF, vpT, nlT, nleT, lnF, lenF, eqnF, neqF, nnF, nI_add, pk_mul, pk_div, pk_sub, ni_m, nI_clamp, md10, dm10, gI_l, gI_n, ar_t, ar_f, it_t, it_f, true_and, and_true, not_true_eq_false, not_false_eq_true, implies_true, and_self, eq_self, k105, p2]
    · have e0 : bt hm k = 0 := by omega
      rw [e0] at m1 hb
      refine st_N (v := nI 0) hD cv rv mi ?_ trivial ?_ ?_ <;> simp (disch := omega) only [ln_, leT, leF, ltT, ltF, eqT, eqF, vpT, nlT, nleT, lnF, lenF, eqnF, neqF, nnF, nI_add, pk_mul, pk_div, pk_sub, ni_m, nI_clamp, md10, dm10, gI_l, gI_n, ar_t, ar_f, it_t, it_f, true_and, and_true, not_true_eq_false, not_false_eq_true, implies_true, and_self, eq_self, l2, hb, m1]
end slo
