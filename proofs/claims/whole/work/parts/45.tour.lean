/-! Tours, in the class and in the reference -/
section tou
variable {fu t lv P np nl nw : Nat} {ht sg lo : Nat → Nat} {wd : Nat → List Nat} {wx wy rn sd : Int32} {LW : Lw} {Y : Yd} {s s1 s2 : fl_I} {l : fl_L} {D : fl_D} {a i b c q k n g m F : Nat} {x y z v : Int32} {st : Bool} {Z : Yd} {cs : Nat → Nat}
theorem i_minN {a b : Nat} (ha : a < 2 ^ 31) (hb : b < 2 ^ 31) : i_min (nI a) (nI b) = nI (if b < a then b else a) := by
  show (if nI b < nI a then nI b else nI a) = _
  by_cases h : b < a
  · rw [if_pos (nI_lt h ha), if_pos h]
  · rw [if_neg (nI_nlt (by omega) hb), if_neg h]
theorem i_maxN {a b : Nat} (ha : a < 2 ^ 31) (hb : b < 2 ^ 31) : i_max (nI a) (nI b) = nI (if a < b then b else a) := by
  show (if nI a < nI b then nI b else nI a) = _
  by_cases h : a < b
  · rw [if_pos (nI_lt h hb), if_pos h]
  · rw [if_neg (nI_nlt (by omega) ha), if_neg h]
/-- the row of the class, for all sets below a bound -/
def fO (F m : Nat) (cs : Nat → Nat) (B : Nat) (s : fl_I) : Prop := ∀ S k, S < B → S < 2 ^ m → k < m → bt S k = 1 → s F (S * 10 + k) = nI (tq cs m (cs k) (S - 2 ^ k))
theorem c_fewest (hfu : 20000 ≤ fu) (hm : m ≤ 10) (hF : D.2.2.2.1 = F) (h51 : s 51 0 = nI m) (h52 : ∀ k, k < m → s 52 k = nI (cs k)) (hcs : ∀ k, k < m → cs k < 80) (ha : a < 80) {S : Nat} (hS : S < 2 ^ m) (hO : fO F m cs (S + 1) s) : p_X8_fewest fu (nI a) (nI S) D s l ∧ f_X8_fewest fu (nI a) (nI S) D s l = nI (tq cs m a S) := by
  have hS2 : S < 1024 := Nat.lt_of_lt_of_le hS (p10 hm)
  have L : ∀ i0, i0 < 2000000 → (S = 0 ∨ 9999 ≤ i0) → p_X8_fewest_14 fu fu (nI a) (nI S) (nI i0) (nI 0) D s l ∧ f_X8_fewest_14 fu fu (nI a) (nI S) (nI i0) (nI 0) D s l = nI (mnK i0 (fun k => dst a (cs k) + tq cs m (cs k) (S - 2 ^ k)) S m) := by
    intro i0 hi0 hor
    refine loop_i (fun n k r => p_X8_fewest_14 fu n (nI a) (nI S) r (nI k) D s l ∧ f_X8_fewest_14 fu n (nI a) (nI S) r (nI k) D s l = nI (mnK i0 (fun k => dst a (cs k) + tq cs m (cs k) (S - 2 ^ k)) S m)) (fun k r => r = nI (mnK i0 (fun k => dst a (cs k) + tq cs m (cs k) (S - 2 ^ k)) S k) ∧ mnK i0 (fun k => dst a (cs k) + tq cs m (cs k) (S - 2 ^ k)) S k ≤ i0) m ?_ ?_ fu 0 (nI i0) (Nat.zero_le _) (by omega) ⟨rfl, Nat.le_refl _⟩
    · intro n r hr
      unfold p_X8_fewest_14 f_X8_fewest_14
      simp (disch := omega) only [ln_, leT, leF, ltT, ltF, eqT, eqF, vpT, nlT, nleT, lnF, lenF, eqnF, neqF, nnF, nI_add, pk_mul, pk_div, pk_sub, ni_m, nI_clamp, md10, dm10, gI_l, gI_n, ar_t, ar_f, it_t, it_f, true_and, and_true, not_true_eq_false, not_false_eq_true, implies_true, and_self, eq_self, h51, hr.1]
    · intro n k r hk hr ih
      have hb := bitN (S := S) (k := k) (by omega) (by omega)
      have hbl := bt_lt S k
      have hck := h52 k hk
      have hcl := hcs k hk
      have hd : mnK i0 (fun k => dst a (cs k) + tq cs m (cs k) (S - 2 ^ k)) S (k + 1) = if bt S k = 1 ∧ dst a (cs k) + tq cs m (cs k) (S - 2 ^ k) < mnK i0 (fun k => dst a (cs k) + tq cs m (cs k) (S - 2 ^ k)) S k then dst a (cs k) + tq cs m (cs k) (S - 2 ^ k) else mnK i0 (fun k => dst a (cs k) + tq cs m (cs k) (S - 2 ^ k)) S k := rfl
      unfold p_X8_fewest_14 f_X8_fewest_14 p_X8_index f_X8_index
      by_cases e : bt S k = 1
      · have hp := Nat.two_pow_pos k
        have hfr := hO S k (by omega) hS hk e
        have hq := tq_b (S := S - 2 ^ k) hcs hm (by omega) hcl
        have hdl := dst_lt ha hcl
        have hsk : S * 10 + k < 10240 := by omega
        simp (disch := omega) only [ln_, leT, leF, ltT, ltF, eqT, eqF, vpT, nlT, nleT, lnF, lenF, eqnF, neqF, nnF, nI_add, pk_mul, pk_div, pk_sub, ni_m, nI_clamp, md10, dm10, gI_l, gI_n, ar_t, ar_f, it_t, it_f, true_and, and_true, not_true_eq_false, not_false_eq_true, implies_true, and_self, eq_self, h51, hb, hck, apart_n, p_apartT, hF, hfr, hr.1, i_minN]
        refine ih _ ⟨?_, ?_⟩
        · rw [hd]
          congr 1
          by_cases e2 : dst a (cs k) + tq cs m (cs k) (S - 2 ^ k) < mnK i0 (fun k => dst a (cs k) + tq cs m (cs k) (S - 2 ^ k)) S k
          · rw [if_pos e2, if_pos ⟨e, e2⟩]
          · rw [if_neg e2, if_neg (fun h => e2 h.2)]
        · rw [hd]; split
          · omega
          · exact hr.2
      · simp (disch := omega) only [ln_, leT, leF, ltT, ltF, eqT, eqF, vpT, nlT, nleT, lnF, lenF, eqnF, neqF, nnF, nI_add, pk_mul, pk_div, pk_sub, ni_m, nI_clamp, md10, dm10, gI_l, gI_n, ar_t, ar_f, it_t, it_f, true_and, and_true, not_true_eq_false, not_false_eq_true, implies_true, and_self, eq_self, h51, hb]
        refine ih _ ⟨?_, ?_⟩
        · rw [hd, if_neg (fun h => e h.1)]; exact hr.1
        · rw [hd, if_neg (fun h => e h.1)]; exact hr.2
  unfold p_X8_fewest f_X8_fewest
  by_cases h0 : S = 0
  · subst h0
    have := L 0 (by omega) (.inl rfl)
    have e0 : mnK 0 (fun k => dst a (cs k) + tq cs m (cs k) (0 - 2 ^ k)) 0 m = 0 := by
      have : ∀ n, mnK 0 (fun k => dst a (cs k) + tq cs m (cs k) (0 - 2 ^ k)) 0 n = 0 := by
        intro n
        induction n with
        | zero => rfl
        | succ n ih => show (if _ ∧ _ < mnK _ _ _ n then _ else mnK _ _ _ n) = 0; rw [ih, if_neg (fun h => Nat.not_lt_zero _ h.2)]
      exact this m
    rw [e0] at this
    simp (disch := omega) only [ln_, leT, leF, ltT, ltF, eqT, eqF, vpT, nlT, nleT, lnF, lenF, eqnF, neqF, nnF, nI_add, pk_mul, pk_div, pk_sub, ni_m, nI_clamp, md10, dm10, gI_l, gI_n, ar_t, ar_f, it_t, it_f, true_and, and_true, not_true_eq_false, not_false_eq_true, implies_true, and_self, eq_self, tq_0]
    exact this
  · have := L 1000000 (by omega) (.inr (by omega))
    have hg : ∀ k, k < m → bt S k = 1 → dst a (cs k) + tq cs m (cs k) (S - 2 ^ k) < 1000000 ∧ dst a (cs k) + tq cs m (cs k) (S - 2 ^ k) < 9999 := by
      intro k hk hb
      have hp := Nat.two_pow_pos k
      have hq := tq_b (S := S - 2 ^ k) hcs hm (by omega) (hcs k hk)
      have hdl := dst_lt ha (hcs k hk)
      omega
    have e0 : mnK 1000000 (fun k => dst a (cs k) + tq cs m (cs k) (S - 2 ^ k)) S m = tq cs m a S := by
      rw [tq_s h0]
      rcases mnK_i (i0 := 1000000) (i1 := 9999) hg with ⟨_, _, h3⟩ | ⟨h1, _⟩
      · obtain ⟨k, hk, hb⟩ := bt_ex h0 hS
        exact absurd hb (h3 k hk)
      · exact h1
    rw [e0] at this
    simp (disch := omega) only [ln_, leT, leF, ltT, ltF, eqT, eqF, vpT, nlT, nleT, lnF, lenF, eqnF, neqF, nnF, nI_add, pk_mul, pk_div, pk_sub, ni_m, nI_clamp, md10, dm10, gI_l, gI_n, ar_t, ar_f, it_t, it_f, true_and, and_true, not_true_eq_false, not_false_eq_true, implies_true, and_self, eq_self]
    exact this
theorem c_all (hm : m ≤ 10) (h51 : s 51 0 = nI m) : f_X8_all fu s l = nI (2 ^ m - 1) := by
  unfold f_X8_all
  have := Nat.two_pow_pos m
  simp (disch := omega) only [ln_, h51, one_n, pk_sub]
theorem c_fill43 {K : Int32 → fl_I → fl_L → fl_I × fl_L} {Pk : Int32 → fl_I → fl_L → Prop} (hfu : 20000 ≤ fu) (hm : m ≤ 10) (hF : D.2.2.2.1 = F) (hF1 : F ≠ 51) (hF2 : F ≠ 52) (h51 : s 51 0 = nI m) (h52 : ∀ k, k < m → s 52 k = nI (cs k)) (hcs : ∀ k, k < m → cs k < 80) {S : Nat} (hS : S < 2 ^ m) (hO : fO F m cs S s) :
    ∃ s', f_X8_fillFrom_43 fu K fu (nI S) (nI 0) D s l = K (nI (S + 1)) s' l ∧ (Pk (nI (S + 1)) s' l → p_X8_fillFrom_43 fu Pk fu (nI S) (nI 0) D s l) ∧ fO F m cs (S + 1) s' ∧ ∀ q, q ≠ F → s' q = s q := by
  have hS2 : S < 1024 := Nat.lt_of_lt_of_le hS (p10 hm)
  refine loop_i (fun n k s0 => ∃ s', f_X8_fillFrom_43 fu K n (nI S) (nI k) D s0 l = K (nI (S + 1)) s' l ∧ (Pk (nI (S + 1)) s' l → p_X8_fillFrom_43 fu Pk n (nI S) (nI k) D s0 l) ∧ fO F m cs (S + 1) s' ∧ ∀ q, q ≠ F → s' q = s q) (fun k s0 => fO F m cs S s0 ∧ (∀ j, j < k → j < m → bt S j = 1 → s0 F (S * 10 + j) = nI (tq cs m (cs j) (S - 2 ^ j))) ∧ ∀ q, q ≠ F → s0 q = s q) m ?_ ?_ fu 0 s (Nat.zero_le _) (by omega) ⟨hO, fun j hj => absurd hj (Nat.not_lt_zero j), fun _ _ => rfl⟩
  · intro n s0 hs
    have k51 : s0 51 0 = nI m := by rw [hs.2.2 51 (by omega)]; exact h51
    refine ⟨s0, ?_, ?_, ?_, hs.2.2⟩
    · unfold f_X8_fillFrom_43
      simp (disch := omega) only [ln_, leT, leF, ltT, ltF, eqT, eqF, vpT, nlT, nleT, lnF, lenF, eqnF, neqF, nnF, nI_add, pk_mul, pk_div, pk_sub, ni_m, nI_clamp, md10, dm10, gI_l, gI_n, ar_t, ar_f, it_t, it_f, true_and, and_true, not_true_eq_false, not_false_eq_true, implies_true, and_self, eq_self, k51]
    · unfold p_X8_fillFrom_43
      simp (disch := omega) only [ln_, leT, leF, ltT, ltF, eqT, eqF, vpT, nlT, nleT, lnF, lenF, eqnF, neqF, nnF, nI_add, pk_mul, pk_div, pk_sub, ni_m, nI_clamp, md10, dm10, gI_l, gI_n, ar_t, ar_f, it_t, it_f, true_and, and_true, not_true_eq_false, not_false_eq_true, implies_true, and_self, eq_self, k51]
      exact fun h => h
    · intro S' k hS' hSm hk hb
      by_cases e : S' = S
      · subst e; exact hs.2.1 k hk hk hb
      · exact hs.1 S' k (by omega) hSm hk hb
  · intro n k s0 hk hs ih
    obtain ⟨hs1, hs2, hs3⟩ := hs
    have k51 : s0 51 0 = nI m := by rw [hs3 51 (by omega)]; exact h51
    have k52 : ∀ k, k < m → s0 52 k = nI (cs k) := fun k hk => by rw [hs3 52 (by omega)]; exact h52 k hk
    have hb := bitN (S := S) (k := k) (by omega) (by omega)
    have hbl := bt_lt S k
    have hck := k52 k hk
    unfold p_X8_fillFrom_43 f_X8_fillFrom_43 p_X8_index f_X8_index
    by_cases e : bt S k = 1
    · have hp := Nat.two_pow_pos k
      have hle := bt_le e
      have hcl := clr_n hS2 (by omega) e
      have hon := one_n (k := k) (by omega)
      have hsk : S * 10 + k < 10240 := by omega
      have hfe := c_fewest (l := l) (D := D) (S := S - 2 ^ k) hfu hm hF k51 k52 hcs (hcs k hk) (by omega) (fun S' j h1 h2 h3 h4 => hs1 S' j (by omega) h2 h3 h4)
      simp (disch := omega) only [ln_, leT, leF, ltT, ltF, eqT, eqF, vpT, nlT, nleT, lnF, lenF, eqnF, neqF, nnF, nI_add, pk_mul, pk_div, pk_sub, ni_m, nI_clamp, md10, dm10, gI_l, gI_n, ar_t, ar_f, it_t, it_f, true_and, and_true, not_true_eq_false, not_false_eq_true, implies_true, and_self, eq_self, k51, hb, hck, hon, hcl, hfe, hF]
      refine ih _ ⟨fun S' j h1 h2 h3 h4 => ?_, fun j h1 h2 h3 => ?_, fun q hq => by rw [wi_c hq]; exact hs3 q hq⟩
      · rw [wi_u, upd_n (by omega)]; exact hs1 S' j h1 h2 h3 h4
      · rw [wi_u]
        by_cases e2 : j = k
        · subst e2; rw [upd_s]
        · rw [upd_n (by omega)]; exact hs2 j (by omega) h2 h3
    · simp (disch := omega) only [ln_, leT, leF, ltT, ltF, eqT, eqF, vpT, nlT, nleT, lnF, lenF, eqnF, neqF, nnF, nI_add, pk_mul, pk_div, pk_sub, ni_m, nI_clamp, md10, dm10, gI_l, gI_n, ar_t, ar_f, it_t, it_f, true_and, and_true, not_true_eq_false, not_false_eq_true, implies_true, and_self, eq_self, k51, hb]
      refine ih _ ⟨hs1, fun j h1 h2 h3 => ?_, hs3⟩
      by_cases e2 : j = k
      · subst e2; exact absurd h3 e
      · exact hs2 j (by omega) h2 h3
theorem c_fillF (hfu : 20000 ≤ fu) (hm : m ≤ 10) (hF : D.2.2.2.1 = F) (hF1 : F ≠ 51) (hF2 : F ≠ 52) (h51 : s 51 0 = nI m) (h52 : ∀ k, k < m → s 52 k = nI (cs k)) (hcs : ∀ k, k < m → cs k < 80) :
    ∃ s', f_X8_fillFrom fu D s l = (s', l) ∧ p_X8_fillFrom fu D s l ∧ fO F m cs (2 ^ m) s' ∧ ∀ q, q ≠ F → s' q = s q := by
  have hp := Nat.two_pow_pos m
  have h10 := p10 hm
  refine loop_i (fun n S s0 => ∃ s', f_X8_fillFrom_33 fu n (nI S) D s0 l = (s', l) ∧ p_X8_fillFrom_33 fu n (nI S) D s0 l ∧ fO F m cs (2 ^ m) s' ∧ ∀ q, q ≠ F → s' q = s q) (fun S s0 => fO F m cs S s0 ∧ ∀ q, q ≠ F → s0 q = s q) (2 ^ m) ?_ ?_ fu 1 s (by omega) (by omega) ⟨fun S k h1 _ _ h4 => ?_, fun _ _ => rfl⟩
  · intro n s0 hs
    have k51 : s0 51 0 = nI m := by rw [hs.2 51 (by omega)]; exact h51
    have ha := c_all (fu := fu) (l := l) hm k51
    refine ⟨s0, ?_, ?_, hs⟩
    · unfold f_X8_fillFrom_33
      simp (disch := omega) only [ln_, leT, leF, ltT, ltF, eqT, eqF, vpT, nlT, nleT, lnF, lenF, eqnF, neqF, nnF, nI_add, pk_mul, pk_div, pk_sub, ni_m, nI_clamp, md10, dm10, gI_l, gI_n, ar_t, ar_f, it_t, it_f, true_and, and_true, not_true_eq_false, not_false_eq_true, implies_true, and_self, eq_self, ha]
    · unfold p_X8_fillFrom_33 p_X8_all
      simp (disch := omega) only [ln_, leT, leF, ltT, ltF, eqT, eqF, vpT, nlT, nleT, lnF, lenF, eqnF, neqF, nnF, nI_add, pk_mul, pk_div, pk_sub, ni_m, nI_clamp, md10, dm10, gI_l, gI_n, ar_t, ar_f, it_t, it_f, true_and, and_true, not_true_eq_false, not_false_eq_true, implies_true, and_self, eq_self, ha]
  · intro n S s0 hS hs ih
    obtain ⟨hs1, hs2⟩ := hs
    have k51 : s0 51 0 = nI m := by rw [hs2 51 (by omega)]; exact h51
    have k52 : ∀ k, k < m → s0 52 k = nI (cs k) := fun k hk => by rw [hs2 52 (by omega)]; exact h52 k hk
    have ha := c_all (fu := fu) (l := l) hm k51
    obtain ⟨s1, e1, p1, o1, r1⟩ := c_fill43 (l := l) (K := fun x1 s l => f_X8_fillFrom_33 fu n x1 D s l) (Pk := fun x1 s l => p_X8_fillFrom_33 fu n x1 D s l) hfu hm hF hF1 hF2 k51 k52 hcs hS hs1
    obtain ⟨s2, e2, p2, o2, r2⟩ := ih s1 ⟨o1, fun q hq => by rw [r1 q hq]; exact hs2 q hq⟩
    unfold p_X8_fillFrom_33 f_X8_fillFrom_33 p_X8_all
    simp (disch := omega) only [ln_, leT, leF, ltT, ltF, eqT, eqF, vpT, nlT, nleT, lnF, lenF, eqnF, neqF, nnF, nI_add, pk_mul, pk_div, pk_sub, ni_m, nI_clamp, md10, dm10, gI_l, gI_n, ar_t, ar_f, it_t, it_f, true_and, and_true, not_true_eq_false, not_false_eq_true, implies_true, and_self, eq_self, ha, e1]
    exact ⟨s2, e2, p1 p2, o2, r2⟩
  · have : S = 0 := by omega
    subst this
    unfold bt at h4
    rw [Nat.zero_div] at h4
    omega
end tou
