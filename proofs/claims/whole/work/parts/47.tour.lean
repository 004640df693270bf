/-! Tours of the reference; round, share -/
section to3
variable {fu t lv P np nl nw : Nat} {ht sg lo : Nat → Nat} {wd : Nat → List Nat} {wx wy rn sd : Int32} {LW : Lw} {Y : Yd} {s s1 s2 : fl_I} {l : fl_L} {D : fl_D} {a i b c q k n g m F wo : Nat} {x y z v : Int32} {st : Bool} {Z : Yd} {cs : Nat → Nat}
theorem r_fillsCells (hfu : 20000 ≤ fu) (h54 : s 60 54 = nI P) (yf : YF P np Y (s 95)) (yw : YW P np ht Y) (hx : ∀ c, c < 80 → ((nI c = x) = (c = wo))) :
    ∃ s', f_X12_fillsCells fu x x s l = (s', l) ∧ p_X12_fillsCells fu x x s l ∧ s' 60 60 = nI (ct (qc P Y wo) 80) ∧ (∀ k, k < ct (qc P Y wo) 80 → s' 100 k = nI (sel (qc P Y wo) 80 k)) ∧ (∀ q, q ≠ 100 → q ≠ 60 → s' q = s q) ∧ ∀ j, j ≠ 60 → s' 60 j = s 60 j := by
  have hcb : ∀ c, ct (fun i => Y.2.1 i == c) P ≤ 32 := fun c => Nat.le_trans (ct_le _ _) yw.1
  generalize hQ : qc P Y wo = Q
  have hQc : ∀ c, Q c = (decide (0 < ct (fun i => Y.2.1 i == c) P) && decide (c ≠ wo)) := fun c => by rw [← hQ]; rfl
  refine loop_i (fun n c s0 => ∃ s', f_X12_fillsCells_7 fu n x x (nI c) s0 l = (s', l) ∧ p_X12_fillsCells_7 fu n x x (nI c) s0 l ∧ s' 60 60 = nI (ct Q 80) ∧ (∀ k, k < ct Q 80 → s' 100 k = nI (sel Q 80 k)) ∧ (∀ q, q ≠ 100 → q ≠ 60 → s' q = s q) ∧ ∀ j, j ≠ 60 → s' 60 j = s 60 j) (fun c s0 => s0 60 60 = nI (ct Q c) ∧ (∀ k, k < ct Q c → s0 100 k = nI (sel Q c k)) ∧ (∀ q, q ≠ 100 → q ≠ 60 → s0 q = s q) ∧ ∀ j, j ≠ 60 → s0 60 j = s 60 j) 80 ?_ ?_ fu 0 (wi s 60 60 (nI 0)) (Nat.zero_le _) (by omega) ⟨wi_s, fun k hk => absurd hk (Nat.not_lt_zero k), fun q _ h => by rw [wi_c h], fun j hj => by rw [wi_u, upd_n hj]⟩
  · intro n s0 hs
    refine ⟨s0, ?_, ?_, hs⟩
    · unfold f_X12_fillsCells_7
      simp (disch := omega) only [ln_, leT, leF, ltT, ltF, eqT, eqF, vpT, nlT, nleT, lnF, lenF, eqnF, neqF, nnF, nI_add, pk_mul, pk_div, pk_sub, ni_m, nI_clamp, md10, dm10, gI_l, gI_n, ar_t, ar_f, it_t, it_f, true_and, and_true, not_true_eq_false, not_false_eq_true, implies_true, and_self, eq_self]
    · unfold p_X12_fillsCells_7
      simp (disch := omega) only [ln_, leT, leF, ltT, ltF, eqT, eqF, vpT, nlT, nleT, lnF, lenF, eqnF, neqF, nnF, nI_add, pk_mul, pk_div, pk_sub, ni_m, nI_clamp, md10, dm10, gI_l, gI_n, ar_t, ar_f, it_t, it_f, true_and, and_true, not_true_eq_false, not_false_eq_true, implies_true, and_self, eq_self]
  · intro n c s0 hc hs ih
    obtain ⟨h60, h100, hk, hj⟩ := hs
    have hb := hcb c
    have hct := ct_le Q c
    have hla := r_lieAt (fu := fu) (l := l) (s := s0) hfu (by rw [hj 54 (by omega)]; exact h54) (by rw [hk 95 (by omega) (by omega)]; exact yf) yw hc
    unfold p_X12_fillsCells_7 f_X12_fillsCells_7
    by_cases ew : c = wo
    · have hxx : (nI c = x) = True := by rw [hx c hc]; exact eq_true ew
      have hq : Q c = false := by rw [hQc]; simp [ew]
      simp (disch := omega) only [leT, leF, ln_, ar_t, ar_f, it_t, it_f, true_and, and_true, not_true_eq_false, not_false_eq_true, implies_true, and_self, eq_self, nI_add, hxx]
      exact ih _ ⟨by rw [ct_f hq]; exact h60, fun k hk => by rw [ct_f hq] at hk; show _ = nI ((if Q c = true then un (sel Q c) (ct Q c) c else sel Q c) k); rw [if_neg (by rw [hq]; exact Bool.noConfusion)]; exact h100 k hk, hk, hj⟩
    · have hxx : (nI c = x) = False := by rw [hx c hc]; exact eq_false ew
      by_cases e : 0 < ct (fun i => Y.2.1 i == c) P
      · have hq : Q c = true := by rw [hQc]; simp [ew, e]
        simp (disch := omega) only [leT, leF, eqF, ln_, ar_t, ar_f, it_t, it_f, true_and, and_true, not_true_eq_false, not_false_eq_true, implies_true, and_self, eq_self, vpT, nI_clamp, nI_add, hla, hxx, h60, wi_c, wi_u, upd_s, upd_n, su_r, su_c]
        refine ih _ ⟨?_, fun k hk2 => ?_, fun q a b => ?_, fun j a => ?_⟩
        · simp (disch := omega) only [wi_c, wi_u, upd_s, upd_n, su_r, su_c]; rw [ct_t hq]
        · rw [ct_t hq] at hk2
          show _ = nI ((if Q c = true then un (sel Q c) (ct Q c) c else sel Q c) k)
          rw [if_pos hq]
          simp (disch := omega) only [wi_c, wi_u, upd_s, upd_n, su_r, su_c]
          by_cases e2 : k = ct Q c
          · subst e2; rw [upd_s, un_s]
          · rw [upd_n e2, un_n e2]; exact h100 k (by omega)
        · simp (disch := omega) only [wi_c, wi_u, upd_s, upd_n, su_r, su_c]; exact hk q a b
        · simp (disch := omega) only [wi_c, wi_u, upd_s, upd_n, su_r, su_c]; exact hj j a
      · have hq : Q c = false := by rw [hQc]; simp [e]
        have hz : ct (fun i => Y.2.1 i == c) P = 0 := by omega
        rw [hz] at hla
        simp (disch := omega) only [leT, leF, eqF, ln_, ar_t, ar_f, it_t, it_f, true_and, and_true, not_true_eq_false, not_false_eq_true, implies_true, and_self, eq_self, nI_add, hla, hxx]
        exact ih _ ⟨by rw [ct_f hq]; exact h60, fun k hk => by rw [ct_f hq] at hk; show _ = nI ((if Q c = true then un (sel Q c) (ct Q c) c else sel Q c) k); rw [if_neg (by rw [hq]; exact Bool.noConfusion)]; exact h100 k hk, hk, hj⟩
/-- the reference's row, for all sets below a bound -/
def rO (m : Nat) (cs : Nat → Nat) (B : Nat) (R : Nat → Int32) : Prop := ∀ S c, S < B → S < 2 ^ m → c < m → R (10 * S + c) = nI (tq cs m (cs c) S)
theorem r_rest37 {K2 : Int32 → fl_I → fl_L → fl_I × fl_L} {P2 : Int32 → fl_I → fl_L → Prop} {K14 : Int32 → Int32 → fl_I → fl_L → fl_I × fl_L} {P14 : Int32 → Int32 → fl_I → fl_L → Prop} (hfu : 20000 ≤ fu) (hm : m ≤ 10) (h60 : s 60 60 = nI m) (h100 : ∀ k, k < m → s 100 k = nI (cs k)) (hcs : ∀ k, k < m → cs k < 80) {S : Nat} (hS : S < 2 ^ m) (hO : rO m cs S (s 101)) (hc : c < m) :
    f_X12_fillsRest_37 fu K2 K14 fu (nI S) (nI c) (if S = 0 then nI 0 else nI 9999) (nI 0) s l = K14 (nI S) (nI (c + 1)) (wi s 101 (10 * S + c) (nI (tq cs m (cs c) S))) l ∧ (P14 (nI S) (nI (c + 1)) (wi s 101 (10 * S + c) (nI (tq cs m (cs c) S))) l → p_X12_fillsRest_37 fu P2 P14 fu (nI S) (nI c) (if S = 0 then nI 0 else nI 9999) (nI 0) s l) := by
  have hS2 : S < 1024 := Nat.lt_of_lt_of_le hS (p10 hm)
  have gl := g_lt hm hcs (hcs c hc) hS
  have hfin : (if S = 0 then 0 else mnK 9999 (fun k => dst (cs c) (cs k) + tq cs m (cs k) (S - 2 ^ k)) S m) = tq cs m (cs c) S := by
    by_cases h0 : S = 0
    · subst h0; rw [if_pos rfl, tq_0]
    · rw [if_neg h0, tq_s h0]
  refine loop_i (fun n k r => f_X12_fillsRest_37 fu K2 K14 n (nI S) (nI c) r (nI k) s l = K14 (nI S) (nI (c + 1)) (wi s 101 (10 * S + c) (nI (tq cs m (cs c) S))) l ∧ (P14 (nI S) (nI (c + 1)) (wi s 101 (10 * S + c) (nI (tq cs m (cs c) S))) l → p_X12_fillsRest_37 fu P2 P14 n (nI S) (nI c) r (nI k) s l)) (fun k r => r = nI (if S = 0 then 0 else mnK 9999 (fun k => dst (cs c) (cs k) + tq cs m (cs k) (S - 2 ^ k)) S k) ∧ mnK 9999 (fun k => dst (cs c) (cs k) + tq cs m (cs k) (S - 2 ^ k)) S k ≤ 9999) m ?_ ?_ fu 0 _ (Nat.zero_le _) (by omega) ⟨by split <;> rfl, Nat.le_refl _⟩
  · intro n r hr
    rw [hfin] at hr
    have hsk : 10 * S + c < 10240 := by omega
    unfold p_X12_fillsRest_37 f_X12_fillsRest_37
    simp (disch := omega) only [ln_, leT, leF, ltT, ltF, eqT, eqF, vpT, nlT, nleT, lnF, lenF, eqnF, neqF, nnF, nI_add, pk_mul, pk_div, pk_sub, ni_m, nI_clamp, md10, dm10, gI_l, gI_n, ar_t, ar_f, it_t, it_f, true_and, and_true, not_true_eq_false, not_false_eq_true, implies_true, and_self, eq_self, h60, hr.1]
    exact fun h => h
  · intro n k r hk hr ih
    have hb := bitN (S := S) (k := k) (by omega) (by omega)
    have hbl := bt_lt S k
    have hck := h100 k hk
    have hcc := h100 c hc
    have hcl := hcs k hk
    have hcl2 := hcs c hc
    have hd : mnK 9999 (fun k => dst (cs c) (cs k) + tq cs m (cs k) (S - 2 ^ k)) S (k + 1) = if bt S k = 1 ∧ dst (cs c) (cs k) + tq cs m (cs k) (S - 2 ^ k) < mnK 9999 (fun k => dst (cs c) (cs k) + tq cs m (cs k) (S - 2 ^ k)) S k then dst (cs c) (cs k) + tq cs m (cs k) (S - 2 ^ k) else mnK 9999 (fun k => dst (cs c) (cs k) + tq cs m (cs k) (S - 2 ^ k)) S k := rfl
    unfold p_X12_fillsRest_37 f_X12_fillsRest_37
    by_cases e : bt S k = 1
    · have hp := Nat.two_pow_pos k
      have hle := bt_le e
      have h0 : S ≠ 0 := by omega
      have hon := one_n (k := k) (by omega)
      have hcr := clr_n hS2 (by omega) e
      have hfr := hO (S - 2 ^ k) k (by omega) (by omega) hk
      have hq := tq_b (S := S - 2 ^ k) hcs hm (by omega) hcl
      have hdl := dst_lt hcl2 hcl
      have hsk : 10 * (S - 2 ^ k) + k < 10240 := by omega
      rw [if_neg h0] at hr
      have hr2 := hr.2
      by_cases e2 : dst (cs c) (cs k) + tq cs m (cs k) (S - 2 ^ k) < mnK 9999 (fun k => dst (cs c) (cs k) + tq cs m (cs k) (S - 2 ^ k)) S k
      · rw [if_pos ⟨e, e2⟩] at hd
        simp (disch := omega) only [ln_, leT, leF, ltT, ltF, eqT, eqF, vpT, nlT, nleT, lnF, lenF, eqnF, neqF, nnF, nI_add, pk_mul, pk_div, pk_sub, ni_m, nI_clamp, md10, dm10, gI_l, gI_n, ar_t, ar_f, it_t, it_f, true_and, and_true, not_true_eq_false, not_false_eq_true, implies_true, and_self, eq_self, h60, hb, hck, hcc, steps_n, p_stepsT, hon, hcr, hfr, hr.1]
        exact ih _ ⟨by rw [if_neg h0, hd], by omega⟩
      · rw [if_neg (fun h => e2 h.2)] at hd
        simp (disch := omega) only [ln_, leT, leF, ltT, ltF, eqT, eqF, vpT, nlT, nleT, lnF, lenF, eqnF, neqF, nnF, nI_add, pk_mul, pk_div, pk_sub, ni_m, nI_clamp, md10, dm10, gI_l, gI_n, ar_t, ar_f, it_t, it_f, true_and, and_true, not_true_eq_false, not_false_eq_true, implies_true, and_self, eq_self, h60, hb, hck, hcc, steps_n, p_stepsT, hon, hcr, hfr, hr.1]
        exact ih _ ⟨by rw [if_neg h0, hd], by omega⟩
    · rw [if_neg (fun h => e h.1)] at hd
      have e0 : bt S k = 0 := by omega
      rw [e0] at hb
      simp (disch := omega) only [ln_, leF, ar_t, ar_f, it_t, it_f, true_and, and_true, not_true_eq_false, not_false_eq_true, implies_true, and_self, eq_self, nI_add, h60, hb]
      exact ih _ ⟨by rw [hd]; exact hr.1, by rw [hd]; exact hr.2⟩
theorem r_rest14 {K2 : Int32 → fl_I → fl_L → fl_I × fl_L} {P2 : Int32 → fl_I → fl_L → Prop} (hfu : 20000 ≤ fu) (hm : m ≤ 10) (h60 : s 60 60 = nI m) (h100 : ∀ k, k < m → s 100 k = nI (cs k)) (hcs : ∀ k, k < m → cs k < 80) {S : Nat} (hS : S < 2 ^ m) (hO : rO m cs S (s 101)) :
    ∃ s', f_X12_fillsRest_14 fu K2 fu (nI S) (nI 0) s l = K2 (nI (S + 1)) s' l ∧ (P2 (nI (S + 1)) s' l → p_X12_fillsRest_14 fu P2 fu (nI S) (nI 0) s l) ∧ rO m cs (S + 1) (s' 101) ∧ ∀ q, q ≠ 101 → s' q = s q := by
  have hS2 : S < 1024 := Nat.lt_of_lt_of_le hS (p10 hm)
  refine loop_i (fun n c s0 => ∃ s', f_X12_fillsRest_14 fu K2 n (nI S) (nI c) s0 l = K2 (nI (S + 1)) s' l ∧ (P2 (nI (S + 1)) s' l → p_X12_fillsRest_14 fu P2 n (nI S) (nI c) s0 l) ∧ rO m cs (S + 1) (s' 101) ∧ ∀ q, q ≠ 101 → s' q = s q) (fun c s0 => rO m cs S (s0 101) ∧ (∀ j, j < c → j < m → s0 101 (10 * S + j) = nI (tq cs m (cs j) S)) ∧ ∀ q, q ≠ 101 → s0 q = s q) m ?_ ?_ fu 0 s (Nat.zero_le _) (by omega) ⟨hO, fun j hj => absurd hj (Nat.not_lt_zero j), fun _ _ => rfl⟩
  · intro n s0 hs
    have k60 : s0 60 60 = nI m := by rw [hs.2.2 60 (by omega)]; exact h60
    refine ⟨s0, ?_, ?_, ?_, hs.2.2⟩
    · unfold f_X12_fillsRest_14
      simp (disch := omega) only [ln_, leT, leF, ltT, ltF, eqT, eqF, vpT, nlT, nleT, lnF, lenF, eqnF, neqF, nnF, nI_add, pk_mul, pk_div, pk_sub, ni_m, nI_clamp, md10, dm10, gI_l, gI_n, ar_t, ar_f, it_t, it_f, true_and, and_true, not_true_eq_false, not_false_eq_true, implies_true, and_self, eq_self, k60]
    · unfold p_X12_fillsRest_14
      simp (disch := omega) only [ln_, leT, leF, ltT, ltF, eqT, eqF, vpT, nlT, nleT, lnF, lenF, eqnF, neqF, nnF, nI_add, pk_mul, pk_div, pk_sub, ni_m, nI_clamp, md10, dm10, gI_l, gI_n, ar_t, ar_f, it_t, it_f, true_and, and_true, not_true_eq_false, not_false_eq_true, implies_true, and_self, eq_self, k60]
      exact fun h => h
    · intro S' c hS' hSm hc
      by_cases e : S' = S
      · subst e; exact hs.2.1 c hc hc
      · exact hs.1 S' c (by omega) hSm hc
  · intro n c s0 hc hs ih
    obtain ⟨hs1, hs2, hs3⟩ := hs
    have k60 : s0 60 60 = nI m := by rw [hs3 60 (by omega)]; exact h60
    have k100 : ∀ k, k < m → s0 100 k = nI (cs k) := fun k hk => by rw [hs3 100 (by omega)]; exact h100 k hk
    have h37 := r_rest37 (l := l) (K2 := K2) (P2 := P2) (K14 := fun x1 x2 s l => f_X12_fillsRest_14 fu K2 n x1 x2 s l) (P14 := fun x1 x2 s l => p_X12_fillsRest_14 fu P2 n x1 x2 s l) hfu hm k60 k100 hcs hS hs1 hc
    obtain ⟨s2, e2, p2, o2, r2⟩ := ih (wi s0 101 (10 * S + c) (nI (tq cs m (cs c) S))) ⟨fun S' j h1 h2 h3 => by rw [wi_u, upd_n (by omega)]; exact hs1 S' j h1 h2 h3, fun j h1 h2 => by
        rw [wi_u]
        by_cases e : j = c
        · subst e; rw [upd_s]
        · rw [upd_n (by omega)]; exact hs2 j (by omega) h2, fun q hq => by rw [wi_c hq]; exact hs3 q hq⟩
    unfold p_X12_fillsRest_14 f_X12_fillsRest_14
    by_cases h0 : S = 0
    · subst h0
      rw [if_pos rfl] at h37
      simp (disch := omega) only [ln_, leT, leF, ltT, ltF, eqT, eqF, vpT, nlT, nleT, lnF, lenF, eqnF, neqF, nnF, nI_add, pk_mul, pk_div, pk_sub, ni_m, nI_clamp, md10, dm10, gI_l, gI_n, ar_t, ar_f, it_t, it_f, true_and, and_true, not_true_eq_false, not_false_eq_true, implies_true, and_self, eq_self, k60, h37.1]
      exact ⟨s2, e2, fun h => h37.2 (p2 h), o2, r2⟩
    · rw [if_neg h0] at h37
      simp (disch := omega) only [ln_, leT, leF, ltT, ltF, eqT, eqF, vpT, nlT, nleT, lnF, lenF, eqnF, neqF, nnF, nI_add, pk_mul, pk_div, pk_sub, ni_m, nI_clamp, md10, dm10, gI_l, gI_n, ar_t, ar_f, it_t, it_f, true_and, and_true, not_true_eq_false, not_false_eq_true, implies_true, and_self, eq_self, k60, h37.1]
      exact ⟨s2, e2, fun h => h37.2 (p2 h), o2, r2⟩
theorem r_rest (hfu : 20000 ≤ fu) (hm : m ≤ 10) (h60 : s 60 60 = nI m) (h100 : ∀ k, k < m → s 100 k = nI (cs k)) (hcs : ∀ k, k < m → cs k < 80) :
    ∃ s', f_X12_fillsRest fu s l = (s', l) ∧ p_X12_fillsRest fu s l ∧ rO m cs (2 ^ m) (s' 101) ∧ ∀ q, q ≠ 101 → s' q = s q := by
  have h10 := p10 hm
  refine loop_i (fun n S s0 => ∃ s', f_X12_fillsRest_2 fu n (nI S) s0 l = (s', l) ∧ p_X12_fillsRest_2 fu n (nI S) s0 l ∧ rO m cs (2 ^ m) (s' 101) ∧ ∀ q, q ≠ 101 → s' q = s q) (fun S s0 => rO m cs S (s0 101) ∧ ∀ q, q ≠ 101 → s0 q = s q) (2 ^ m) ?_ ?_ fu 0 s (Nat.zero_le _) (by omega) ⟨fun S c h => absurd h (Nat.not_lt_zero S), fun _ _ => rfl⟩
  · intro n s0 hs
    have k60 : s0 60 60 = nI m := by rw [hs.2 60 (by omega)]; exact h60
    have hon := one_n (k := m) (by omega)
    refine ⟨s0, ?_, ?_, hs⟩
    · unfold f_X12_fillsRest_2
      simp (disch := omega) only [ln_, leT, leF, ltT, ltF, eqT, eqF, vpT, nlT, nleT, lnF, lenF, eqnF, neqF, nnF, nI_add, pk_mul, pk_div, pk_sub, ni_m, nI_clamp, md10, dm10, gI_l, gI_n, ar_t, ar_f, it_t, it_f, true_and, and_true, not_true_eq_false, not_false_eq_true, implies_true, and_self, eq_self, k60, hon]
    · unfold p_X12_fillsRest_2
      simp (disch := omega) only [ln_, leT, leF, ltT, ltF, eqT, eqF, vpT, nlT, nleT, lnF, lenF, eqnF, neqF, nnF, nI_add, pk_mul, pk_div, pk_sub, ni_m, nI_clamp, md10, dm10, gI_l, gI_n, ar_t, ar_f, it_t, it_f, true_and, and_true, not_true_eq_false, not_false_eq_true, implies_true, and_self, eq_self, k60, hon]
  · intro n S s0 hS hs ih
    obtain ⟨hs1, hs2⟩ := hs
    have k60 : s0 60 60 = nI m := by rw [hs2 60 (by omega)]; exact h60
    have k100 : ∀ k, k < m → s0 100 k = nI (cs k) := fun k hk => by rw [hs2 100 (by omega)]; exact h100 k hk
    have hon := one_n (k := m) (by omega)
    obtain ⟨s1, e1, p1, o1, r1⟩ := r_rest14 (l := l) (K2 := fun x1 s l => f_X12_fillsRest_2 fu n x1 s l) (P2 := fun x1 s l => p_X12_fillsRest_2 fu n x1 s l) hfu hm k60 k100 hcs hS hs1
    obtain ⟨s2, e2, p2, o2, r2⟩ := ih s1 ⟨o1, fun q hq => by rw [r1 q hq]; exact hs2 q hq⟩
    unfold p_X12_fillsRest_2 f_X12_fillsRest_2
    simp (disch := omega) only [ln_, leT, leF, ltT, ltF, eqT, eqF, vpT, nlT, nleT, lnF, lenF, eqnF, neqF, nnF, nI_add, pk_mul, pk_div, pk_sub, ni_m, nI_clamp, md10, dm10, gI_l, gI_n, ar_t, ar_f, it_t, it_f, true_and, and_true, not_true_eq_false, not_false_eq_true, implies_true, and_self, eq_self, k60, hon, e1]
    exact ⟨s2, e2, p1 p2, o2, r2⟩
/-- a round of the reference through a set: steps, and the first cell in its field -/
theorem r_round (hfu : 20000 ≤ fu) (hm : m ≤ 10) (h60 : s 60 60 = nI m) (h100 : ∀ k, k < m → s 100 k = nI (cs k)) (hcs : ∀ k, k < m → cs k < 80) (hO : rO m cs (2 ^ m) (s 101)) (ha : a < 80) {S : Nat} (hS : S < 2 ^ m) :
    ∃ s', f_X12_roundFrom fu (nI a) (nI S) s l = (nI (tq cs m a S), s', l) ∧ p_X12_roundFrom fu (nI a) (nI S) s l ∧ s' 60 63 = (if S = 0 then -nI 2 else nI (cs (fx (fun k => dst a (cs k) + tq cs m (cs k) (S - 2 ^ k)) S m))) ∧ (∀ q, q ≠ 60 → s' q = s q) ∧ ∀ j, j ≠ 63 → s' 60 j = s 60 j := by
  have hS2 : S < 1024 := Nat.lt_of_lt_of_le hS (p10 hm)
  have gl := g_lt hm hcs ha hS
  generalize hg : (fun k => dst a (cs k) + tq cs m (cs k) (S - 2 ^ k)) = gg
  have hgg : ∀ k, dst a (cs k) + tq cs m (cs k) (S - 2 ^ k) = gg k := fun k => by rw [← hg]
  have sp : ∀ n, n ≤ m → (fx gg S n = 99 ∧ mnK 9999 gg S n = 9999 ∧ ∀ k, k < n → bt S k ≠ 1) ∨ (fx gg S n < n ∧ bt S (fx gg S n) = 1 ∧ gg (fx gg S n) = mnK 9999 gg S n ∧ mnK 9999 gg S n < 9999 ∧ ∀ j, j < n → bt S j = 1 → mnK 9999 gg S n ≤ gg j ∧ (j < fx gg S n → mnK 9999 gg S n < gg j)) := fun n hn => fx_spec (fun k hk hb => by have := gl k (by omega) hb; rw [hgg] at this; omega)
  refine loop_i (fun n k (z : Int32 × fl_I) => ∃ s', f_X12_roundFrom_11 fu n (nI a) (nI S) z.1 (nI k) z.2 l = (nI (tq cs m a S), s', l) ∧ p_X12_roundFrom_11 fu n (nI a) (nI S) z.1 (nI k) z.2 l ∧ s' 60 63 = (if S = 0 then -nI 2 else nI (cs (fx gg S m))) ∧ (∀ q, q ≠ 60 → s' q = s q) ∧ ∀ j, j ≠ 63 → s' 60 j = s 60 j) (fun k z => ((fx gg S k = 99 ∧ z.1 = nI 0 ∧ z.2 60 63 = -nI 2) ∨ (fx gg S k < k ∧ z.1 = nI (mnK 9999 gg S k) ∧ z.2 60 63 = nI (cs (fx gg S k)))) ∧ (∀ q, q ≠ 60 → z.2 q = s q) ∧ ∀ j, j ≠ 63 → z.2 60 j = s 60 j) m ?_ ?_ fu 0 (nI 0, wi s 60 63 (-nI 2)) (Nat.zero_le _) (by omega) ⟨.inl ⟨rfl, rfl, by dsimp only; rw [wi_s]⟩, fun q hq => by dsimp only; rw [wi_c hq], fun j hj => by dsimp only; rw [wi_u, upd_n hj]⟩
  · intro n z hz
    obtain ⟨r, s0⟩ := z
    obtain ⟨hz, hk, hj⟩ := hz
    dsimp only at hz hk hj ⊢
    have k60 : s0 60 60 = nI m := by rw [hj 60 (by omega)]; exact h60
    have hfin : r = nI (tq cs m a S) ∧ s0 60 63 = (if S = 0 then -nI 2 else nI (cs (fx gg S m))) := by
      by_cases h0 : S = 0
      · subst h0
        rcases hz with ⟨z1, z2, z3⟩ | ⟨z1, z2, z3⟩
        · rw [if_pos rfl, tq_0]; exact ⟨z2, z3⟩
        · rcases sp m (Nat.le_refl m) with ⟨a1, _⟩ | ⟨_, a2, _⟩
          · omega
          · unfold bt at a2; rw [Nat.zero_div] at a2; omega
      · rcases hz with ⟨z1, z2, z3⟩ | ⟨z1, z2, z3⟩
        · rcases sp m (Nat.le_refl m) with ⟨_, _, a3⟩ | ⟨a1, _⟩
          · obtain ⟨k, hk, hb⟩ := bt_ex h0 hS
            exact absurd hb (a3 k hk)
          · omega
        · rw [if_neg h0, tq_s h0, hg]; exact ⟨z2, z3⟩
    refine ⟨s0, ?_, ?_, hfin.2, hk, hj⟩
    · unfold f_X12_roundFrom_11
      simp (disch := omega) only [ln_, leT, leF, ltT, ltF, eqT, eqF, vpT, nlT, nleT, lnF, lenF, eqnF, neqF, nnF, nI_add, pk_mul, pk_div, pk_sub, ni_m, nI_clamp, md10, dm10, gI_l, gI_n, ar_t, ar_f, it_t, it_f, true_and, and_true, not_true_eq_false, not_false_eq_true, implies_true, and_self, eq_self, k60, hfin.1]
    · unfold p_X12_roundFrom_11
      simp (disch := omega) only [ln_, leT, leF, ltT, ltF, eqT, eqF, vpT, nlT, nleT, lnF, lenF, eqnF, neqF, nnF, nI_add, pk_mul, pk_div, pk_sub, ni_m, nI_clamp, md10, dm10, gI_l, gI_n, ar_t, ar_f, it_t, it_f, true_and, and_true, not_true_eq_false, not_false_eq_true, implies_true, and_self, eq_self, k60]
  · intro n k z hk0 hz ih
    replace ih := fun x1 s' => ih (x1, s')
    dsimp only at ih
    obtain ⟨r, s0⟩ := z
    obtain ⟨hz, hk, hj⟩ := hz
    dsimp only at hz hk hj ⊢
    have k60 : s0 60 60 = nI m := by rw [hj 60 (by omega)]; exact h60
    have hb := bitN (S := S) (k := k) (by omega) (by omega)
    have hbl := bt_lt S k
    have hck : s0 100 k = nI (cs k) := by rw [hk 100 (by omega)]; exact h100 k hk0
    have hcl := hcs k hk0
    have d1 : fx gg S (k + 1) = if bt S k = 1 ∧ gg k < mnK 9999 gg S k then k else fx gg S k := rfl
    have d2 : mnK 9999 gg S (k + 1) = if bt S k = 1 ∧ gg k < mnK 9999 gg S k then gg k else mnK 9999 gg S k := rfl
    unfold p_X12_roundFrom_11 f_X12_roundFrom_11
    by_cases e : bt S k = 1
    · have hp := Nat.two_pow_pos k
      have hle := bt_le e
      have hon := one_n (k := k) (by omega)
      have hcr := clr_n hS2 (by omega) e
      have hfr : s0 101 (10 * (S - 2 ^ k) + k) = nI (tq cs m (cs k) (S - 2 ^ k)) := by rw [hk 101 (by omega)]; exact hO (S - 2 ^ k) k (by omega) (by omega) hk0
      have hgk := gl k hk0 e
      rw [hgg] at hgk
      have hsk : 10 * (S - 2 ^ k) + k < 10240 := by omega
      have hwk : ∀ s2 : fl_I, s2 = wi s0 60 63 (nI (cs k)) → s2 60 63 = nI (cs k) ∧ (∀ q, q ≠ 60 → s2 q = s q) ∧ ∀ j, j ≠ 63 → s2 60 j = s 60 j := fun s2 h => by
        subst h; exact ⟨wi_s, fun q hq => by rw [wi_c hq]; exact hk q hq, fun j hj2 => by rw [wi_u, upd_n hj2]; exact hj j hj2⟩
      rcases hz with ⟨z1, z2, z3⟩ | ⟨z1, z2, z3⟩
      · rcases sp k (by omega) with ⟨a1, a2, a3⟩ | ⟨a1, _⟩
        · rw [if_pos ⟨e, by omega⟩] at d1 d2
          simp (disch := omega) only [ln_, leT, leF, ltT, ltF, eqT, eqF, vpT, nlT, nleT, lnF, lenF, eqnF, neqF, nnF, nI_add, pk_mul, pk_div, pk_sub, ni_m, nI_clamp, md10, dm10, gI_l, gI_n, ar_t, ar_f, it_t, it_f, true_and, and_true, not_true_eq_false, not_false_eq_true, implies_true, and_self, eq_self, k60, hb, hck, steps_n, p_stepsT, hon, hcr, hfr, z3, hgg]
          obtain ⟨w1, w2, w3⟩ := hwk _ rfl
          exact ih _ _ ⟨.inr ⟨by rw [d1]; omega, by rw [d2], by rw [d1]; exact w1⟩, w2, w3⟩
        · omega
      · rcases sp k (by omega) with ⟨a1, _⟩ | ⟨a1, a2, a3, a4, a5⟩
        · omega
        · have hcf := hcs (fx gg S k) (by omega)
          by_cases e2 : gg k < mnK 9999 gg S k
          · rw [if_pos ⟨e, e2⟩] at d1 d2
            simp (disch := omega) only [ln_, leT, leF, ltT, ltF, eqT, eqF, vpT, nlT, nleT, lnF, lenF, eqnF, neqF, nnF, nI_add, pk_mul, pk_div, pk_sub, ni_m, nI_clamp, md10, dm10, gI_l, gI_n, ar_t, ar_f, it_t, it_f, true_and, and_true, not_true_eq_false, not_false_eq_true, implies_true, and_self, eq_self, k60, hb, hck, steps_n, p_stepsT, hon, hcr, hfr, z2, z3, hgg]
            obtain ⟨w1, w2, w3⟩ := hwk _ rfl
            exact ih _ _ ⟨.inr ⟨by rw [d1]; omega, by rw [d2], by rw [d1]; exact w1⟩, w2, w3⟩
          · rw [if_neg (fun h => e2 h.2)] at d1 d2
            simp (disch := omega) only [ln_, leT, leF, ltT, ltF, eqT, eqF, vpT, nlT, nleT, lnF, lenF, eqnF, neqF, nnF, nI_add, pk_mul, pk_div, pk_sub, ni_m, nI_clamp, md10, dm10, gI_l, gI_n, ar_t, ar_f, it_t, it_f, true_and, and_true, not_true_eq_false, not_false_eq_true, implies_true, and_self, eq_self, k60, hb, hck, steps_n, p_stepsT, hon, hcr, hfr, z2, z3, hgg]
            exact ih _ _ ⟨.inr ⟨by rw [d1]; omega, by rw [d2], by rw [d1]; exact z3⟩, hk, hj⟩
    · rw [if_neg (fun h => e h.1)] at d1 d2
      have e0 : bt S k = 0 := by omega
      rw [e0] at hb
      simp (disch := omega) only [ln_, leF, ar_t, ar_f, it_t, it_f, true_and, and_true, not_true_eq_false, not_false_eq_true, implies_true, and_self, eq_self, nI_add, k60, hb]
      refine ih _ _ ⟨?_, hk, hj⟩
      rw [d1, d2]
      rcases hz with h | ⟨h1, h2⟩
      · exact .inl h
      · exact .inr ⟨by omega, h2⟩
end to3
