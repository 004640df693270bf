/-! Tours: the first cell, sharing, gathering; the reference's tours -/
def fx (g : Nat → Nat) (S : Nat) : Nat → Nat
  | 0 => 99
  | n + 1 => if bt S n = 1 ∧ g n < mnK 9999 g S n then n else fx g S n
theorem fx_spec {g : Nat → Nat} {S n : Nat} (hg : ∀ k, k < n → bt S k = 1 → g k < 9999) : (fx g S n = 99 ∧ mnK 9999 g S n = 9999 ∧ ∀ k, k < n → bt S k ≠ 1) ∨ (fx g S n < n ∧ bt S (fx g S n) = 1 ∧ g (fx g S n) = mnK 9999 g S n ∧ mnK 9999 g S n < 9999 ∧ ∀ j, j < n → bt S j = 1 → mnK 9999 g S n ≤ g j ∧ (j < fx g S n → mnK 9999 g S n < g j)) := by
  induction n with
  | zero => exact .inl ⟨rfl, rfl, fun k hk => absurd hk (Nat.not_lt_zero k)⟩
  | succ n ih =>
    have e1 : fx g S (n + 1) = if bt S n = 1 ∧ g n < mnK 9999 g S n then n else fx g S n := rfl
    have e2 : mnK 9999 g S (n + 1) = if bt S n = 1 ∧ g n < mnK 9999 g S n then g n else mnK 9999 g S n := rfl
    rcases ih (fun k hk => hg k (by omega)) with ⟨a1, a2, a3⟩ | ⟨a1, a2, a3, a4, a5⟩
    · by_cases hb : bt S n = 1
      · have h9 := hg n (by omega) hb
        rw [if_pos ⟨hb, by omega⟩] at e1 e2
        right
        rw [e1, e2]
        refine ⟨by omega, hb, rfl, h9, fun j hj hbj => ?_⟩
        by_cases e : j = n
        · subst e; exact ⟨Nat.le_refl _, fun h => by omega⟩
        · exact absurd hbj (a3 j (by omega))
      · rw [if_neg (fun h => hb h.1)] at e1 e2
        left
        rw [e1, e2]
        refine ⟨a1, a2, fun k hk => ?_⟩
        by_cases e : k = n
        · subst e; exact hb
        · exact a3 k (by omega)
    · right
      by_cases hb : bt S n = 1 ∧ g n < mnK 9999 g S n
      · rw [if_pos hb] at e1 e2
        rw [e1, e2]
        refine ⟨by omega, hb.1, rfl, by omega, fun j hj hbj => ?_⟩
        by_cases e : j = n
        · subst e; exact ⟨Nat.le_refl _, fun h => by omega⟩
        · have := a5 j (by omega) hbj
          exact ⟨by omega, fun _ => by omega⟩
      · rw [if_neg hb] at e1 e2
        rw [e1, e2]
        refine ⟨by omega, a2, a3, a4, fun j hj hbj => ?_⟩
        by_cases e : j = n
        · subst e
          have : ¬ g j < mnK 9999 g S j := fun h => hb ⟨hbj, h⟩
          exact ⟨by omega, fun h => by omega⟩
        · exact a5 j (by omega) hbj
theorem bt_all {m k : Nat} (hk : k < m) : bt (2 ^ m - 1) k = 1 := by
  unfold bt
  obtain ⟨d, rfl⟩ : ∃ d, m = k + 1 + d := ⟨m - k - 1, by omega⟩
  have e : 2 ^ (k + 1 + d) = 2 ^ k * (2 * 2 ^ d) := by rw [Nat.pow_add, Nat.pow_add, Nat.pow_one, Nat.mul_assoc]
  have h : (2 ^ (k + 1 + d) - 1) / 2 ^ k = 2 * 2 ^ d - 1 := by
    rw [e]
    have hp := Nat.two_pow_pos k
    have hd := Nat.two_pow_pos d
    have h2 : 2 ^ k * (2 * 2 ^ d) - 1 = 2 ^ k * (2 * 2 ^ d - 1) + (2 ^ k - 1) := by
      rw [Nat.mul_sub, Nat.mul_one]
      have : 2 ^ k * 1 ≤ 2 ^ k * (2 * 2 ^ d) := Nat.mul_le_mul_left _ (by omega)
      omega
    rw [h2, Nat.mul_add_div hp, Nat.div_eq_of_lt (by omega), Nat.add_zero]
  rw [h]
  have hd := Nat.two_pow_pos d
  omega
def mnF (i0 : Nat) (f : Nat → Nat) : Nat → Nat
  | 0 => i0
  | n + 1 => if f n < mnF i0 f n then f n else mnF i0 f n
theorem mnF_i {i0 i1 n : Nat} {f : Nat → Nat} (h0 : ∀ k, f k < i0) (h1 : ∀ k, f k < i1) (hn : 0 < n) : mnF i0 f n = mnF i1 f n ∧ mnF i0 f n < i0 ∧ mnF i0 f n < i1 := by
  induction n with
  | zero => omega
  | succ n ih =>
    have a := h0 n
    have b := h1 n
    show (if f n < mnF i0 f n then f n else mnF i0 f n) = (if f n < mnF i1 f n then f n else mnF i1 f n) ∧ (if f n < mnF i0 f n then f n else mnF i0 f n) < _ ∧ (if f n < mnF i0 f n then f n else mnF i0 f n) < _
    by_cases hz : n = 0
    · subst hz
      have e0 : mnF i0 f 0 = i0 := rfl
      have e1 : mnF i1 f 0 = i1 := rfl
      rw [e0, e1, if_pos a, if_pos b]; exact ⟨rfl, a, b⟩
    · obtain ⟨c1, c2, c3⟩ := ih (by omega)
      rw [← c1]
      refine ⟨rfl, ?_, ?_⟩ <;> split <;> omega
section to2
variable {fu t lv P np nl nw : Nat} {ht sg lo : Nat → Nat} {wd : Nat → List Nat} {wx wy rn sd : Int32} {LW : Lw} {Y : Yd} {s s1 s2 : fl_I} {l : fl_L} {D : fl_D} {a i b c q k n g m F wo : Nat} {x y z v : Int32} {st : Bool} {Z : Yd} {cs : Nat → Nat}
/-- where to go first -/
def fcS (cs : Nat → Nat) (m a : Nat) : Int32 := if m = 0 then -nI 2 else nI (cs (fx (fun k => dst a (cs k) + tq cs m (cs k) (2 ^ m - 1 - 2 ^ k)) (2 ^ m - 1) m))
theorem g_lt (hm : m ≤ 10) (hcs : ∀ k, k < m → cs k < 80) (ha : a < 80) {S : Nat} (hS : S < 2 ^ m) : ∀ k, k < m → bt S k = 1 → dst a (cs k) + tq cs m (cs k) (S - 2 ^ k) < 200 := by
  intro k hk hb
  have hp := Nat.two_pow_pos k
  have hq := tq_b (S := S - 2 ^ k) hcs hm (by omega) (hcs k hk)
  have hdl := dst_lt ha (hcs k hk)
  omega
theorem c_first (hfu : 20000 ≤ fu) (hm : m ≤ 10) (hF : D.2.2.2.1 = F) (h51 : s 51 0 = nI m) (h52 : ∀ k, k < m → s 52 k = nI (cs k)) (hcs : ∀ k, k < m → cs k < 80) (ha : a < 80) (hO : fO F m cs (2 ^ m) s) : p_X8_firstCell fu (nI a) D s l ∧ f_X8_firstCell fu (nI a) D s l = fcS cs m a := by
  have hp := Nat.two_pow_pos m
  have h10 := p10 hm
  have hal := c_all (fu := fu) (l := l) hm h51
  have hfe := c_fewest (l := l) (D := D) (S := 2 ^ m - 1) hfu hm hF h51 h52 hcs ha (by omega) (fun S k h1 h2 h3 h4 => hO S k (by omega) h2 h3 h4)
  unfold p_X8_firstCell f_X8_firstCell p_X8_all
  rw [hal, hfe.2]
  have gl := g_lt hm hcs ha (S := 2 ^ m - 1) (by omega)
  have key : p_X8_firstCell_12 fu fu (nI a) (nI (tq cs m a (2 ^ m - 1))) (nI 0) D s l ∧ f_X8_firstCell_12 fu fu (nI a) (nI (tq cs m a (2 ^ m - 1))) (nI 0) D s l = fcS cs m a := by
    refine loop_i (fun n k (_ : Unit) => p_X8_firstCell_12 fu n (nI a) (nI (tq cs m a (2 ^ m - 1))) (nI k) D s l ∧ f_X8_firstCell_12 fu n (nI a) (nI (tq cs m a (2 ^ m - 1))) (nI k) D s l = fcS cs m a) (fun k _ => m = 0 ∨ k ≤ fx (fun k => dst a (cs k) + tq cs m (cs k) (2 ^ m - 1 - 2 ^ k)) (2 ^ m - 1) m) m ?_ ?_ fu 0 () (Nat.zero_le _) (by omega) (.inr (Nat.zero_le _))
    · intro n _ hk
      have h0 : m = 0 := by
        rcases hk with h | h
        · exact h
        · rcases fx_spec (fun k hk hb => Nat.lt_trans (gl k hk hb) (show 200 < 9999 by omega)) with ⟨a1, a2, a3⟩ | ⟨a1, _⟩
          · rcases Nat.eq_zero_or_pos m with e | e
            · exact e
            · exact absurd (bt_all (m := m) (k := 0) e) (a3 0 e)
          · omega
      unfold p_X8_firstCell_12 f_X8_firstCell_12 fcS
      simp (disch := omega) only [ln_, leT, leF, ltT, ltF, eqT, eqF, vpT, nlT, nleT, lnF, lenF, eqnF, neqF, nnF, nI_add, pk_mul, pk_div, pk_sub, ni_m, nI_clamp, md10, dm10, gI_l, gI_n, ar_t, ar_f, it_t, it_f, true_and, and_true, not_true_eq_false, not_false_eq_true, implies_true, and_self, eq_self, h51, if_pos h0]
    · intro n k _ hk hI ih
      have hcl := hcs k hk
      have hck := h52 k hk
      have hb := bt_all hk
      have hfr := hO (2 ^ m - 1) k (by omega) (by omega) hk hb
      have hgk := gl k hk hb
      have hpk := Nat.two_pow_pos k
      have hq := tq_b (S := 2 ^ m - 1 - 2 ^ k) hcs hm (by omega) hcl
      have hdl := dst_lt ha hcl
      have hsk : (2 ^ m - 1) * 10 + k < 10240 := by omega
      have hm0 : 2 ^ m - 1 ≠ 0 := by
        have : 2 ^ 1 ≤ 2 ^ m := Nat.pow_le_pow_right (by omega) (by omega)
        omega
      have htq := tq_s (cs := cs) (m := m) (a := a) hm0
      have htb := tq_b (S := 2 ^ m - 1) hcs hm (by omega) ha
      rcases fx_spec (fun k hk hb => Nat.lt_trans (gl k hk hb) (show 200 < 9999 by omega)) with ⟨a1, a2, a3⟩ | ⟨a1, a2, a3, a4, a5⟩
      · exact absurd hb (a3 k hk)
      · have hle : k ≤ fx (fun k => dst a (cs k) + tq cs m (cs k) (2 ^ m - 1 - 2 ^ k)) (2 ^ m - 1) m := by
          rcases hI with h | h
          · omega
          · exact h
        unfold p_X8_firstCell_12 f_X8_firstCell_12 p_X8_index f_X8_index p_X8_all
        by_cases e : k = fx (fun k => dst a (cs k) + tq cs m (cs k) (2 ^ m - 1 - 2 ^ k)) (2 ^ m - 1) m
        · rw [← e, ← htq] at a3
          have hfc : fcS cs m a = nI (cs k) := by unfold fcS; rw [if_neg (by omega), ← e]
          simp (disch := omega) only [ln_, leT, leF, ltT, ltF, eqT, eqF, vpT, nlT, nleT, lnF, lenF, eqnF, neqF, nnF, nI_add, pk_mul, pk_div, pk_sub, ni_m, nI_clamp, md10, dm10, gI_l, gI_n, ar_t, ar_f, it_t, it_f, true_and, and_true, not_true_eq_false, not_false_eq_true, implies_true, and_self, eq_self, h51, hal, hck, apart_n, p_apartT, hF, hfr, a3, hfc]
        · have h5 := (a5 k hk hb).2 (by omega)
          rw [← htq] at h5
          simp (disch := omega) only [ln_, leT, leF, ltT, ltF, eqT, eqF, vpT, nlT, nleT, lnF, lenF, eqnF, neqF, nnF, nI_add, pk_mul, pk_div, pk_sub, ni_m, nI_clamp, md10, dm10, gI_l, gI_n, ar_t, ar_f, it_t, it_f, true_and, and_true, not_true_eq_false, not_false_eq_true, implies_true, and_self, eq_self, h51, hal, hck, apart_n, p_apartT, hF, hfr]
          exact ih () (.inr (by omega))
  exact ⟨⟨trivial, hfe.1, key.1⟩, key.2⟩
def shF (cs : Nat → Nat) (m a b S : Nat) : Nat := if tq cs m a S < tq cs m b (2 ^ m - 1 - S) then tq cs m b (2 ^ m - 1 - S) else tq cs m a S
theorem c_shared (hfu : 20000 ≤ fu) (hm : m ≤ 10) (hF : D.2.2.2.1 = F) (h51 : s 51 0 = nI m) (h52 : ∀ k, k < m → s 52 k = nI (cs k)) (hcs : ∀ k, k < m → cs k < 80) (ha : a < 80) (hb : b < 80) (hO : fO F m cs (2 ^ m) s) : p_X8_shared fu (nI a) (nI b) D s l ∧ f_X8_shared fu (nI a) (nI b) D s l = nI (mnF 1000000 (shF cs m a b) (2 ^ m)) := by
  have hp := Nat.two_pow_pos m
  have h10 := p10 hm
  have hal := c_all (fu := fu) (l := l) hm h51
  refine loop_i (fun n S r => p_X8_shared_6 fu n (nI a) (nI b) r (nI S) D s l ∧ f_X8_shared_6 fu n (nI a) (nI b) r (nI S) D s l = nI (mnF 1000000 (shF cs m a b) (2 ^ m))) (fun S r => r = nI (mnF 1000000 (shF cs m a b) S) ∧ mnF 1000000 (shF cs m a b) S ≤ 1000000) (2 ^ m) ?_ ?_ fu 0 (nI 1000000) (Nat.zero_le _) (by omega) ⟨rfl, Nat.le_refl _⟩
  · intro n r hr
    unfold p_X8_shared_6 f_X8_shared_6 p_X8_all
    simp (disch := omega) only [ln_, leT, leF, ltT, ltF, eqT, eqF, vpT, nlT, nleT, lnF, lenF, eqnF, neqF, nnF, nI_add, pk_mul, pk_div, pk_sub, ni_m, nI_clamp, md10, dm10, gI_l, gI_n, ar_t, ar_f, it_t, it_f, true_and, and_true, not_true_eq_false, not_false_eq_true, implies_true, and_self, eq_self, hal, hr.1]
  · intro n S r hS hr ih
    have h1 := c_fewest (l := l) (D := D) (S := S) hfu hm hF h51 h52 hcs ha hS (fun S k h1 h2 h3 h4 => hO S k (by omega) h2 h3 h4)
    have h2 := c_fewest (l := l) (D := D) (S := 2 ^ m - 1 - S) hfu hm hF h51 h52 hcs hb (by omega) (fun S k h1 h2 h3 h4 => hO S k (by omega) h2 h3 h4)
    have hc := cpl_n hm hS
    have b1 := tq_b (S := S) hcs hm hS ha
    have b2 := tq_b (S := 2 ^ m - 1 - S) hcs hm (by omega) hb
    have hd : mnF 1000000 (shF cs m a b) (S + 1) = if shF cs m a b S < mnF 1000000 (shF cs m a b) S then shF cs m a b S else mnF 1000000 (shF cs m a b) S := rfl
    have hsh : i_max (nI (tq cs m a S)) (nI (tq cs m b (2 ^ m - 1 - S))) = nI (shF cs m a b S) := i_maxN (by omega) (by omega)
    have hsb : shF cs m a b S ≤ 170 := by unfold shF; split <;> omega
    have hmn : i_min (nI (mnF 1000000 (shF cs m a b) S)) (nI (shF cs m a b S)) = nI (mnF 1000000 (shF cs m a b) (S + 1)) := i_minN (by have := hr.2; omega) (by omega)
    unfold p_X8_shared_6 f_X8_shared_6 p_X8_all
    simp (disch := omega) only [ln_, leT, leF, ltT, ltF, eqT, eqF, vpT, nlT, nleT, lnF, lenF, eqnF, neqF, nnF, nI_add, pk_mul, pk_div, pk_sub, ni_m, nI_clamp, md10, dm10, gI_l, gI_n, ar_t, ar_f, it_t, it_f, true_and, and_true, not_true_eq_false, not_false_eq_true, implies_true, and_self, eq_self, hal, hc, h1, h2, hsh, hr.1, hmn]
    refine ih _ ⟨rfl, ?_⟩
    rw [hd]
    split
    · omega
    · exact hr.2
/-- which cells count -/
def qc (P : Nat) (Y : Yd) (wo c : Nat) : Bool := decide (0 < ct (fun i => Y.2.1 i == c) P) && decide (c ≠ wo)
theorem c_gather (hfu : 20000 ≤ fu) (yc : yC P np Y 31 s) (yw : YW P np ht Y) (hok : fl_ok D) (hfr : D.2.2.2.1 = 54 ∨ (107 ≤ D.2.2.2.1 ∧ frok D)) (hx : ∀ c, c < 80 → ((nI c = x) = (c = wo))) :
    (10 < ct (qc P Y wo) 80 ∧ ∃ s', f_X8_gather fu x 31 D s l = (nI 0, D, s', l) ∧ p_X8_gather fu x 31 D s l ∧ ∀ q, q ≠ 51 → q ≠ 52 → q ≠ 53 → s' q = s q) ∨
    (ct (qc P Y wo) 80 ≤ 10 ∧ ∃ D' s', f_X8_gather fu x 31 D s l = (nI 1, D', s', l) ∧ p_X8_gather fu x 31 D s l ∧ (D' = D ∨ (D.2.2.2.1 = 54 ∧ D' = D_t D)) ∧ 107 ≤ D'.2.2.2.1 ∧ frok D' ∧ s' 51 0 = nI (ct (qc P Y wo) 80) ∧ (∀ k, k < ct (qc P Y wo) 80 → s' 52 k = nI (sel (qc P Y wo) 80 k)) ∧ fO D'.2.2.2.1 (ct (qc P Y wo) 80) (sel (qc P Y wo) 80) (2 ^ ct (qc P Y wo) 80) s' ∧ ∀ q, q ≠ 51 → q ≠ 52 → q ≠ 53 → q ≠ D'.2.2.2.1 → s' q = s q) := by
  obtain ⟨s1, e1, p1, r1, c1⟩ := c_countAll (l := l) (q := 53) hfu yc yw (fun k hk => by omega)
  have hcb : ∀ c, ct (fun i => Y.2.1 i == c) P ≤ 32 := fun c => Nat.le_trans (ct_le _ _) yw.1
  generalize hQ : qc P Y wo = Q
  have hQc : ∀ c, Q c = (decide (0 < ct (fun i => Y.2.1 i == c) P) && decide (c ≠ wo)) := fun c => by rw [← hQ]; rfl
  have mono : ∀ c d, c ≤ d → ct Q c ≤ ct Q d := by
    intro c d h
    obtain ⟨e, rfl⟩ : ∃ e, d = c + e := ⟨d - c, by omega⟩
    induction e with
    | zero => exact Nat.le_refl _
    | succ e ih => exact Nat.le_trans (ih (by omega)) (by show ct Q (c + e) ≤ ct Q (c + e) + _; omega)
  have key : ∀ R : Int32 × fl_D × fl_I × fl_L, ∀ Pp : Prop, (10 < ct Q 80 ∧ ∃ s', R = (nI 0, D, s', l) ∧ Pp ∧ ∀ q, q ≠ 51 → q ≠ 52 → q ≠ 53 → s' q = s q) ∨ (ct Q 80 ≤ 10 ∧ ∃ D' s', R = (nI 1, D', s', l) ∧ Pp ∧ (D' = D ∨ (D.2.2.2.1 = 54 ∧ D' = D_t D)) ∧ 107 ≤ D'.2.2.2.1 ∧ frok D' ∧ s' 51 0 = nI (ct Q 80) ∧ (∀ k, k < ct Q 80 → s' 52 k = nI (sel Q 80 k)) ∧ fO D'.2.2.2.1 (ct Q 80) (sel Q 80) (2 ^ ct Q 80) s' ∧ ∀ q, q ≠ 51 → q ≠ 52 → q ≠ 53 → q ≠ D'.2.2.2.1 → s' q = s q) → True := fun _ _ _ => trivial
  have L := loop_i (fun n c s0 => (10 < ct Q 80 ∧ ∃ s', f_X8_gather_15 fu n x (nI c) 31 D s0 l = (nI 0, D, s', l) ∧ p_X8_gather_15 fu n x (nI c) 31 D s0 l ∧ ∀ q, q ≠ 51 → q ≠ 52 → q ≠ 53 → s' q = s q) ∨
    (ct Q 80 ≤ 10 ∧ ∃ D' s', f_X8_gather_15 fu n x (nI c) 31 D s0 l = (nI 1, D', s', l) ∧ p_X8_gather_15 fu n x (nI c) 31 D s0 l ∧ (D' = D ∨ (D.2.2.2.1 = 54 ∧ D' = D_t D)) ∧ 107 ≤ D'.2.2.2.1 ∧ frok D' ∧ s' 51 0 = nI (ct Q 80) ∧ (∀ k, k < ct Q 80 → s' 52 k = nI (sel Q 80 k)) ∧ fO D'.2.2.2.1 (ct Q 80) (sel Q 80) (2 ^ ct Q 80) s' ∧ ∀ q, q ≠ 51 → q ≠ 52 → q ≠ 53 → q ≠ D'.2.2.2.1 → s' q = s q))
    (fun c s0 => ct Q c ≤ 10 ∧ s0 53 = s1 53 ∧ s0 51 0 = nI (ct Q c) ∧ (∀ k, k < ct Q c → s0 52 k = nI (sel Q c k)) ∧ ∀ q, q ≠ 51 → q ≠ 52 → q ≠ 53 → s0 q = s q) 80 ?_ ?_ fu 0 (wi s1 51 0 (nI 0)) (Nat.zero_le _) (by omega) ⟨Nat.zero_le _, by rw [wi_c (by omega)], wi_s, fun k hk => absurd hk (Nat.not_lt_zero k), fun q h1 h2 h3 => by rw [wi_c h1]; exact r1 q h3⟩
  · unfold f_X8_gather p_X8_gather
    rw [e1]
    rcases L with ⟨h, s', e, p, r⟩ | ⟨h, D', s', e, p, r⟩
    · exact .inl ⟨h, s', e, ⟨p1, p⟩, r⟩
    · exact .inr ⟨h, D', s', e, ⟨p1, p⟩, r⟩
  · intro n s0 hs
    obtain ⟨h10, _, h51, h52, hk⟩ := hs
    refine .inr ⟨h10, ?_⟩
    have hp := Nat.two_pow_pos (ct Q 80)
    have hp10 := p10 h10
    have hcs : ∀ k, k < ct Q 80 → sel Q 80 k < 80 := fun k hk => sel_lt hk
    have hal := c_all (fu := fu) (l := l) h10 h51
    have hix : f_X8_index fu (f_X8_all fu s0 l + 1) 0 = nI (2 ^ ct Q 80 * 10) := by
      rw [hal]; unfold f_X8_index
      simp (disch := omega) only [ln_, nI_add, pk_mul]
      congr 1; omega
    rcases hfr with h54 | ⟨h107, hfo⟩
    · have hd1 := hok.1
      obtain ⟨s2, e2, p2, o2, r2⟩ := c_fillF (l := l) (D := D_t D) (s := su s0 D.1 fun _ => 0) (F := D.1) hfu h10 rfl (by omega) (by omega) (by rw [su_c (by omega)]; exact h51) (fun k hk => by rw [su_c (by omega)]; exact h52 k hk) hcs
      have ef : f_fillFrom fu D s0 l = (D_t D, s2, l) := by unfold f_fillFrom; rw [if_pos h54, e2]
      have pf : p_fillFrom fu D s0 l := by
        refine ⟨trivial, trivial, fun _ => ⟨?_, p2⟩, fun h => absurd h54 h⟩
        rw [hix]; exact nI_lt (a := 0) (by omega) (by omega)
      refine ⟨D_t D, s2, ?_, ?_, .inr ⟨h54, rfl⟩, hd1, frok_t hok, ?_, ?_, o2, fun q a b c d => ?_⟩
      · unfold f_X8_gather_15
        simp (disch := omega) only [ln_, leT, leF, ltT, ltF, eqT, eqF, vpT, nlT, nleT, lnF, lenF, eqnF, neqF, nnF, nI_add, pk_mul, pk_div, pk_sub, ni_m, nI_clamp, md10, dm10, gI_l, gI_n, ar_t, ar_f, it_t, it_f, true_and, and_true, not_true_eq_false, not_false_eq_true, implies_true, and_self, eq_self, ef]
      · unfold p_X8_gather_15
        simp (disch := omega) only [ln_, leT, leF, ltT, ltF, eqT, eqF, vpT, nlT, nleT, lnF, lenF, eqnF, neqF, nnF, nI_add, pk_mul, pk_div, pk_sub, ni_m, nI_clamp, md10, dm10, gI_l, gI_n, ar_t, ar_f, it_t, it_f, true_and, and_true, not_true_eq_false, not_false_eq_true, implies_true, and_self, eq_self, pf]
      · rw [r2 51 (by omega), su_c (by omega)]; exact h51
      · intro k hk; rw [r2 52 (by omega), su_c (by omega)]; exact h52 k hk
      · have d : q ≠ D.1 := d
        rw [r2 q d, su_c d]; exact hk q a b c
    · obtain ⟨s2, e2, p2, o2, r2⟩ := c_fillF (l := l) (D := D) (s := s0) hfu h10 rfl (by omega) (by omega) h51 h52 hcs
      have ef : f_fillFrom fu D s0 l = (D, s2, l) := by unfold f_fillFrom; rw [if_neg (by omega), e2]
      have pf : p_fillFrom fu D s0 l := by
        refine ⟨trivial, trivial, fun h => by omega, fun _ => ⟨?_, p2⟩⟩
        rw [hix]; exact nI_le (b := 10240) (by omega) (by omega)
      refine ⟨D, s2, ?_, ?_, .inl rfl, h107, hfo, ?_, ?_, o2, fun q a b c d => ?_⟩
      · unfold f_X8_gather_15
        simp (disch := omega) only [ln_, leT, leF, ltT, ltF, eqT, eqF, vpT, nlT, nleT, lnF, lenF, eqnF, neqF, nnF, nI_add, pk_mul, pk_div, pk_sub, ni_m, nI_clamp, md10, dm10, gI_l, gI_n, ar_t, ar_f, it_t, it_f, true_and, and_true, not_true_eq_false, not_false_eq_true, implies_true, and_self, eq_self, ef]
      · unfold p_X8_gather_15
        simp (disch := omega) only [ln_, leT, leF, ltT, ltF, eqT, eqF, vpT, nlT, nleT, lnF, lenF, eqnF, neqF, nnF, nI_add, pk_mul, pk_div, pk_sub, ni_m, nI_clamp, md10, dm10, gI_l, gI_n, ar_t, ar_f, it_t, it_f, true_and, and_true, not_true_eq_false, not_false_eq_true, implies_true, and_self, eq_self, pf]
      · rw [r2 51 (by omega)]; exact h51
      · intro k hk; rw [r2 52 (by omega)]; exact h52 k hk
      · rw [r2 q d]; exact hk q a b c
  · intro n c s0 hc hs ih
    obtain ⟨h10, h53, h51, h52, hk⟩ := hs
    have hcc := c1 c hc
    rw [← h53] at hcc
    have hb := hcb c
    unfold p_X8_gather_15 f_X8_gather_15
    by_cases e : 0 < ct (fun i => Y.2.1 i == c) P
    · by_cases ew : c = wo
      · have hxx : (nI c = x) = True := by rw [hx c hc]; exact eq_true ew
        have hq : Q c = false := by rw [hQc]; simp [ew]
        simp (disch := omega) only [leT, leF, ln_, ar_t, ar_f, it_t, it_f, true_and, and_true, not_true_eq_false, not_false_eq_true, implies_true, and_self, eq_self, vpT, nI_clamp, nI_add, hcc, hxx]
        exact ih _ ⟨by rw [ct_f hq]; exact h10, h53, by rw [ct_f hq]; exact h51, fun k hk => by rw [ct_f hq] at hk; show _ = nI ((if Q c = true then un (sel Q c) (ct Q c) c else sel Q c) k); rw [if_neg (by rw [hq]; exact Bool.noConfusion)]; exact h52 k hk, hk⟩
      · have hxx : (nI c = x) = False := by rw [hx c hc]; exact eq_false ew
        have hq : Q c = true := by rw [hQc]; simp [ew, e]
        by_cases e10 : ct Q c < 10
        · simp (disch := omega) only [leT, leF, ltT, ltF, ln_, ar_t, ar_f, it_t, it_f, true_and, and_true, not_true_eq_false, not_false_eq_true, implies_true, and_self, eq_self, vpT, nI_clamp, nI_add, hcc, hxx, h51, wi_c, wi_u, upd_s, upd_n, su_r, su_c]
          refine ih _ ⟨by rw [ct_t hq]; omega, ?_, ?_, fun k hk2 => ?_, fun q a b c => ?_⟩
          · simp (disch := omega) only [wi_c, wi_u, upd_s, upd_n, su_r, su_c]; exact h53
          · simp (disch := omega) only [wi_c, wi_u, upd_s, upd_n, su_r, su_c]; rw [ct_t hq]
          · rw [ct_t hq] at hk2
            show _ = nI ((if Q c = true then un (sel Q c) (ct Q c) c else sel Q c) k)
            rw [if_pos hq]
            simp (disch := omega) only [wi_c, wi_u, upd_s, upd_n, su_r, su_c]
            by_cases e2 : k = ct Q c
            · subst e2; rw [upd_s, un_s]
            · rw [upd_n e2, un_n e2]; exact h52 k (by omega)
          · simp (disch := omega) only [wi_c, wi_u, upd_s, upd_n, su_r, su_c]; exact hk q a b c
        · left
          have := mono (c + 1) 80 (by omega)
          rw [ct_t hq] at this
          refine ⟨by omega, s0, ?_, ?_, hk⟩
          · simp (disch := omega) only [leT, leF, ltT, ltF, ln_, ar_t, ar_f, it_t, it_f, true_and, and_true, not_true_eq_false, not_false_eq_true, implies_true, and_self, eq_self, vpT, nI_clamp, nI_add, hcc, hxx, h51]
          · simp (disch := omega) only [leT, leF, ltT, ltF, ln_, ar_t, ar_f, it_t, it_f, true_and, and_true, not_true_eq_false, not_false_eq_true, implies_true, and_self, eq_self, vpT, nI_clamp, nI_add, hcc, hxx, h51]
    · have hq : Q c = false := by rw [hQc]; simp [e]
      simp (disch := omega) only [leT, leF, ln_, ar_t, ar_f, it_t, it_f, true_and, and_true, not_true_eq_false, not_false_eq_true, implies_true, and_self, eq_self, vpT, nI_clamp, nI_add, hcc]
      exact ih _ ⟨by rw [ct_f hq]; exact h10, h53, by rw [ct_f hq]; exact h51, fun k hk => by rw [ct_f hq] at hk; show _ = nI ((if Q c = true then un (sel Q c) (ct Q c) c else sel Q c) k); rw [if_neg (by rw [hq]; exact Bool.noConfusion)]; exact h52 k hk, hk⟩
end to2
