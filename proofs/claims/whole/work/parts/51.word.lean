/-! Words made of heaps -/
def mkB (f : Nat → Bool) : Nat → Nat
  | 0 => 0
  | n + 1 => mkB f n + if f n then 2 ^ n else 0
theorem mkB_lt (f : Nat → Bool) (n : Nat) : mkB f n < 2 ^ n := by
  induction n with
  | zero => show 0 < 1; omega
  | succ n ih => show mkB f n + (if f n then 2 ^ n else 0) < 2 ^ (n + 1); rw [Nat.pow_succ]; split <;> omega
theorem bt_add {B n k : Nat} (hB : B < 2 ^ n) (hk : k < n) : bt (B + 2 ^ n) k = bt B k := by
  unfold bt
  obtain ⟨d, rfl⟩ : ∃ d, n = k + 1 + d := ⟨n - k - 1, by omega⟩
  have e : 2 ^ (k + 1 + d) = 2 ^ k * (2 * 2 ^ d) := by rw [Nat.pow_add, Nat.pow_add, Nat.pow_one, Nat.mul_assoc]
  rw [e, Nat.add_mul_div_left _ _ (Nat.two_pow_pos k)]
  omega
theorem bt_top {B n : Nat} (hB : B < 2 ^ n) : bt (B + 2 ^ n) n = 1 := by
  unfold bt
  have e : (B + 2 ^ n) / 2 ^ n = 1 := by rw [Nat.add_div_right _ (Nat.two_pow_pos n), Nat.div_eq_of_lt hB]
  rw [e]
theorem bt_no {B n : Nat} (hB : B < 2 ^ n) : bt B n = 0 := by unfold bt; rw [Nat.div_eq_of_lt hB]
theorem bt_mk {f : Nat → Bool} {n k : Nat} (hk : k < n) : bt (mkB f n) k = if f k then 1 else 0 := by
  induction n with
  | zero => omega
  | succ n ih =>
    have hl := mkB_lt f n
    show bt (mkB f n + (if f n then 2 ^ n else 0)) k = _
    by_cases e : k = n
    · subst e
      by_cases h : f k = true
      · rw [if_pos h, if_pos h, bt_top hl]
      · rw [if_neg h, if_neg h, Nat.add_zero, bt_no hl]
    · by_cases h : f n = true
      · rw [if_pos h, bt_add hl (by omega)]; exact ih (by omega)
      · rw [if_neg h, Nat.add_zero]; exact ih (by omega)
theorem or_d : ∀ i : Fin 9, ∀ B : Fin 256, B.1 < 2 ^ i.1 → nI B.1 ||| nI (2 ^ i.1) = nI (B.1 + 2 ^ i.1) := by decide +kernel
theorem or_n {B i : Nat} (hi : i < 8) (hB : B < 2 ^ i) : nI B ||| nI (2 ^ i) = nI (B + 2 ^ i) := or_d ⟨i, by omega⟩ ⟨B, by have : 2 ^ i ≤ 2 ^ 8 := Nat.pow_le_pow_right (by omega) (by omega); show B < 256; omega⟩ hB
theorem mk_s {f : Nat → Bool} {i : Nat} (hi : i < 8) (h : f i = true) : nI (mkB f i) ||| nI (2 ^ i) = nI (mkB f (i + 1)) := by
  rw [or_n hi (mkB_lt f i)]; show _ = nI (mkB f i + (if f i then 2 ^ i else 0)); rw [if_pos h]
theorem mk_n {f : Nat → Bool} {i : Nat} (h : f i = false) : mkB f (i + 1) = mkB f i := by show mkB f i + (if f i then 2 ^ i else 0) = _; rw [h]; rfl
theorem bc_d : ∀ S : Fin 256, f_J6_bitCount_0f7a4 0 (nI S.1) = nI (pc S.1 10) := by decide +kernel
theorem bc_n {fu S : Nat} (hS : S < 256) : f_J6_bitCount_0f7a4 fu (nI S) = nI (pc S 10) := bc_d ⟨S, hS⟩
section wor
variable {fu t lv P np nl nw : Nat} {ht sg lo : Nat → Nat} {wd : Nat → List Nat} {wx wy rn sd : Int32} {LW : Lw} {Y : Yd} {s s1 s2 : fl_I} {l : fl_L} {D : fl_D} {a i b c q k n g m h : Nat} {x y z v : Int32} {T cc : Nat → Nat} {L : List Nat}
theorem bits_n (hfu : 20000 ≤ fu) {S : Nat} (hS : S < 2 ^ 31) : p_X12_bits fu (nI S) ∧ f_X12_bits fu (nI S) = nI (pc S 10) := by
  refine loop_i (fun n k r => p_X12_bits_4 fu n (nI S) r (nI k) ∧ f_X12_bits_4 fu n (nI S) r (nI k) = nI (pc S 10)) (fun k r => r = nI (pc S k)) 10 ?_ ?_ fu 0 (nI 0) (Nat.zero_le _) (by omega) rfl
  · intro n r hr
    unfold p_X12_bits_4 f_X12_bits_4
    simp (disch := omega) only [ln_, leT, leF, ltT, ltF, eqT, eqF, vpT, nlT, nleT, lnF, lenF, eqnF, neqF, nnF, nI_add, pk_mul, pk_div, pk_sub, ni_m, nI_clamp, md10, dm10, gI_l, gI_n, ar_t, ar_f, it_t, it_f, true_and, and_true, not_true_eq_false, not_false_eq_true, implies_true, and_self, eq_self, hr]
  · intro n k r hk hr ih
    have hb := bitN (S := S) (k := k) hS (by omega)
    unfold p_X12_bits_4 f_X12_bits_4
    simp (disch := omega) only [ln_, leF, nI_add, ar_t, ar_f, it_t, it_f, true_and, and_true, not_true_eq_false, not_false_eq_true, implies_true, and_self, eq_self, hb, hr]
    exact ih _ rfl
theorem heap_ag (hfu : 20000 ≤ fu) (cv : CV fu t P np nl nw ht sg lo wd wx wy rn sd LW Y s l) (rt : rT lv P np ht sg wx wy rn sd s1) (v : Int32) : (f_X11_isHeap fu v s l = nI 0 ∧ f_X12_isHeap fu v s1 l = nI 0) ∨ ∃ h, h ≤ 5 ∧ v = nI h ∧ f_X11_isHeap fu v s l = nI 1 ∧ f_X12_isHeap fu v s1 l = nI 1 := by
  have yc := cv.2.2.2.2.1
  have hn := cv.2.2.2.2.2.1.2.1
  unfold f_X11_isHeap f_X12_isHeap f_X12_in
  rcases ag3 v 0 5 (by omega) (by omega) with h | ⟨h1, h2, h3⟩ | ⟨j, _, hj, rfl⟩
  · have a1 := pk_no (fu := fu) (l := l) yc (.inl h)
    have a2 : v < nI 4 := Int32.lt_of_lt_of_le h (nI_le (by omega) (by omega))
    left
    simp (disch := omega) only [ln_, ar_t, ar_f, it_t, it_f, true_and, and_true, not_true_eq_false, not_false_eq_true, implies_true, and_self, eq_self, a1, h, a2]
  · have a0 : nI np ≤ v := Int32.le_of_lt (Int32.lt_of_le_of_lt (nI_le (show np ≤ 5 by omega) (by omega)) h2)
    have a1 := pk_no (fu := fu) (l := l) yc (.inr a0)
    have a2 : nI 3 < v := Int32.lt_trans (nI_lt (by omega) (by omega)) h2
    have a3 : ¬ v < nI 4 := fun e => Int32.lt_irrefl (Int32.lt_trans (Int32.lt_trans (nI_lt (by omega) (by omega)) h2) e)
    have a4 : nI 6 ≤ v := by
      rcases ag v 6 (by omega) with (h | h) | ⟨j, hj, rfl⟩
      · exact absurd h h1
      · exact h
      · exact absurd h2 (nI_nlt (by omega) (by omega))
    left
    simp (disch := omega) only [ln_, ar_t, ar_f, it_t, it_f, true_and, and_true, not_true_eq_false, not_false_eq_true, implies_true, and_self, eq_self, a1, h1, h2, a2, a3, a4]
  · rcases Nat.lt_or_ge j 4 with h4 | h4
    · rcases Nat.lt_or_ge j np with hp | hp
      · have a1 := pk_yes (fu := fu) (l := l) yc hn hp
        have a2 := pk_yes2 (fu := fu) (l := l) rt hn hp
        right
        refine ⟨j, hj, rfl, ?_⟩
        simp (disch := omega) only [ln_, leT, leF, ltT, ltF, eqT, eqF, vpT, nlT, nleT, lnF, lenF, eqnF, neqF, nnF, nI_add, pk_mul, pk_div, pk_sub, ni_m, nI_clamp, md10, dm10, gI_l, gI_n, ar_t, ar_f, it_t, it_f, true_and, and_true, not_true_eq_false, not_false_eq_true, implies_true, and_self, eq_self, a1, a2]
      · have a1 := pk_no (fu := fu) (l := l) yc (.inr (nI_le hp (by omega)))
        have a2 := pk_no2 (fu := fu) (l := l) rt hn (.inr (nI_le hp (by omega)))
        left
        simp (disch := omega) only [ln_, leT, leF, ltT, ltF, eqT, eqF, vpT, nlT, nleT, lnF, lenF, eqnF, neqF, nnF, nI_add, pk_mul, pk_div, pk_sub, ni_m, nI_clamp, md10, dm10, gI_l, gI_n, ar_t, ar_f, it_t, it_f, true_and, and_true, not_true_eq_false, not_false_eq_true, implies_true, and_self, eq_self, a1, a2]
    · have a1 := pk_no (fu := fu) (l := l) yc (v := nI j) (.inr (nI_le (by omega) (by omega)))
      right
      refine ⟨j, hj, rfl, ?_⟩
      simp (disch := omega) only [ln_, leT, leF, ltT, ltF, eqT, eqF, vpT, nlT, nleT, lnF, lenF, eqnF, neqF, nnF, nI_add, pk_mul, pk_div, pk_sub, ni_m, nI_clamp, md10, dm10, gI_l, gI_n, ar_t, ar_f, it_t, it_f, true_and, and_true, not_true_eq_false, not_false_eq_true, implies_true, and_self, eq_self, a1]
theorem p_hp1 : p_X11_isHeap fu v s l := by
  unfold p_X11_isHeap
  exact ⟨of_eq_true p_isPkT, fun _ => ⟨fun _ => trivial, fun _ => ⟨fun _ => trivial, fun _ => trivial⟩⟩, fun _ => trivial⟩
theorem p_hp2 (rt : rT lv P np ht sg wx wy rn sd s) : p_X12_isHeap fu v s l := by
  unfold p_X12_isHeap
  refine ⟨of_eq_true p_inT, fun _ => ⟨of_eq_true p_inT, in01, trivial⟩, fun _ => ⟨p_isPk2 rt, ?_, trivial⟩⟩
  unfold f_X12_isPicker
  exact in01
/-- what a word lacks -/
def ms (T : Nat → Nat) (L : List Nat) : Nat := sm (fun u => L.count u - T u) 27
theorem cnt_le {u : Nat} : L.count u ≤ L.length := List.count_le_length
theorem cnt0 (h : okW L) : L.count 0 = 0 := List.count_eq_zero.mpr (fun hm => by have := (h.2.2 0 hm).1; omega)
theorem ms_le (h : L.length ≤ 8) : ms T L ≤ 216 := by
  unfold ms
  exact Nat.le_trans (sm_le (m := 8) (fun u => by have := cnt_le (L := L) (u := u); omega) 27) (by omega)
theorem r_word (hlv : lv ≤ 1) (h18 : s 60 18 = nI lv) (hl : ∀ w, w < nw → l 73 (8 * lv + w) = lN (p27 (wd w).reverse)) (hnw : nw ≤ 8) (hw : n < nw) : p_X12_wordAt fu (nI n) s l ∧ f_X12_wordAt fu (nI n) s l = lN (p27 (wd n).reverse) := by
  have := hl n hw
  unfold p_X12_wordAt f_X12_wordAt
  simp (disch := omega) only [ln_, leT, leF, ltT, ltF, eqT, eqF, vpT, nlT, nleT, lnF, lenF, eqnF, neqF, nnF, nI_add, pk_mul, pk_div, pk_sub, ni_m, nI_clamp, md10, dm10, gI_l, gI_n, ar_t, ar_f, it_t, it_f, true_and, and_true, not_true_eq_false, not_false_eq_true, implies_true, and_self, eq_self, h18, this]
theorem r_missing (hfu : 20000 ≤ fu) (hlv : lv ≤ 1) (h18 : s 60 18 = nI lv) (hl : ∀ w, w < nw → l 73 (8 * lv + w) = lN (p27 (wd w).reverse)) (hnw : nw ≤ 8) (hW : ∀ w, w < nw → okW (wd w)) (hT0 : ∀ u, u < 27 → s 102 u = nI (T u)) (hTb : ∀ u, u < 27 → T u ≤ 1000) (hw : n < nw) : p_X12_missingOf fu (nI n) s l ∧ f_X12_missingOf fu (nI n) s l = nI (ms T (wd n)) := by
  have hwd := r_word (fu := fu) hlv h18 hl hnw hw
  have hok := hW n hw
  have h8 := hok.2.1
  refine loop_i (fun f u r => p_X12_missingOf_4 fu f (nI n) r (nI u) s l ∧ f_X12_missingOf_4 fu f (nI n) r (nI u) s l = nI (ms T (wd n))) (fun u r => r = nI (sm (fun u => (wd n).count u - T u) u)) 27 ?_ ?_ fu 1 (nI 0) (by omega) (by omega) ?_
  · intro f r hr
    unfold p_X12_missingOf_4 f_X12_missingOf_4
    simp (disch := omega) only [ln_, leT, leF, ltT, ltF, eqT, eqF, vpT, nlT, nleT, lnF, lenF, eqnF, neqF, nnF, nI_add, pk_mul, pk_div, pk_sub, ni_m, nI_clamp, md10, dm10, gI_l, gI_n, ar_t, ar_f, it_t, it_f, true_and, and_true, not_true_eq_false, not_false_eq_true, implies_true, and_self, eq_self, hr]
    rfl
  · intro f u r hu hr ih
    have ht := r_times (fu := fu) (v := u) hfu hok (by omega)
    have hc := cnt_le (L := wd n) (u := u)
    have h102 := hT0 u hu
    have hb := hTb u hu
    unfold p_X12_missingOf_4 f_X12_missingOf_4
    by_cases e : (wd n).count u ≤ T u
    · simp (disch := omega) only [ln_, leT, leF, ltT, ltF, eqT, eqF, vpT, nlT, nleT, lnF, lenF, eqnF, neqF, nnF, nI_add, pk_mul, pk_div, pk_sub, ni_m, nI_clamp, md10, dm10, gI_l, gI_n, ar_t, ar_f, it_t, it_f, true_and, and_true, not_true_eq_false, not_false_eq_true, implies_true, and_self, eq_self, hwd, ht, h102]
      exact ih _ (by rw [hr, sm_s]; congr 1; omega)
    · simp (disch := omega) only [ln_, leT, leF, ltT, ltF, eqT, eqF, vpT, nlT, nleT, lnF, lenF, eqnF, neqF, nnF, nI_add, pk_mul, pk_div, pk_sub, ni_m, nI_clamp, md10, dm10, gI_l, gI_n, ar_t, ar_f, it_t, it_f, true_and, and_true, not_true_eq_false, not_false_eq_true, implies_true, and_self, eq_self, hwd, ht, h102, hr]
      exact ih _ (by rw [sm_s])
  · show nI 0 = nI (0 + ((wd n).count 0 - T 0))
    rw [cnt0 hok]; congr 1; omega
theorem c_makes (hfu : 20000 ≤ fu) (h1 : s t 1 = nI nw) (ht56 : t ≠ 56) (hl : ∀ w, w < nw → l (t + 2) w = lN (p5 (wd w))) (hnw : nw ≤ 8) (hW : ∀ w, w < nw → okW (wd w)) (hT0 : ∀ u, u < 32 → s 56 u = nI (T u)) (hTb : ∀ u, u < 32 → T u ≤ 1000) :
    ∃ s', f_X0_makes fu t s l = (nI (mkB (fun w => decide (ms T (wd w) = 0)) nw), s', l) ∧ p_X0_makes fu t s l ∧ (∀ u, u < 32 → s' 56 u = nI (T u)) ∧ ∀ q, q ≠ 56 → s' q = s q := by
  refine loop_i (fun f w (z : Int32 × fl_I) => ∃ s', f_X0_makes_4 fu f z.1 (nI w) t z.2 l = (nI (mkB (fun w => decide (ms T (wd w) = 0)) nw), s', l) ∧ p_X0_makes_4 fu f z.1 (nI w) t z.2 l ∧ (∀ u, u < 32 → s' 56 u = nI (T u)) ∧ ∀ q, q ≠ 56 → s' q = s q) (fun w z => z.1 = nI (mkB (fun w => decide (ms T (wd w) = 0)) w) ∧ (∀ u, u < 32 → z.2 56 u = nI (T u)) ∧ ∀ q, q ≠ 56 → z.2 q = s q) nw ?_ ?_ fu 0 (nI 0, s) (Nat.zero_le _) (by omega) ⟨rfl, hT0, fun _ _ => rfl⟩
  · intro f z hz
    obtain ⟨r, s0⟩ := z
    obtain ⟨z1, z2, z3⟩ := hz
    dsimp only at z1 z2 z3 ⊢
    have k1 : s0 t 1 = nI nw := by rw [z3 t ht56]; exact h1
    refine ⟨s0, ?_, ?_, z2, z3⟩
    · unfold f_X0_makes_4
      simp (disch := omega) only [ln_, leT, leF, ltT, ltF, eqT, eqF, vpT, nlT, nleT, lnF, lenF, eqnF, neqF, nnF, nI_add, pk_mul, pk_div, pk_sub, ni_m, nI_clamp, md10, dm10, gI_l, gI_n, ar_t, ar_f, it_t, it_f, true_and, and_true, not_true_eq_false, not_false_eq_true, implies_true, and_self, eq_self, k1, z1]
    · unfold p_X0_makes_4
      simp (disch := omega) only [ln_, leT, leF, ltT, ltF, eqT, eqF, vpT, nlT, nleT, lnF, lenF, eqnF, neqF, nnF, nI_add, pk_mul, pk_div, pk_sub, ni_m, nI_clamp, md10, dm10, gI_l, gI_n, ar_t, ar_f, it_t, it_f, true_and, and_true, not_true_eq_false, not_false_eq_true, implies_true, and_self, eq_self, k1]
  · intro f w z hw hz ih
    replace ih := fun x s' => ih (x, s')
    dsimp only at ih
    obtain ⟨r, s0⟩ := z
    obtain ⟨z1, z2, z3⟩ := hz
    dsimp only at z1 z2 z3 ⊢
    have k1 : s0 t 1 = nI nw := by rw [z3 t ht56]; exact h1
    have hlw := hl w hw
    obtain ⟨s2, e2, p2, k2, r2⟩ := c_lacks (l := l) (T := T) hfu (hW w hw) z2 hTb
    have e2 : f_X0_lacks fu (lN (p5 (wd w))) s0 l = (nI (ms T (wd w)), s2, l) := e2
    have hmb := ms_le (T := T) (hW w hw).2.1
    have hon := one_n (k := w) (by omega)
    unfold p_X0_makes_4 f_X0_makes_4
    by_cases e : ms T (wd w) = 0
    · simp (disch := omega) only [ln_, leF, eqT, vpT, nI_clamp, nI_add, ar_t, ar_f, it_t, it_f, true_and, and_true, not_true_eq_false, not_false_eq_true, implies_true, and_self, eq_self, k1, hlw, e2, p2, hon, z1]
      exact ih _ _ ⟨mk_s (by omega) (by simp [e]), k2, fun q hq => by rw [r2 q hq]; exact z3 q hq⟩
    · simp (disch := omega) only [ln_, leF, eqF, vpT, nI_clamp, nI_add, ar_t, ar_f, it_t, it_f, true_and, and_true, not_true_eq_false, not_false_eq_true, implies_true, and_self, eq_self, k1, hlw, e2, p2]
      exact ih _ _ ⟨by rw [z1, mk_n (by simp [e])], k2, fun q hq => by rw [r2 q hq]; exact z3 q hq⟩
theorem hT_le (hP : P ≤ 32) {u : Nat} : hT sg Y h P u ≤ 1000 := Nat.le_trans (ct_le _ _) (by omega)
theorem cS_56 (h : ∀ q, q ≠ 56 → s1 q = s q) : cS s s1 := fun q _ _ _ _ _ a _ _ => h q a
theorem rS_102 (h : ∀ q, q ≠ 102 → s1 q = s q) : rS s s1 := ⟨fun q _ _ _ _ _ _ _ a => h q a, fun j _ _ _ _ _ => by rw [h 60 (by omega)]⟩
theorem m_made (hfu : 20000 ≤ fu) (hD : (if D.2.2.1 then 20 else 9) = t) (cv : CV fu t P np nl nw ht sg lo wd wx wy rn sd LW Y s l) (rv : RV fu lv P np nl nw ht sg lo wd wx wy rn sd LW Y s l) : Qy s l (f_X11_made fu v D s l) (p_X11_made fu v D s l) (f_X12_made fu v) (p_X12_made fu v) := by
  have cv0 := cv
  obtain ⟨ht0, hTx, hL, hC, yc, yw, tb⟩ := cv
  have hP := yw.1
  unfold f_X11_made p_X11_made f_X12_made p_X12_made
  rw [hD]
  rcases heap_ag (l := l) hfu cv0 rv.1 v with ⟨h1, h2⟩ | ⟨h, hh, rfl, h1, h2⟩
  · refine Qy_mk (-nI 1) s s ?_ ?_ cS_rfl (fun _ _ => rfl) ?_ ?_ rS_rfl <;> simp (disch := omega) only [ln_, leT, leF, ltT, ltF, eqT, eqF, vpT, nlT, nleT, lnF, lenF, eqnF, neqF, nnF, nI_add, pk_mul, pk_div, pk_sub, ni_m, nI_clamp, md10, dm10, gI_l, gI_n, ar_t, ar_f, it_t, it_f, true_and, and_true, not_true_eq_false, not_false_eq_true, implies_true, and_self, eq_self, h1, h2, p_hp1, p_hp2 rv.1]
  · obtain ⟨s1, e1, p1, k1, r1⟩ := c_heap hfu cv0 hh
    obtain ⟨s2, e2, p2, k2, r2⟩ := c_makes (l := l) (nw := nw) (wd := wd) (t := t) hfu (by rw [r1 t (by omega)]; exact hTx.1.2.1) (by omega) hTx.2.2.2.2 tb.2.2.2.1 tb.2.2.2.2.2.2.1 k1 (fun u _ => hT_le hP)
    have r12 : ∀ q, q ≠ 56 → s2 q = s q := fun q hq => by rw [r2 q hq, r1 q hq]
    have rv2 := RV_S (cS_V (cS_56 r12)) rv
    have h2 : f_X12_isHeap fu (nI h) s2 l = nI 1 := by
      rcases heap_ag (l := l) hfu cv0 rv2.1 (nI h) with ⟨a1, _⟩ | ⟨_, _, _, _, a⟩
      · rw [h1] at a1; exact absurd a1 (by decide +kernel)
      · exact a
    obtain ⟨s3, e3, p3, k3, r3⟩ := r_heap hfu rv2 hh
    obtain ⟨rt, rx, _⟩ := RV_S (rS_V (rS_102 r3)) rv2
    have hlv := rt.1
    have h18 := rt.2.1
    have h72 := rx.2.1
    have key := loop_i (fun f w (r : Int32) => f_X12_made_19 fu f r (nI w) s3 l = (nI (mkB (fun w => decide (ms (hT sg Y h P) (wd w) = 0)) nw), s3, l) ∧ p_X12_made_19 fu f r (nI w) s3 l) (fun w r => r = nI (mkB (fun w => decide (ms (hT sg Y h P) (wd w) = 0)) w)) nw ?_ ?_ fu 0 (nI 0) (Nat.zero_le _) (by have := tb.2.2.2.1; omega) rfl
    · refine Qy_mk (nI (mkB (fun w => decide (ms (hT sg Y h P) (wd w) = 0)) nw)) s2 s3 ?_ ?_ (cS_56 r12) (fun q hq => r12 q (by omega)) ?_ ?_ (rS_102 r3)
      · simp (disch := omega) only [ln_, leT, leF, ltT, ltF, eqT, eqF, vpT, nlT, nleT, lnF, lenF, eqnF, neqF, nnF, nI_add, pk_mul, pk_div, pk_sub, ni_m, nI_clamp, md10, dm10, gI_l, gI_n, ar_t, ar_f, it_t, it_f, true_and, and_true, not_true_eq_false, not_false_eq_true, implies_true, and_self, eq_self, h1, e1, e2]
      · simp (disch := omega) only [ln_, leT, leF, ltT, ltF, eqT, eqF, vpT, nlT, nleT, lnF, lenF, eqnF, neqF, nnF, nI_add, pk_mul, pk_div, pk_sub, ni_m, nI_clamp, md10, dm10, gI_l, gI_n, ar_t, ar_f, it_t, it_f, true_and, and_true, not_true_eq_false, not_false_eq_true, implies_true, and_self, eq_self, h1, p_hp1, e1, p1, e2, p2]
      · simp (disch := omega) only [ln_, leT, leF, ltT, ltF, eqT, eqF, vpT, nlT, nleT, lnF, lenF, eqnF, neqF, nnF, nI_add, pk_mul, pk_div, pk_sub, ni_m, nI_clamp, md10, dm10, gI_l, gI_n, ar_t, ar_f, it_t, it_f, true_and, and_true, not_true_eq_false, not_false_eq_true, implies_true, and_self, eq_self, h2, e3]; exact key.1
      · simp (disch := omega) only [ln_, leT, leF, ltT, ltF, eqT, eqF, vpT, nlT, nleT, lnF, lenF, eqnF, neqF, nnF, nI_add, pk_mul, pk_div, pk_sub, ni_m, nI_clamp, md10, dm10, gI_l, gI_n, ar_t, ar_f, it_t, it_f, true_and, and_true, not_true_eq_false, not_false_eq_true, implies_true, and_self, eq_self, h2, p_hp2 rv2.1, e3, p3]; exact key.2
    · intro f r hr
      have hnw := tb.2.2.2.1
      unfold p_X12_made_19 f_X12_made_19
      simp (disch := omega) only [ln_, leT, leF, ltT, ltF, eqT, eqF, vpT, nlT, nleT, lnF, lenF, eqnF, neqF, nnF, nI_add, pk_mul, pk_div, pk_sub, ni_m, nI_clamp, md10, dm10, gI_l, gI_n, ar_t, ar_f, it_t, it_f, true_and, and_true, not_true_eq_false, not_false_eq_true, implies_true, and_self, eq_self, h18, h72, hr]
    · intro f w r hw hr ih
      have hnw := tb.2.2.2.1
      have hm := r_missing (l := l) hfu hlv h18 rx.2.2.2 hnw tb.2.2.2.2.2.2.1 k3 (fun u _ => hT_le hP) hw
      have hmb := ms_le (T := hT sg Y h P) (tb.2.2.2.2.2.2.1 w hw).2.1
      have hon := one_n (k := w) (by omega)
      unfold p_X12_made_19 f_X12_made_19
      by_cases e : ms (hT sg Y h P) (wd w) = 0
      · simp (disch := omega) only [ln_, leF, eqT, vpT, nI_clamp, nI_add, ar_t, ar_f, it_t, it_f, true_and, and_true, not_true_eq_false, not_false_eq_true, implies_true, and_self, eq_self, h18, h72, hm, hon, hr]
        exact ih _ (mk_s (by omega) (by simp [e]))
      · simp (disch := omega) only [ln_, leF, eqF, vpT, nI_clamp, nI_add, ar_t, ar_f, it_t, it_f, true_and, and_true, not_true_eq_false, not_false_eq_true, implies_true, and_self, eq_self, h18, h72, hm]
        exact ih _ (by rw [hr, mk_n (by simp [e])])
theorem m_missing (hfu : 20000 ≤ fu) (hD : (if D.2.2.1 then 20 else 9) = t) (cv : CV fu t P np nl nw ht sg lo wd wx wy rn sd LW Y s l) (rv : RV fu lv P np nl nw ht sg lo wd wx wy rn sd LW Y s l) : Qy s l (f_X11_missing fu x v D s l) (p_X11_missing fu x v D s l) (f_X12_missing fu x v) (p_X12_missing fu x v) := by
  have cv0 := cv
  obtain ⟨ht0, hTx, hL, hC, yc, yw, tb⟩ := cv
  have hP := yw.1
  have hnw := tb.2.2.2.1
  have h1w := hTx.1.2.1
  have pw : ∀ s1 : fl_I, s1 60 18 = nI lv → p_X12_isWord fu x s1 l := fun s1 h => by
    unfold p_X12_isWord
    exact ⟨by rw [h]; exact vp_in_nI (by have := rv.1.1; omega) (by omega), of_eq_true p_inT, in01, trivial⟩
  have fw : ∀ s1 : fl_I, s1 60 18 = nI lv → s1 72 lv = nI nw → ((x < nI 0 ∨ nI nw ≤ x) → f_X12_isWord fu x s1 l = nI 0) ∧ (∀ w, w < nw → x = nI w → f_X12_isWord fu x s1 l = nI 1) := fun s1 h h' => by
    unfold f_X12_isWord
    rw [h, nI_clamp (by have := rv.1.1; omega), h']
    exact ⟨fun e => in_0 (by omega) e, fun w hw e => by rw [e]; exact in_1 (by omega) hw⟩
  unfold f_X11_missing p_X11_missing f_X12_missing p_X12_missing
  rw [hD]
  rcases ag x nw (by omega) with hx | ⟨w, hw, rfl⟩
  · have f0 := (fw s rv.1.2.1 rv.2.1.2.1).1 hx
    have p0 := pw s rv.1.2.1
    by_cases e : x < nI 0
    · refine Qy_mk (-nI 1) s s ?_ ?_ cS_rfl (fun _ _ => rfl) ?_ ?_ rS_rfl <;> simp (disch := omega) only [ln_, leT, leF, ltT, ltF, eqT, eqF, vpT, nlT, nleT, lnF, lenF, eqnF, neqF, nnF, nI_add, pk_mul, pk_div, pk_sub, ni_m, nI_clamp, md10, dm10, gI_l, gI_n, ar_t, ar_f, it_t, it_f, true_and, and_true, not_true_eq_false, not_false_eq_true, implies_true, and_self, eq_self, e, f0, p0]
    · have e2 := hx.resolve_left e
      refine Qy_mk (-nI 1) s s ?_ ?_ cS_rfl (fun _ _ => rfl) ?_ ?_ rS_rfl <;> simp (disch := omega) only [ln_, leT, leF, ltT, ltF, eqT, eqF, vpT, nlT, nleT, lnF, lenF, eqnF, neqF, nnF, nI_add, pk_mul, pk_div, pk_sub, ni_m, nI_clamp, md10, dm10, gI_l, gI_n, ar_t, ar_f, it_t, it_f, true_and, and_true, not_true_eq_false, not_false_eq_true, implies_true, and_self, eq_self, e, h1w, e2, f0, p0]
  · have f1 := (fw s rv.1.2.1 rv.2.1.2.1).2 w hw rfl
    have p0 := pw s rv.1.2.1
    rcases heap_ag (l := l) hfu cv0 rv.1 v with ⟨h1, h2⟩ | ⟨h, hh, rfl, h1, h2⟩
    · refine Qy_mk (-nI 1) s s ?_ ?_ cS_rfl (fun _ _ => rfl) ?_ ?_ rS_rfl <;> simp (disch := omega) only [ln_, leT, leF, ltT, ltF, eqT, eqF, vpT, nlT, nleT, lnF, lenF, eqnF, neqF, nnF, nI_add, pk_mul, pk_div, pk_sub, ni_m, nI_clamp, md10, dm10, gI_l, gI_n, ar_t, ar_f, it_t, it_f, true_and, and_true, not_true_eq_false, not_false_eq_true, implies_true, and_self, eq_self, h1w, f1, p0, h1, h2, p_hp1, p_hp2 rv.1]
    · obtain ⟨s1, e1, p1, k1, r1⟩ := c_heap hfu cv0 hh
      obtain ⟨s2, e2, p2, k2, r2⟩ := c_lacks (l := l) (T := hT sg Y h P) hfu (tb.2.2.2.2.2.2.1 w hw) k1 (fun u _ => hT_le hP)
      have e2 : f_X0_lacks fu (lN (p5 (wd w))) s1 l = (nI (ms (hT sg Y h P) (wd w)), s2, l) := e2
      have hlw := hTx.2.2.2.2 w hw
      have r12 : ∀ q, q ≠ 56 → s2 q = s q := fun q hq => by rw [r2 q hq, r1 q hq]
      have rv2 := RV_S (cS_V (cS_56 r12)) rv
      have h2 : f_X12_isHeap fu (nI h) s2 l = nI 1 := by
        rcases heap_ag (l := l) hfu cv0 rv2.1 (nI h) with ⟨a1, _⟩ | ⟨_, _, _, _, a⟩
        · rw [h1] at a1; exact absurd a1 (by decide +kernel)
        · exact a
      have f1 := (fw s2 rv2.1.2.1 rv2.2.1.2.1).2 w hw rfl
      have p0 := pw s2 rv2.1.2.1
      obtain ⟨s3, e3, p3, k3, r3⟩ := r_heap hfu rv2 hh
      obtain ⟨rt, rx, _⟩ := RV_S (rS_V (rS_102 r3)) rv2
      have hm := r_missing (l := l) hfu rt.1 rt.2.1 rx.2.2.2 hnw tb.2.2.2.2.2.2.1 k3 (fun u _ => hT_le hP) hw
      refine Qy_mk (nI (ms (hT sg Y h P) (wd w))) s2 s3 ?_ ?_ (cS_56 r12) (fun q hq => r12 q (by omega)) ?_ ?_ (rS_102 r3)
      · simp (disch := omega) only [ln_, leT, leF, ltT, ltF, eqT, eqF, vpT, nlT, nleT, lnF, lenF, eqnF, neqF, nnF, nI_add, pk_mul, pk_div, pk_sub, ni_m, nI_clamp, md10, dm10, gI_l, gI_n, ar_t, ar_f, it_t, it_f, true_and, and_true, not_true_eq_false, not_false_eq_true, implies_true, and_self, eq_self, h1w, h1, e1, hlw, e2]
      · simp (disch := omega) only [ln_, leT, leF, ltT, ltF, eqT, eqF, vpT, nlT, nleT, lnF, lenF, eqnF, neqF, nnF, nI_add, pk_mul, pk_div, pk_sub, ni_m, nI_clamp, md10, dm10, gI_l, gI_n, ar_t, ar_f, it_t, it_f, true_and, and_true, not_true_eq_false, not_false_eq_true, implies_true, and_self, eq_self, h1w, h1, p_hp1, e1, p1, hlw, e2, p2]
      · simp (disch := omega) only [ln_, leT, leF, ltT, ltF, eqT, eqF, vpT, nlT, nleT, lnF, lenF, eqnF, neqF, nnF, nI_add, pk_mul, pk_div, pk_sub, ni_m, nI_clamp, md10, dm10, gI_l, gI_n, ar_t, ar_f, it_t, it_f, true_and, and_true, not_true_eq_false, not_false_eq_true, implies_true, and_self, eq_self, f1, h2, e3, hm]
      · simp (disch := omega) only [ln_, leT, leF, ltT, ltF, eqT, eqF, vpT, nlT, nleT, lnF, lenF, eqnF, neqF, nnF, nI_add, pk_mul, pk_div, pk_sub, ni_m, nI_clamp, md10, dm10, gI_l, gI_n, ar_t, ar_f, it_t, it_f, true_and, and_true, not_true_eq_false, not_false_eq_true, implies_true, and_self, eq_self, f1, p0, h2, p_hp2 rv2.1, e3, p3, hm]
/-- the longest of those that are made -/
def lgs (f : Nat → Bool) (g : Nat → Nat) : Nat → Nat × Nat
  | 0 => (99, 0)
  | w + 1 => if f w = true ∧ (lgs f g w).2 < g w then (w, g w) else lgs f g w
theorem lgs_b {f : Nat → Bool} {g : Nat → Nat} {n : Nat} (hg : ∀ w, w < n → 1 ≤ g w ∧ g w ≤ 8) : ((lgs f g n).1 = 99 ∧ (lgs f g n).2 = 0) ∨ ((lgs f g n).1 < n ∧ (lgs f g n).2 = g (lgs f g n).1 ∧ 1 ≤ (lgs f g n).2 ∧ (lgs f g n).2 ≤ 8) := by
  induction n with
  | zero => exact .inl ⟨rfl, rfl⟩
  | succ n ih =>
    have h1 := hg n (by omega)
    have e : lgs f g (n + 1) = if f n = true ∧ (lgs f g n).2 < g n then (n, g n) else lgs f g n := rfl
    by_cases h : f n = true ∧ (lgs f g n).2 < g n
    · rw [if_pos h] at e
      rw [e]; exact .inr ⟨Nat.lt_succ_self n, rfl, h1⟩
    · rw [if_neg h] at e
      rw [e]
      rcases ih (fun w hw => hg w (by omega)) with a | ⟨a1, a2⟩
      · exact .inl a
      · exact .inr ⟨by omega, a2⟩
theorem m_longest (hfu : 20000 ≤ fu) (hD : (if D.2.2.1 then 20 else 9) = t) (cv : CV fu t P np nl nw ht sg lo wd wx wy rn sd LW Y s l) (rv : RV fu lv P np nl nw ht sg lo wd wx wy rn sd LW Y s l) : Qy s l (f_X11_longest fu v D s l) (p_X11_longest fu v D s l) (f_X12_longest fu v) (p_X12_longest fu v) := by
  have cv0 := cv
  obtain ⟨ht0, hTx, hL, hC, yc, yw, tb⟩ := cv
  have hP := yw.1
  have hnw := tb.2.2.2.1
  unfold f_X11_longest p_X11_longest f_X12_longest p_X12_longest
  rw [hD]
  rcases heap_ag (l := l) hfu cv0 rv.1 v with ⟨h1, h2⟩ | ⟨h, hh, rfl, h1, h2⟩
  · refine Qy_mk (-nI 1) s s ?_ ?_ cS_rfl (fun _ _ => rfl) ?_ ?_ rS_rfl <;> simp (disch := omega) only [ln_, leT, leF, ltT, ltF, eqT, eqF, vpT, nlT, nleT, lnF, lenF, eqnF, neqF, nnF, nI_add, pk_mul, pk_div, pk_sub, ni_m, nI_clamp, md10, dm10, gI_l, gI_n, ar_t, ar_f, it_t, it_f, true_and, and_true, not_true_eq_false, not_false_eq_true, implies_true, and_self, eq_self, h1, h2, p_hp1, p_hp2 rv.1]
  · obtain ⟨s1, e1, p1, k1, r1⟩ := c_heap hfu cv0 hh
    obtain ⟨s2, e2, p2, k2, r2⟩ := c_makes (l := l) (nw := nw) (wd := wd) (t := t) hfu (by rw [r1 t (by omega)]; exact hTx.1.2.1) (by omega) hTx.2.2.2.2 tb.2.2.2.1 tb.2.2.2.2.2.2.1 k1 (fun u _ => hT_le hP)
    have r12 : ∀ q, q ≠ 56 → s2 q = s q := fun q hq => by rw [r2 q hq, r1 q hq]
    have h2t : s2 t 1 = nI nw := by rw [r12 t (by omega)]; exact hTx.1.2.1
    have rv2 := RV_S (cS_V (cS_56 r12)) rv
    have h2 : f_X12_isHeap fu (nI h) s2 l = nI 1 := by
      rcases heap_ag (l := l) hfu cv0 rv2.1 (nI h) with ⟨a1, _⟩ | ⟨_, _, _, _, a⟩
      · rw [h1] at a1; exact absurd a1 (by decide +kernel)
      · exact a
    obtain ⟨s3, e3, p3, k3, r3⟩ := r_heap hfu rv2 hh
    obtain ⟨rt, rx, _⟩ := RV_S (rS_V (rS_102 r3)) rv2
    have hlv := rt.1
    have h18 := rt.2.1
    have h72 := rx.2.1
    have hmk : ∀ w, w < nw → bt (mkB (fun w => decide (ms (hT sg Y h P) (wd w) = 0)) nw) w = if ms (hT sg Y h P) (wd w) = 0 then 1 else 0 := fun w hw => by rw [bt_mk hw]; by_cases e : ms (hT sg Y h P) (wd w) = 0 <;> simp [e]
    have hml := mkB_lt (fun w => decide (ms (hT sg Y h P) (wd w) = 0)) nw
    have hp8 : 2 ^ nw ≤ 2 ^ 8 := Nat.pow_le_pow_right (by omega) (by omega)
    generalize hB : mkB (fun w => decide (ms (hT sg Y h P) (wd w) = 0)) nw = B at e2 hmk hml
    have hgb := fun n (hn : n ≤ nw) => lgs_b (f := fun w => decide (ms (hT sg Y h P) (wd w) = 0)) (g := fun w => (wd w).length) (n := n) (fun w hw => ⟨(tb.2.2.2.2.2.2.1 w (by omega)).1, (tb.2.2.2.2.2.2.1 w (by omega)).2.1⟩)
    have hstep : ∀ w, lgs (fun w => decide (ms (hT sg Y h P) (wd w) = 0)) (fun w => (wd w).length) (w + 1) = if decide (ms (hT sg Y h P) (wd w) = 0) = true ∧ (lgs (fun w => decide (ms (hT sg Y h P) (wd w) = 0)) (fun w => (wd w).length) w).2 < (wd w).length then (w, (wd w).length) else lgs (fun w => decide (ms (hT sg Y h P) (wd w) = 0)) (fun w => (wd w).length) w := fun _ => rfl
    generalize hG : lgs (fun w => decide (ms (hT sg Y h P) (wd w) = 0)) (fun w => (wd w).length) = G at hgb hstep
    have G0 : G 0 = (99, 0) := by rw [← hG]; rfl
    have A := loop_i (fun f w (z : Int32 × Int32) => f_X11_longest_47 fu f (nI B) z.1 z.2 (nI w) D s2 l = (gI (G nw).1, s2, l) ∧ p_X11_longest_47 fu f (nI B) z.1 z.2 (nI w) D s2 l) (fun w z => z.1 = gI (G w).1 ∧ z.2 = nI (G w).2) nw ?_ ?_ fu 0 (-nI 2, nI 0) (Nat.zero_le _) (by omega) ⟨by rw [G0]; rfl, by rw [G0]⟩
    · have Bb := loop_i (fun f w (z : Int32) => f_X12_longest_20 fu f z (nI w) s3 l = (gI (G nw).1, s3, l) ∧ p_X12_longest_20 fu f z (nI w) s3 l) (fun w z => z = gI (G w).1) nw ?_ ?_ fu 0 (-nI 2) (Nat.zero_le _) (by omega) (by rw [G0]; rfl)
      · refine Qy_mk (gI (G nw).1) s2 s3 ?_ ?_ (cS_56 r12) (fun q hq => r12 q (by omega)) ?_ ?_ (rS_102 r3)
        · simp (disch := omega) only [ln_, eqF, ar_t, ar_f, it_t, it_f, true_and, and_true, not_true_eq_false, not_false_eq_true, implies_true, and_self, eq_self, h1, e1, e2]; exact A.1
        · simp (disch := omega) only [ln_, eqF, ar_t, ar_f, it_t, it_f, true_and, and_true, not_true_eq_false, not_false_eq_true, implies_true, and_self, eq_self, h1, p_hp1, e1, p1, e2, p2]; exact A.2
        · simp (disch := omega) only [ln_, eqF, ar_t, ar_f, it_t, it_f, true_and, and_true, not_true_eq_false, not_false_eq_true, implies_true, and_self, eq_self, h2, e3]; exact Bb.1
        · simp (disch := omega) only [ln_, eqF, ar_t, ar_f, it_t, it_f, true_and, and_true, not_true_eq_false, not_false_eq_true, implies_true, and_self, eq_self, h2, p_hp2 rv2.1, e3, p3]; exact Bb.2
      · intro f z hz
        unfold p_X12_longest_20 f_X12_longest_20
        simp (disch := omega) only [ln_, leT, vpT, nI_clamp, ar_t, ar_f, it_t, it_f, true_and, and_true, not_true_eq_false, not_false_eq_true, implies_true, and_self, eq_self, h18, h72, hz]
      · intro f w z hw hz ih
        have hok := tb.2.2.2.2.2.2.1 w hw
        have h8 := hok.2.1
        have h81 := hok.1
        have hm := r_missing (l := l) hfu hlv h18 rx.2.2.2 hnw tb.2.2.2.2.2.2.1 k3 (fun u _ => hT_le hP) hw
        have hmb := ms_le (T := hT sg Y h P) h8
        have hwd := r_word (fu := fu) (l := l) hlv h18 rx.2.2.2 hnw hw
        have hln := r_lenW (fu := fu) hfu hok
        have hst := hstep w
        unfold p_X12_longest_20 f_X12_longest_20
        by_cases e : ms (hT sg Y h P) (wd w) = 0
        · rcases hgb w (by omega) with ⟨a1, a2⟩ | ⟨a1, a2, a3, a4⟩
          · rw [if_pos ⟨by simp [e], by omega⟩] at hst
            rw [a1] at hz
            simp (disch := omega) only [ln_, leT, leF, ltT, ltF, eqT, eqF, vpT, nlT, nleT, lnF, lenF, eqnF, neqF, nnF, nI_add, pk_mul, pk_div, pk_sub, ni_m, nI_clamp, md10, dm10, gI_l, gI_n, ar_t, ar_f, it_t, it_f, true_and, and_true, not_true_eq_false, not_false_eq_true, implies_true, and_self, eq_self, h18, h72, hm, e, hz]
            exact ih _ (by rw [hst, gI_l (by show w < 80; omega)])
          · have hok2 := tb.2.2.2.2.2.2.1 (G w).1 (by omega)
            have hwd2 := r_word (fu := fu) (l := l) (n := (G w).1) hlv h18 rx.2.2.2 hnw (by omega)
            have hln2 := r_lenW (fu := fu) hfu hok2
            have h82 := hok2.2.1
            have a2 : (G w).2 = (wd (G w).1).length := a2
            by_cases e2 : (G w).2 < (wd w).length
            · rw [if_pos ⟨by simp [e], e2⟩] at hst
              simp (disch := omega) only [ln_, leT, leF, ltT, ltF, eqT, eqF, vpT, nlT, nleT, lnF, lenF, eqnF, neqF, nnF, nI_add, pk_mul, pk_div, pk_sub, ni_m, nI_clamp, md10, dm10, gI_l, gI_n, ar_t, ar_f, it_t, it_f, true_and, and_true, not_true_eq_false, not_false_eq_true, implies_true, and_self, eq_self, h18, h72, hm, e, hz, hwd, hwd2, hln, hln2]
              exact ih _ (by rw [hst, gI_l (by show w < 80; omega)])
            · rw [if_neg (fun h => e2 h.2)] at hst
              simp (disch := omega) only [ln_, leT, leF, ltT, ltF, eqT, eqF, vpT, nlT, nleT, lnF, lenF, eqnF, neqF, nnF, nI_add, pk_mul, pk_div, pk_sub, ni_m, nI_clamp, md10, dm10, gI_l, gI_n, ar_t, ar_f, it_t, it_f, true_and, and_true, not_true_eq_false, not_false_eq_true, implies_true, and_self, eq_self, h18, h72, hm, e, hz, hwd, hwd2, hln, hln2]
              exact ih _ (by rw [hst, gI_l (by omega)])
        · rw [if_neg (fun h => by simp [e] at h)] at hst
          simp (disch := omega) only [ln_, leF, eqF, vpT, nI_clamp, nI_add, ar_t, ar_f, it_t, it_f, true_and, and_true, not_true_eq_false, not_false_eq_true, implies_true, and_self, eq_self, h18, h72, hm]
          exact ih _ (by rw [hst]; exact hz)
    · intro f z hz
      obtain ⟨x1, x2⟩ := z
      obtain ⟨z1, z2⟩ := hz
      dsimp only at z1 z2 ⊢
      unfold p_X11_longest_47 f_X11_longest_47
      rw [hD]
      simp (disch := omega) only [leT, ar_t, ar_f, it_t, it_f, true_and, and_true, not_true_eq_false, not_false_eq_true, implies_true, and_self, eq_self, h2t, z1]
    · intro f w z hw hz ih
      replace ih := fun x s' => ih (x, s')
      dsimp only at ih
      obtain ⟨x1, x2⟩ := z
      obtain ⟨z1, z2⟩ := hz
      dsimp only at z1 z2 ⊢
      have hok := tb.2.2.2.2.2.2.1 w hw
      have h8 := hok.2.1
      have h81 := hok.1
      have hlw := hTx.2.2.2.2 w hw
      have hcl := c_len (fu := fu) hfu hok
      have hb := bitN (S := B) (k := w) (by omega) (by omega)
      rw [hmk w hw] at hb
      have hst := hstep w
      have hgw : (G w).2 ≤ 8 := by rcases hgb w (by omega) with ⟨_, a⟩ | ⟨_, _, _, a⟩ <;> omega
      unfold p_X11_longest_47 f_X11_longest_47
      rw [hD]
      by_cases e : ms (hT sg Y h P) (wd w) = 0
      · rw [if_pos e] at hb
        by_cases e2 : (G w).2 < (wd w).length
        · rw [if_pos ⟨by simp [e], e2⟩] at hst
          simp (disch := omega) only [ln_, leT, leF, ltT, ltF, eqT, eqF, vpT, nlT, nleT, lnF, lenF, eqnF, neqF, nnF, nI_add, pk_mul, pk_div, pk_sub, ni_m, nI_clamp, md10, dm10, gI_l, gI_n, ar_t, ar_f, it_t, it_f, true_and, and_true, not_true_eq_false, not_false_eq_true, implies_true, and_self, eq_self, h2t, hb, hlw, hcl, z2]
          exact ih _ _ ⟨by rw [hst, gI_l (by show w < 80; omega)], by rw [hst]⟩
        · rw [if_neg (fun h => e2 h.2)] at hst
          simp (disch := omega) only [ln_, leT, leF, ltT, ltF, eqT, eqF, vpT, nlT, nleT, lnF, lenF, eqnF, neqF, nnF, nI_add, pk_mul, pk_div, pk_sub, ni_m, nI_clamp, md10, dm10, gI_l, gI_n, ar_t, ar_f, it_t, it_f, true_and, and_true, not_true_eq_false, not_false_eq_true, implies_true, and_self, eq_self, h2t, hb, hlw, hcl, z2]
          exact ih _ _ ⟨by rw [hst]; exact z1, by rw [hst]⟩
      · rw [if_neg e] at hb
        rw [if_neg (fun h => by simp [e] at h)] at hst
        simp (disch := omega) only [ln_, leT, leF, ltT, ltF, eqT, eqF, vpT, nlT, nleT, lnF, lenF, eqnF, neqF, nnF, nI_add, pk_mul, pk_div, pk_sub, ni_m, nI_clamp, md10, dm10, gI_l, gI_n, ar_t, ar_f, it_t, it_f, true_and, and_true, not_true_eq_false, not_false_eq_true, implies_true, and_self, eq_self, h2t, hb, hlw, hcl]
        exact ih _ _ ⟨by rw [hst]; exact z1, by rw [hst]; exact z2⟩
end wor
