/-! Heaps of signs -/
def inH (h w : Nat) : Bool := if h = 5 then true else if h = 4 then decide (w < 80) else decide (w = 80 + h)
def hT (sg : Nat → Nat) (Y : Yd) (h P v : Nat) : Nat := ct (fun i => inH h (Y.2.1 i) && (sg i == v)) P
section hea
variable {fu t lv P np nl nw : Nat} {ht sg lo : Nat → Nat} {wd : Nat → List Nat} {wx wy rn sd : Int32} {LW : Lw} {Y : Yd} {s s1 s2 : fl_I} {l : fl_L} {D : fl_D} {a i b c q k n g m h : Nat} {x y z v : Int32} {T cc : Nat → Nat} {L : List Nat}
theorem and31L {n : Nat} (h : n < 32) : nI n &&& nI 31 = nI n := by rw [and31]; congr 1; omega
theorem hT_t {u : Nat} (h1 : inH h (Y.2.1 i) = true) : hT sg Y h (i + 1) u = hT sg Y h i u + if u = sg i then 1 else 0 := by
  unfold hT
  by_cases e : u = sg i
  · rw [if_pos e, ct_t (by simp [h1, e])]
  · rw [if_neg e, ct_f (by simp [h1]; exact fun h => e h.symm)]; rfl
theorem hT_f {u : Nat} (h1 : inH h (Y.2.1 i) = false) : hT sg Y h (i + 1) u = hT sg Y h i u := by
  unfold hT
  rw [ct_f (by simp [h1])]
theorem c_heap (hfu : 20000 ≤ fu) (cv : CV fu t P np nl nw ht sg lo wd wx wy rn sd LW Y s l) (hh : h ≤ 5) : ∃ s', f_X0_gather fu (nI h) t 31 s l = (s', l) ∧ p_X0_gather fu (nI h) t 31 s l ∧ (∀ u, u < 32 → s' 56 u = nI (hT sg Y h P u)) ∧ ∀ q, q ≠ 56 → s' q = s q := by
  obtain ⟨ht0, hTx, hL, hC, yc, yw, tb⟩ := cv
  have hP := yw.1
  have hn := yw.2.1
  refine loop_i (fun n i s0 => ∃ s', f_X0_gather_11 fu n (nI h) (nI i) t 31 s0 l = (s', l) ∧ p_X0_gather_11 fu n (nI h) (nI i) t 31 s0 l ∧ (∀ u, u < 32 → s' 56 u = nI (hT sg Y h P u)) ∧ ∀ q, q ≠ 56 → s' q = s q) (fun i s0 => (∀ u, u < 32 → s0 56 u = nI (hT sg Y h i u)) ∧ ∀ q, q ≠ 56 → s0 q = s q) P ?_ ?_ fu 0 (fl_fill (0 : Int32) 56 32 s l).1 (Nat.zero_le _) (by omega) ⟨fun u hu => ?_, fun q hq => ?_⟩
  · intro n s0 hs
    have h5 : s0 31 1 = nI P := by rw [hs.2 31 (by omega)]; exact yc.2.1
    refine ⟨s0, ?_, ?_, hs⟩
    · unfold f_X0_gather_11
      simp (disch := omega) only [ln_, leT, leF, ltT, ltF, eqT, eqF, vpT, nlT, nleT, lnF, lenF, eqnF, neqF, nnF, nI_add, pk_mul, pk_div, pk_sub, ni_m, nI_clamp, md10, dm10, gI_l, gI_n, ar_t, ar_f, it_t, it_f, true_and, and_true, not_true_eq_false, not_false_eq_true, implies_true, and_self, eq_self, h5]
    · unfold p_X0_gather_11
      simp (disch := omega) only [ln_, leT, leF, ltT, ltF, eqT, eqF, vpT, nlT, nleT, lnF, lenF, eqnF, neqF, nnF, nI_add, pk_mul, pk_div, pk_sub, ni_m, nI_clamp, md10, dm10, gI_l, gI_n, ar_t, ar_f, it_t, it_f, true_and, and_true, not_true_eq_false, not_false_eq_true, implies_true, and_self, eq_self, h5]
  · intro n i s0 hi hs ih
    obtain ⟨hs1, hs2⟩ := hs
    have y0 : yC P np Y 31 s0 := yC_keep (fun k hk => hs2 (31 + k) (by omega)) yc
    have h5 : s0 31 1 = nI P := y0.2.1
    have hsg : s0 (t + 4) i = nI (sg i) := by rw [hs2 (t + 4) (by omega)]; exact (hTx.2.1 i hi).1
    have hsb := (tb.2.2.2.2.1 i hi)
    have hly := c_lying (fu := fu) (l := l) y0 yw hi
    have hho := c_holder (fu := fu) (l := l) y0 yw hi
    have hw := (yw.2.2.1 i hi).1
    have h56 := hs1 (sg i) (by omega)
    have fin1 : inH h (Y.2.1 i) = true → (∀ u, u < 32 → (wi s0 56 (sg i) (nI (hT sg Y h i (sg i) + 1))) 56 u = nI (hT sg Y h (i + 1) u)) ∧ ∀ q, q ≠ 56 → (wi s0 56 (sg i) (nI (hT sg Y h i (sg i) + 1))) q = s q := by
      intro h1
      refine ⟨fun u hu => ?_, fun q hq => by rw [wi_c hq]; exact hs2 q hq⟩
      rw [wi_u, hT_t h1]
      by_cases e : u = sg i
      · subst e; rw [upd_s, if_pos rfl]
      · rw [upd_n e, if_neg e]; exact hs1 u hu
    have fin0 : inH h (Y.2.1 i) = false → (∀ u, u < 32 → s0 56 u = nI (hT sg Y h (i + 1) u)) ∧ ∀ q, q ≠ 56 → s0 q = s q := by
      intro h1
      exact ⟨fun u hu => by rw [hT_f h1]; exact hs1 u hu, hs2⟩
    unfold p_X0_gather_11 f_X0_gather_11
    by_cases h5' : h = 5
    · subst h5'
      simp (disch := omega) only [ln_, leT, leF, ltT, ltF, eqT, eqF, vpT, nlT, nleT, lnF, lenF, eqnF, neqF, nnF, nI_add, pk_mul, pk_div, pk_sub, ni_m, nI_clamp, md10, dm10, gI_l, gI_n, ar_t, ar_f, it_t, it_f, true_and, and_true, not_true_eq_false, not_false_eq_true, implies_true, and_self, eq_self, h5, hsg, and31L, h56, hly, hho]
      exact ih _ (fin1 rfl)
    · by_cases h4' : h = 4
      · subst h4'
        by_cases e : Y.2.1 i < 80
        · rw [if_pos e] at hly
          simp (disch := omega) only [ln_, leT, leF, ltT, ltF, eqT, eqF, vpT, nlT, nleT, lnF, lenF, eqnF, neqF, nnF, nI_add, pk_mul, pk_div, pk_sub, ni_m, nI_clamp, md10, dm10, gI_l, gI_n, ar_t, ar_f, it_t, it_f, true_and, and_true, not_true_eq_false, not_false_eq_true, implies_true, and_self, eq_self, h5, hsg, and31L, h56, hly, hho]
          exact ih _ (fin1 (by simp [inH, e]))
        · rw [if_neg e] at hly
          simp (disch := omega) only [ln_, leT, leF, ltT, ltF, eqT, eqF, vpT, nlT, nleT, lnF, lenF, eqnF, neqF, nnF, nI_add, pk_mul, pk_div, pk_sub, ni_m, nI_clamp, md10, dm10, gI_l, gI_n, ar_t, ar_f, it_t, it_f, true_and, and_true, not_true_eq_false, not_false_eq_true, implies_true, and_self, eq_self, h5, hsg, and31L, h56, hly, hho]
          exact ih _ (fin0 (by simp [inH, e]))
      · by_cases e : Y.2.1 i < 80
        · rw [if_pos e] at hho
          simp (disch := omega) only [ln_, leT, leF, ltT, ltF, eqT, eqF, vpT, nlT, nleT, lnF, lenF, eqnF, neqF, nnF, nI_add, pk_mul, pk_div, pk_sub, ni_m, nI_clamp, md10, dm10, gI_l, gI_n, ar_t, ar_f, it_t, it_f, true_and, and_true, not_true_eq_false, not_false_eq_true, implies_true, and_self, eq_self, h5, hsg, and31L, h56, hly, hho]
          exact ih _ (fin0 (by simp [inH, h5', h4']; omega))
        · rw [if_neg e] at hho
          by_cases e2 : Y.2.1 i = 80 + h
          · simp (disch := omega) only [ln_, leT, leF, ltT, ltF, eqT, eqF, vpT, nlT, nleT, lnF, lenF, eqnF, neqF, nnF, nI_add, pk_mul, pk_div, pk_sub, ni_m, nI_clamp, md10, dm10, gI_l, gI_n, ar_t, ar_f, it_t, it_f, true_and, and_true, not_true_eq_false, not_false_eq_true, implies_true, and_self, eq_self, h5, hsg, and31L, h56, hly, hho]
            exact ih _ (fin1 (by simp [inH, h5', h4', e2]))
          · simp (disch := omega) only [ln_, leT, leF, ltT, ltF, eqT, eqF, vpT, nlT, nleT, lnF, lenF, eqnF, neqF, nnF, nI_add, pk_mul, pk_div, pk_sub, ni_m, nI_clamp, md10, dm10, gI_l, gI_n, ar_t, ar_f, it_t, it_f, true_and, and_true, not_true_eq_false, not_false_eq_true, implies_true, and_self, eq_self, h5, hsg, and31L, h56, hly, hho]
            exact ih _ (fin0 (by simp [inH, h5', h4', e2]))
  · unfold fl_fill
    dsimp only
    rw [su_r, if_pos hu]; rfl
  · unfold fl_fill
    dsimp only
    rw [su_c hq]
theorem r_heap (hfu : 20000 ≤ fu) (rv : RV fu lv P np nl nw ht sg lo wd wx wy rn sd LW Y s l) (hh : h ≤ 5) : ∃ s', f_X12_fillsHeap fu (nI h) s l = (s', l) ∧ p_X12_fillsHeap fu (nI h) s l ∧ (∀ u, u < 27 → s' 102 u = nI (hT sg Y h P u)) ∧ ∀ q, q ≠ 102 → s' q = s q := by
  obtain ⟨rt, rx, lr, hC, yf, yw, tb⟩ := rv
  have hP := yw.1
  have hn := yw.2.1
  have second : ∀ s1 : fl_I, (∀ q, q ≠ 102 → s1 q = s q) → (∀ u, u < 27 → s1 102 u = nI 0) → ∃ s', f_X12_fillsHeap_23 fu fu (nI h) (nI 0) s1 l = (s', l) ∧ p_X12_fillsHeap_23 fu fu (nI h) (nI 0) s1 l ∧ (∀ u, u < 27 → s' 102 u = nI (hT sg Y h P u)) ∧ ∀ q, q ≠ 102 → s' q = s q := by
    intro s1 k1 z1
    refine loop_i (fun n i s0 => ∃ s', f_X12_fillsHeap_23 fu n (nI h) (nI i) s0 l = (s', l) ∧ p_X12_fillsHeap_23 fu n (nI h) (nI i) s0 l ∧ (∀ u, u < 27 → s' 102 u = nI (hT sg Y h P u)) ∧ ∀ q, q ≠ 102 → s' q = s q) (fun i s0 => (∀ u, u < 27 → s0 102 u = nI (hT sg Y h i u)) ∧ ∀ q, q ≠ 102 → s0 q = s q) P ?_ ?_ fu 0 s1 (Nat.zero_le _) (by omega) ⟨z1, k1⟩
    · intro n s0 hs
      have h5 : s0 60 54 = nI P := by rw [hs.2 60 (by omega)]; exact rt.2.2.1
      refine ⟨s0, ?_, ?_, hs⟩
      · unfold f_X12_fillsHeap_23
        simp (disch := omega) only [ln_, leT, leF, ltT, ltF, eqT, eqF, vpT, nlT, nleT, lnF, lenF, eqnF, neqF, nnF, nI_add, pk_mul, pk_div, pk_sub, ni_m, nI_clamp, md10, dm10, gI_l, gI_n, ar_t, ar_f, it_t, it_f, true_and, and_true, not_true_eq_false, not_false_eq_true, implies_true, and_self, eq_self, h5]
      · unfold p_X12_fillsHeap_23
        simp (disch := omega) only [ln_, leT, leF, ltT, ltF, eqT, eqF, vpT, nlT, nleT, lnF, lenF, eqnF, neqF, nnF, nI_add, pk_mul, pk_div, pk_sub, ni_m, nI_clamp, md10, dm10, gI_l, gI_n, ar_t, ar_f, it_t, it_f, true_and, and_true, not_true_eq_false, not_false_eq_true, implies_true, and_self, eq_self, h5]
    · intro n i s0 hi hs ih
      obtain ⟨hs1, hs2⟩ := hs
      have h5 : s0 60 54 = nI P := by rw [hs2 60 (by omega)]; exact rt.2.2.1
      have hsg : s0 96 i = nI (sg i) := by rw [hs2 96 (by omega)]; exact rt.2.2.2.2.2.1 i hi
      have hsb := (tb.2.2.2.2.1 i hi)
      have hw := (yw.2.2.1 i hi).1
      have h56 := hs1 (sg i) (by omega)
      obtain ⟨g1, g2, g3⟩ := yf.2.1 i hi
      rw [← hs2 94 (by omega)] at g1 g2
      have fin1 : inH h (Y.2.1 i) = true → (∀ u, u < 27 → (wi s0 102 (sg i) (nI (hT sg Y h i (sg i) + 1))) 102 u = nI (hT sg Y h (i + 1) u)) ∧ ∀ q, q ≠ 102 → (wi s0 102 (sg i) (nI (hT sg Y h i (sg i) + 1))) q = s q := by
        intro h1
        refine ⟨fun u hu => ?_, fun q hq => by rw [wi_c hq]; exact hs2 q hq⟩
        rw [wi_u, hT_t h1]
        by_cases e : u = sg i
        · subst e; rw [upd_s, if_pos rfl]
        · rw [upd_n e, if_neg e]; exact hs1 u hu
      have fin0 : inH h (Y.2.1 i) = false → (∀ u, u < 27 → s0 102 u = nI (hT sg Y h (i + 1) u)) ∧ ∀ q, q ≠ 102 → s0 q = s q := by
        intro h1
        exact ⟨fun u hu => by rw [hT_f h1]; exact hs1 u hu, hs2⟩
      unfold p_X12_fillsHeap_23 f_X12_fillsHeap_23 p_X12_fillsHeap_66 f_X12_fillsHeap_66 p_X12_fillsHeap_81 f_X12_fillsHeap_81 p_X12_fillsHeap_53 f_X12_fillsHeap_53 p_X12_fillsHeap_66 f_X12_fillsHeap_66 p_X12_fillsHeap_81 f_X12_fillsHeap_81
      by_cases h5' : h = 5
      · subst h5'
        simp (disch := omega) only [ln_, leT, leF, ltT, ltF, eqT, eqF, vpT, nlT, nleT, lnF, lenF, eqnF, neqF, nnF, nI_add, pk_mul, pk_div, pk_sub, ni_m, nI_clamp, md10, dm10, gI_l, gI_n, ar_t, ar_f, it_t, it_f, true_and, and_true, not_true_eq_false, not_false_eq_true, implies_true, and_self, eq_self, h5, hsg, h56]
        exact ih _ (fin1 rfl)
      · by_cases h4' : h = 4
        · subst h4'
          by_cases e : Y.2.1 i < 80
          · have a3 := (g1 e).2.2
            simp (disch := omega) only [ln_, leT, leF, ltT, ltF, eqT, eqF, vpT, nlT, nleT, lnF, lenF, eqnF, neqF, nnF, nI_add, pk_mul, pk_div, pk_sub, ni_m, nI_clamp, md10, dm10, gI_l, gI_n, ar_t, ar_f, it_t, it_f, true_and, and_true, not_true_eq_false, not_false_eq_true, implies_true, and_self, eq_self, h5, hsg, h56, a3]
            exact ih _ (fin1 (by simp [inH, e]))
          · have a3 := g2 (by omega)
            simp (disch := omega) only [ln_, leT, leF, ltT, ltF, eqT, eqF, vpT, nlT, nleT, lnF, lenF, eqnF, neqF, nnF, nI_add, pk_mul, pk_div, pk_sub, ni_m, nI_clamp, md10, dm10, gI_l, gI_n, ar_t, ar_f, it_t, it_f, true_and, and_true, not_true_eq_false, not_false_eq_true, implies_true, and_self, eq_self, h5, hsg, h56, a3]
            exact ih _ (fin0 (by simp [inH, e]))
        · by_cases e : Y.2.1 i < 80
          · have a3 := (g1 e).2.2
            simp (disch := omega) only [ln_, leT, leF, ltT, ltF, eqT, eqF, vpT, nlT, nleT, lnF, lenF, eqnF, neqF, nnF, nI_add, pk_mul, pk_div, pk_sub, ni_m, nI_clamp, md10, dm10, gI_l, gI_n, ar_t, ar_f, it_t, it_f, true_and, and_true, not_true_eq_false, not_false_eq_true, implies_true, and_self, eq_self, h5, hsg, h56, a3]
            exact ih _ (fin0 (by simp [inH, h5', h4']; omega))
          · have a3 := g2 (by omega)
            by_cases e2 : Y.2.1 i = 80 + h
            · simp (disch := omega) only [ln_, leT, leF, ltT, ltF, eqT, eqF, vpT, nlT, nleT, lnF, lenF, eqnF, neqF, nnF, nI_add, pk_mul, pk_div, pk_sub, ni_m, nI_clamp, md10, dm10, gI_l, gI_n, ar_t, ar_f, it_t, it_f, true_and, and_true, not_true_eq_false, not_false_eq_true, implies_true, and_self, eq_self, h5, hsg, h56, a3]
              exact ih _ (fin1 (by simp [inH, h5', h4', e2]))
            · simp (disch := omega) only [ln_, leT, leF, ltT, ltF, eqT, eqF, vpT, nlT, nleT, lnF, lenF, eqnF, neqF, nnF, nI_add, pk_mul, pk_div, pk_sub, ni_m, nI_clamp, md10, dm10, gI_l, gI_n, ar_t, ar_f, it_t, it_f, true_and, and_true, not_true_eq_false, not_false_eq_true, implies_true, and_self, eq_self, h5, hsg, h56, a3]
              exact ih _ (fin0 (by simp [inH, h5', h4', e2]))
  refine loop_i (fun n i s0 => ∃ s', f_X12_fillsHeap_2 fu n (nI h) (nI i) s0 l = (s', l) ∧ p_X12_fillsHeap_2 fu n (nI h) (nI i) s0 l ∧ (∀ u, u < 27 → s' 102 u = nI (hT sg Y h P u)) ∧ ∀ q, q ≠ 102 → s' q = s q) (fun i s0 => (∀ u, u < i → s0 102 u = nI 0) ∧ ∀ q, q ≠ 102 → s0 q = s q) 27 ?_ ?_ fu 0 s (Nat.zero_le _) (by omega) ⟨fun u hu => absurd hu (Nat.not_lt_zero u), fun _ _ => rfl⟩
  · intro n s0 hs
    obtain ⟨s2, e2, p2, r2⟩ := second s0 hs.2 hs.1
    refine ⟨s2, ?_, ?_, r2⟩
    · unfold f_X12_fillsHeap_2
      simp (disch := omega) only [ln_, leT, leF, ltT, ltF, eqT, eqF, vpT, nlT, nleT, lnF, lenF, eqnF, neqF, nnF, nI_add, pk_mul, pk_div, pk_sub, ni_m, nI_clamp, md10, dm10, gI_l, gI_n, ar_t, ar_f, it_t, it_f, true_and, and_true, not_true_eq_false, not_false_eq_true, implies_true, and_self, eq_self, e2]
    · unfold p_X12_fillsHeap_2
      simp (disch := omega) only [ln_, leT, leF, ltT, ltF, eqT, eqF, vpT, nlT, nleT, lnF, lenF, eqnF, neqF, nnF, nI_add, pk_mul, pk_div, pk_sub, ni_m, nI_clamp, md10, dm10, gI_l, gI_n, ar_t, ar_f, it_t, it_f, true_and, and_true, not_true_eq_false, not_false_eq_true, implies_true, and_self, eq_self, p2]
  · intro n i s0 hi hs ih
    unfold p_X12_fillsHeap_2 f_X12_fillsHeap_2
    simp (disch := omega) only [ln_, leT, leF, ltT, ltF, eqT, eqF, vpT, nlT, nleT, lnF, lenF, eqnF, neqF, nnF, nI_add, pk_mul, pk_div, pk_sub, ni_m, nI_clamp, md10, dm10, gI_l, gI_n, ar_t, ar_f, it_t, it_f, true_and, and_true, not_true_eq_false, not_false_eq_true, implies_true, and_self, eq_self]
    refine ih _ ⟨fun u hu => ?_, fun q hq => by rw [wi_c hq]; exact hs.2 q hq⟩
    rw [wi_u]
    by_cases e : u = i
    · subst e; rw [upd_s]
    · rw [upd_n e]; exact hs.1 u (by omega)
/-! taking words out of a heap: T of each sign, cc of them are out -/
def lk (T : Nat → Nat) : (Nat → Nat) → List Nat → Nat
  | _, [] => 0
  | c, x :: L => (if T x < c x + 1 then 1 else 0) + lk T (un c x (c x + 1)) L
theorem sm_pt {f g : Nat → Nat} {n x d : Nat} (hx : x < n) (h : ∀ i, i < n → i ≠ x → f i = g i) (he : f x = g x + d) : sm f n = sm g n + d := by
  induction n with
  | zero => omega
  | succ n ih =>
    rw [sm_s, sm_s]
    by_cases e : x = n
    · subst e
      rw [sm_congr (f := f) (g := g) (fun i hi => h i (by omega) (by omega)), he]; omega
    · rw [ih (by omega) (fun i hi => h i (by omega)), h n (by omega) (by omega)]; omega
theorem lk_sum : ∀ (L : List Nat) (c : Nat → Nat), (∀ x ∈ L, x ≤ 26) → lk T c L = sm (fun u => (c u + L.count u - T u) - (c u - T u)) 27 := by
  intro L
  induction L with
  | nil =>
    intro c _
    have : sm (fun u => (c u + ([] : List Nat).count u - T u) - (c u - T u)) 27 = sm (fun _ => 0) 27 := sm_congr (fun u _ => by simp)
    rw [this]; rfl
  | cons x L ih =>
    intro c h
    have hx := h x (List.mem_cons_self ..)
    show (if T x < c x + 1 then 1 else 0) + lk T (un c x (c x + 1)) L = _
    rw [ih _ (fun y hy => h y (List.mem_cons_of_mem x hy))]
    rw [sm_pt (f := fun u => (c u + (x :: L).count u - T u) - (c u - T u)) (g := fun u => (un c x (c x + 1) u + L.count u - T u) - (un c x (c x + 1) u - T u)) (x := x) (d := if T x < c x + 1 then 1 else 0) (by omega)]
    · omega
    · intro u _ hu
      rw [un_n hu, List.count_cons, if_neg (by simp; exact fun e => hu e.symm)]; rfl
    · rw [un_s, List.count_cons, if_pos (by simp)]
      split <;> omega
theorem tc_sub {a b : Nat} : nI a - nI b - nI 1 = nI a - nI (b + 1) := by
  rw [← nI_add b 1]
  generalize nI a = x
  generalize nI b = y
  generalize nI 1 = z
  first
    | exact Int32.sub_sub x y z
    | (rw [Int32.sub_eq_add_neg, Int32.sub_eq_add_neg, Int32.sub_eq_add_neg, Int32.neg_add, Int32.add_assoc])
    | (rw [Int32.sub_eq_add_neg, Int32.sub_eq_add_neg, Int32.sub_eq_add_neg, Int32.neg_add, Int32.sub_eq_add_neg, Int32.add_assoc])
theorem tc_add {a b : Nat} : nI a - nI (b + 1) + nI 1 = nI a - nI b := by
  rw [← tc_sub, Int32.sub_add_cancel]
theorem tc_ge {a b : Nat} (ha : a < 2 ^ 30) (hb : b < 2 ^ 30) (h : b ≤ a) : (nI 0 ≤ nI a - nI b) = True := by rw [pk_sub h]; exact eq_true (nI_pos' (by omega))
theorem tc_lt {a b : Nat} (ha : a < 2 ^ 30) (hb : b < 2 ^ 30) (h : a < b) : (nI 0 ≤ nI a - nI b) = False := by rw [nsub (by omega), lenF (by omega) (by omega) (by omega)]
def adl (c : Nat → Nat) : List Nat → Nat → Nat
  | [] => c
  | x :: L => adl (un c x (c x + 1)) L
theorem adl_c : ∀ (L : List Nat) (c : Nat → Nat) (u : Nat), adl c L u = c u + L.count u := by
  intro L
  induction L with
  | nil => intro c u; show c u = c u + 0; rfl
  | cons x L ih =>
    intro c u
    show adl (un c x (c x + 1)) L u = _
    rw [ih, List.count_cons]
    by_cases e : u = x
    · subst e; rw [un_s, if_pos (by simp)]; omega
    · rw [un_n e, if_neg (by simp; exact fun h => e h.symm)]; rfl
theorem drop_cons {L : List Nat} {i : Nat} (hi : i < L.length) : L.drop i = sgn L i :: L.drop (i + 1) := by
  rw [sgn_get hi]; exact List.drop_eq_getElem_cons hi
theorem c_takeOut (hfu : 20000 ≤ fu) (hW : okW L) (hT0 : ∀ u, u < 32 → s 56 u = nI (T u) - nI (cc u)) (hTb : ∀ u, u < 32 → T u ≤ 1000 ∧ cc u ≤ 1000) :
    ∃ s', f_X0_takeOut fu (lN (p5 L)) s l = (nI (lk T cc L), s', l) ∧ p_X0_takeOut fu (lN (p5 L)) s l ∧ (∀ u, u < 32 → s' 56 u = nI (T u) - nI (cc u + L.count u)) ∧ ∀ q, q ≠ 56 → s' q = s q := by
  obtain ⟨h1, h2, h3⟩ := hW
  have hlen := c_len (fu := fu) hfu ⟨h1, h2, h3⟩
  have hs := fun i (hi : i < 8) => signAt_n (fu := fu) (fun x hx => (h3 x hx).2) h2 hi
  unfold f_X0_takeOut p_X0_takeOut
  rw [hlen.2]
  have key := loop_i (fun n i (z : Int32 × fl_I × (Nat → Nat)) => ∃ s', f_X0_takeOut_11 fu n (lN (p5 L)) z.1 (nI L.length) (nI i) z.2.1 l = (nI (lk T cc L), s', l) ∧ p_X0_takeOut_11 fu n (lN (p5 L)) z.1 (nI L.length) (nI i) z.2.1 l ∧ (∀ u, u < 32 → s' 56 u = nI (T u) - nI (adl cc L u)) ∧ ∀ q, q ≠ 56 → s' q = s q) (fun i z => (∃ y, z.1 = nI y ∧ lk T cc L = y + lk T z.2.2 (L.drop i)) ∧ (∀ u, u < 32 → z.2.1 56 u = nI (T u) - nI (z.2.2 u)) ∧ (∀ u, u < 32 → z.2.2 u ≤ 1000 + i) ∧ (∀ u, adl cc L u = adl z.2.2 (L.drop i) u) ∧ ∀ q, q ≠ 56 → z.2.1 q = s q) L.length ?_ ?_ fu 0 (nI 0, s, cc) (Nat.zero_le _) (by omega) ⟨⟨0, rfl, by rw [List.drop_zero, Nat.zero_add]⟩, hT0, fun u hu => (hTb u hu).2, fun u => by rw [List.drop_zero], fun _ _ => rfl⟩
  · obtain ⟨s', e, p, k1, k2⟩ := key
    exact ⟨s', e, ⟨hlen.1, p⟩, fun u hu => by rw [k1 u hu, adl_c], k2⟩
  · intro n z hz
    obtain ⟨r, s0, c⟩ := z
    obtain ⟨⟨y, hy1, hy2⟩, z2, z3, z4, z5⟩ := hz
    dsimp only at hy1 hy2 z2 z3 z4 z5 ⊢
    rw [List.drop_eq_nil_of_le (Nat.le_refl _)] at hy2 z4
    have hy2 : lk T cc L = y + 0 := hy2
    refine ⟨s0, ?_, ?_, fun u hu => by rw [z4 u]; exact z2 u hu, z5⟩
    · unfold f_X0_takeOut_11
      simp (disch := omega) only [ln_, leT, leF, ltT, ltF, eqT, eqF, vpT, nlT, nleT, lnF, lenF, eqnF, neqF, nnF, nI_add, pk_mul, pk_div, pk_sub, ni_m, nI_clamp, md10, dm10, gI_l, gI_n, ar_t, ar_f, it_t, it_f, true_and, and_true, not_true_eq_false, not_false_eq_true, implies_true, and_self, eq_self, hy1, hy2]
      rfl
    · unfold p_X0_takeOut_11
      simp (disch := omega) only [ln_, leT, leF, ltT, ltF, eqT, eqF, vpT, nlT, nleT, lnF, lenF, eqnF, neqF, nnF, nI_add, pk_mul, pk_div, pk_sub, ni_m, nI_clamp, md10, dm10, gI_l, gI_n, ar_t, ar_f, it_t, it_f, true_and, and_true, not_true_eq_false, not_false_eq_true, implies_true, and_self, eq_self]
  · intro n i z hi hz ih
    replace ih := fun r s' c => ih (r, s', c)
    dsimp only at ih
    obtain ⟨r, s0, c⟩ := z
    obtain ⟨⟨y, hy1, hy2⟩, z2, z3, z4, z5⟩ := hz
    dsimp only at hy1 hy2 z2 z3 z4 z5 ⊢
    have hz := hs i (by omega)
    have hm := h3 _ (sgn_in hi)
    rw [drop_cons hi] at hy2 z4
    have hx := z2 (sgn L i) (by omega)
    have hxb := z3 (sgn L i) (by omega)
    have hTx := (hTb (sgn L i) (by omega)).1
    have hd : lk T c (sgn L i :: L.drop (i + 1)) = (if T (sgn L i) < c (sgn L i) + 1 then 1 else 0) + lk T (un c (sgn L i) (c (sgn L i) + 1)) (L.drop (i + 1)) := rfl
    rw [hd] at hy2
    have inv : (∀ u, u < 32 → (wi s0 56 (sgn L i) (nI (T (sgn L i)) - nI (c (sgn L i) + 1))) 56 u = nI (T u) - nI (un c (sgn L i) (c (sgn L i) + 1) u)) ∧ (∀ u, u < 32 → un c (sgn L i) (c (sgn L i) + 1) u ≤ 1000 + (i + 1)) ∧ (∀ u, adl cc L u = adl (un c (sgn L i) (c (sgn L i) + 1)) (L.drop (i + 1)) u) ∧ ∀ q, q ≠ 56 → (wi s0 56 (sgn L i) (nI (T (sgn L i)) - nI (c (sgn L i) + 1))) q = s q := by
      refine ⟨fun u hu => ?_, fun u hu => ?_, z4, fun q hq => by rw [wi_c hq]; exact z5 q hq⟩
      · rw [wi_u]
        by_cases e : u = sgn L i
        · subst e; rw [upd_s, un_s]
        · rw [upd_n e, un_n e]; exact z2 u hu
      · by_cases e : u = sgn L i
        · subst e; rw [un_s]; omega
        · rw [un_n e]; have := z3 u hu; omega
    unfold p_X0_takeOut_11 f_X0_takeOut_11
    by_cases e : T (sgn L i) < c (sgn L i) + 1
    · rw [if_pos e] at hy2
      have hc := tc_lt (a := T (sgn L i)) (b := c (sgn L i) + 1) (by omega) (by omega) e
      simp (disch := omega) only [ln_, leF, vpT, nI_clamp, nI_add, ar_t, ar_f, it_t, it_f, true_and, and_true, not_true_eq_false, not_false_eq_true, implies_true, and_self, eq_self, wi_c, wi_u, upd_s, upd_n, su_r, su_c, hz, p_signAtT, hx, tc_sub, hc, hy1]
      exact ih _ _ _ ⟨⟨y + 1, rfl, by omega⟩, inv⟩
    · rw [if_neg e] at hy2
      have hc := tc_ge (a := T (sgn L i)) (b := c (sgn L i) + 1) (by omega) (by omega) (by omega)
      simp (disch := omega) only [ln_, leF, vpT, nI_clamp, nI_add, ar_t, ar_f, it_t, it_f, true_and, and_true, not_true_eq_false, not_false_eq_true, implies_true, and_self, eq_self, wi_c, wi_u, upd_s, upd_n, su_r, su_c, hz, p_signAtT, hx, tc_sub, hc, hy1]
      exact ih _ _ _ ⟨⟨y, rfl, by omega⟩, inv⟩
theorem c_putBack (hfu : 20000 ≤ fu) (hW : okW L) (hT0 : ∀ u, u < 32 → s 56 u = nI (T u) - nI (cc u + L.count u)) :
    ∃ s', f_X0_putBack fu (lN (p5 L)) s l = (s', l) ∧ p_X0_putBack fu (lN (p5 L)) s l ∧ (∀ u, u < 32 → s' 56 u = nI (T u) - nI (cc u)) ∧ ∀ q, q ≠ 56 → s' q = s q := by
  obtain ⟨h1, h2, h3⟩ := hW
  have hlen := c_len (fu := fu) hfu ⟨h1, h2, h3⟩
  have hs := fun i (hi : i < 8) => signAt_n (fu := fu) (fun x hx => (h3 x hx).2) h2 hi
  unfold f_X0_putBack p_X0_putBack
  rw [hlen.2]
  have key := loop_i (fun n i s0 => ∃ s', f_X0_putBack_8 fu n (lN (p5 L)) (nI L.length) (nI i) s0 l = (s', l) ∧ p_X0_putBack_8 fu n (lN (p5 L)) (nI L.length) (nI i) s0 l ∧ (∀ u, u < 32 → s' 56 u = nI (T u) - nI (cc u)) ∧ ∀ q, q ≠ 56 → s' q = s q) (fun i s0 => (∀ u, u < 32 → s0 56 u = nI (T u) - nI (cc u + (L.drop i).count u)) ∧ ∀ q, q ≠ 56 → s0 q = s q) L.length ?_ ?_ fu 0 s (Nat.zero_le _) (by omega) ⟨fun u hu => by rw [List.drop_zero]; exact hT0 u hu, fun _ _ => rfl⟩
  · obtain ⟨s', e, p, k1, k2⟩ := key
    exact ⟨s', e, ⟨hlen.1, p⟩, k1, k2⟩
  · intro n s0 hz
    refine ⟨s0, ?_, ?_, fun u hu => ?_, hz.2⟩
    · unfold f_X0_putBack_8
      simp (disch := omega) only [ln_, leT, leF, ltT, ltF, eqT, eqF, vpT, nlT, nleT, lnF, lenF, eqnF, neqF, nnF, nI_add, pk_mul, pk_div, pk_sub, ni_m, nI_clamp, md10, dm10, gI_l, gI_n, ar_t, ar_f, it_t, it_f, true_and, and_true, not_true_eq_false, not_false_eq_true, implies_true, and_self, eq_self]
    · unfold p_X0_putBack_8
      simp (disch := omega) only [ln_, leT, leF, ltT, ltF, eqT, eqF, vpT, nlT, nleT, lnF, lenF, eqnF, neqF, nnF, nI_add, pk_mul, pk_div, pk_sub, ni_m, nI_clamp, md10, dm10, gI_l, gI_n, ar_t, ar_f, it_t, it_f, true_and, and_true, not_true_eq_false, not_false_eq_true, implies_true, and_self, eq_self]
    · have := hz.1 u hu
      rw [List.drop_eq_nil_of_le (Nat.le_refl _)] at this
      exact this
  · intro n i s0 hi hz ih
    have hsz := hs i (by omega)
    have hm := h3 _ (sgn_in hi)
    have hx := hz.1 (sgn L i) (by omega)
    rw [drop_cons hi, List.count_cons, if_pos (by simp), ← Nat.add_assoc] at hx
    unfold p_X0_putBack_8 f_X0_putBack_8
    simp (disch := omega) only [ln_, leF, vpT, nI_clamp, nI_add, ar_t, ar_f, it_t, it_f, true_and, and_true, not_true_eq_false, not_false_eq_true, implies_true, and_self, eq_self, hsz, p_signAtT, hx, tc_add]
    refine ih _ ⟨fun u hu => ?_, fun q hq => by rw [wi_c hq]; exact hz.2 q hq⟩
    rw [wi_u]
    by_cases e : u = sgn L i
    · subst e; rw [upd_s]
    · rw [upd_n e]
      have := hz.1 u hu
      rw [drop_cons hi, List.count_cons, if_neg (by simp; exact fun h => e h.symm)] at this
      exact this
theorem c_lacks (hfu : 20000 ≤ fu) (hW : okW L) (hT0 : ∀ u, u < 32 → s 56 u = nI (T u)) (hTb : ∀ u, u < 32 → T u ≤ 1000) :
    ∃ s', f_X0_lacks fu (lN (p5 L)) s l = (nI (sm (fun u => L.count u - T u) 27), s', l) ∧ p_X0_lacks fu (lN (p5 L)) s l ∧ (∀ u, u < 32 → s' 56 u = nI (T u)) ∧ ∀ q, q ≠ 56 → s' q = s q := by
  have z0 : ∀ a : Nat, nI a - nI 0 = nI a := fun a => pk_sub (Nat.zero_le a)
  obtain ⟨s1, e1, p1, k1, r1⟩ := c_takeOut (l := l) (T := T) (cc := fun _ => 0) hfu hW (fun u hu => by rw [z0]; exact hT0 u hu) (fun u hu => ⟨hTb u hu, Nat.zero_le _⟩)
  obtain ⟨s2, e2, p2, k2, r2⟩ := c_putBack (l := l) (T := T) (cc := fun _ => 0) hfu hW k1
  have hl : lk T (fun _ => 0) L = sm (fun u => L.count u - T u) 27 := by
    rw [lk_sum L _ (fun x hx => (hW.2.2 x hx).2)]
    exact sm_congr (fun u _ => by omega)
  rw [hl] at e1
  refine ⟨s2, ?_, ?_, fun u hu => by rw [k2 u hu, z0], fun q hq => by rw [r2 q hq, r1 q hq]⟩
  · unfold f_X0_lacks; rw [e1]; dsimp only; rw [e2]
  · unfold p_X0_lacks; rw [e1]; dsimp only
    simp only [ar_t, ar_f, it_t, it_f, true_and, and_true, not_true_eq_false, not_false_eq_true, implies_true, and_self, eq_self, p1, p2]
end hea
