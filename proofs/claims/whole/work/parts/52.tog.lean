/-! together -/
section tog
variable {fu t lv P np nl nw : Nat} {ht sg lo : Nat → Nat} {wd : Nat → List Nat} {wx wy rn sd : Int32} {LW : Lw} {Y : Yd} {s s1 s2 : fl_I} {l : fl_L} {D : fl_D} {a i b c q k n g m h S : Nat} {x y z v : Int32} {T cc : Nat → Nat} {L : List Nat}
def cst (wd : Nat → List Nat) (S n u : Nat) : Nat := sm (fun w => if bt S w = 1 then (wd w).count u else 0) n
theorem cst_t {u : Nat} (h : bt S n = 1) : cst wd S (n + 1) u = cst wd S n u + (wd n).count u := by unfold cst; rw [sm_s, if_pos h]
theorem cst_f {u : Nat} (h : ¬ bt S n = 1) : cst wd S (n + 1) u = cst wd S n u := by unfold cst; rw [sm_s, if_neg h]; rfl
theorem cst_mono {u w : Nat} (h : w ≤ n) : cst wd S w u ≤ cst wd S n u := by
  obtain ⟨d, rfl⟩ : ∃ d, n = w + d := ⟨n - w, by omega⟩
  clear h
  induction d with
  | zero => exact Nat.le_refl _
  | succ d ih => exact Nat.le_trans ih (by show cst wd S (w + d) u ≤ sm _ (w + d) + _; unfold cst; omega)
theorem cst_b {u : Nat} (hW : ∀ w, w < nw → okW (wd w)) (hn : n ≤ nw) (h8 : nw ≤ 8) : cst wd S n u ≤ 64 := by
  have : ∀ m, m ≤ n → cst wd S m u ≤ m * 8 := by
    intro m
    induction m with
    | zero => intro _; exact Nat.zero_le _
    | succ m ih =>
      intro hm
      have h1 := ih (by omega)
      by_cases e : bt S m = 1
      · rw [cst_t e]
        have := cnt_le (L := wd m) (u := u)
        have := (hW m (by omega)).2.1
        omega
      · rw [cst_f e]; omega
  have := this n (Nat.le_refl n)
  omega
theorem ms_step (hW : okW (wd n)) (hb : bt S n = 1) : sm (fun u => cst wd S (n + 1) u - T u) 27 = sm (fun u => cst wd S n u - T u) 27 + lk T (cst wd S n) (wd n) := by
  rw [lk_sum _ _ (fun x hx => (hW.2.2 x hx).2), ← sm_add]
  exact sm_congr (fun u _ => by rw [cst_t hb]; omega)
theorem sm_0 {f : Nat → Nat} {n : Nat} : sm f n = 0 ↔ ∀ u, u < n → f u = 0 := by
  induction n with
  | zero => exact ⟨fun _ u hu => absurd hu (Nat.not_lt_zero u), fun _ => rfl⟩
  | succ n ih =>
    rw [sm_s]
    constructor
    · intro h u hu
      by_cases e : u = n
      · subst e; omega
      · exact ih.mp (by omega) u (by omega)
    · intro h
      rw [ih.mpr (fun u hu => h u (by omega)), h n (by omega)]
theorem c_once (hfu : 20000 ≤ fu) (h1 : s t 1 = nI nw) (ht56 : t ≠ 56) (hl : ∀ w, w < nw → l (t + 2) w = lN (p5 (wd w))) (hnw : nw ≤ 8) (hW : ∀ w, w < nw → okW (wd w)) (hT0 : ∀ u, u < 32 → s 56 u = nI (T u)) (hTb : ∀ u, u < 32 → T u ≤ 1000) (hS : S < 256) :
    ∃ s', f_X0_makesAtOnce fu (nI S) t s l = (if sm (fun u => cst wd S nw u - T u) 27 = 0 then nI 1 else nI 0, s', l) ∧ p_X0_makesAtOnce fu (nI S) t s l ∧ (∀ u, u < 32 → s' 56 u = nI (T u)) ∧ ∀ q, q ≠ 56 → s' q = s q := by
  have z0 : ∀ a : Nat, nI a - nI 0 = nI a := fun a => pk_sub (Nat.zero_le a)
  have hcb := fun n (hn : n ≤ nw) u => cst_b (S := S) (u := u) hW hn hnw
  generalize hR : sm (fun u => cst wd S nw u - T u) 27 = R
  have hRb : R ≤ 64 * 27 := by rw [← hR]; exact Nat.le_trans (sm_le (m := 64) (fun u => by have := hcb nw (Nat.le_refl _) u; omega) 27) (by omega)
  have second : ∀ s1 : fl_I, (∀ u, u < 32 → s1 56 u = nI (T u) - nI (cst wd S nw u)) → (∀ q, q ≠ 56 → s1 q = s q) → ∃ s', f_X0_makesAtOnce_47 fu fu (nI S) (nI R) (nI 0) t s1 l = (if R = 0 then nI 1 else nI 0, s', l) ∧ p_X0_makesAtOnce_47 fu fu (nI S) (nI R) (nI 0) t s1 l ∧ (∀ u, u < 32 → s' 56 u = nI (T u)) ∧ ∀ q, q ≠ 56 → s' q = s q := by
    intro s1 k1 r1
    refine loop_i (fun f w s0 => ∃ s', f_X0_makesAtOnce_47 fu f (nI S) (nI R) (nI w) t s0 l = (if R = 0 then nI 1 else nI 0, s', l) ∧ p_X0_makesAtOnce_47 fu f (nI S) (nI R) (nI w) t s0 l ∧ (∀ u, u < 32 → s' 56 u = nI (T u)) ∧ ∀ q, q ≠ 56 → s' q = s q) (fun w s0 => (∀ u, u < 32 → s0 56 u = nI (T u) - nI (cst wd S nw u - cst wd S w u)) ∧ ∀ q, q ≠ 56 → s0 q = s q) nw ?_ ?_ fu 0 s1 (Nat.zero_le _) (by omega) ⟨k1, r1⟩
    · intro f s0 hs
      have k1 : s0 t 1 = nI nw := by rw [hs.2 t ht56]; exact h1
      refine ⟨s0, ?_, ?_, fun u hu => by rw [hs.1 u hu, Nat.sub_self, z0], hs.2⟩
      · unfold f_X0_makesAtOnce_47
        by_cases e : R = 0
        · simp (disch := omega) only [ln_, leT, leF, ltT, ltF, eqT, eqF, vpT, nlT, nleT, lnF, lenF, eqnF, neqF, nnF, nI_add, pk_mul, pk_div, pk_sub, ni_m, nI_clamp, md10, dm10, gI_l, gI_n, ar_t, ar_f, it_t, it_f, true_and, and_true, not_true_eq_false, not_false_eq_true, implies_true, and_self, eq_self, k1, e]
        · simp (disch := omega) only [ln_, leT, leF, ltT, ltF, eqT, eqF, vpT, nlT, nleT, lnF, lenF, eqnF, neqF, nnF, nI_add, pk_mul, pk_div, pk_sub, ni_m, nI_clamp, md10, dm10, gI_l, gI_n, ar_t, ar_f, it_t, it_f, true_and, and_true, not_true_eq_false, not_false_eq_true, implies_true, and_self, eq_self, k1, e]
      · unfold p_X0_makesAtOnce_47
        simp (disch := omega) only [ln_, leT, leF, ltT, ltF, eqT, eqF, vpT, nlT, nleT, lnF, lenF, eqnF, neqF, nnF, nI_add, pk_mul, pk_div, pk_sub, ni_m, nI_clamp, md10, dm10, gI_l, gI_n, ar_t, ar_f, it_t, it_f, true_and, and_true, not_true_eq_false, not_false_eq_true, implies_true, and_self, eq_self, k1]
    · intro f w s0 hw hs ih
      have k1 : s0 t 1 = nI nw := by rw [hs.2 t ht56]; exact h1
      have hlw := hl w hw
      have hb := bitN (S := S) (k := w) (by omega) (by omega)
      have hbl := bt_lt S w
      unfold p_X0_makesAtOnce_47 f_X0_makesAtOnce_47
      by_cases e : bt S w = 1
      · obtain ⟨s2, e2, p2, k2, r2⟩ := c_putBack (l := l) (T := T) (cc := fun u => cst wd S nw u - cst wd S (w + 1) u) hfu (hW w hw) (s := s0) (fun u hu => by
          rw [hs.1 u hu]
          congr 2
          have := cst_mono (wd := wd) (S := S) (u := u) (w := w + 1) (n := nw) (by omega)
          rw [cst_t e] at this ⊢
          omega)
        simp (disch := omega) only [ln_, leT, leF, ltT, ltF, eqT, eqF, vpT, nlT, nleT, lnF, lenF, eqnF, neqF, nnF, nI_add, pk_mul, pk_div, pk_sub, ni_m, nI_clamp, md10, dm10, gI_l, gI_n, ar_t, ar_f, it_t, it_f, true_and, and_true, not_true_eq_false, not_false_eq_true, implies_true, and_self, eq_self, k1, hb, hlw, e2, p2]
        exact ih _ ⟨k2, fun q hq => by rw [r2 q hq]; exact hs.2 q hq⟩
      · simp (disch := omega) only [ln_, leT, leF, ltT, ltF, eqT, eqF, vpT, nlT, nleT, lnF, lenF, eqnF, neqF, nnF, nI_add, pk_mul, pk_div, pk_sub, ni_m, nI_clamp, md10, dm10, gI_l, gI_n, ar_t, ar_f, it_t, it_f, true_and, and_true, not_true_eq_false, not_false_eq_true, implies_true, and_self, eq_self, k1, hb]
        exact ih _ ⟨fun u hu => by rw [cst_f e]; exact hs.1 u hu, hs.2⟩
  refine loop_i (fun f w (z : Int32 × fl_I) => ∃ s', f_X0_makesAtOnce_5 fu f (nI S) z.1 (nI w) t z.2 l = (if R = 0 then nI 1 else nI 0, s', l) ∧ p_X0_makesAtOnce_5 fu f (nI S) z.1 (nI w) t z.2 l ∧ (∀ u, u < 32 → s' 56 u = nI (T u)) ∧ ∀ q, q ≠ 56 → s' q = s q) (fun w z => z.1 = nI (sm (fun u => cst wd S w u - T u) 27) ∧ (∀ u, u < 32 → z.2 56 u = nI (T u) - nI (cst wd S w u)) ∧ ∀ q, q ≠ 56 → z.2 q = s q) nw ?_ ?_ fu 0 (nI 0, s) (Nat.zero_le _) (by omega) ⟨?_, fun u hu => by dsimp only; rw [show cst wd S 0 u = 0 from rfl, z0]; exact hT0 u hu, fun _ _ => rfl⟩
  · intro f z hz
    obtain ⟨r, s0⟩ := z
    obtain ⟨z1, z2, z3⟩ := hz
    dsimp only at z1 z2 z3 ⊢
    have k1 : s0 t 1 = nI nw := by rw [z3 t ht56]; exact h1
    obtain ⟨s2, e2, p2, k2⟩ := second s0 z2 z3
    rw [hR] at z1
    refine ⟨s2, ?_, ?_, k2⟩
    · unfold f_X0_makesAtOnce_5
      simp (disch := omega) only [ln_, leT, leF, ltT, ltF, eqT, eqF, vpT, nlT, nleT, lnF, lenF, eqnF, neqF, nnF, nI_add, pk_mul, pk_div, pk_sub, ni_m, nI_clamp, md10, dm10, gI_l, gI_n, ar_t, ar_f, it_t, it_f, true_and, and_true, not_true_eq_false, not_false_eq_true, implies_true, and_self, eq_self, k1, z1, e2]
    · unfold p_X0_makesAtOnce_5
      simp (disch := omega) only [ln_, leT, leF, ltT, ltF, eqT, eqF, vpT, nlT, nleT, lnF, lenF, eqnF, neqF, nnF, nI_add, pk_mul, pk_div, pk_sub, ni_m, nI_clamp, md10, dm10, gI_l, gI_n, ar_t, ar_f, it_t, it_f, true_and, and_true, not_true_eq_false, not_false_eq_true, implies_true, and_self, eq_self, k1, z1, p2]
  · intro f w z hw hz ih
    replace ih := fun x s' => ih (x, s')
    dsimp only at ih
    obtain ⟨r, s0⟩ := z
    obtain ⟨z1, z2, z3⟩ := hz
    dsimp only at z1 z2 z3 ⊢
    have k1 : s0 t 1 = nI nw := by rw [z3 t ht56]; exact h1
    have hlw := hl w hw
    have hb := bitN (S := S) (k := w) (by omega) (by omega)
    have hbl := bt_lt S w
    unfold p_X0_makesAtOnce_5 f_X0_makesAtOnce_5
    by_cases e : bt S w = 1
    · obtain ⟨s2, e2, p2, k2, r2⟩ := c_takeOut (l := l) (T := T) (cc := cst wd S w) (s := s0) hfu (hW w hw) z2 (fun u hu => ⟨hTb u hu, by have := hcb w (by omega) u; omega⟩)
      simp (disch := omega) only [ln_, leF, eqT, vpT, nI_clamp, nI_add, ar_t, ar_f, it_t, it_f, true_and, and_true, not_true_eq_false, not_false_eq_true, implies_true, and_self, eq_self, k1, hb, hlw, e2, p2, z1]
      exact ih _ _ ⟨by rw [ms_step (hW w hw) e], fun u hu => by rw [k2 u hu, cst_t e], fun q hq => by rw [r2 q hq]; exact z3 q hq⟩
    · simp (disch := omega) only [ln_, leF, eqF, vpT, nI_clamp, nI_add, ar_t, ar_f, it_t, it_f, true_and, and_true, not_true_eq_false, not_false_eq_true, implies_true, and_self, eq_self, k1, hb]
      exact ih _ _ ⟨by rw [z1]; exact congrArg nI (sm_congr (fun u _ => by rw [cst_f e])), fun u hu => by rw [cst_f e]; exact z2 u hu, z3⟩
  · show nI 0 = nI (sm (fun u => 0 - T u) 27)
    rw [sm_0.mpr (fun u _ => by omega)]
theorem r_areMade (hfu : 20000 ≤ fu) (hlv : lv ≤ 1) (h18 : s 60 18 = nI lv) (h72 : s 72 lv = nI nw) (hl : ∀ w, w < nw → l 73 (8 * lv + w) = lN (p27 (wd w).reverse)) (hnw : nw ≤ 8) (hW : ∀ w, w < nw → okW (wd w)) (hT0 : ∀ u, u < 27 → s 102 u = nI (T u)) (hTb : ∀ u, u < 27 → T u ≤ 1000) (hS : S < 256) : p_X12_areMade fu (nI S) s l ∧ f_X12_areMade fu (nI S) s l = if sm (fun u => cst wd S nw u - T u) 27 = 0 then nI 1 else nI 0 := by
  have hcb := fun n (hn : n ≤ nw) u => cst_b (S := S) (u := u) hW hn hnw
  refine loop_i (fun f u (_ : Unit) => p_X12_areMade_2 fu f (nI S) (nI u) s l ∧ f_X12_areMade_2 fu f (nI S) (nI u) s l = if sm (fun u => cst wd S nw u - T u) 27 = 0 then nI 1 else nI 0) (fun u _ => ∀ j, j < u → cst wd S nw j - T j = 0) 27 ?_ ?_ fu 1 () (by omega) (by omega) ?_
  · intro f _ hI
    have h0 := sm_0.mpr hI
    unfold p_X12_areMade_2 f_X12_areMade_2
    simp (disch := omega) only [ln_, leT, leF, ltT, ltF, eqT, eqF, vpT, nlT, nleT, lnF, lenF, eqnF, neqF, nnF, nI_add, pk_mul, pk_div, pk_sub, ni_m, nI_clamp, md10, dm10, gI_l, gI_n, ar_t, ar_f, it_t, it_f, true_and, and_true, not_true_eq_false, not_false_eq_true, implies_true, and_self, eq_self, h0]
  · intro f u _ hu hI ih
    have L13 := loop_i (fun f2 w r => (f_X12_areMade_13 fu (fun x1 x2 => f_X12_areMade_2 fu f x1 x2 s l) f2 (nI S) (nI u) r (nI w) s l = if cst wd S nw u ≤ T u then f_X12_areMade_2 fu f (nI S) (nI (u + 1)) s l else nI 0) ∧ ((cst wd S nw u ≤ T u → p_X12_areMade_2 fu f (nI S) (nI (u + 1)) s l) → p_X12_areMade_13 fu (fun x1 x2 => p_X12_areMade_2 fu f x1 x2 s l) f2 (nI S) (nI u) r (nI w) s l)) (fun w r => r = nI (cst wd S w u)) nw ?_ ?_ fu 0 (nI 0) (Nat.zero_le _) (by omega) rfl
    · by_cases e : cst wd S nw u ≤ T u
      · rw [if_pos e] at L13
        have hi := ih () (fun j hj => by
          by_cases e2 : j = u
          · subst e2; omega
          · exact hI j (by omega))
        have hp := L13.2 (fun _ => hi.1)
        unfold p_X12_areMade_2 f_X12_areMade_2
        simp (disch := omega) only [ln_, leF, ar_t, ar_f, it_t, it_f, true_and, and_true, not_true_eq_false, not_false_eq_true, implies_true, and_self, eq_self, L13.1, hp]
        exact hi.2
      · rw [if_neg e] at L13
        have hp := L13.2 (fun h => absurd h e)
        have hne : ¬ sm (fun u => cst wd S nw u - T u) 27 = 0 := fun h => by have := sm_0.mp h u hu; omega
        unfold p_X12_areMade_2 f_X12_areMade_2
        simp (disch := omega) only [ln_, leF, ar_t, ar_f, it_t, it_f, true_and, and_true, not_true_eq_false, not_false_eq_true, implies_true, and_self, eq_self, L13.1, hp, hne]
    · intro f2 r hr
      have h102 := hT0 u hu
      have hb := hTb u hu
      have hc := hcb nw (Nat.le_refl _) u
      unfold p_X12_areMade_13 f_X12_areMade_13
      by_cases e : cst wd S nw u ≤ T u
      · simp (disch := omega) only [ln_, leT, leF, ltT, ltF, eqT, eqF, vpT, nlT, nleT, lnF, lenF, eqnF, neqF, nnF, nI_add, pk_mul, pk_div, pk_sub, ni_m, nI_clamp, md10, dm10, gI_l, gI_n, ar_t, ar_f, it_t, it_f, true_and, and_true, not_true_eq_false, not_false_eq_true, implies_true, and_self, eq_self, h18, h72, hr, h102, e]
        exact fun h => h
      · simp (disch := omega) only [ln_, leT, leF, ltT, ltF, eqT, eqF, vpT, nlT, nleT, lnF, lenF, eqnF, neqF, nnF, nI_add, pk_mul, pk_div, pk_sub, ni_m, nI_clamp, md10, dm10, gI_l, gI_n, ar_t, ar_f, it_t, it_f, true_and, and_true, not_true_eq_false, not_false_eq_true, implies_true, and_self, eq_self, h18, h72, hr, h102, e]
    · intro f2 w r hw hr ih2
      have hwd := r_word (fu := fu) (l := l) hlv h18 hl hnw hw
      have ht := r_times (fu := fu) (v := u) hfu (hW w hw) (by omega)
      have hb := bitN (S := S) (k := w) (by omega) (by omega)
      have hbl := bt_lt S w
      unfold p_X12_areMade_13 f_X12_areMade_13
      by_cases e : bt S w = 1
      · simp (disch := omega) only [ln_, leF, eqT, vpT, nI_clamp, nI_add, ar_t, ar_f, it_t, it_f, true_and, and_true, not_true_eq_false, not_false_eq_true, implies_true, and_self, eq_self, h18, h72, hb, hwd, ht, hr]
        exact ih2 _ (by rw [cst_t e])
      · simp (disch := omega) only [ln_, leF, eqF, vpT, nI_clamp, nI_add, ar_t, ar_f, it_t, it_f, true_and, and_true, not_true_eq_false, not_false_eq_true, implies_true, and_self, eq_self, h18, h72, hb]
        exact ih2 _ (by rw [hr, cst_f e])
  · intro j hj
    have : j = 0 := by omega
    subst this
    have : cst wd S nw 0 = 0 := by
      unfold cst
      exact sm_0.mpr (fun w hw => by split; exact cnt0 (hW w hw); rfl)
    rw [this]; omega
/-- the best set so far -/
def tgb (ok : Nat → Bool) : Nat → Nat
  | 0 => 0
  | S + 1 => if ok S = true ∧ pc (tgb ok S) 10 < pc S 10 then S else tgb ok S
theorem tgb_lt (ok : Nat → Bool) (S : Nat) : tgb ok S ≤ S - 1 := by
  induction S with
  | zero => exact Nat.le_refl _
  | succ S ih => show (if _ then S else tgb ok S) ≤ _; split <;> omega
theorem p_bcT : p_J6_bitCount_0f7a4 fu x = True := rfl
theorem m_together (hfu : 20000 ≤ fu) (hD : (if D.2.2.1 then 20 else 9) = t) (cv : CV fu t P np nl nw ht sg lo wd wx wy rn sd LW Y s l) (rv : RV fu lv P np nl nw ht sg lo wd wx wy rn sd LW Y s l) : Qy s l (f_X11_together fu x D s l) (p_X11_together fu x D s l) (f_X12_together fu x) (p_X12_together fu x) := by
  have cv0 := cv
  obtain ⟨ht0, hTx, hL, hC, yc, yw, tb⟩ := cv
  have hP := yw.1
  have hnw := tb.2.2.2.1
  have hW := tb.2.2.2.2.2.2.1
  unfold f_X11_together p_X11_together f_X12_together p_X12_together f_X12_in
  rw [hD]
  rcases ag3 x 0 1 (by omega) (by omega) with h | ⟨h1, h2, h3⟩ | ⟨j, _, hj, rfl⟩
  · refine Qy_mk (-nI 1) s s ?_ ?_ cS_rfl (fun _ _ => rfl) ?_ ?_ rS_rfl <;> simp (disch := omega) only [ln_, leT, leF, ltT, ltF, eqT, eqF, vpT, nlT, nleT, lnF, lenF, eqnF, neqF, nnF, nI_add, pk_mul, pk_div, pk_sub, ni_m, nI_clamp, md10, dm10, gI_l, gI_n, ar_t, ar_f, it_t, it_f, true_and, and_true, not_true_eq_false, not_false_eq_true, implies_true, and_self, eq_self, h, p_inT]
  · refine Qy_mk (-nI 1) s s ?_ ?_ cS_rfl (fun _ _ => rfl) ?_ ?_ rS_rfl <;> simp (disch := omega) only [ln_, leT, leF, ltT, ltF, eqT, eqF, vpT, nlT, nleT, lnF, lenF, eqnF, neqF, nnF, nI_add, pk_mul, pk_div, pk_sub, ni_m, nI_clamp, md10, dm10, gI_l, gI_n, ar_t, ar_f, it_t, it_f, true_and, and_true, not_true_eq_false, not_false_eq_true, implies_true, and_self, eq_self, h1, h2, h3, p_inT]
  · obtain ⟨s1, e1, p1, k1, r1⟩ := c_heap (h := 5) hfu cv0 (by omega)
    have hp := Nat.two_pow_pos nw
    have hp8 : 2 ^ nw ≤ 2 ^ 8 := Nat.pow_le_pow_right (by omega) (by omega)
    have hon := one_n (k := nw) (by omega)
    have hTb : ∀ u, hT sg Y 5 P u ≤ 1000 := fun u => hT_le hP
    generalize hT sg Y 5 P = T at k1 hTb
    generalize hok : (fun S => decide (sm (fun u => cst wd S nw u - T u) 27 = 0)) = ok
    have hokS : ∀ S, ok S = decide (sm (fun u => cst wd S nw u - T u) 27 = 0) := fun S => by rw [← hok]
    have hstep : ∀ S, tgb ok (S + 1) = if ok S = true ∧ pc (tgb ok S) 10 < pc S 10 then S else tgb ok S := fun _ => rfl
    have hpc : ∀ S, pc S 10 ≤ 10 := fun S => pc_le S 10
    have A := loop_i (fun f S (z : Int32 × fl_I) => ∃ s', f_X0_mostAtOnce_4 fu f z.1 (nI S) t z.2 l = (nI (tgb ok (2 ^ nw)), s', l) ∧ p_X0_mostAtOnce_4 fu f z.1 (nI S) t z.2 l ∧ ∀ q, q ≠ 56 → s' q = s q) (fun S z => z.1 = nI (tgb ok S) ∧ (∀ u, u < 32 → z.2 56 u = nI (T u)) ∧ ∀ q, q ≠ 56 → z.2 q = s q) (2 ^ nw) ?_ ?_ fu 1 (nI 0, s1) (by omega) (by omega) ⟨?_, k1, r1⟩
    · obtain ⟨s2, e2, p2, r2⟩ := A
      dsimp only at e2 p2
      have rv2 := RV_S (cS_V (cS_56 r2)) rv
      obtain ⟨s3, e3, p3, k3, r3⟩ := r_heap (h := 5) hfu rv2 (by omega)
      obtain ⟨rt, rx, _⟩ := RV_S (rS_V (rS_102 r3)) rv2
      have hlv := rt.1
      have h18 := rt.2.1
      have h72 := rx.2.1
      have hTe : ∀ u, u < 27 → s3 102 u = nI (T u) := by
        intro u hu
        have a1 := k3 u hu
        have a2 := k1 u (by omega)
        rw [a1]
        obtain ⟨s1', e1', _, k1', _⟩ := c_heap (h := 5) (l := l) hfu cv0 (by omega)
        rw [e1] at e1'
        have : s1 = s1' := congrArg Prod.fst e1'
        rw [← k1' u (by omega), ← this, a2]
      have tl := tgb_lt ok (2 ^ nw)
      have bcn := bc_n (fu := fu) (S := tgb ok (2 ^ nw)) (by omega)
      have bbn := bits_n (fu := fu) (S := tgb ok (2 ^ nw)) hfu (by omega)
      have B := loop_i (fun f S (z : Int32) => f_X12_together_20 fu f (nI j) z (nI S) s3 l = (if j = 0 then nI (pc (tgb ok (2 ^ nw)) 10) else nI (tgb ok (2 ^ nw)), s3, l) ∧ p_X12_together_20 fu f (nI j) z (nI S) s3 l) (fun S z => z = nI (tgb ok S)) (2 ^ nw) ?_ ?_ fu 1 (nI 0) (by omega) (by omega) ?_
      · have hj : j = 0 ∨ j = 1 := by omega
        rcases hj with rfl | rfl
        · refine Qy_mk (nI (pc (tgb ok (2 ^ nw)) 10)) s2 s3 ?_ ?_ (cS_56 r2) (fun q hq => r2 q (by omega)) ?_ ?_ (rS_102 r3)
          · simp (disch := omega) only [ln_, leT, leF, ltT, ltF, eqT, eqF, vpT, nlT, nleT, lnF, lenF, eqnF, neqF, nnF, nI_add, pk_mul, pk_div, pk_sub, ni_m, nI_clamp, md10, dm10, gI_l, gI_n, ar_t, ar_f, it_t, it_f, true_and, and_true, not_true_eq_false, not_false_eq_true, implies_true, and_self, eq_self, e1, f_X0_mostAtOnce, e2, bcn]
          · simp (disch := omega) only [ln_, leT, leF, ltT, ltF, eqT, eqF, vpT, nlT, nleT, lnF, lenF, eqnF, neqF, nnF, nI_add, pk_mul, pk_div, pk_sub, ni_m, nI_clamp, md10, dm10, gI_l, gI_n, ar_t, ar_f, it_t, it_f, true_and, and_true, not_true_eq_false, not_false_eq_true, implies_true, and_self, eq_self, e1, p1, f_X0_mostAtOnce, p_X0_mostAtOnce, e2, p2, p_bcT]
          · simp (disch := omega) only [ln_, leT, leF, ltT, ltF, eqT, eqF, vpT, nlT, nleT, lnF, lenF, eqnF, neqF, nnF, nI_add, pk_mul, pk_div, pk_sub, ni_m, nI_clamp, md10, dm10, gI_l, gI_n, ar_t, ar_f, it_t, it_f, true_and, and_true, not_true_eq_false, not_false_eq_true, implies_true, and_self, eq_self, e3]; exact B.1
          · simp (disch := omega) only [ln_, leT, leF, ltT, ltF, eqT, eqF, vpT, nlT, nleT, lnF, lenF, eqnF, neqF, nnF, nI_add, pk_mul, pk_div, pk_sub, ni_m, nI_clamp, md10, dm10, gI_l, gI_n, ar_t, ar_f, it_t, it_f, true_and, and_true, not_true_eq_false, not_false_eq_true, implies_true, and_self, eq_self, e3, p3, p_inT]; exact B.2
        · refine Qy_mk (nI (tgb ok (2 ^ nw))) s2 s3 ?_ ?_ (cS_56 r2) (fun q hq => r2 q (by omega)) ?_ ?_ (rS_102 r3)
          · simp (disch := omega) only [ln_, leT, leF, ltT, ltF, eqT, eqF, vpT, nlT, nleT, lnF, lenF, eqnF, neqF, nnF, nI_add, pk_mul, pk_div, pk_sub, ni_m, nI_clamp, md10, dm10, gI_l, gI_n, ar_t, ar_f, it_t, it_f, true_and, and_true, not_true_eq_false, not_false_eq_true, implies_true, and_self, eq_self, e1, f_X0_mostAtOnce, e2]
          · simp (disch := omega) only [ln_, leT, leF, ltT, ltF, eqT, eqF, vpT, nlT, nleT, lnF, lenF, eqnF, neqF, nnF, nI_add, pk_mul, pk_div, pk_sub, ni_m, nI_clamp, md10, dm10, gI_l, gI_n, ar_t, ar_f, it_t, it_f, true_and, and_true, not_true_eq_false, not_false_eq_true, implies_true, and_self, eq_self, e1, p1, f_X0_mostAtOnce, p_X0_mostAtOnce, e2, p2]
          · simp (disch := omega) only [ln_, leT, leF, ltT, ltF, eqT, eqF, vpT, nlT, nleT, lnF, lenF, eqnF, neqF, nnF, nI_add, pk_mul, pk_div, pk_sub, ni_m, nI_clamp, md10, dm10, gI_l, gI_n, ar_t, ar_f, it_t, it_f, true_and, and_true, not_true_eq_false, not_false_eq_true, implies_true, and_self, eq_self, e3]; exact B.1
          · simp (disch := omega) only [ln_, leT, leF, ltT, ltF, eqT, eqF, vpT, nlT, nleT, lnF, lenF, eqnF, neqF, nnF, nI_add, pk_mul, pk_div, pk_sub, ni_m, nI_clamp, md10, dm10, gI_l, gI_n, ar_t, ar_f, it_t, it_f, true_and, and_true, not_true_eq_false, not_false_eq_true, implies_true, and_self, eq_self, e3, p3, p_inT]; exact B.2
      · intro f z hz
        unfold p_X12_together_20 f_X12_together_20
        by_cases e : j = 0
        · subst e; simp (disch := omega) only [ln_, leT, leF, ltT, ltF, eqT, eqF, vpT, nlT, nleT, lnF, lenF, eqnF, neqF, nnF, nI_add, pk_mul, pk_div, pk_sub, ni_m, nI_clamp, md10, dm10, gI_l, gI_n, ar_t, ar_f, it_t, it_f, true_and, and_true, not_true_eq_false, not_false_eq_true, implies_true, and_self, eq_self, h18, h72, hon, hz, bbn]
        · simp (disch := omega) only [ln_, leT, leF, ltT, ltF, eqT, eqF, vpT, nlT, nleT, lnF, lenF, eqnF, neqF, nnF, nI_add, pk_mul, pk_div, pk_sub, ni_m, nI_clamp, md10, dm10, gI_l, gI_n, ar_t, ar_f, it_t, it_f, true_and, and_true, not_true_eq_false, not_false_eq_true, implies_true, and_self, eq_self, h18, h72, hon, hz, e]
      · intro f S z hS hz ih
        have tl := tgb_lt ok S
        have b1 := bits_n (fu := fu) (S := S) hfu (by omega)
        have b2 := bits_n (fu := fu) (S := tgb ok S) hfu (by omega)
        have q1 := hpc S
        have q2 := hpc (tgb ok S)
        have hst := hstep S
        have hm := r_areMade (l := l) (S := S) hfu hlv h18 h72 rx.2.2.2 hnw hW hTe (fun u _ => hTb u) (by omega)
        unfold p_X12_together_20 f_X12_together_20
        by_cases e : pc (tgb ok S) 10 < pc S 10
        · by_cases e2 : sm (fun u => cst wd S nw u - T u) 27 = 0
          · rw [if_pos e2] at hm
            rw [if_pos ⟨by rw [hokS]; simp [e2], e⟩] at hst
            simp (disch := omega) only [ln_, leT, leF, ltT, ltF, eqT, eqF, vpT, nlT, nleT, lnF, lenF, eqnF, neqF, nnF, nI_add, pk_mul, pk_div, pk_sub, ni_m, nI_clamp, md10, dm10, gI_l, gI_n, ar_t, ar_f, it_t, it_f, true_and, and_true, not_true_eq_false, not_false_eq_true, implies_true, and_self, eq_self, h18, h72, hon, hz, b1, b2, hm]
            exact ih _ (by rw [hst])
          · rw [if_neg e2] at hm
            rw [if_neg (fun h => by rw [hokS] at h; simp [e2] at h)] at hst
            simp (disch := omega) only [ln_, leT, leF, ltT, ltF, eqT, eqF, vpT, nlT, nleT, lnF, lenF, eqnF, neqF, nnF, nI_add, pk_mul, pk_div, pk_sub, ni_m, nI_clamp, md10, dm10, gI_l, gI_n, ar_t, ar_f, it_t, it_f, true_and, and_true, not_true_eq_false, not_false_eq_true, implies_true, and_self, eq_self, h18, h72, hon, hz, b1, b2, hm]
            exact ih _ (by rw [hst])
        · rw [if_neg (fun h => e h.2)] at hst
          simp (disch := omega) only [ln_, leT, leF, ltT, ltF, eqT, eqF, vpT, nlT, nleT, lnF, lenF, eqnF, neqF, nnF, nI_add, pk_mul, pk_div, pk_sub, ni_m, nI_clamp, md10, dm10, gI_l, gI_n, ar_t, ar_f, it_t, it_f, true_and, and_true, not_true_eq_false, not_false_eq_true, implies_true, and_self, eq_self, h18, h72, hon, hz, b1, b2]
          exact ih _ (by rw [hst])
      · show nI 0 = nI (if _ then 0 else 0); split <;> rfl
    · intro f z hz
      obtain ⟨r, s0⟩ := z
      obtain ⟨z1, z2, z3⟩ := hz
      dsimp only at z1 z2 z3 ⊢
      have h1t : s0 t 1 = nI nw := by rw [z3 t (by omega)]; exact hTx.1.2.1
      refine ⟨s0, ?_, ?_, z3⟩
      · unfold f_X0_mostAtOnce_4
        simp (disch := omega) only [ln_, leT, leF, ltT, ltF, eqT, eqF, vpT, nlT, nleT, lnF, lenF, eqnF, neqF, nnF, nI_add, pk_mul, pk_div, pk_sub, ni_m, nI_clamp, md10, dm10, gI_l, gI_n, ar_t, ar_f, it_t, it_f, true_and, and_true, not_true_eq_false, not_false_eq_true, implies_true, and_self, eq_self, h1t, hon, z1]
      · unfold p_X0_mostAtOnce_4
        simp (disch := omega) only [ln_, leT, leF, ltT, ltF, eqT, eqF, vpT, nlT, nleT, lnF, lenF, eqnF, neqF, nnF, nI_add, pk_mul, pk_div, pk_sub, ni_m, nI_clamp, md10, dm10, gI_l, gI_n, ar_t, ar_f, it_t, it_f, true_and, and_true, not_true_eq_false, not_false_eq_true, implies_true, and_self, eq_self, h1t, hon]
    · intro f S z hS hz ih
      replace ih := fun x s' => ih (x, s')
      dsimp only at ih
      obtain ⟨r, s0⟩ := z
      obtain ⟨z1, z2, z3⟩ := hz
      dsimp only at z1 z2 z3 ⊢
      have h1t : s0 t 1 = nI nw := by rw [z3 t (by omega)]; exact hTx.1.2.1
      have tl := tgb_lt ok S
      have b1 := bc_n (fu := fu) (S := S) (by omega)
      have b2 := bc_n (fu := fu) (S := tgb ok S) (by omega)
      have q1 := hpc S
      have q2 := hpc (tgb ok S)
      have hst := hstep S
      obtain ⟨s2, e2, p2, k2, r2⟩ := c_once (l := l) (nw := nw) (wd := wd) (t := t) (S := S) (s := s0) hfu h1t (by omega) hTx.2.2.2.2 hnw hW z2 (fun u _ => hTb u) (by omega)
      unfold p_X0_mostAtOnce_4 f_X0_mostAtOnce_4
      by_cases e : pc (tgb ok S) 10 < pc S 10
      · by_cases e3 : sm (fun u => cst wd S nw u - T u) 27 = 0
        · rw [if_pos e3] at e2
          rw [if_pos ⟨by rw [hokS]; simp [e3], e⟩] at hst
          simp (disch := omega) only [ln_, leT, leF, ltT, ltF, eqT, eqF, vpT, nlT, nleT, lnF, lenF, eqnF, neqF, nnF, nI_add, pk_mul, pk_div, pk_sub, ni_m, nI_clamp, md10, dm10, gI_l, gI_n, ar_t, ar_f, it_t, it_f, true_and, and_true, not_true_eq_false, not_false_eq_true, implies_true, and_self, eq_self, h1t, hon, z1, b1, b2, p_bcT, e2, p2]
          exact ih _ _ ⟨by rw [hst], k2, fun q hq => by rw [r2 q hq]; exact z3 q hq⟩
        · rw [if_neg e3] at e2
          rw [if_neg (fun h => by rw [hokS] at h; simp [e3] at h)] at hst
          simp (disch := omega) only [ln_, leT, leF, ltT, ltF, eqT, eqF, vpT, nlT, nleT, lnF, lenF, eqnF, neqF, nnF, nI_add, pk_mul, pk_div, pk_sub, ni_m, nI_clamp, md10, dm10, gI_l, gI_n, ar_t, ar_f, it_t, it_f, true_and, and_true, not_true_eq_false, not_false_eq_true, implies_true, and_self, eq_self, h1t, hon, z1, b1, b2, p_bcT, e2, p2]
          exact ih _ _ ⟨by rw [hst], k2, fun q hq => by rw [r2 q hq]; exact z3 q hq⟩
      · rw [if_neg (fun h => e h.2)] at hst
        simp (disch := omega) only [ln_, leT, leF, ltT, ltF, eqT, eqF, vpT, nlT, nleT, lnF, lenF, eqnF, neqF, nnF, nI_add, pk_mul, pk_div, pk_sub, ni_m, nI_clamp, md10, dm10, gI_l, gI_n, ar_t, ar_f, it_t, it_f, true_and, and_true, not_true_eq_false, not_false_eq_true, implies_true, and_self, eq_self, h1t, hon, z1, b1, b2, p_bcT]
        exact ih _ _ ⟨by rw [hst], z2, z3⟩
    · show nI 0 = nI (if _ then 0 else 0); split <;> rfl
end tog
