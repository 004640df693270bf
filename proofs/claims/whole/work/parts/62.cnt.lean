/-! Counts -/
def oA (f : Nat → Bool) : Nat → Int32
  | 0 => nI 0
  | n + 1 => if f n = true then oA f n ||| (nI 1 <<< (nI n &&& nI 31)) else oA f n
theorem oA_t {f : Nat → Bool} {n : Nat} (h : f n = true) : oA f (n + 1) = oA f n ||| (nI 1 <<< (nI n &&& nI 31)) := by show (if f n = true then _ else _) = _; rw [if_pos h]
theorem oA_f {f : Nat → Bool} {n : Nat} (h : f n = false) : oA f (n + 1) = oA f n := by show (if f n = true then _ else _) = _; rw [h]; rfl
def aA (f : Nat → Nat) : Nat → Int32
  | 0 => nI 0
  | n + 1 => aA f n + nI (f n)
theorem hm_pc : ∀ a : Fin 8, nI (pc a.1 10) = nI (bt a.1 0 + bt a.1 1 + bt a.1 2) := by decide +kernel
section cou
variable {fu t lv P np nl nw : Nat} {ht sg lo : Nat → Nat} {wd : Nat → List Nat} {wx wy rn sd : Int32} {LW : Lw} {Y : Yd} {s s1 s2 : fl_I} {l : fl_L} {D : fl_D} {u hm nt nb : Nat} {hs hy : Nat → Yd} {tl : Nat → Nat} {th : Nat → Bool} {D1 : fl_D} {a i b c q k n g m : Nat} {x y z v w : Int32} {Z : Yd}
theorem c_goals (hfu : 20000 ≤ fu) (yc : yC P np Y 31 s) (yw : YW P np ht Y) : p_X11_pickersWithGoal fu s l ∧ f_X11_pickersWithGoal fu s l = oA (fun b => decide (Y.2.2.2.2 b < 80)) np := by
  have hn := yw.2.1
  have h2 := yc.2.2.1
  refine loop_i (fun f i r => p_X11_pickersWithGoal_4 fu f r (nI i) s l ∧ f_X11_pickersWithGoal_4 fu f r (nI i) s l = oA (fun b => decide (Y.2.2.2.2 b < 80)) np) (fun i r => r = oA (fun b => decide (Y.2.2.2.2 b < 80)) i) np ?_ ?_ fu 0 (nI 0) (Nat.zero_le _) (by omega) rfl
  · intro f r hr
    unfold p_X11_pickersWithGoal_4 f_X11_pickersWithGoal_4
    simp (disch := omega) only [ln_, leT, leF, ltT, ltF, eqT, eqF, vpT, nlT, nleT, lnF, lenF, eqnF, neqF, nnF, nI_add, pk_mul, pk_div, pk_sub, ni_m, nI_clamp, md10, dm10, gI_l, gI_n, ar_t, ar_f, it_t, it_f, true_and, and_true, not_true_eq_false, not_false_eq_true, implies_true, and_self, eq_self, h2, hr]
  · intro f i r hi hr ih
    have a4 : s 35 i = gI (Y.2.2.2.2 i) := (yc.2.2.2.2 i hi).2.1
    have hw := (yw.2.2.2 i hi).2.1
    unfold p_X11_pickersWithGoal_4 f_X11_pickersWithGoal_4
    by_cases e : Y.2.2.2.2 i < 80
    · simp (disch := omega) only [ln_, leT, leF, ltT, ltF, eqT, eqF, vpT, nlT, nleT, lnF, lenF, eqnF, neqF, nnF, nI_add, pk_mul, pk_div, pk_sub, ni_m, nI_clamp, md10, dm10, gI_l, gI_n, ar_t, ar_f, it_t, it_f, true_and, and_true, not_true_eq_false, not_false_eq_true, implies_true, and_self, eq_self, h2, a4]
      exact ih _ (by rw [hr, oA_t (decide_eq_true e)])
    · simp (disch := omega) only [ln_, leT, leF, ltT, ltF, eqT, eqF, vpT, nlT, nleT, lnF, lenF, eqnF, neqF, nnF, nI_add, pk_mul, pk_div, pk_sub, ni_m, nI_clamp, md10, dm10, gI_l, gI_n, ar_t, ar_f, it_t, it_f, true_and, and_true, not_true_eq_false, not_false_eq_true, implies_true, and_self, eq_self, h2, a4]
      exact ih _ (by rw [hr, oA_f (decide_eq_false e)])
theorem r_goals (hfu : 20000 ≤ fu) (r : rT lv P np ht sg wx wy rn sd s) (yf : YF P np Y (s 95)) (yw : YW P np ht Y) : p_X12_count_246 fu fu (nI 0) (nI 0) s l ∧ f_X12_count_246 fu fu (nI 0) (nI 0) s l = (oA (fun b => decide (Y.2.2.2.2 b < 80)) np, s, l) := by
  have hn := yw.2.1
  have h18 := r.2.1
  have hlv := r.1
  have h74 := r.2.2.2.1
  refine loop_i (fun f i r => p_X12_count_246 fu f r (nI i) s l ∧ f_X12_count_246 fu f r (nI i) s l = (oA (fun b => decide (Y.2.2.2.2 b < 80)) np, s, l)) (fun i r => r = oA (fun b => decide (Y.2.2.2.2 b < 80)) i) np ?_ ?_ fu 0 (nI 0) (Nat.zero_le _) (by omega) rfl
  · intro f r hr
    unfold p_X12_count_246 f_X12_count_246
    simp (disch := omega) only [ln_, leT, leF, ltT, ltF, eqT, eqF, vpT, nlT, nleT, lnF, lenF, eqnF, neqF, nnF, nI_add, pk_mul, pk_div, pk_sub, ni_m, nI_clamp, md10, dm10, gI_l, gI_n, ar_t, ar_f, it_t, it_f, true_and, and_true, not_true_eq_false, not_false_eq_true, implies_true, and_self, eq_self, h18, h74, hr]
  · intro f i r hi hr ih
    have a4 := (yf.2.2 i hi).2.2
    have hw := (yw.2.2.2 i hi).2.1
    unfold p_X12_count_246 f_X12_count_246
    by_cases e : Y.2.2.2.2 i < 80
    · simp (disch := omega) only [ln_, leT, leF, ltT, ltF, eqT, eqF, vpT, nlT, nleT, lnF, lenF, eqnF, neqF, nnF, nI_add, pk_mul, pk_div, pk_sub, ni_m, nI_clamp, md10, dm10, gI_l, gI_n, ar_t, ar_f, it_t, it_f, true_and, and_true, not_true_eq_false, not_false_eq_true, implies_true, and_self, eq_self, h18, h74, a4]
      exact ih _ (by rw [hr, oA_t (decide_eq_true e)])
    · simp (disch := omega) only [ln_, leT, leF, ltT, ltF, eqT, eqF, vpT, nlT, nleT, lnF, lenF, eqnF, neqF, nnF, nI_add, pk_mul, pk_div, pk_sub, ni_m, nI_clamp, md10, dm10, gI_l, gI_n, ar_t, ar_f, it_t, it_f, true_and, and_true, not_true_eq_false, not_false_eq_true, implies_true, and_self, eq_self, h18, h74, a4]
      exact ih _ (by rw [hr, oA_f (decide_eq_false e)])
theorem c_fulls (hfu : 20000 ≤ fu) (hD : (if D.2.2.1 then 20 else 9) = t) (yc : yC P np Y 31 s) (yw : YW P np ht Y) (h8 : ∀ b, b < np → s (t + 8) b = nI (ht b)) : p_X11_pickersWithFullHat fu D s l ∧ f_X11_pickersWithFullHat fu D s l = oA (fun b => decide (cnt Y.2.1 P b = ht b)) np := by
  have hn := yw.2.1
  have h2 := yc.2.2.1
  refine loop_i (fun f i r => p_X11_pickersWithFullHat_4 fu f r (nI i) D s l ∧ f_X11_pickersWithFullHat_4 fu f r (nI i) D s l = oA (fun b => decide (cnt Y.2.1 P b = ht b)) np) (fun i r => r = oA (fun b => decide (cnt Y.2.1 P b = ht b)) i) np ?_ ?_ fu 0 (nI 0) (Nat.zero_le _) (by omega) rfl
  · intro f r hr
    unfold p_X11_pickersWithFullHat_4 f_X11_pickersWithFullHat_4
    simp (disch := omega) only [ln_, leT, leF, ltT, ltF, eqT, eqF, vpT, nlT, nleT, lnF, lenF, eqnF, neqF, nnF, nI_add, pk_mul, pk_div, pk_sub, ni_m, nI_clamp, md10, dm10, gI_l, gI_n, ar_t, ar_f, it_t, it_f, true_and, and_true, not_true_eq_false, not_false_eq_true, implies_true, and_self, eq_self, h2, hr]
  · intro f i r hi hr ih
    have a4 : s 36 i = nI (cnt Y.2.1 P i) := (yc.2.2.2.2 i hi).2.2
    have a8 := h8 i hi
    obtain ⟨w1, w2, w3, w4⟩ := yw.2.2.2 i hi
    unfold p_X11_pickersWithFullHat_4 f_X11_pickersWithFullHat_4
    rw [hD]
    by_cases e : cnt Y.2.1 P i = ht i
    · simp (disch := omega) only [ln_, leT, leF, ltT, ltF, eqT, eqF, vpT, nlT, nleT, lnF, lenF, eqnF, neqF, nnF, nI_add, pk_mul, pk_div, pk_sub, ni_m, nI_clamp, md10, dm10, gI_l, gI_n, ar_t, ar_f, it_t, it_f, true_and, and_true, not_true_eq_false, not_false_eq_true, implies_true, and_self, eq_self, h2, a4, a8]
      exact ih _ (by rw [hr, oA_t (decide_eq_true e)])
    · simp (disch := omega) only [ln_, leT, leF, ltT, ltF, eqT, eqF, vpT, nlT, nleT, lnF, lenF, eqnF, neqF, nnF, nI_add, pk_mul, pk_div, pk_sub, ni_m, nI_clamp, md10, dm10, gI_l, gI_n, ar_t, ar_f, it_t, it_f, true_and, and_true, not_true_eq_false, not_false_eq_true, implies_true, and_self, eq_self, h2, a4, a8]
      exact ih _ (by rw [hr, oA_f (decide_eq_false e)])
theorem r_fulls (hfu : 20000 ≤ fu) (r : rT lv P np ht sg wx wy rn sd s) (yf : YF P np Y (s 95)) (yw : YW P np ht Y) : p_X12_count_288 fu fu (nI 0) (nI 0) s l ∧ f_X12_count_288 fu fu (nI 0) (nI 0) s l = (oA (fun b => decide (cnt Y.2.1 P b = ht b)) np, s, l) := by
  have hn := yw.2.1
  have h18 := r.2.1
  have hlv := r.1
  have h74 := r.2.2.2.1
  refine loop_i (fun f i r => p_X12_count_288 fu f r (nI i) s l ∧ f_X12_count_288 fu f r (nI i) s l = (oA (fun b => decide (cnt Y.2.1 P b = ht b)) np, s, l)) (fun i r => r = oA (fun b => decide (cnt Y.2.1 P b = ht b)) i) np ?_ ?_ fu 0 (nI 0) (Nat.zero_le _) (by omega) rfl
  · intro f r hr
    unfold p_X12_count_288 f_X12_count_288
    simp (disch := omega) only [ln_, leT, leF, ltT, ltF, eqT, eqF, vpT, nlT, nleT, lnF, lenF, eqnF, neqF, nnF, nI_add, pk_mul, pk_div, pk_sub, ni_m, nI_clamp, md10, dm10, gI_l, gI_n, ar_t, ar_f, it_t, it_f, true_and, and_true, not_true_eq_false, not_false_eq_true, implies_true, and_self, eq_self, h18, h74, hr]
  · intro f i r' hi hr ih
    have a4 := r_inHat (fu := fu) (l := l) hfu r.2.2.1 yf yw (show i < 4 by omega)
    have a8 := r.2.2.2.2.1 i hi
    obtain ⟨w1, w2, w3, w4⟩ := yw.2.2.2 i hi
    unfold p_X12_count_288 f_X12_count_288
    by_cases e : cnt Y.2.1 P i = ht i
    · simp (disch := omega) only [ln_, leT, leF, ltT, ltF, eqT, eqF, vpT, nlT, nleT, lnF, lenF, eqnF, neqF, nnF, nI_add, pk_mul, pk_div, pk_sub, ni_m, nI_clamp, md10, dm10, gI_l, gI_n, ar_t, ar_f, it_t, it_f, true_and, and_true, not_true_eq_false, not_false_eq_true, implies_true, and_self, eq_self, h18, h74, a4, a8]
      exact ih _ (by rw [hr, oA_t (decide_eq_true e)])
    · simp (disch := omega) only [ln_, leT, leF, ltT, ltF, eqT, eqF, vpT, nlT, nleT, lnF, lenF, eqnF, neqF, nnF, nI_add, pk_mul, pk_div, pk_sub, ni_m, nI_clamp, md10, dm10, gI_l, gI_n, ar_t, ar_f, it_t, it_f, true_and, and_true, not_true_eq_false, not_false_eq_true, implies_true, and_self, eq_self, h18, h74, a4, a8]
      exact ih _ (by rw [hr, oA_f (decide_eq_false e)])
theorem c_owAll (hfu : 20000 ≤ fu) (hD : (if D.2.2.1 then 20 else 9) = t) (cv : CV fu t P np nl nw ht sg lo wd wx wy rn sd LW Y s l) : ∃ s', f_X11_owedToAll fu D s l = (aA (fun b => sm (fun i => if Y.2.1 i = 80 + b then hdN (LW 2 (vrp sg ht P Y b i)) 99 else 0) P) np, s', l) ∧ p_X11_owedToAll fu D s l ∧ ∀ r, r ≠ 48 → r ≠ 49 → s' r = s r := by
  obtain ⟨ht0, hT, hL, hC, yc, yw, tb⟩ := cv
  have hn := yw.2.1
  generalize hF : (fun b => sm (fun i => if Y.2.1 i = 80 + b then hdN (LW 2 (vrp sg ht P Y b i)) 99 else 0) P) = F
  refine loop_i (fun f i (z : Int32 × fl_I) => ∃ s', f_X11_owedToAll_4 fu f z.1 (nI i) D z.2 l = (aA F np, s', l) ∧ p_X11_owedToAll_4 fu f z.1 (nI i) D z.2 l ∧ ∀ r, r ≠ 48 → r ≠ 49 → s' r = s r) (fun i z => z.1 = aA F i ∧ ∀ r, r ≠ 48 → r ≠ 49 → z.2 r = s r) np ?_ ?_ fu 0 (nI 0, s) (Nat.zero_le _) (by omega) ⟨rfl, fun _ _ _ => rfl⟩
  · rintro f ⟨r, s0⟩ ⟨hr, h0⟩
    have h2 : s0 31 2 = nI np := by have := h0 31 (by omega) (by omega); dsimp only at this; rw [this]; exact yc.2.2.1
    dsimp only at hr ⊢
    refine ⟨s0, ?_, ?_, h0⟩
    · unfold f_X11_owedToAll_4; simp (disch := omega) only [ln_, leT, leF, ltT, ltF, eqT, eqF, vpT, nlT, nleT, lnF, lenF, eqnF, neqF, nnF, nI_add, pk_mul, pk_div, pk_sub, ni_m, nI_clamp, md10, dm10, gI_l, gI_n, ar_t, ar_f, it_t, it_f, true_and, and_true, not_true_eq_false, not_false_eq_true, implies_true, and_self, eq_self, h2, hr]
    · unfold p_X11_owedToAll_4; simp (disch := omega) only [ln_, leT, leF, ltT, ltF, eqT, eqF, vpT, nlT, nleT, lnF, lenF, eqnF, neqF, nnF, nI_add, pk_mul, pk_div, pk_sub, ni_m, nI_clamp, md10, dm10, gI_l, gI_n, ar_t, ar_f, it_t, it_f, true_and, and_true, not_true_eq_false, not_false_eq_true, implies_true, and_self, eq_self, h2]
  · rintro f i ⟨r, s0⟩ hi ⟨hr, h0⟩ ih
    have h2 : s0 31 2 = nI np := by have := h0 31 (by omega) (by omega); dsimp only at this; rw [this]; exact yc.2.2.1
    replace ih := fun x s' => ih (x, s')
    dsimp only at hr ih h0 ⊢
    obtain ⟨s3, e3, p3, r3⟩ := c_owed (fu := fu) (l := l) (s := s0) (ht := ht) (sg := sg) (b := i) hfu (LC_keep (h0 (t + 9) (by omega) (by omega)) (h0 (t + 10) (by omega) (by omega)) hL) hC (yC_keep (fun k hk => h0 (31 + k) (by omega) (by omega)) yc) yw ht0 (.inl rfl) (fun i hi => by rw [h0 (t + 4) (by omega) (by omega)]; exact (hT.2.1 i hi).1) (fun b hb => by rw [h0 (t + 8) (by omega) (by omega)]; exact hT.2.2.1 b hb) hi
    unfold f_X11_owedToAll_4 p_X11_owedToAll_4
    rw [hD]
    simp (disch := omega) only [ln_, leF, ar_t, ar_f, it_t, it_f, true_and, and_true, not_true_eq_false, not_false_eq_true, implies_true, and_self, eq_self, h2, e3, p3, nI_add]
    refine ih _ _ ⟨?_, fun q h1 h2 => by rw [r3 q h1 h2]; exact h0 q h1 h2⟩
    rw [hr, ← hF]; rfl
theorem r_owAll (hfu : 20000 ≤ fu) (r : rT lv P np ht sg wx wy rn sd s) (y : YF P np Y (s 95)) (yw : YW P np ht Y) (lr : LR fu LW s) (hC : LWc LW) : ∃ s', f_X12_count_142 fu fu (nI 0) (nI 0) s l = (aA (fun b => sm (fun i => if Y.2.1 i = 80 + b then hdN (LW 2 (vrp sg ht P Y b i)) 99 else 0) P) np, s', l) ∧ p_X12_count_142 fu fu (nI 0) (nI 0) s l ∧ rK s s' := by
  have hn := yw.2.1
  have hlv := r.1
  generalize hF : (fun b => sm (fun i => if Y.2.1 i = 80 + b then hdN (LW 2 (vrp sg ht P Y b i)) 99 else 0) P) = F
  refine loop_i (fun f i (z : Int32 × fl_I) => ∃ s', f_X12_count_142 fu f z.1 (nI i) z.2 l = (aA F np, s', l) ∧ p_X12_count_142 fu f z.1 (nI i) z.2 l ∧ rK s s') (fun i z => z.1 = aA F i ∧ rK s z.2) np ?_ ?_ fu 0 (nI 0, s) (Nat.zero_le _) (by omega) ⟨rfl, fun _ _ _ _ => rfl, fun _ _ => rfl⟩
  · rintro f ⟨x, s0⟩ ⟨hr, h0⟩
    have r0 := rT_S (rS_V (rK_S h0)) r
    have h18 := r0.2.1
    have h74 := r0.2.2.2.1
    dsimp only at hr h18 h74 ⊢
    refine ⟨s0, ?_, ?_, h0⟩
    · unfold f_X12_count_142; simp (disch := omega) only [ln_, leT, leF, ltT, ltF, eqT, eqF, vpT, nlT, nleT, lnF, lenF, eqnF, neqF, nnF, nI_add, pk_mul, pk_div, pk_sub, ni_m, nI_clamp, md10, dm10, gI_l, gI_n, ar_t, ar_f, it_t, it_f, true_and, and_true, not_true_eq_false, not_false_eq_true, implies_true, and_self, eq_self, h18, h74, hr]
    · unfold p_X12_count_142; simp (disch := omega) only [ln_, leT, leF, ltT, ltF, eqT, eqF, vpT, nlT, nleT, lnF, lenF, eqnF, neqF, nnF, nI_add, pk_mul, pk_div, pk_sub, ni_m, nI_clamp, md10, dm10, gI_l, gI_n, ar_t, ar_f, it_t, it_f, true_and, and_true, not_true_eq_false, not_false_eq_true, implies_true, and_self, eq_self, h18, h74]
  · rintro f i ⟨x, s0⟩ hi ⟨hr, h0⟩ ih
    have r0 := rT_S (rS_V (rK_S h0)) r
    have h18 := r0.2.1
    have h74 := r0.2.2.2.1
    replace ih := fun x s' => ih (x, s')
    dsimp only at hr ih h0 h18 h74 r0 ⊢
    obtain ⟨s5, e5, p5, k5⟩ := r_owedTo (fu := fu) (s := s0) (l := l) (b := i) hfu r0 (YF_K h0 y) yw hi (LR_S (rS_V (rK_S h0)) lr) hC
    unfold f_X12_count_142 p_X12_count_142
    simp (disch := omega) only [ln_, leF, vpT, nI_clamp, ar_t, ar_f, it_t, it_f, true_and, and_true, not_true_eq_false, not_false_eq_true, implies_true, and_self, eq_self, h18, h74, e5, p5, nI_add]
    refine ih _ _ ⟨?_, fun q h1 h2 h3 => by rw [k5.1 q h1 h2 h3]; exact h0.1 q h1 h2 h3, fun j hj => by rw [k5.2 j hj]; exact h0.2 j hj⟩
    rw [hr, ← hF]; rfl
theorem qc99 : (fun c => decide (0 < ct (fun i => Y.2.1 i == c) P)) = qc P Y 100 ∨ True := .inr trivial
theorem qc_ct : ct (fun c => decide (0 < ct (fun i => Y.2.1 i == c) P)) 80 = ct (qc P Y 99) 80 := by
  refine ct_congr (fun c hc => ?_)
  unfold qc
  rw [show decide (c ≠ 99) = true from decide_eq_true (by omega), Bool.and_true]
set_option maxRecDepth 100000 in
set_option maxHeartbeats 4000000 in
theorem m_count (hfu : 20000 ≤ fu) (hD : (if D.2.2.1 then 20 else 9) = t) (cv : CV fu t P np nl nw ht sg lo wd wx wy rn sd LW Y s l) (rv : RV fu lv P np nl nw ht sg lo wd wx wy rn sd LW Y s l) (mi : MI D P np ht u hs hm hy nt tl th nb s l) : Qy s l (f_X11_count fu v D s l) (p_X11_count fu v D s l) (f_X12_count fu v) (p_X12_count fu v) := by
  have cv0 := cv
  have rv0 := rv
  obtain ⟨ht0, hT, hL, hC, yc, yw, tb⟩ := cv
  obtain ⟨rt, rx, lr, _, yf, _, _⟩ := rv
  have hn := yw.2.1
  have hP := yw.1
  have hlv := rt.1
  obtain ⟨s2, e2, p2, y2, k1, k2, k3, k4⟩ := r_copies (l := l) hfu rt yf yw
  have cp := cp_S k3 k4
  have r2 := rT_S (rS_V cp) rt
  have h18 := r2.2.1
  obtain ⟨c0, c1, c2, c3⟩ := hT.1
  unfold f_X11_count p_X11_count f_X12_count p_X12_count
  rw [hD]
  rcases or_out (ag3 v 0 14 (by omega) (by omega)) with h | ⟨j, _, hj, rfl⟩
  · have hx := out_ne h (by omega)
    refine Qy_mk (-nI 1) s s2 ?_ ?_ cS_rfl (fun _ _ => rfl) ?_ ?_ cp <;> simp (disch := omega) only [ln_, ar_t, ar_f, it_t, it_f, true_and, and_true, not_true_eq_false, not_false_eq_true, implies_true, and_self, eq_self, hx, e2, p2]
  · have hj : j = 0 ∨ j = 1 ∨ j = 2 ∨ j = 3 ∨ j = 4 ∨ j = 5 ∨ j = 6 ∨ j = 7 ∨ j = 8 ∨ j = 9 ∨ j = 10 ∨ j = 11 ∨ j = 12 ∨ j = 13 ∨ j = 14 := by omega
    rcases hj with rfl | rfl | rfl | rfl | rfl | rfl | rfl | rfl | rfl | rfl | rfl | rfl | rfl | rfl | rfl
    · have a1 : s2 68 lv = nI nl := by rw [k3 68 (by omega) (by omega)]; exact rx.1
      refine Qy_mk (nI nl) s s2 ?_ ?_ cS_rfl (fun _ _ => rfl) ?_ ?_ cp <;> simp (disch := omega) only [ln_, leT, leF, ltT, ltF, eqT, eqF, vpT, nlT, nleT, lnF, lenF, eqnF, neqF, nnF, nI_add, pk_mul, pk_div, pk_sub, ni_m, nI_clamp, md10, dm10, gI_l, gI_n, ar_t, ar_f, it_t, it_f, true_and, and_true, not_true_eq_false, not_false_eq_true, implies_true, and_self, eq_self, e2, p2, c0, h18, a1]
    · have a1 := r2.2.2.1
      refine Qy_mk (nI P) s s2 ?_ ?_ cS_rfl (fun _ _ => rfl) ?_ ?_ cp <;> simp (disch := omega) only [ln_, leT, leF, ltT, ltF, eqT, eqF, vpT, nlT, nleT, lnF, lenF, eqnF, neqF, nnF, nI_add, pk_mul, pk_div, pk_sub, ni_m, nI_clamp, md10, dm10, gI_l, gI_n, ar_t, ar_f, it_t, it_f, true_and, and_true, not_true_eq_false, not_false_eq_true, implies_true, and_self, eq_self, e2, p2, c3, a1]
    · have a1 : s2 72 lv = nI nw := by rw [k3 72 (by omega) (by omega)]; exact rx.2.1
      refine Qy_mk (nI nw) s s2 ?_ ?_ cS_rfl (fun _ _ => rfl) ?_ ?_ cp <;> simp (disch := omega) only [ln_, leT, leF, ltT, ltF, eqT, eqF, vpT, nlT, nleT, lnF, lenF, eqnF, neqF, nnF, nI_add, pk_mul, pk_div, pk_sub, ni_m, nI_clamp, md10, dm10, gI_l, gI_n, ar_t, ar_f, it_t, it_f, true_and, and_true, not_true_eq_false, not_false_eq_true, implies_true, and_self, eq_self, e2, p2, c1, h18, a1]
    · have a1 := r2.2.2.2.1
      refine Qy_mk (nI np) s s2 ?_ ?_ cS_rfl (fun _ _ => rfl) ?_ ?_ cp <;> simp (disch := omega) only [ln_, leT, leF, ltT, ltF, eqT, eqF, vpT, nlT, nleT, lnF, lenF, eqnF, neqF, nnF, nI_add, pk_mul, pk_div, pk_sub, ni_m, nI_clamp, md10, dm10, gI_l, gI_n, ar_t, ar_f, it_t, it_f, true_and, and_true, not_true_eq_false, not_false_eq_true, implies_true, and_self, eq_self, e2, p2, c2, h18, a1]
    · have a1 : s 31 0 = Y.1 := yc.1
      have a2 : s2 95 140 = Y.1 := y2.1
      refine Qy_mk Y.1 s s2 ?_ ?_ cS_rfl (fun _ _ => rfl) ?_ ?_ cp <;> simp (disch := omega) only [ln_, leT, leF, ltT, ltF, eqT, eqF, vpT, nlT, nleT, lnF, lenF, eqnF, neqF, nnF, nI_add, pk_mul, pk_div, pk_sub, ni_m, nI_clamp, md10, dm10, gI_l, gI_n, ar_t, ar_f, it_t, it_f, true_and, and_true, not_true_eq_false, not_false_eq_true, implies_true, and_self, eq_self, e2, p2, a1, a2]
    · obtain ⟨q1, q2⟩ := c_countLying (fu := fu) (l := l) hfu yc yw
      obtain ⟨q3, q4⟩ := r_lieMany (fu := fu) (l := l) hfu r2.2.2.1 y2 yw
      refine Qy_mk (nI (lyn Y.2.1 P)) s s2 ?_ ?_ cS_rfl (fun _ _ => rfl) ?_ ?_ cp <;> simp (disch := omega) only [ln_, leT, leF, ltT, ltF, eqT, eqF, vpT, nlT, nleT, lnF, lenF, eqnF, neqF, nnF, nI_add, pk_mul, pk_div, pk_sub, ni_m, nI_clamp, md10, dm10, gI_l, gI_n, ar_t, ar_f, it_t, it_f, true_and, and_true, not_true_eq_false, not_false_eq_true, implies_true, and_self, eq_self, e2, p2, q1, q2, q3, q4]
    · obtain ⟨s3, e3, p3, r3⟩ := c_countCells (fu := fu) (l := l) (q := 59) hfu yc yw (fun k hk => by omega)
      have cs : cS s s3 := fun q _ _ _ _ h _ _ _ => r3 q h
      obtain ⟨rt, rx, lr, _, yf, _, _⟩ := RV_S (cS_V cs) rv0
      obtain ⟨s4, e4, p4, y4, m1, m2, m3, m4⟩ := r_copies (l := l) hfu rt yf yw
      have cp4 := cp_S m3 m4
      obtain ⟨s5, e5, p5, u5, _, k5, j5⟩ := r_fillsCells (l := l) (s := s4) (x := -nI 1) (wo := 99) hfu (rT_S (rS_V cp4) rt).2.2.1 y4 yw (fun c hc => by rw [eqnF (by omega) (by omega) (by omega)]; exact (eq_false (by omega)).symm)
      rw [qc_ct] at e3
      have e5' : f_X12_fillsCells fu (-1) (-1) s4 l = (s5, l) := e5
      have p5' : p_X12_fillsCells fu (-1) (-1) s4 l := p5
      refine Qy_mk (nI (ct (qc P Y 99) 80)) s3 s5 ?_ ?_ cs (fun q h => r3 q (by omega)) ?_ ?_ (rS_tr cp4 ⟨fun q a _ _ _ _ b _ _ => k5 q b a, fun j _ _ _ a _ => j5 j a⟩) <;> simp (disch := omega) only [ln_, leT, leF, ltT, ltF, eqT, eqF, vpT, nlT, nleT, lnF, lenF, eqnF, neqF, nnF, nI_add, pk_mul, pk_div, pk_sub, ni_m, nI_clamp, md10, dm10, gI_l, gI_n, ar_t, ar_f, it_t, it_f, true_and, and_true, not_true_eq_false, not_false_eq_true, implies_true, and_self, eq_self, e4, p4, e3, p3, e5, p5, u5]
    · obtain ⟨s3, e3, p3, r3⟩ := c_owAll (fu := fu) (l := l) hfu hD cv0
      have cs := cS_48 r3
      obtain ⟨rt, rx, lr, _, yf, _, _⟩ := RV_S (cS_V cs) rv0
      obtain ⟨s4, e4, p4, y4, m1, m2, m3, m4⟩ := r_copies (l := l) hfu rt yf yw
      have cp4 := cp_S m3 m4
      obtain ⟨s5, e5, p5, k5⟩ := r_owAll (fu := fu) (l := l) hfu (rT_S (rS_V cp4) rt) y4 yw (LR_S (rS_V cp4) lr) hC
      refine Qy_mk (aA (fun b => sm (fun i => if Y.2.1 i = 80 + b then hdN (LW 2 (vrp sg ht P Y b i)) 99 else 0) P) np) s3 s5 ?_ ?_ cs (fun q h => r3 q (by omega) (by omega)) ?_ ?_ (rS_tr cp4 (rK_S k5)) <;> simp (disch := omega) only [ln_, leT, leF, ltT, ltF, eqT, eqF, vpT, nlT, nleT, lnF, lenF, eqnF, neqF, nnF, nI_add, pk_mul, pk_div, pk_sub, ni_m, nI_clamp, md10, dm10, gI_l, gI_n, ar_t, ar_f, it_t, it_f, true_and, and_true, not_true_eq_false, not_false_eq_true, implies_true, and_self, eq_self, e4, p4, e3, p3, e5, p5]
    · obtain ⟨_, a1, a2, _⟩ := mi.2.2.2.2.1
      have a3 : s2 60 2 = nI nb := by rw [k4 2 (by omega) (by omega)]; exact a2
      refine Qy_mk (nI nb) s s2 ?_ ?_ cS_rfl (fun _ _ => rfl) ?_ ?_ cp <;> simp (disch := omega) only [ln_, leT, leF, ltT, ltF, eqT, eqF, vpT, nlT, nleT, lnF, lenF, eqnF, neqF, nnF, nI_add, pk_mul, pk_div, pk_sub, ni_m, nI_clamp, md10, dm10, gI_l, gI_n, ar_t, ar_f, it_t, it_f, true_and, and_true, not_true_eq_false, not_false_eq_true, implies_true, and_self, eq_self, e2, p2, a1, a3]
    · have a1 := mi.2.1.1.2.1
      have a3 : s2 60 58 = nI u := by rw [k4 58 (by omega) (by omega)]; exact mi.2.1.2.1.1
      refine Qy_mk (nI u) s s2 ?_ ?_ cS_rfl (fun _ _ => rfl) ?_ ?_ cp <;> simp (disch := omega) only [ln_, leT, leF, ltT, ltF, eqT, eqF, vpT, nlT, nleT, lnF, lenF, eqnF, neqF, nnF, nI_add, pk_mul, pk_div, pk_sub, ni_m, nI_clamp, md10, dm10, gI_l, gI_n, ar_t, ar_f, it_t, it_f, true_and, and_true, not_true_eq_false, not_false_eq_true, implies_true, and_self, eq_self, e2, p2, a1, a3]
    · have a1 := mi.2.2.2.1.1.1
      have a3 : s2 60 65 = nI nt := by rw [k4 65 (by omega) (by omega)]; exact mi.2.2.2.1.2.1.1
      refine Qy_mk (nI nt) s s2 ?_ ?_ cS_rfl (fun _ _ => rfl) ?_ ?_ cp <;> simp (disch := omega) only [ln_, leT, leF, ltT, ltF, eqT, eqF, vpT, nlT, nleT, lnF, lenF, eqnF, neqF, nnF, nI_add, pk_mul, pk_div, pk_sub, ni_m, nI_clamp, md10, dm10, gI_l, gI_n, ar_t, ar_f, it_t, it_f, true_and, and_true, not_true_eq_false, not_false_eq_true, implies_true, and_self, eq_self, e2, p2, a1, a3]
    · obtain ⟨l1, l2, l3⟩ := mi.2.2.1.1
      have a0 : s2 105 0 = nI (bt hm 0) := by rw [k3 105 (by omega) (by omega)]; exact (mi.2.2.1.2.1 0 (by omega)).1
      have a1 : s2 105 1 = nI (bt hm 1) := by rw [k3 105 (by omega) (by omega)]; exact (mi.2.2.1.2.1 1 (by omega)).1
      have a2 : s2 105 2 = nI (bt hm 2) := by rw [k3 105 (by omega) (by omega)]; exact (mi.2.2.1.2.1 2 (by omega)).1
      have hb := bc_n (fu := fu) (S := hm) (by omega)
      have hp := hm_pc ⟨hm, l1⟩
      have b0 := bt_lt hm 0
      have b1 := bt_lt hm 1
      have b2 := bt_lt hm 2
      dsimp only at hp
      rw [hp] at hb
      have hbp : p_J6_bitCount_0f7a4 fu (nI hm) := trivial
      generalize bt hm 0 = z0 at *
      generalize bt hm 1 = z1 at *
      generalize bt hm 2 = z2 at *
      have hz0 : z0 = 0 ∨ z0 = 1 := by omega
      have hz1 : z1 = 0 ∨ z1 = 1 := by omega
      have hz2 : z2 = 0 ∨ z2 = 1 := by omega
      refine Qy_mk (nI (z0 + z1 + z2)) s s2 ?_ ?_ cS_rfl (fun _ _ => rfl) ?_ ?_ cp <;> rcases hz0 with rfl | rfl <;> rcases hz1 with rfl | rfl <;> rcases hz2 with rfl | rfl <;> simp (disch := omega) only [ln_, leT, leF, ltT, ltF, eqT, eqF, vpT, nlT, nleT, lnF, lenF, eqnF, neqF, nnF, nI_add, pk_mul, pk_div, pk_sub, ni_m, nI_clamp, md10, dm10, gI_l, gI_n, ar_t, ar_f, it_t, it_f, true_and, and_true, not_true_eq_false, not_false_eq_true, implies_true, and_self, eq_self, e2, p2, l2, a0, a1, a2, hb, hbp, Nat.reduceAdd]
    · obtain ⟨q1, q2⟩ := c_rains (fu := fu) (t := t) (l := l) (s := s) (x := s t 18) (h := s 31 0) hT.2.2.2.1.2.2.1
      obtain ⟨q3, q4⟩ := r_isRain (fu := fu) (l := l) r2 y2
      have a1 : s 31 0 = Y.1 := yc.1
      rw [k1] at q4
      rw [hT.2.2.2.1.2.2.2, a1] at q1 q2
      have a18 := hT.2.2.2.1.2.2.2
      by_cases e : rn ≤ rl sd Y.1
      · rw [if_pos e] at q2 q4
        refine Qy_mk (nI 0) s s2 ?_ ?_ cS_rfl (fun _ _ => rfl) ?_ ?_ cp <;> simp (disch := omega) only [ln_, leT, leF, ltT, ltF, eqT, eqF, vpT, nlT, nleT, lnF, lenF, eqnF, neqF, nnF, nI_add, pk_mul, pk_div, pk_sub, ni_m, nI_clamp, md10, dm10, gI_l, gI_n, ar_t, ar_f, it_t, it_f, true_and, and_true, not_true_eq_false, not_false_eq_true, implies_true, and_self, eq_self, e2, p2, q1, q2, q3, q4, a1, a18]
      · rw [if_neg e] at q2 q4
        refine Qy_mk (nI 1) s s2 ?_ ?_ cS_rfl (fun _ _ => rfl) ?_ ?_ cp <;> simp (disch := omega) only [ln_, leT, leF, ltT, ltF, eqT, eqF, vpT, nlT, nleT, lnF, lenF, eqnF, neqF, nnF, nI_add, pk_mul, pk_div, pk_sub, ni_m, nI_clamp, md10, dm10, gI_l, gI_n, ar_t, ar_f, it_t, it_f, true_and, and_true, not_true_eq_false, not_false_eq_true, implies_true, and_self, eq_self, e2, p2, q1, q2, q3, q4, a1, a18]
    · obtain ⟨q1, q2⟩ := c_goals (fu := fu) (l := l) hfu yc yw
      obtain ⟨q3, q4⟩ := r_goals (fu := fu) (l := l) hfu r2 y2 yw
      refine Qy_mk (oA (fun b => decide (Y.2.2.2.2 b < 80)) np) s s2 ?_ ?_ cS_rfl (fun _ _ => rfl) ?_ ?_ cp <;> simp (disch := omega) only [ln_, leT, leF, ltT, ltF, eqT, eqF, vpT, nlT, nleT, lnF, lenF, eqnF, neqF, nnF, nI_add, pk_mul, pk_div, pk_sub, ni_m, nI_clamp, md10, dm10, gI_l, gI_n, ar_t, ar_f, it_t, it_f, true_and, and_true, not_true_eq_false, not_false_eq_true, implies_true, and_self, eq_self, e2, p2, q1, q2, q3, q4]
    · obtain ⟨q1, q2⟩ := c_fulls (fu := fu) (l := l) hfu hD yc yw hT.2.2.1
      obtain ⟨q3, q4⟩ := r_fulls (fu := fu) (l := l) hfu r2 y2 yw
      refine Qy_mk (oA (fun b => decide (cnt Y.2.1 P b = ht b)) np) s s2 ?_ ?_ cS_rfl (fun _ _ => rfl) ?_ ?_ cp <;> simp (disch := omega) only [ln_, leT, leF, ltT, ltF, eqT, eqF, vpT, nlT, nleT, lnF, lenF, eqnF, neqF, nnF, nI_add, pk_mul, pk_div, pk_sub, ni_m, nI_clamp, md10, dm10, gI_l, gI_n, ar_t, ar_f, it_t, it_f, true_and, and_true, not_true_eq_false, not_false_eq_true, implies_true, and_self, eq_self, e2, p2, q1, q2, q3, q4]
end cou
