/-! What was told -/
def cTo (nt : Nat) (tl : Nat → Nat) (th : Nat → Bool) (s : fl_I) : Prop := s 57 0 = nI nt ∧ ∀ k, k < nt → s 58 k = if th k = true then nI (tl k) else -nI (tl k)
def rTo (nt : Nat) (tl : Nat → Nat) (th : Nat → Bool) (s : fl_I) : Prop := s 60 65 = nI nt ∧ ∀ k, k < nt → s 103 k = nI (tl k) ∧ s 104 k = if th k = true then nI 1 else nI 0
def bTo (nt : Nat) (tl : Nat → Nat) : Prop := nt ≤ 20 ∧ ∀ k, k < nt → 1 ≤ tl k ∧ tl k ≤ 26
def agB (tl : Nat → Nat) (th : Nat → Bool) (L : List Nat) : Nat → Bool
  | 0 => true
  | k + 1 => agB tl th L k && (decide (tl k ∈ L) == th k)
section tol
variable {fu t lv P np nl nw : Nat} {ht sg lo : Nat → Nat} {wd : Nat → List Nat} {wx wy rn sd : Int32} {LW : Lw} {Y : Yd} {s s1 s2 : fl_I} {l : fl_L} {D : fl_D} {a i b c q k n g m h S nt : Nat} {x y z v : Int32} {tl : Nat → Nat} {th : Nat → Bool} {L : List Nat}
theorem ag_f {d : Nat} (h : agB tl th L i = false) : agB tl th L (i + d) = false := by
  induction d with
  | zero => exact h
  | succ d ih => show (agB tl th L (i + d) && _) = false; rw [ih]; rfl
theorem abs_p {n : Nat} (h : n < 2 ^ 31) : i_abs (nI n) = nI n := by
  show (if (0 : Int32) ≤ nI n then nI n else _) = _
  rw [if_pos (nI_pos' h)]
theorem abs_m {n : Nat} (h1 : 1 ≤ n) (h : n < 2 ^ 31) : i_abs (-nI n) = nI n := by
  show (if (0 : Int32) ≤ -nI n then _ else 0 - -nI n) = _
  rw [if_neg, Int32.zero_sub, Int32.neg_neg]
  rw [show (0 : Int32) = nI 0 from rfl, lenF (by omega) (by omega) (by omega)]; exact fun h => h
theorem lem0 {n : Nat} (h1 : 1 ≤ n) (h : n < 2 ^ 31) : (-nI n ≤ nI 0) = True := nleT h (by omega)
theorem c_agrees (hfu : 20000 ≤ fu) (ct0 : cTo nt tl th s) (bt0 : bTo nt tl) (hW : okW L) (hk : k ≤ nt) : p_X7_agrees fu (lN (p5 L)) (nI k) s l ∧ f_X7_agrees fu (lN (p5 L)) (nI k) s l = if agB tl th L k = true then nI 1 else nI 0 := by
  have hn := bt0.1
  refine loop_i (fun f i (_ : Unit) => p_X7_agrees_3 fu f (lN (p5 L)) (nI k) (nI i) s l ∧ f_X7_agrees_3 fu f (lN (p5 L)) (nI k) (nI i) s l = if agB tl th L k = true then nI 1 else nI 0) (fun i _ => agB tl th L i = true) k ?_ ?_ fu 0 () (Nat.zero_le _) (by omega) rfl
  · intro f _ hI
    unfold p_X7_agrees_3 f_X7_agrees_3
    simp (disch := omega) only [ln_, leT, leF, ltT, ltF, eqT, eqF, vpT, nlT, nleT, lnF, lenF, eqnF, neqF, nnF, nI_add, pk_mul, pk_div, pk_sub, ni_m, nI_clamp, md10, dm10, gI_l, gI_n, ar_t, ar_f, it_t, it_f, true_and, and_true, not_true_eq_false, not_false_eq_true, implies_true, and_self, eq_self, if_pos hI]
  · intro f i _ hi hI ih
    obtain ⟨b1, b2⟩ := bt0.2 i (by omega)
    have h58 := ct0.2 i (by omega)
    have hs := c_has (fu := fu) (v := tl i) hfu hW b1 b2
    have hst : agB tl th L (i + 1) = (decide (tl i ∈ L) == th i) := by show (agB tl th L i && _) = _; rw [hI]; rfl
    have hno : agB tl th L (i + 1) = false → agB tl th L k = false := fun h => by have := ag_f (d := k - (i + 1)) h; rwa [show i + 1 + (k - (i + 1)) = k from by omega] at this
    unfold p_X7_agrees_3 f_X7_agrees_3
    cases ht : th i with
    | true =>
      rw [ht, if_pos rfl] at h58
      by_cases e : tl i ∈ L
      · rw [if_pos e] at hs
        simp (disch := omega) only [ln_, leT, leF, ltT, ltF, eqT, eqF, vpT, nlT, nleT, lnF, lenF, eqnF, neqF, nnF, nI_add, pk_mul, pk_div, pk_sub, ni_m, nI_clamp, md10, dm10, gI_l, gI_n, ar_t, ar_f, it_t, it_f, true_and, and_true, not_true_eq_false, not_false_eq_true, implies_true, and_self, eq_self, h58, abs_p, hs]
        exact ih () (by rw [hst, ht]; simp [e])
      · rw [if_neg e] at hs
        have hf : ¬ agB tl th L k = true := by rw [hno (by rw [hst, ht]; simp [e])]; exact Bool.noConfusion
        simp (disch := omega) only [ln_, leT, leF, ltT, ltF, eqT, eqF, vpT, nlT, nleT, lnF, lenF, eqnF, neqF, nnF, nI_add, pk_mul, pk_div, pk_sub, ni_m, nI_clamp, md10, dm10, gI_l, gI_n, ar_t, ar_f, it_t, it_f, true_and, and_true, not_true_eq_false, not_false_eq_true, implies_true, and_self, eq_self, h58, abs_p, hs, if_neg hf]
    | false =>
      rw [ht, if_neg Bool.noConfusion] at h58
      by_cases e : tl i ∈ L
      · rw [if_pos e] at hs
        have hf : ¬ agB tl th L k = true := by rw [hno (by rw [hst, ht]; simp [e])]; exact Bool.noConfusion
        simp (disch := omega) only [ln_, leT, leF, ltT, ltF, eqT, eqF, vpT, nlT, nleT, lnF, lenF, eqnF, neqF, nnF, nI_add, pk_mul, pk_div, pk_sub, ni_m, nI_clamp, md10, dm10, gI_l, gI_n, ar_t, ar_f, it_t, it_f, true_and, and_true, not_true_eq_false, not_false_eq_true, implies_true, and_self, eq_self, h58, abs_m, hs, if_neg hf, lem0]
      · rw [if_neg e] at hs
        simp (disch := omega) only [ln_, leT, leF, ltT, ltF, eqT, eqF, vpT, nlT, nleT, lnF, lenF, eqnF, neqF, nnF, nI_add, pk_mul, pk_div, pk_sub, ni_m, nI_clamp, md10, dm10, gI_l, gI_n, ar_t, ar_f, it_t, it_f, true_and, and_true, not_true_eq_false, not_false_eq_true, implies_true, and_self, eq_self, h58, abs_m, hs, lem0]
        exact ih () (by rw [hst, ht]; simp [e])
theorem c_left (hfu : 20000 ≤ fu) (ct0 : cTo nt tl th s) (bt0 : bTo nt tl) (h1 : s t 1 = nI nw) (hl : ∀ w, w < nw → l (t + 2) w = lN (p5 (wd w))) (hnw : nw ≤ 8) (hW : ∀ w, w < nw → okW (wd w)) (hk : k ≤ nt) : p_X7_left fu (nI k) t s l ∧ f_X7_left fu (nI k) t s l = nI (mkB (fun w => agB tl th (wd w) k) nw) := by
  refine loop_i (fun f w r => p_X7_left_5 fu f (nI k) r (nI w) t s l ∧ f_X7_left_5 fu f (nI k) r (nI w) t s l = nI (mkB (fun w => agB tl th (wd w) k) nw)) (fun w r => r = nI (mkB (fun w => agB tl th (wd w) k) w)) nw ?_ ?_ fu 0 (nI 0) (Nat.zero_le _) (by omega) rfl
  · intro f r hr
    unfold p_X7_left_5 f_X7_left_5
    simp (disch := omega) only [ln_, leT, leF, ltT, ltF, eqT, eqF, vpT, nlT, nleT, lnF, lenF, eqnF, neqF, nnF, nI_add, pk_mul, pk_div, pk_sub, ni_m, nI_clamp, md10, dm10, gI_l, gI_n, ar_t, ar_f, it_t, it_f, true_and, and_true, not_true_eq_false, not_false_eq_true, implies_true, and_self, eq_self, h1, hr]
  · intro f w r hw hr ih
    have hlw := hl w hw
    have ha := c_agrees (l := l) hfu ct0 bt0 (hW w hw) hk
    have hon := one_n (k := w) (by omega)
    unfold p_X7_left_5 f_X7_left_5
    by_cases e : agB tl th (wd w) k = true
    · rw [if_pos e] at ha
      simp (disch := omega) only [ln_, leF, eqF, vpT, nI_clamp, nI_add, ar_t, ar_f, it_t, it_f, true_and, and_true, not_true_eq_false, not_false_eq_true, implies_true, and_self, eq_self, h1, hlw, ha, hon, hr]
      exact ih _ (mk_s (f := fun w => agB tl th (wd w) k) (by omega) e)
    · rw [if_neg e] at ha
      simp (disch := omega) only [ln_, leF, eqT, vpT, nI_clamp, nI_add, ar_t, ar_f, it_t, it_f, true_and, and_true, not_true_eq_false, not_false_eq_true, implies_true, and_self, eq_self, h1, hlw, ha, hon]
      exact ih _ (by rw [hr, mk_n (f := fun w => agB tl th (wd w) k) (by simpa using e)])
theorem r_there (hfu : 20000 ≤ fu) (hlv : lv ≤ 1) (h18 : s 60 18 = nI lv) (hl : ∀ w, w < nw → l 73 (8 * lv + w) = lN (p27 (wd w).reverse)) (hnw : nw ≤ 8) (hW : ∀ w, w < nw → okW (wd w)) (hw : n < nw) (hv : k ≤ 26) : p_X12_isThere fu (nI n) (nI k) s l ∧ f_X12_isThere fu (nI n) (nI k) s l = if k ∈ wd n then nI 1 else nI 0 := by
  have hwd := r_word (fu := fu) (l := l) hlv h18 hl hnw hw
  have ht := r_times (fu := fu) (v := k) hfu (hW n hw) hv
  have hc := cnt_le (L := wd n) (u := k)
  have h8 := (hW n hw).2.1
  unfold p_X12_isThere f_X12_isThere
  by_cases e : k ∈ wd n
  · have hp : 0 < (wd n).count k := List.count_pos_iff.mpr e
    simp (disch := omega) only [ln_, leT, leF, ltT, ltF, eqT, eqF, vpT, nlT, nleT, lnF, lenF, eqnF, neqF, nnF, nI_add, pk_mul, pk_div, pk_sub, ni_m, nI_clamp, md10, dm10, gI_l, gI_n, ar_t, ar_f, it_t, it_f, true_and, and_true, not_true_eq_false, not_false_eq_true, implies_true, and_self, eq_self, hwd, ht, if_pos e]
  · have hp : (wd n).count k = 0 := List.count_eq_zero.mpr e
    rw [hp] at ht
    simp (disch := omega) only [ln_, leT, leF, ltT, ltF, eqT, eqF, vpT, nlT, nleT, lnF, lenF, eqnF, neqF, nnF, nI_add, pk_mul, pk_div, pk_sub, ni_m, nI_clamp, md10, dm10, gI_l, gI_n, ar_t, ar_f, it_t, it_f, true_and, and_true, not_true_eq_false, not_false_eq_true, implies_true, and_self, eq_self, hwd, ht, if_neg e]
theorem r_written (hfu : 20000 ≤ fu) (rt0 : rTo nt tl th s) (bt0 : bTo nt tl) (hlv : lv ≤ 1) (h18 : s 60 18 = nI lv) (h72 : s 72 lv = nI nw) (hl : ∀ w, w < nw → l 73 (8 * lv + w) = lN (p27 (wd w).reverse)) (hnw : nw ≤ 8) (hW : ∀ w, w < nw → okW (wd w)) (hk : k ≤ nt) : p_X12_writtenBits fu (nI k) s l ∧ f_X12_writtenBits fu (nI k) s l = nI (mkB (fun w => agB tl th (wd w) k) nw) := by
  have hn := bt0.1
  refine loop_i (fun f w r => p_X12_writtenBits_4 fu f (nI k) r (nI w) s l ∧ f_X12_writtenBits_4 fu f (nI k) r (nI w) s l = nI (mkB (fun w => agB tl th (wd w) k) nw)) (fun w r => r = nI (mkB (fun w => agB tl th (wd w) k) w)) nw ?_ ?_ fu 0 (nI 0) (Nat.zero_le _) (by omega) rfl
  · intro f r hr
    unfold p_X12_writtenBits_4 f_X12_writtenBits_4
    simp (disch := omega) only [ln_, leT, leF, ltT, ltF, eqT, eqF, vpT, nlT, nleT, lnF, lenF, eqnF, neqF, nnF, nI_add, pk_mul, pk_div, pk_sub, ni_m, nI_clamp, md10, dm10, gI_l, gI_n, ar_t, ar_f, it_t, it_f, true_and, and_true, not_true_eq_false, not_false_eq_true, implies_true, and_self, eq_self, h18, h72, hr]
  · intro f w r hw hr ih
    have hon := one_n (k := w) (by omega)
    have inner := loop_i (fun f2 i (z : Int32) => (f_X12_writtenBits_23 fu (fun x1 x2 x3 => f_X12_writtenBits_4 fu f x1 x2 x3 s l) f2 (nI k) r (nI w) z (nI i) s l = f_X12_writtenBits_4 fu f (nI k) (nI (mkB (fun w => agB tl th (wd w) k) (w + 1))) (nI (w + 1)) s l) ∧ (p_X12_writtenBits_4 fu f (nI k) (nI (mkB (fun w => agB tl th (wd w) k) (w + 1))) (nI (w + 1)) s l → p_X12_writtenBits_23 fu (fun x1 x2 x3 => p_X12_writtenBits_4 fu f x1 x2 x3 s l) f2 (nI k) r (nI w) z (nI i) s l)) (fun i z => z = if agB tl th (wd w) i = true then nI 1 else nI 0) k ?_ ?_ fu 0 (nI 1) (Nat.zero_le _) (by omega) rfl
    · have h2 := ih _ rfl
      have hp := inner.2 h2.1
      unfold p_X12_writtenBits_4 f_X12_writtenBits_4
      simp (disch := omega) only [ln_, leF, vpT, nI_clamp, ar_t, ar_f, it_t, it_f, true_and, and_true, not_true_eq_false, not_false_eq_true, implies_true, and_self, eq_self, h18, h72, inner.1, hp]
      exact h2.2
    · intro f2 z hz
      unfold p_X12_writtenBits_23 f_X12_writtenBits_23
      by_cases e : agB tl th (wd w) k = true
      · rw [if_pos e] at hz
        have hm := mk_s (f := fun w => agB tl th (wd w) k) (i := w) (by omega) e
        simp (disch := omega) only [ln_, leT, eqF, nI_add, ar_t, ar_f, it_t, it_f, true_and, and_true, not_true_eq_false, not_false_eq_true, implies_true, and_self, eq_self, hz, hr, hon, hm]
        exact fun h => h
      · rw [if_neg e] at hz
        have hm := mk_n (f := fun w => agB tl th (wd w) k) (i := w) (by simpa using e)
        rw [hm]
        simp (disch := omega) only [ln_, leT, eqT, nI_add, ar_t, ar_f, it_t, it_f, true_and, and_true, not_true_eq_false, not_false_eq_true, implies_true, and_self, eq_self, hz, hr]
        exact fun h => h
    · intro f2 i z hi hz ih2
      obtain ⟨b1, b2⟩ := bt0.2 i (by omega)
      obtain ⟨h103, h104⟩ := rt0.2 i (by omega)
      have ht := r_there (l := l) (n := w) (k := tl i) hfu hlv h18 hl hnw hW hw b2
      have hst : agB tl th (wd w) (i + 1) = (agB tl th (wd w) i && (decide (tl i ∈ wd w) == th i)) := rfl
      unfold p_X12_writtenBits_23 f_X12_writtenBits_23
      cases hth : th i with
      | true =>
        rw [hth, if_pos rfl] at h104
        by_cases e : tl i ∈ wd w
        · rw [if_pos e] at ht
          simp (disch := omega) only [ln_, leF, vpT, nI_clamp, nI_add, ar_t, ar_f, it_t, it_f, true_and, and_true, not_true_eq_false, not_false_eq_true, implies_true, and_self, eq_self, h103, h104, ht]
          exact ih2 _ (by rw [hz, hst, hth]; simp [e])
        · rw [if_neg e] at ht
          simp (disch := omega) only [ln_, leF, eqF, vpT, nI_clamp, nI_add, ar_t, ar_f, it_t, it_f, true_and, and_true, not_true_eq_false, not_false_eq_true, implies_true, and_self, eq_self, h103, h104, ht]
          exact ih2 _ (by rw [hst, hth]; simp [e])
      | false =>
        rw [hth, if_neg Bool.noConfusion] at h104
        by_cases e : tl i ∈ wd w
        · rw [if_pos e] at ht
          simp (disch := omega) only [ln_, leF, eqF, vpT, nI_clamp, nI_add, ar_t, ar_f, it_t, it_f, true_and, and_true, not_true_eq_false, not_false_eq_true, implies_true, and_self, eq_self, h103, h104, ht]
          exact ih2 _ (by rw [hst, hth]; simp [e])
        · rw [if_neg e] at ht
          simp (disch := omega) only [ln_, leF, vpT, nI_clamp, nI_add, ar_t, ar_f, it_t, it_f, true_and, and_true, not_true_eq_false, not_false_eq_true, implies_true, and_self, eq_self, h103, h104, ht]
          exact ih2 _ (by rw [hz, hst, hth]; simp [e])
theorem m_written (hfu : 20000 ≤ fu) (hD : (if D.2.2.1 then 20 else 9) = t) (cv : CV fu t P np nl nw ht sg lo wd wx wy rn sd LW Y s l) (rv : RV fu lv P np nl nw ht sg lo wd wx wy rn sd LW Y s l) (ct0 : cTo nt tl th s) (rt0 : rTo nt tl th s) (bt0 : bTo nt tl) : Qy s l (f_X11_written fu x y D s l, s, l) (p_X11_written fu x y D s l) (fun s l => (f_X12_written fu x y s l, s, l)) (p_X12_written fu x y) := by
  obtain ⟨ht0, hTx, hL, hC, yc, yw, tb⟩ := cv
  obtain ⟨rt, rx, _⟩ := rv
  have hnw := tb.2.2.2.1
  have hW := tb.2.2.2.2.2.2.1
  have hn := bt0.1
  have h57 := ct0.1
  have h65 := rt0.1
  unfold f_X11_written p_X11_written f_X12_written p_X12_written f_X12_in
  rw [hD]
  rcases ag3 x 0 nt (by omega) (by omega) with h | ⟨h1, h2, h3⟩ | ⟨k, _, hk, rfl⟩
  · refine Qy_mk (-nI 1) s s ?_ ?_ cS_rfl (fun _ _ => rfl) ?_ ?_ rS_rfl <;> simp (disch := omega) only [ln_, leT, leF, ltT, ltF, eqT, eqF, vpT, nlT, nleT, lnF, lenF, eqnF, neqF, nnF, nI_add, pk_mul, pk_div, pk_sub, ni_m, nI_clamp, md10, dm10, gI_l, gI_n, ar_t, ar_f, it_t, it_f, true_and, and_true, not_true_eq_false, not_false_eq_true, implies_true, and_self, eq_self, h, p_inT]
  · refine Qy_mk (-nI 1) s s ?_ ?_ cS_rfl (fun _ _ => rfl) ?_ ?_ rS_rfl <;> simp (disch := omega) only [ln_, leT, leF, ltT, ltF, eqT, eqF, vpT, nlT, nleT, lnF, lenF, eqnF, neqF, nnF, nI_add, pk_mul, pk_div, pk_sub, ni_m, nI_clamp, md10, dm10, gI_l, gI_n, ar_t, ar_f, it_t, it_f, true_and, and_true, not_true_eq_false, not_false_eq_true, implies_true, and_self, eq_self, h57, h65, h1, h2, p_inT]
  · rcases ag3 y 0 1 (by omega) (by omega) with h | ⟨h1, h2, h3⟩ | ⟨j, _, hj, rfl⟩
    · refine Qy_mk (-nI 1) s s ?_ ?_ cS_rfl (fun _ _ => rfl) ?_ ?_ rS_rfl <;> simp (disch := omega) only [ln_, leT, leF, ltT, ltF, eqT, eqF, vpT, nlT, nleT, lnF, lenF, eqnF, neqF, nnF, nI_add, pk_mul, pk_div, pk_sub, ni_m, nI_clamp, md10, dm10, gI_l, gI_n, ar_t, ar_f, it_t, it_f, true_and, and_true, not_true_eq_false, not_false_eq_true, implies_true, and_self, eq_self, h57, h65, h, p_inT]
    · refine Qy_mk (-nI 1) s s ?_ ?_ cS_rfl (fun _ _ => rfl) ?_ ?_ rS_rfl <;> simp (disch := omega) only [ln_, leT, leF, ltT, ltF, eqT, eqF, vpT, nlT, nleT, lnF, lenF, eqnF, neqF, nnF, nI_add, pk_mul, pk_div, pk_sub, ni_m, nI_clamp, md10, dm10, gI_l, gI_n, ar_t, ar_f, it_t, it_f, true_and, and_true, not_true_eq_false, not_false_eq_true, implies_true, and_self, eq_self, h57, h65, h1, h2, h3, p_inT]
    · have a1 := c_left (l := l) (t := t) hfu ct0 bt0 hTx.1.2.1 hTx.2.2.2.2 hnw hW hk
      have a2 := r_written (l := l) hfu rt0 bt0 rt.1 rt.2.1 rx.2.1 rx.2.2.2 hnw hW hk
      have hml := mkB_lt (fun w => agB tl th (wd w) k) nw
      have hp8 : 2 ^ nw ≤ 2 ^ 8 := Nat.pow_le_pow_right (by omega) (by omega)
      generalize mkB (fun w => agB tl th (wd w) k) nw = B at a1 a2 hml
      have b1 := bc_n (fu := fu) (S := B) (by omega)
      have b2 := bits_n (fu := fu) (S := B) hfu (by omega)
      have hj : j = 0 ∨ j = 1 := by omega
      rcases hj with rfl | rfl
      · refine Qy_mk (nI (pc B 10)) s s ?_ ?_ cS_rfl (fun _ _ => rfl) ?_ ?_ rS_rfl <;> simp (disch := omega) only [ln_, leT, leF, ltT, ltF, eqT, eqF, vpT, nlT, nleT, lnF, lenF, eqnF, neqF, nnF, nI_add, pk_mul, pk_div, pk_sub, ni_m, nI_clamp, md10, dm10, gI_l, gI_n, ar_t, ar_f, it_t, it_f, true_and, and_true, not_true_eq_false, not_false_eq_true, implies_true, and_self, eq_self, h57, h65, a1, a2, b1, b2, p_inT, p_bcT]
      · refine Qy_mk (nI B) s s ?_ ?_ cS_rfl (fun _ _ => rfl) ?_ ?_ rS_rfl <;> simp (disch := omega) only [ln_, leT, leF, ltT, ltF, eqT, eqF, vpT, nlT, nleT, lnF, lenF, eqnF, neqF, nnF, nI_add, pk_mul, pk_div, pk_sub, ni_m, nI_clamp, md10, dm10, gI_l, gI_n, ar_t, ar_f, it_t, it_f, true_and, and_true, not_true_eq_false, not_false_eq_true, implies_true, and_self, eq_self, h57, h65, a1, a2, p_inT, p_bcT]
/-- the best question so far -/
def bq (f : Nat → Nat) (i0 : Nat) : Nat → Nat × Nat
  | 0 => (99, i0)
  | v + 1 => if f (v + 1) < (bq f i0 v).2 then (v + 1, f (v + 1)) else bq f i0 v
def wth (wd : Nat → List Nat) (B n u : Nat) : Nat := ct (fun w => decide (bt B w = 1) && decide (u ∈ wd w)) n
def wst (wd : Nat → List Nat) (B nw u : Nat) : Nat := if wth wd B nw u < pc B 10 - wth wd B nw u then pc B 10 - wth wd B nw u else wth wd B nw u
theorem wth_le {B u : Nat} (hn : n ≤ 10) : wth wd B n u ≤ pc B 10 := by
  have h1 : ∀ m, wth wd B m u ≤ pc B m := by
    intro m
    induction m with
    | zero => exact Nat.le_refl _
    | succ m ih =>
      show ct _ m + (if _ then 1 else 0) ≤ pc B m + bt B m
      by_cases e : bt B m = 1
      · have : wth wd B m u ≤ pc B m := ih
        unfold wth at this
        split <;> omega
      · have : wth wd B m u ≤ pc B m := ih
        unfold wth at this
        rw [if_neg (by simp [e])]; omega
  have h2 : ∀ d, pc B n ≤ pc B (n + d) := by
    intro d
    induction d with
    | zero => exact Nat.le_refl _
    | succ d ih => exact Nat.le_trans ih (Nat.le_add_right _ _)
  have := h2 (10 - n)
  rw [show n + (10 - n) = 10 from by omega] at this
  exact Nat.le_trans (h1 n) this
theorem bq_b {f : Nat → Nat} {n : Nat} (hf : ∀ v, f v ≤ 8) : ((bq f 9 n).1 = 99 ∧ n = 0 ∧ (bq f 9 n).2 = 9) ∨ (1 ≤ (bq f 9 n).1 ∧ (bq f 9 n).1 ≤ n ∧ (bq f 9 n).2 ≤ 8) := by
  induction n with
  | zero => exact .inl ⟨rfl, rfl, rfl⟩
  | succ n ih =>
    have h1 := hf (n + 1)
    have e : bq f 9 (n + 1) = if f (n + 1) < (bq f 9 n).2 then (n + 1, f (n + 1)) else bq f 9 n := rfl
    right
    by_cases h : f (n + 1) < (bq f 9 n).2
    · rw [if_pos h] at e; rw [e]; exact ⟨by omega, by omega, h1⟩
    · rw [if_neg h] at e; rw [e]
      rcases ih with ⟨a1, a2, a3⟩ | ⟨a1, a2, a3⟩
      · omega
      · exact ⟨a1, by omega, a3⟩
end tol
