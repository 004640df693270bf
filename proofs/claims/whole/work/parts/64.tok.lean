/-! The class cuts -/
section ctok
variable {B : Nat → Nat} {f : Nat → Bool} {a c i j k m n p q : Nat} {w : List Nat} {s s1 : fl_I} {l l1 : fl_L} {fu : Nat} {x y z : Int32}
theorem c_withSign (hk : k < 8) (hl : w.length = k) (hw : ∀ x ∈ w, 1 ≤ x ∧ x ≤ 26) (hc : 97 ≤ c ∧ c ≤ 122) : f_X11_withSign fu (lN (p5 w)) (nI k) ((nI c - nI 97) + nI 1) = lN (p5 (w ++ [c - 96])) := by
  have h1 := p5_lt (in26 hw)
  unfold f_X11_withSign
  simp (disch := omega) only [ln_, leT, leF, ltT, ltF, eqT, eqF, vpT, nlT, nleT, lnF, lenF, eqnF, neqF, nnF, nI_add, pk_mul, pk_div, pk_sub, ni_m, nI_clamp, md10, dm10, gI_l, gI_n, ar_t, ar_f, it_t, it_f, true_and, and_true, not_true_eq_false, not_false_eq_true, implies_true, and_self, eq_self]
  rw [nI_64 (by omega), p5_app, hl]
  rw [hl] at h1
  rw [shlN h1 hk (by omega), show c - 97 + 1 = c - 96 from by omega]
theorem c_withSign8 (hk : 8 ≤ k) (hk2 : k < 2 ^ 31) {v : Int64} : f_X11_withSign fu v (nI k) x = v := by
  unfold f_X11_withSign
  simp (disch := omega) only [ln_, leT, leF, ltT, ltF, eqT, eqF, vpT, nlT, nleT, lnF, lenF, eqnF, neqF, nnF, nI_add, pk_mul, pk_div, pk_sub, ni_m, nI_clamp, md10, dm10, gI_l, gI_n, ar_t, ar_f, it_t, it_f, true_and, and_true, not_true_eq_false, not_false_eq_true, implies_true, and_self, eq_self]
theorem p_withS {v : Int64} : p_X11_withSign fu v x y = True := by unfold p_X11_withSign; simp only [implies_true, and_self]
theorem c_name86 (hfu : 20000 ≤ fu) (hl : w.length ≤ 8) (hw : ∀ x ∈ w, 1 ≤ x ∧ x ≤ 26) (hk : ∀ k, k < 21 → l 8 k = lN (p5 (kw k))) : f_X6_nameKind_86 fu fu (lN (p5 w)) (nI 0) s l = (nI (kwL w 21), s, l) ∧ p_X6_nameKind_86 fu fu (lN (p5 w)) (nI 0) s l := by
  refine loop_i (fun f i (_ : Unit) => f_X6_nameKind_86 fu f (lN (p5 w)) (nI i) s l = (nI (kwL w 21), s, l) ∧ p_X6_nameKind_86 fu f (lN (p5 w)) (nI i) s l) (fun i _ => ∀ j, j < i → kw j ≠ w) 21 ?_ ?_ fu 0 () (Nat.zero_le _) (by omega) (fun j hj => absurd hj (Nat.not_lt_zero j))
  · intro f _ hI
    unfold f_X6_nameKind_86 p_X6_nameKind_86
    rw [kwL_no hI]
    simp (disch := omega) only [ln_, leT, leF, ltT, ltF, eqT, eqF, vpT, nlT, nleT, lnF, lenF, eqnF, neqF, nnF, nI_add, pk_mul, pk_div, pk_sub, ni_m, nI_clamp, md10, dm10, gI_l, gI_n, ar_t, ar_f, it_t, it_f, true_and, and_true, not_true_eq_false, not_false_eq_true, implies_true, and_self, eq_self]
  · intro f i _ hi hI ih
    have h8 := hk i hi
    have hc := lcmpE (a := p5 (kw i)) (b := p5 w) (p5_63 (kw_in hi) (kw_len hi)) (p5_63 hw hl)
    unfold f_X6_nameKind_86 p_X6_nameKind_86
    by_cases e : kw i = w
    · have e2 : (p5 (kw i) = p5 w) = True := eq_true (by rw [e])
      rw [kwL_yes (Nat.le_refl 21) hi e]
      simp (disch := omega) only [ln_, leT, leF, ltT, ltF, eqT, eqF, vpT, nlT, nleT, lnF, lenF, eqnF, neqF, nnF, nI_add, pk_mul, pk_div, pk_sub, ni_m, nI_clamp, md10, dm10, gI_l, gI_n, ar_t, ar_f, it_t, it_f, true_and, and_true, not_true_eq_false, not_false_eq_true, implies_true, and_self, eq_self, h8, hc, e2]
    · have e2 : (p5 (kw i) = p5 w) = False := eq_false (fun h => e (p5_inj (kw_in hi) hw h))
      simp (disch := omega) only [ln_, leT, leF, ltT, ltF, eqT, eqF, vpT, nlT, nleT, lnF, lenF, eqnF, neqF, nnF, nI_add, pk_mul, pk_div, pk_sub, ni_m, nI_clamp, md10, dm10, gI_l, gI_n, ar_t, ar_f, it_t, it_f, true_and, and_true, not_true_eq_false, not_false_eq_true, implies_true, and_self, eq_self, h8, hc, e2]
      refine ih () (fun j hj => ?_)
      by_cases ej : j = i
      · rw [ej]; exact e
      · exact hI j (by omega)
theorem c_name (hfu : 20000 ≤ fu) (cb : CB B n s) (hp : p < n) (h44 : s 4 4 = nI p) (hkk : k ≤ 400) (hq : ∀ k, k < 21 → l 8 k = lN (p5 (kw k))) :
    ∃ s' l', f_X6_nameKind fu (nI k) s l = (nI (if rnF isLt B (n - p) p ≤ 8 then kwL (wL B p (rnF isLt B (n - p) p)) 21 else 1), s', l') ∧ p_X6_nameKind fu (nI k) s l ∧ s' 4 4 = nI (p + rnF isLt B (n - p) p) ∧ c4S s s' ∧ (rnF isLt B (n - p) p ≤ 8 → l' 7 k = lN (p5 (wL B p (rnF isLt B (n - p) p)))) ∧ (∀ j, j ≠ k → l' 7 j = l 7 j) ∧ ∀ q, q ≠ 7 → l' q = l q := by
  have hr : rnF isLt B (n - p) p ≤ n - p := rn_le
  have n2 := cb.1
  generalize hR : rnF isLt B (n - p) p = r at hr ⊢
  have hin : ∀ i, i < r → isLt (B (p + i)) = true := fun i hi => rn_in (m := n - p) (by rw [hR]; exact hi)
  refine loop_i (fun f i (z : Int64 × fl_I) => ∃ s' l', f_X6_nameKind_5 fu f (nI k) (nI i) z.1 z.2 l = (nI (if r ≤ 8 then kwL (wL B p r) 21 else 1), s', l') ∧ p_X6_nameKind_5 fu f (nI k) (nI i) z.1 z.2 l ∧ s' 4 4 = nI (p + r) ∧ c4S s s' ∧ (r ≤ 8 → l' 7 k = lN (p5 (wL B p r))) ∧ (∀ j, j ≠ k → l' 7 j = l 7 j) ∧ ∀ q, q ≠ 7 → l' q = l q) (fun i z => z.1 = lN (p5 (wL B p (min i 8))) ∧ z.2 4 4 = nI (p + i) ∧ c4S s z.2) r ?_ ?_ fu 0 (0, s) (Nat.zero_le _) (by omega) ⟨rfl, h44, c4_rfl⟩
  · rintro f ⟨v, s0⟩ ⟨hv, h1, h2⟩
    dsimp only at hv h1 h2 ⊢
    have cb0 := CB_keep (h2.1 1 (by omega)) (h2.1 2 (by omega)) cb
    have h11 := cb0.2.1
    -- both ways out end alike
    have fin : ∃ s' l', (if nI r ≤ nI 8 then f_X6_nameKind_86 fu fu v (nI 0) s0 (wl l 7 k v) else (nI 1, s0, l)) = (nI (if r ≤ 8 then kwL (wL B p r) 21 else 1), s', l') ∧ ((nI r ≤ nI 8 → p_X6_nameKind_86 fu fu v (nI 0) s0 (wl l 7 k v))) ∧ s' 4 4 = nI (p + r) ∧ c4S s s' ∧ (r ≤ 8 → l' 7 k = lN (p5 (wL B p r))) ∧ (∀ j, j ≠ k → l' 7 j = l 7 j) ∧ ∀ q, q ≠ 7 → l' q = l q := by
      by_cases e : r ≤ 8
      · rw [Nat.min_eq_left e] at hv
        obtain ⟨g1, g2⟩ := c_name86 (fu := fu) (s := s0) (l := wl l 7 k v) (w := wL B p r) hfu (by rw [wL_len]; exact e) (wL_in hin) (fun k hk => by rw [wl_o (by omega)]; exact hq k hk)
        rw [← hv] at g1 g2
        refine ⟨s0, wl l 7 k v, ?_, fun _ => g2, h1, h2, fun _ => by rw [wl_e]; exact hv, fun j hj => wl_x hj, fun q hq => wl_o hq⟩
        rw [if_pos e, if_pos (nI_le e (by omega))]; exact g1
      · refine ⟨s0, l, ?_, fun h => absurd h (nI_ge (by omega) (by omega)), h1, h2, fun h => absurd h e, fun _ _ => rfl, fun _ _ => rfl⟩
        rw [if_neg e, if_neg (nI_ge (by omega) (by omega))]
    obtain ⟨s', l', g1, g2, g3⟩ := fin
    refine ⟨s', l', ?_, ?_, g3⟩
    · rw [← g1]
      unfold f_X6_nameKind_5
      by_cases e : n ≤ p + r
      · simp (disch := omega) only [ln_, leT, ar_t, ar_f, it_t, it_f, true_and, and_true, not_true_eq_false, not_false_eq_true, implies_true, and_self, eq_self, h1, h11, nI_clamp]
      · obtain ⟨b1, b2⟩ := c_byte (fu := fu) (l := l) cb0 (p := p + r) (by omega)
        have ho := rn_out (f := isLt) (B := B) (m := n - p) (p := p) (by rw [hR]; omega)
        rw [hR] at ho
        have b3 := cLt (fu := fu) (cb.2.2 (p + r) (by omega)).2
        rw [ho] at b3
        simp (disch := omega) only [ln_, leF, eqT, ar_t, ar_f, it_t, it_f, true_and, and_true, not_true_eq_false, not_false_eq_true, implies_true, and_self, eq_self, h1, h11, b1, b3, Bool.false_eq_true, nI_clamp]
    · have vk : vp_in (nI k) 401 = True := vpT (by omega) (by omega)
      unfold p_X6_nameKind_5
      by_cases e : n ≤ p + r
      · simp (disch := omega) only [ln_, leT, ar_t, ar_f, it_t, it_f, true_and, and_true, not_true_eq_false, not_false_eq_true, implies_true, and_self, eq_self, h1, h11, nI_clamp, vk]
        exact g2
      · obtain ⟨b1, b2⟩ := c_byte (fu := fu) (l := l) cb0 (p := p + r) (by omega)
        have ho := rn_out (f := isLt) (B := B) (m := n - p) (p := p) (by rw [hR]; omega)
        rw [hR] at ho
        have b3 := cLt (fu := fu) (cb.2.2 (p + r) (by omega)).2
        rw [ho] at b3
        simp (disch := omega) only [ln_, leF, eqT, ar_t, ar_f, it_t, it_f, true_and, and_true, not_true_eq_false, not_false_eq_true, implies_true, and_self, eq_self, h1, h11, b1, b2, b3, pcLt, Bool.false_eq_true, nI_clamp, vk]
        exact g2
  · rintro f i ⟨v, s0⟩ hi ⟨hv, h1, h2⟩ ih
    replace ih := fun x s' => ih (x, s')
    dsimp only at hv h1 h2 ih ⊢
    have cb0 := CB_keep (h2.1 1 (by omega)) (h2.1 2 (by omega)) cb
    have h11 := cb0.2.1
    obtain ⟨b1, b2⟩ := c_byte (fu := fu) (l := l) cb0 (p := p + i) (by omega)
    have ho := hin i hi
    have hb := cb.2.2 (p + i) (by omega)
    have b3 := cLt (fu := fu) hb.2
    rw [ho] at b3
    have hc : 97 ≤ B (p + i) ∧ B (p + i) ≤ 122 := of_decide_eq_true ho
    have hws : f_X11_withSign fu v (nI i) ((nI (B (p + i)) - nI 97) + nI 1) = lN (p5 (wL B p (min (i + 1) 8))) := by
      by_cases e : i < 8
      · rw [hv, Nat.min_eq_left (by omega), Nat.min_eq_left (by omega)]
        exact c_withSign e wL_len (wL_in (fun j hj => hin j (by omega))) hc
      · rw [c_withSign8 (by omega) (by omega), hv, Nat.min_eq_right (by omega), Nat.min_eq_right (by omega)]
    unfold f_X6_nameKind_5 p_X6_nameKind_5
    simp (disch := omega) only [ln_, leF, eqF, ar_t, ar_f, it_t, it_f, true_and, and_true, not_true_eq_false, not_false_eq_true, implies_true, and_self, eq_self, h1, h11, b1, b2, b3, pcLt, p_withS, hws, nI_add]
    exact ih _ _ ⟨rfl, by rw [wi_u, upd_s]; congr 1, c4_w h2⟩
theorem dV_lt (h : ∀ i, i < k → isDg (B (p + i)) = true) : dV B p k < 10 ^ k := by
  induction k with
  | zero => show 0 < 1; omega
  | succ k ih =>
    have h1 := ih (fun i hi => h i (by omega))
    have h2 : 48 ≤ B (p + k) ∧ B (p + k) ≤ 57 := of_decide_eq_true (h k (by omega))
    show 10 * dV B p k + (B (p + k) - 48) < 10 ^ (k + 1)
    rw [Nat.pow_succ]; omega
theorem dV_4 (h : ∀ i, i < k → isDg (B (p + i)) = true) (hk : k ≤ 4) : dV B p k ≤ 9999 := by
  have h1 := dV_lt h
  have : 10 ^ k ≤ 10 ^ 4 := Nat.pow_le_pow_right (by omega) hk
  omega
theorem c_int (hfu : 20000 ≤ fu) (cb : CB B n s) (hp : p < n) (h44 : s 4 4 = nI p) (hkk : k ≤ 400) :
    ∃ s' l', f_X6_intKind fu (nI k) s l = (nI (if rnF isDg B (n - p) p ≤ 4 then 3 else 1), s', l') ∧ p_X6_intKind fu (nI k) s l ∧ s' 4 4 = nI (p + rnF isDg B (n - p) p) ∧ c4S s s' ∧ (rnF isDg B (n - p) p ≤ 4 → l' 7 k = lN (dV B p (rnF isDg B (n - p) p))) ∧ (∀ j, j ≠ k → l' 7 j = l 7 j) ∧ ∀ q, q ≠ 7 → l' q = l q := by
  have hr : rnF isDg B (n - p) p ≤ n - p := rn_le
  have n2 := cb.1
  generalize hR : rnF isDg B (n - p) p = r at hr ⊢
  have hin : ∀ i, i < r → isDg (B (p + i)) = true := fun i hi => rn_in (m := n - p) (by rw [hR]; exact hi)
  refine loop_i (fun f i (z : Int32 × fl_I) => ∃ s' l', f_X6_intKind_5 fu f (nI k) (nI i) z.1 z.2 l = (nI (if r ≤ 4 then 3 else 1), s', l') ∧ p_X6_intKind_5 fu f (nI k) (nI i) z.1 z.2 l ∧ s' 4 4 = nI (p + r) ∧ c4S s s' ∧ (r ≤ 4 → l' 7 k = lN (dV B p r)) ∧ (∀ j, j ≠ k → l' 7 j = l 7 j) ∧ ∀ q, q ≠ 7 → l' q = l q) (fun i z => (i ≤ 4 → z.1 = nI (dV B p i)) ∧ z.2 4 4 = nI (p + i) ∧ c4S s z.2) r ?_ ?_ fu 0 (nI 0, s) (Nat.zero_le _) (by omega) ⟨fun _ => rfl, h44, c4_rfl⟩
  · rintro f ⟨v, s0⟩ ⟨hv, h1, h2⟩
    dsimp only at hv h1 h2 ⊢
    have cb0 := CB_keep (h2.1 1 (by omega)) (h2.1 2 (by omega)) cb
    have h11 := cb0.2.1
    have vk : vp_in (nI k) 401 = True := vpT (by omega) (by omega)
    refine ⟨s0, wl l 7 k v.toInt64, ?_, ?_, h1, h2, fun e => ?_, fun j hj => wl_x hj, fun q hq => wl_o hq⟩
    · unfold f_X6_intKind_5
      by_cases e : n ≤ p + r
      · by_cases e4 : r ≤ 4 <;> simp (disch := omega) only [ln_, leT, leF, ltT, ltF, eqT, eqF, vpT, nlT, nleT, lnF, lenF, eqnF, neqF, nnF, nI_add, pk_mul, pk_div, pk_sub, ni_m, nI_clamp, md10, dm10, gI_l, gI_n, ar_t, ar_f, it_t, it_f, true_and, and_true, not_true_eq_false, not_false_eq_true, implies_true, and_self, eq_self, h1, h11, if_pos, if_neg, e4]
      · obtain ⟨b1, b2⟩ := c_byte (fu := fu) (l := l) cb0 (p := p + r) (by omega)
        have ho := rn_out (f := isDg) (B := B) (m := n - p) (p := p) (by rw [hR]; omega)
        rw [hR] at ho
        have b3 := cDg (fu := fu) (cb.2.2 (p + r) (by omega)).2
        rw [ho] at b3
        by_cases e4 : r ≤ 4 <;> simp (disch := omega) only [ln_, leT, leF, ltT, ltF, eqT, eqF, vpT, nlT, nleT, lnF, lenF, eqnF, neqF, nnF, nI_add, pk_mul, pk_div, pk_sub, ni_m, nI_clamp, md10, dm10, gI_l, gI_n, ar_t, ar_f, it_t, it_f, true_and, and_true, not_true_eq_false, not_false_eq_true, implies_true, and_self, eq_self, h1, h11, b1, b3, Bool.false_eq_true, e4]
    · unfold p_X6_intKind_5
      by_cases e : n ≤ p + r
      · simp (disch := omega) only [ln_, leT, ar_t, ar_f, it_t, it_f, true_and, and_true, not_true_eq_false, not_false_eq_true, implies_true, and_self, eq_self, h1, h11, vk]
      · obtain ⟨b1, b2⟩ := c_byte (fu := fu) (l := l) cb0 (p := p + r) (by omega)
        have ho := rn_out (f := isDg) (B := B) (m := n - p) (p := p) (by rw [hR]; omega)
        rw [hR] at ho
        have b3 := cDg (fu := fu) (cb.2.2 (p + r) (by omega)).2
        rw [ho] at b3
        simp (disch := omega) only [ln_, leF, eqT, ar_t, ar_f, it_t, it_f, true_and, and_true, not_true_eq_false, not_false_eq_true, implies_true, and_self, eq_self, h1, h11, b1, b2, b3, pcDg, Bool.false_eq_true, vk]
    · have := dV_4 hin e
      rw [wl_e, hv e, nI_64 (by omega)]
  · rintro f i ⟨v, s0⟩ hi ⟨hv, h1, h2⟩ ih
    replace ih := fun x s' => ih (x, s')
    dsimp only at hv h1 h2 ih ⊢
    have cb0 := CB_keep (h2.1 1 (by omega)) (h2.1 2 (by omega)) cb
    have h11 := cb0.2.1
    obtain ⟨b1, b2⟩ := c_byte (fu := fu) (l := l) cb0 (p := p + i) (by omega)
    have ho := hin i hi
    have hb := cb.2.2 (p + i) (by omega)
    have b3 := cDg (fu := fu) hb.2
    rw [ho] at b3
    have hc : 48 ≤ B (p + i) ∧ B (p + i) ≤ 57 := of_decide_eq_true ho
    unfold f_X6_intKind_5 p_X6_intKind_5
    simp (disch := omega) only [ln_, leF, eqF, ar_t, ar_f, it_t, it_f, true_and, and_true, not_true_eq_false, not_false_eq_true, implies_true, and_self, eq_self, h1, h11, b1, b2, b3, pcDg, nI_add]
    refine ih _ _ ⟨fun h4 => ?_, by rw [wi_u, upd_s]; congr 1, c4_w h2⟩
    have := dV_4 (B := B) (p := p) (k := i) (fun j hj => hin j (by omega)) (by omega)
    rw [hv (by omega)]
    simp (disch := omega) only [ln_, leT, leF, ltT, ltF, eqT, eqF, vpT, nlT, nleT, lnF, lenF, eqnF, neqF, nnF, nI_add, pk_mul, pk_div, pk_sub, ni_m, nI_clamp, md10, dm10, gI_l, gI_n]
    congr 1
    show _ = 10 * dV B p i + (B (p + i) - 48)
    omega
theorem c_kind (hfu : 20000 ≤ fu) (cb : CB B n s) (hp : p < n) (h44 : s 4 4 = nI p) (hkk : k ≤ 400) (hq : ∀ k, k < 21 → l 8 k = lN (p5 (kw k))) :
    ∃ s' l', f_X6_kindFrom fu (nI k) s l = (nI (tkK B n p), s', l') ∧ p_X6_kindFrom fu (nI k) s l ∧ s' 4 4 = nI (p + tkN B n p) ∧ c4S s s' ∧ (isLt (B p) = true → tkN B n p ≤ 8 → l' 7 k = lN (p5 (wL B p (tkN B n p)))) ∧ (isDg (B p) = true → tkN B n p ≤ 4 → l' 7 k = lN (dV B p (tkN B n p))) ∧ (∀ j, j ≠ k → l' 7 j = l 7 j) ∧ ∀ q, q ≠ 7 → l' q = l q := by
  obtain ⟨b1, b2⟩ := c_byte (fu := fu) (l := l) cb hp
  have hb := (cb.2.2 p hp).2
  have n2 := cb.1
  have bl := cLt (fu := fu) hb
  have bd := cDg (fu := fu) hb
  have bs := cSg (fu := fu) hb
  have hnp : ¬ n ≤ p := by omega
  unfold f_X6_kindFrom p_X6_kindFrom tkK tkN
  rw [if_neg hnp, if_neg hnp]
  cases eL : isLt (B p) with
  | true =>
    rw [eL] at bl
    obtain ⟨s', l', g1, g2, g3, g4, g5, g6, g7⟩ := c_name (fu := fu) hfu cb hp h44 hkk hq
    refine ⟨s', l', ?_, ?_, by rw [if_pos rfl]; exact g3, g4, fun _ h => by rw [if_pos rfl] at h ⊢; exact g5 h, fun h => ?_, g6, g7⟩
    · simp (disch := omega) only [ln_, leT, leF, ltT, ltF, eqT, eqF, vpT, nlT, nleT, lnF, lenF, eqnF, neqF, nnF, nI_add, pk_mul, pk_div, pk_sub, ni_m, nI_clamp, md10, dm10, gI_l, gI_n, ar_t, ar_f, it_t, it_f, true_and, and_true, not_true_eq_false, not_false_eq_true, implies_true, and_self, eq_self, h44, b1, bl, g1]
    · simp (disch := omega) only [ln_, leT, leF, ltT, ltF, eqT, eqF, vpT, nlT, nleT, lnF, lenF, eqnF, neqF, nnF, nI_add, pk_mul, pk_div, pk_sub, ni_m, nI_clamp, md10, dm10, gI_l, gI_n, ar_t, ar_f, it_t, it_f, true_and, and_true, not_true_eq_false, not_false_eq_true, implies_true, and_self, eq_self, h44, b1, b2, bl, pcLt, g2]
    · have h1 : 97 ≤ B p ∧ B p ≤ 122 := of_decide_eq_true eL
      have h2 : 48 ≤ B p ∧ B p ≤ 57 := of_decide_eq_true h
      omega
  | false =>
    rw [eL] at bl
    cases eD : isDg (B p) with
    | true =>
      rw [eD] at bd
      obtain ⟨s', l', g1, g2, g3, g4, g5, g6, g7⟩ := c_int (fu := fu) (l := l) hfu cb hp h44 hkk
      refine ⟨s', l', ?_, ?_, ?_, g4, fun h => absurd h (by decide), fun _ h => ?_, g6, g7⟩
      · simp (disch := omega) only [ln_, leT, leF, ltT, ltF, eqT, eqF, vpT, nlT, nleT, lnF, lenF, eqnF, neqF, nnF, nI_add, pk_mul, pk_div, pk_sub, ni_m, nI_clamp, md10, dm10, gI_l, gI_n, ar_t, ar_f, it_t, it_f, true_and, and_true, not_true_eq_false, not_false_eq_true, implies_true, and_self, eq_self, h44, b1, bl, bd, g1, Bool.false_eq_true]
      · simp (disch := omega) only [ln_, leT, leF, ltT, ltF, eqT, eqF, vpT, nlT, nleT, lnF, lenF, eqnF, neqF, nnF, nI_add, pk_mul, pk_div, pk_sub, ni_m, nI_clamp, md10, dm10, gI_l, gI_n, ar_t, ar_f, it_t, it_f, true_and, and_true, not_true_eq_false, not_false_eq_true, implies_true, and_self, eq_self, h44, b1, b2, bl, bd, pcLt, pcDg, g2, Bool.false_eq_true]
      · simp (disch := omega) only [ar_t, ar_f, it_t, it_f, true_and, and_true, not_true_eq_false, not_false_eq_true, implies_true, and_self, eq_self, Bool.false_eq_true]; exact g3
      · simp (disch := omega) only [ar_t, ar_f, it_t, it_f, true_and, and_true, not_true_eq_false, not_false_eq_true, implies_true, and_self, eq_self, Bool.false_eq_true] at h ⊢; exact g5 h
    | false =>
      rw [eD] at bd
      have l0 : ∀ {P : Prop}, false = true → P := fun h => absurd h (by decide)
      cases eS : isSg (B p) with
      | true =>
        rw [eS] at bs
        refine ⟨wi s 4 4 (nI (p + 1)), l, ?_, ?_, ?_, c4_w c4_rfl, fun h => l0 h, fun h => l0 h, fun _ _ => rfl, fun _ _ => rfl⟩
        · simp (disch := omega) only [ln_, leT, leF, ltT, ltF, eqT, eqF, vpT, nlT, nleT, lnF, lenF, eqnF, neqF, nnF, nI_add, pk_mul, pk_div, pk_sub, ni_m, nI_clamp, md10, dm10, gI_l, gI_n, ar_t, ar_f, it_t, it_f, true_and, and_true, not_true_eq_false, not_false_eq_true, implies_true, and_self, eq_self, h44, b1, bl, bd, bs, Bool.false_eq_true]
        · simp (disch := omega) only [ln_, leT, leF, ltT, ltF, eqT, eqF, vpT, nlT, nleT, lnF, lenF, eqnF, neqF, nnF, nI_add, pk_mul, pk_div, pk_sub, ni_m, nI_clamp, md10, dm10, gI_l, gI_n, ar_t, ar_f, it_t, it_f, true_and, and_true, not_true_eq_false, not_false_eq_true, implies_true, and_self, eq_self, h44, b1, b2, bl, bd, bs, pcLt, pcDg, pcSg, Bool.false_eq_true]
        · simp (disch := omega) only [ar_t, ar_f, it_t, it_f, true_and, and_true, not_true_eq_false, not_false_eq_true, implies_true, and_self, eq_self, wi_c, wi_u, upd_s, upd_n, su_r, su_c, Bool.false_eq_true]
      | false =>
        rw [eS] at bs
        refine ⟨wi s 4 4 (nI (p + 1)), l, ?_, ?_, ?_, c4_w c4_rfl, fun h => l0 h, fun h => l0 h, fun _ _ => rfl, fun _ _ => rfl⟩
        · simp (disch := omega) only [ln_, leT, leF, ltT, ltF, eqT, eqF, vpT, nlT, nleT, lnF, lenF, eqnF, neqF, nnF, nI_add, pk_mul, pk_div, pk_sub, ni_m, nI_clamp, md10, dm10, gI_l, gI_n, ar_t, ar_f, it_t, it_f, true_and, and_true, not_true_eq_false, not_false_eq_true, implies_true, and_self, eq_self, h44, b1, bl, bd, bs, Bool.false_eq_true]
        · simp (disch := omega) only [ln_, leT, leF, ltT, ltF, eqT, eqF, vpT, nlT, nleT, lnF, lenF, eqnF, neqF, nnF, nI_add, pk_mul, pk_div, pk_sub, ni_m, nI_clamp, md10, dm10, gI_l, gI_n, ar_t, ar_f, it_t, it_f, true_and, and_true, not_true_eq_false, not_false_eq_true, implies_true, and_self, eq_self, h44, b1, b2, bl, bd, bs, pcLt, pcDg, pcSg, Bool.false_eq_true]
        · simp (disch := omega) only [ar_t, ar_f, it_t, it_f, true_and, and_true, not_true_eq_false, not_false_eq_true, implies_true, and_self, eq_self, wi_c, wi_u, upd_s, upd_n, su_r, su_c, Bool.false_eq_true]
end ctok
