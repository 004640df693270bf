/-! The reference cuts -/
def rk (K : Nat) : Nat := if K = 0 then 0 else if K = 1 then 3 else if K = 2 then 1 else if K = 3 then 2 else if K = 59 then 4 else if K = 61 then 5 else if K = 40 then 6 else if K = 41 then 7 else if K = 43 then 8 else if K = 45 then 9 else if K = 42 then 10 else if K = 60 then 13 else if K = 47 then 15 else K - 236
def RF (B : Nat → Nat) (n k : Nat) (s : fl_I) (l : fl_L) : Prop := s 63 k = nI (rk (tK B n k)) ∧ s 64 k = nI (tP B n k) ∧ (tK B n k = 2 ∨ 256 ≤ tK B n k → l 66 k = lN (p27 (tW B n k).reverse)) ∧ (tK B n k = 3 → s 65 k = nI (tV B n k))
def tkS (s : fl_I) (k : Nat) (a b c : Int32) : fl_I := wi (wi (wi (wi s 63 k a) 64 k b) 65 k c) 60 10 (nI (k + 1))
section rtok
variable {B : Nat → Nat} {f : Nat → Bool} {a c i j k m n p q : Nat} {w : List Nat} {s s1 : fl_I} {l l1 : fl_L} {fu : Nat} {x y z x0 x1 x2 : Int32} {v : Int64}
theorem rk_k : rk (256 + i) = 20 + i := by
  unfold rk
  rw [if_neg (by omega), if_neg (by omega), if_neg (by omega), if_neg (by omega), if_neg (by omega), if_neg (by omega), if_neg (by omega), if_neg (by omega), if_neg (by omega), if_neg (by omega), if_neg (by omega), if_neg (by omega), if_neg (by omega)]
  omega
theorem r_token (h : s 60 10 = nI k) (hk : k ≤ 402) : f_X12_token fu x0 x1 x2 v s l = (tkS s k x0 x1 x2, wl l 66 k v) ∧ p_X12_token fu x0 x1 x2 v s l := by
  unfold f_X12_token p_X12_token tkS
  simp (disch := omega) only [ln_, leT, leF, ltT, ltF, eqT, eqF, vpT, nlT, nleT, lnF, lenF, eqnF, neqF, nnF, nI_add, pk_mul, pk_div, pk_sub, ni_m, nI_clamp, md10, dm10, gI_l, gI_n, ar_t, ar_f, it_t, it_f, true_and, and_true, not_true_eq_false, not_false_eq_true, implies_true, and_self, eq_self, wi_c, wi_u, upd_s, upd_n, su_r, su_c, h]
theorem RB_keep (h1 : s1 60 4 = s 60 4) (h2 : s1 62 = s 62) (r : RB B n s) : RB B n s1 := ⟨r.1, by rw [h1]; exact r.2.1, by rw [h2]; exact r.2.2⟩
theorem r_app (ha : 97 ≤ c ∧ c ≤ 122) : f_X12_appends fu (lN a) (nI c) = lN ((c - 96) + 27 * a) := by
  unfold f_X12_appends
  simp (disch := omega) only [ln_, leT, leF, ltT, ltF, eqT, eqF, vpT, nlT, nleT, lnF, lenF, eqnF, neqF, nnF, nI_add, pk_mul, pk_div, pk_sub, ni_m, nI_clamp, md10, dm10, gI_l, gI_n, ar_t, ar_f, it_t, it_f, true_and, and_true, not_true_eq_false, not_false_eq_true, implies_true, and_self, eq_self]
  rw [show c - 97 + 1 = c - 96 from by omega, nI_64 (by omega)]
  show Int64.ofNat 27 * Int64.ofNat a + Int64.ofNat (c - 96) = Int64.ofNat (c - 96 + 27 * a)
  rw [Int64.ofNat_add, Int64.ofNat_mul, Int64.add_comm]
theorem p_app : p_X12_appends fu v x = True := by unfold p_X12_appends; simp only [implies_true, and_self]
theorem r_cut146 {K : Int32 → fl_I → fl_L → fl_I × fl_L} {PK : Int32 → fl_I → fl_L → Prop} (hfu : 20000 ≤ fu) (hl : w.length ≤ 8) (hw : ∀ x ∈ w, 1 ≤ x ∧ x ≤ 26) (hk : ∀ k, k < 21 → l 67 k = lN (p27 (kw k).reverse)) (ha : a < 3000) (hi : i < 3000) :
    f_X12_cut_146 fu K fu (nI a) (nI i) (lN (p27 w.reverse)) (nI 1) (nI 0) s l = K (nI (a + i)) (f_X12_token fu (nI (rk (kwL w 21))) (nI a) (nI 0) (lN (p27 w.reverse)) s l).1 (f_X12_token fu (nI (rk (kwL w 21))) (nI a) (nI 0) (lN (p27 w.reverse)) s l).2 ∧
    (p_X12_token fu (nI (rk (kwL w 21))) (nI a) (nI 0) (lN (p27 w.reverse)) s l → PK (nI (a + i)) (f_X12_token fu (nI (rk (kwL w 21))) (nI a) (nI 0) (lN (p27 w.reverse)) s l).1 (f_X12_token fu (nI (rk (kwL w 21))) (nI a) (nI 0) (lN (p27 w.reverse)) s l).2 → p_X12_cut_146 fu PK fu (nI a) (nI i) (lN (p27 w.reverse)) (nI 1) (nI 0) s l) := by
  have key := loop_i (fun f j y => f_X12_cut_146 fu K f (nI a) (nI i) (lN (p27 w.reverse)) y (nI j) s l = K (nI (a + i)) (f_X12_token fu (nI (rk (kwL w 21))) (nI a) (nI 0) (lN (p27 w.reverse)) s l).1 (f_X12_token fu (nI (rk (kwL w 21))) (nI a) (nI 0) (lN (p27 w.reverse)) s l).2 ∧
    (p_X12_token fu (nI (rk (kwL w 21))) (nI a) (nI 0) (lN (p27 w.reverse)) s l → PK (nI (a + i)) (f_X12_token fu (nI (rk (kwL w 21))) (nI a) (nI 0) (lN (p27 w.reverse)) s l).1 (f_X12_token fu (nI (rk (kwL w 21))) (nI a) (nI 0) (lN (p27 w.reverse)) s l).2 → p_X12_cut_146 fu PK f (nI a) (nI i) (lN (p27 w.reverse)) y (nI j) s l)) (fun j y => y = nI (rk (kwL w j))) 21 ?_ ?_ fu 0 (nI 1) (Nat.zero_le _) (by omega) rfl
  · exact key
  · intro f y hy
    subst hy
    unfold f_X12_cut_146 p_X12_cut_146
    simp (disch := omega) only [ln_, leT, ar_t, ar_f, it_t, it_f, true_and, and_true, not_true_eq_false, not_false_eq_true, implies_true, and_self, eq_self, nI_add]
    exact fun h1 h2 => ⟨h1, h2⟩
  · intro f j y hj hy ih
    have h67 := hk j hj
    have hc := lcmpE (a := p27 (kw j).reverse) (b := p27 w.reverse) (p27_63 (kw_in hj) (kw_len hj)) (p27_63 hw hl)
    have hrev : ∀ {u : List Nat}, (∀ x ∈ u, 1 ≤ x ∧ x ≤ 26) → ∀ x ∈ u.reverse, 1 ≤ x ∧ x ≤ 26 := fun h x hx => h x (List.mem_reverse.mp hx)
    unfold f_X12_cut_146 p_X12_cut_146
    by_cases e : kw j = w
    · have e2 : (p27 (kw j).reverse = p27 w.reverse) = True := eq_true (by rw [e])
      simp (disch := omega) only [ln_, leF, vpT, nI_clamp, ar_t, ar_f, it_t, it_f, true_and, and_true, not_true_eq_false, not_false_eq_true, implies_true, and_self, eq_self, h67, hc, e2, nI_add]
      refine ih _ ?_
      show nI (20 + j) = nI (rk (if kw j = w then 256 + j else kwL w j))
      rw [if_pos e, rk_k]
    · have e2 : (p27 (kw j).reverse = p27 w.reverse) = False := eq_false (fun h => e (List.reverse_inj.mp (p27_inj (hrev (kw_in hj)) (hrev hw) h)))
      simp (disch := omega) only [ln_, leF, vpT, nI_clamp, ar_t, ar_f, it_t, it_f, true_and, and_true, not_true_eq_false, not_false_eq_true, implies_true, and_self, eq_self, h67, hc, e2, nI_add]
      refine ih _ ?_
      show y = nI (rk (if kw j = w then 256 + j else kwL w j))
      rw [if_neg e]; exact hy
theorem r_name {K : Int32 → fl_I → fl_L → fl_I × fl_L} {PK : Int32 → fl_I → fl_L → Prop} (hfu : 20000 ≤ fu) (rb : RB B n s) (hp : p < n) (hk : ∀ k, k < 21 → l 67 k = lN (p27 (kw k).reverse)) :
    ∃ v, f_X12_cut_85 fu K fu (nI p) (nI 0) 0 s l = K (nI (p + rnF isLt B (n - p) p)) (f_X12_token fu (nI (rk (if rnF isLt B (n - p) p ≤ 8 then kwL (wL B p (rnF isLt B (n - p) p)) 21 else 1))) (nI p) (nI 0) v s l).1 (f_X12_token fu (nI (rk (if rnF isLt B (n - p) p ≤ 8 then kwL (wL B p (rnF isLt B (n - p) p)) 21 else 1))) (nI p) (nI 0) v s l).2 ∧
    (p_X12_token fu (nI (rk (if rnF isLt B (n - p) p ≤ 8 then kwL (wL B p (rnF isLt B (n - p) p)) 21 else 1))) (nI p) (nI 0) v s l → PK (nI (p + rnF isLt B (n - p) p)) (f_X12_token fu (nI (rk (if rnF isLt B (n - p) p ≤ 8 then kwL (wL B p (rnF isLt B (n - p) p)) 21 else 1))) (nI p) (nI 0) v s l).1 (f_X12_token fu (nI (rk (if rnF isLt B (n - p) p ≤ 8 then kwL (wL B p (rnF isLt B (n - p) p)) 21 else 1))) (nI p) (nI 0) v s l).2 → p_X12_cut_85 fu PK fu (nI p) (nI 0) 0 s l) ∧
    (rnF isLt B (n - p) p ≤ 8 → v = lN (p27 (wL B p (rnF isLt B (n - p) p)).reverse)) := by
  have hr : rnF isLt B (n - p) p ≤ n - p := rn_le
  have n2 := rb.1
  generalize hR : rnF isLt B (n - p) p = r at hr ⊢
  have hin : ∀ i, i < r → isLt (B (p + i)) = true := fun i hi => rn_in (m := n - p) (by rw [hR]; exact hi)
  generalize hT : nI (rk (if r ≤ 8 then kwL (wL B p r) 21 else 1)) = T
  refine loop_i (fun f i (y : Int64) => ∃ v, f_X12_cut_85 fu K f (nI p) (nI i) y s l = K (nI (p + r)) (f_X12_token fu T (nI p) (nI 0) v s l).1 (f_X12_token fu T (nI p) (nI 0) v s l).2 ∧ (p_X12_token fu T (nI p) (nI 0) v s l → PK (nI (p + r)) (f_X12_token fu T (nI p) (nI 0) v s l).1 (f_X12_token fu T (nI p) (nI 0) v s l).2 → p_X12_cut_85 fu PK f (nI p) (nI i) y s l) ∧ (r ≤ 8 → v = lN (p27 (wL B p r).reverse))) (fun i y => y = lN (p27 (wL B p (min i 8)).reverse)) r ?_ ?_ fu 0 0 (Nat.zero_le _) (by omega) rfl
  · intro f y hy
    have hbyte : ∃ b, f_X12_byteAt fu (nI (p + r)) s l = nI b ∧ p_X12_byteAt fu (nI (p + r)) s l ∧ f_X12_isLetter fu (nI b) = nI 0 := by
      by_cases e : n ≤ p + r
      · obtain ⟨b1, b2⟩ := r_byteE (fu := fu) (l := l) rb e (by omega)
        exact ⟨0, b1, b2, rLt (c := 0) (by omega)⟩
      · obtain ⟨b1, b2⟩ := r_byte (fu := fu) (l := l) rb (p := p + r) (by omega)
        have ho := rn_out (f := isLt) (B := B) (m := n - p) (p := p) (by rw [hR]; omega)
        rw [hR] at ho
        have b3 := rLt (fu := fu) (rb.2.2 (p + r) (by omega)).2
        rw [ho] at b3
        exact ⟨B (p + r), b1, b2, b3⟩
    obtain ⟨b, b1, b2, b3⟩ := hbyte
    unfold f_X12_cut_85 p_X12_cut_85
    by_cases e : r ≤ 8
    · rw [Nat.min_eq_left e] at hy
      rw [if_pos e] at hT
      obtain ⟨g1, g2⟩ := r_cut146 (fu := fu) (K := K) (PK := PK) (s := s) (l := l) (w := wL B p r) (a := p) (i := r) hfu (by rw [wL_len]; exact e) (wL_in hin) hk (by omega) (by omega)
      rw [hT, ← hy] at g1 g2
      refine ⟨y, ?_, ?_, fun _ => hy⟩
      · simp (disch := omega) only [ln_, leT, ltF, eqT, ar_t, ar_f, it_t, it_f, true_and, and_true, not_true_eq_false, not_false_eq_true, implies_true, and_self, eq_self, nI_add, b1, b3]; exact g1
      · intro h1 h2
        simp (disch := omega) only [ln_, leT, ltF, eqT, ar_t, ar_f, it_t, it_f, true_and, and_true, not_true_eq_false, not_false_eq_true, implies_true, and_self, eq_self, nI_add, b1, b2, b3, prLt]; exact g2 h1 h2
    · rw [if_neg e] at hT
      have hT3 : nI 3 = T := hT
      refine ⟨y, ?_, ?_, fun h => absurd h e⟩
      · simp (disch := omega) only [ln_, leF, ltT, eqT, ar_t, ar_f, it_t, it_f, true_and, and_true, not_true_eq_false, not_false_eq_true, implies_true, and_self, eq_self, nI_add, b1, b3, hT3]
      · intro h1 h2
        simp (disch := omega) only [ln_, leF, ltT, eqT, ar_t, ar_f, it_t, it_f, true_and, and_true, not_true_eq_false, not_false_eq_true, implies_true, and_self, eq_self, nI_add, b1, b2, b3, prLt, hT3]; exact ⟨h1, h2⟩
  · intro f i y hi hy ih
    obtain ⟨b1, b2⟩ := r_byte (fu := fu) (l := l) rb (p := p + i) (by omega)
    have ho := hin i hi
    have b3 := rLt (fu := fu) (rb.2.2 (p + i) (by omega)).2
    rw [ho] at b3
    have hc : 97 ≤ B (p + i) ∧ B (p + i) ≤ 122 := of_decide_eq_true ho
    unfold f_X12_cut_85 p_X12_cut_85
    by_cases e : i < 8
    · have ha := r_app (fu := fu) (a := p27 (wL B p i).reverse) hc
      rw [Nat.min_eq_left (by omega)] at hy
      rw [← hy] at ha
      simp (disch := omega) only [ln_, leF, eqF, ar_t, ar_f, it_t, it_f, true_and, and_true, not_true_eq_false, not_false_eq_true, implies_true, and_self, eq_self, nI_add, b1, b2, b3, prLt, p_app, ha]
      refine ih _ ?_
      rw [Nat.min_eq_left (by omega)]
      show _ = lN (p27 (wL B p i ++ [B (p + i) - 96]).reverse)
      rw [p27_app]
    · simp (disch := omega) only [ln_, leT, eqF, ar_t, ar_f, it_t, it_f, true_and, and_true, not_true_eq_false, not_false_eq_true, implies_true, and_self, eq_self, nI_add, b1, b2, b3, prLt]
      refine ih _ ?_
      rw [hy, Nat.min_eq_right (by omega), Nat.min_eq_right (by omega)]
theorem r_int {K : Int32 → fl_I → fl_L → fl_I × fl_L} {PK : Int32 → fl_I → fl_L → Prop} (hfu : 20000 ≤ fu) (rb : RB B n s) (hp : p < n) :
    ∃ y, f_X12_cut_208 fu K fu (nI p) (nI 0) (nI 0) s l = K (nI (p + rnF isDg B (n - p) p)) (f_X12_token fu (nI (rk (if rnF isDg B (n - p) p ≤ 4 then 3 else 1))) (nI p) y 0 s l).1 (f_X12_token fu (nI (rk (if rnF isDg B (n - p) p ≤ 4 then 3 else 1))) (nI p) y 0 s l).2 ∧
    (p_X12_token fu (nI (rk (if rnF isDg B (n - p) p ≤ 4 then 3 else 1))) (nI p) y 0 s l → PK (nI (p + rnF isDg B (n - p) p)) (f_X12_token fu (nI (rk (if rnF isDg B (n - p) p ≤ 4 then 3 else 1))) (nI p) y 0 s l).1 (f_X12_token fu (nI (rk (if rnF isDg B (n - p) p ≤ 4 then 3 else 1))) (nI p) y 0 s l).2 → p_X12_cut_208 fu PK fu (nI p) (nI 0) (nI 0) s l) ∧
    (rnF isDg B (n - p) p ≤ 4 → y = nI (dV B p (rnF isDg B (n - p) p))) := by
  have hr : rnF isDg B (n - p) p ≤ n - p := rn_le
  have n2 := rb.1
  generalize hR : rnF isDg B (n - p) p = r at hr ⊢
  have hin : ∀ i, i < r → isDg (B (p + i)) = true := fun i hi => rn_in (m := n - p) (by rw [hR]; exact hi)
  generalize hT : nI (rk (if r ≤ 4 then 3 else 1)) = T
  refine loop_i (fun f i (z : Int32) => ∃ y, f_X12_cut_208 fu K f (nI p) (nI i) z s l = K (nI (p + r)) (f_X12_token fu T (nI p) y 0 s l).1 (f_X12_token fu T (nI p) y 0 s l).2 ∧ (p_X12_token fu T (nI p) y 0 s l → PK (nI (p + r)) (f_X12_token fu T (nI p) y 0 s l).1 (f_X12_token fu T (nI p) y 0 s l).2 → p_X12_cut_208 fu PK f (nI p) (nI i) z s l) ∧ (r ≤ 4 → y = nI (dV B p r))) (fun i z => i ≤ 4 → z = nI (dV B p i)) r ?_ ?_ fu 0 (nI 0) (Nat.zero_le _) (by omega) (fun _ => rfl)
  · intro f y hy
    have hbyte : ∃ b, f_X12_byteAt fu (nI (p + r)) s l = nI b ∧ p_X12_byteAt fu (nI (p + r)) s l ∧ f_X12_isDigit fu (nI b) = nI 0 := by
      by_cases e : n ≤ p + r
      · obtain ⟨b1, b2⟩ := r_byteE (fu := fu) (l := l) rb e (by omega)
        exact ⟨0, b1, b2, rDg (c := 0) (by omega)⟩
      · obtain ⟨b1, b2⟩ := r_byte (fu := fu) (l := l) rb (p := p + r) (by omega)
        have ho := rn_out (f := isDg) (B := B) (m := n - p) (p := p) (by rw [hR]; omega)
        rw [hR] at ho
        have b3 := rDg (fu := fu) (rb.2.2 (p + r) (by omega)).2
        rw [ho] at b3
        exact ⟨B (p + r), b1, b2, b3⟩
    obtain ⟨b, b1, b2, b3⟩ := hbyte
    unfold f_X12_cut_208 p_X12_cut_208
    by_cases e : r ≤ 4
    · rw [if_pos e] at hT
      have hT3 : nI 2 = T := hT
      refine ⟨y, ?_, ?_, fun _ => hy e⟩
      · simp (disch := omega) only [ln_, leT, eqT, ar_t, ar_f, it_t, it_f, true_and, and_true, not_true_eq_false, not_false_eq_true, implies_true, and_self, eq_self, nI_add, b1, b3, hT3]
      · intro h1 h2
        simp (disch := omega) only [ln_, leT, eqT, ar_t, ar_f, it_t, it_f, true_and, and_true, not_true_eq_false, not_false_eq_true, implies_true, and_self, eq_self, nI_add, b1, b2, b3, prDg, hT3]; exact ⟨h1, h2⟩
    · rw [if_neg e] at hT
      have hT3 : nI 3 = T := hT
      refine ⟨y, ?_, ?_, fun h => absurd h e⟩
      · simp (disch := omega) only [ln_, leF, eqT, ar_t, ar_f, it_t, it_f, true_and, and_true, not_true_eq_false, not_false_eq_true, implies_true, and_self, eq_self, nI_add, b1, b3, hT3]
      · intro h1 h2
        simp (disch := omega) only [ln_, leF, eqT, ar_t, ar_f, it_t, it_f, true_and, and_true, not_true_eq_false, not_false_eq_true, implies_true, and_self, eq_self, nI_add, b1, b2, b3, prDg, hT3]; exact ⟨h1, h2⟩
  · intro f i y hi hy ih
    obtain ⟨b1, b2⟩ := r_byte (fu := fu) (l := l) rb (p := p + i) (by omega)
    have ho := hin i hi
    have b3 := rDg (fu := fu) (rb.2.2 (p + i) (by omega)).2
    rw [ho] at b3
    have hc : 48 ≤ B (p + i) ∧ B (p + i) ≤ 57 := of_decide_eq_true ho
    unfold f_X12_cut_208 p_X12_cut_208
    by_cases e : i < 4
    · simp (disch := omega) only [ln_, leF, eqF, ar_t, ar_f, it_t, it_f, true_and, and_true, not_true_eq_false, not_false_eq_true, implies_true, and_self, eq_self, nI_add, b1, b2, b3, prDg]
      refine ih _ (fun _ => ?_)
      have := dV_4 (B := B) (p := p) (k := i) (fun j hj => hin j (by omega)) (by omega)
      rw [hy (by omega)]
      simp (disch := omega) only [ln_, leT, leF, ltT, ltF, eqT, eqF, vpT, nlT, nleT, lnF, lenF, eqnF, neqF, nnF, nI_add, pk_mul, pk_div, pk_sub, ni_m, nI_clamp, md10, dm10, gI_l, gI_n]
      congr 1
      show _ = 10 * dV B p i + (B (p + i) - 48)
      omega
    · simp (disch := omega) only [ln_, leT, eqF, ar_t, ar_f, it_t, it_f, true_and, and_true, not_true_eq_false, not_false_eq_true, implies_true, and_self, eq_self, nI_add, b1, b2, b3, prDg]
      exact ih _ (fun h => by omega)
theorem r_sign : f_X12_sign fu x (nI c) y s l = (nI 1, (f_X12_token fu (nI (rk (if isSg c = true then c else 1))) x (nI 0) 0 s l).1, (f_X12_token fu (nI (rk (if isSg c = true then c else 1))) x (nI 0) 0 s l).2) ∨ ¬ c < 256 := by
  by_cases hc : c < 256
  · left
    by_cases e : isSg c = true
    · rw [if_pos e]
      have h := of_decide_eq_true e
      rcases h with rfl | rfl | rfl | rfl | rfl | rfl | rfl | rfl | rfl <;> rfl
    · rw [if_neg e]
      have h : ¬ (c = 40 ∨ c = 41 ∨ c = 42 ∨ c = 43 ∨ c = 45 ∨ c = 47 ∨ c = 59 ∨ c = 60 ∨ c = 61) := fun h => e (decide_eq_true h)
      unfold f_X12_sign f_X12_sign_55 f_X12_sign_65 f_X12_sign_75 f_X12_sign_85 f_X12_sign_95 f_X12_sign_104
      simp (disch := omega) only [ln_, eqF, ar_t, ar_f, it_t, it_f, true_and, and_true, not_true_eq_false, not_false_eq_true, implies_true, and_self, eq_self]
      rfl
  · exact .inr hc
theorem rp_sign (hc : c < 256) (h : p_X12_token fu (nI (rk (if isSg c = true then c else 1))) x (nI 0) 0 s l) : p_X12_sign fu x (nI c) y s l := by
  by_cases e : isSg c = true
  · rw [if_pos e] at h
    have h2 := of_decide_eq_true e
    unfold p_X12_sign p_X12_sign_55 p_X12_sign_65 p_X12_sign_75 p_X12_sign_85 p_X12_sign_95 p_X12_sign_104
    rcases h2 with rfl | rfl | rfl | rfl | rfl | rfl | rfl | rfl | rfl <;> simp (disch := omega) only [ln_, eqF, eqT, ar_t, ar_f, it_t, it_f, true_and, and_true, not_true_eq_false, not_false_eq_true, implies_true, and_self, eq_self] <;> exact h
  · rw [if_neg e] at h
    have h2 : ¬ (c = 40 ∨ c = 41 ∨ c = 42 ∨ c = 43 ∨ c = 45 ∨ c = 47 ∨ c = 59 ∨ c = 60 ∨ c = 61) := fun h => e (decide_eq_true h)
    unfold p_X12_sign p_X12_sign_55 p_X12_sign_65 p_X12_sign_75 p_X12_sign_85 p_X12_sign_95 p_X12_sign_104
    simp (disch := omega) only [ln_, eqF, eqT, ar_t, ar_f, it_t, it_f, true_and, and_true, not_true_eq_false, not_false_eq_true, implies_true, and_self, eq_self]
    exact h
end rtok
