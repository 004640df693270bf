/-! The class cuts all -/
def CF (B : Nat → Nat) (n k : Nat) (s : fl_I) (l : fl_L) : Prop := s 5 k = nI (tK B n k) ∧ s 6 k = nI (tP B n k) ∧ (tK B n k = 2 ∨ 256 ≤ tK B n k → l 7 k = lN (p5 (tW B n k))) ∧ (tK B n k = 3 → l 7 k = lN (tV B n k))
section ctk2
variable {B : Nat → Nat} {f : Nat → Bool} {a c i j k m n p q : Nat} {w : List Nat} {s s1 : fl_I} {l l1 : fl_L} {fu : Nat} {x y z : Int32}
theorem tp0_le (h : p ≤ n) : p ≤ tp0 B n p ∧ tp0 B n p ≤ n := by
  have : rnF isBl B (n - p) p ≤ n - p := rn_le
  unfold tp0; omega
theorem tkN_le (h : p ≤ n) : p + tkN B n p ≤ n := by
  have h1 : rnF isLt B (n - p) p ≤ n - p := rn_le
  have h2 : rnF isDg B (n - p) p ≤ n - p := rn_le
  unfold tkN
  by_cases e : n ≤ p
  · rw [if_pos e]; omega
  · rw [if_neg e]
    by_cases e1 : isLt (B p) = true
    · rw [if_pos e1]; omega
    · rw [if_neg e1]
      by_cases e2 : isDg (B p) = true
      · rw [if_pos e2]; omega
      · rw [if_neg e2]; omega
theorem qP_le : qP B n k ≤ n := by
  induction k with
  | zero => exact Nat.zero_le _
  | succ k ih => exact tkN_le (tp0_le ih).2
theorem tP_le : tP B n k ≤ n := (tp0_le qP_le).2
theorem kwL_ge : 2 ≤ kwL w k ∧ (kwL w k = 2 ∨ 256 ≤ kwL w k) := by
  induction k with
  | zero => exact ⟨Nat.le_refl _, .inl rfl⟩
  | succ k ih =>
    show 2 ≤ (if kw k = w then _ else _) ∧ ((if kw k = w then _ else _) = 2 ∨ 256 ≤ (if kw k = w then _ else _))
    by_cases e : kw k = w
    · rw [if_pos e]; omega
    · rw [if_neg e]; exact ih
/-- kinds of names -/
theorem tk_name (hb : ∀ i, i < n → B i < 256) (h : tkK B n p = 2 ∨ 256 ≤ tkK B n p) : p < n ∧ isLt (B p) = true ∧ tkN B n p ≤ 8 := by
  unfold tkK at h
  unfold tkN
  by_cases e : n ≤ p
  · rw [if_pos e] at h; omega
  · rw [if_neg e] at h ⊢
    by_cases e1 : isLt (B p) = true
    · rw [if_pos e1] at h ⊢
      by_cases e3 : rnF isLt B (n - p) p ≤ 8
      · exact ⟨by omega, e1, e3⟩
      · rw [if_neg e3] at h; omega
    · rw [if_neg e1] at h
      by_cases e2 : isDg (B p) = true
      · rw [if_pos e2] at h; split at h <;> omega
      · rw [if_neg e2] at h
        have := hb p (by omega)
        by_cases e3 : isSg (B p) = true
        · rw [if_pos e3] at h
          have h2 := of_decide_eq_true e3
          omega
        · rw [if_neg e3] at h; omega
theorem tk_int (hb : ∀ i, i < n → B i < 256) (h : tkK B n p = 3) : p < n ∧ isDg (B p) = true ∧ tkN B n p ≤ 4 := by
  unfold tkK at h
  unfold tkN
  by_cases e : n ≤ p
  · rw [if_pos e] at h; omega
  · rw [if_neg e] at h ⊢
    by_cases e1 : isLt (B p) = true
    · rw [if_pos e1] at h
      have := kwL_ge (w := wL B p (rnF isLt B (n - p) p)) (k := 21)
      split at h <;> omega
    · rw [if_neg e1] at h ⊢
      by_cases e2 : isDg (B p) = true
      · rw [if_pos e2] at h ⊢
        by_cases e3 : rnF isDg B (n - p) p ≤ 4
        · exact ⟨by omega, e2, e3⟩
        · rw [if_neg e3] at h; omega
      · rw [if_neg e2] at h
        by_cases e3 : isSg (B p) = true
        · rw [if_pos e3] at h
          have h2 := of_decide_eq_true e3
          omega
        · rw [if_neg e3] at h; omega
def cFr (s : fl_I) (l : fl_L) (s1 : fl_I) (l1 : fl_L) : Prop := (∀ q, q ≠ 4 → q ≠ 5 → q ≠ 6 → s1 q = s q) ∧ (∀ j, j ≠ 4 → s1 4 j = s 4 j) ∧ ∀ q, q ≠ 7 → l1 q = l q
theorem CF_o (hj : j ≠ k) (h5 : s1 5 j = s 5 j) (h6 : s1 6 j = s 6 j) (h7 : l1 7 j = l 7 j) (r : CF B n j s l) : CF B n j s1 l1 := by
  unfold CF at *
  rw [h5, h6, h7]; exact r
theorem tkK_0 (h : n ≤ p) : tkK B n p = 0 := if_pos h
theorem tkK_p : tkK B n p < 2 ^ 31 ∨ True := .inr trivial
theorem kwL_lt : kwL w k < 257 + k := by
  induction k with
  | zero => show 2 < 257; omega
  | succ k ih =>
    show (if kw k = w then _ else _) < 257 + (k + 1)
    by_cases e : kw k = w
    · rw [if_pos e]; omega
    · rw [if_neg e]; omega
theorem tkK_lt (hb : ∀ i, i < n → B i < 256) : tkK B n p < 278 := by
  unfold tkK
  have := kwL_lt (w := wL B p (rnF isLt B (n - p) p)) (k := 21)
  by_cases e : n ≤ p
  · rw [if_pos e]; omega
  · have := hb p (by omega)
    rw [if_neg e]
    split
    · split <;> omega
    · split
      · split <;> omega
      · split <;> omega
theorem c_split (hfu : 20000 ≤ fu) (cb : CB B n s) (hq : ∀ k, k < 21 → l 8 k = lN (p5 (kw k))) : ∃ s' l', f_X6_split fu s l = (s', l') ∧ p_X6_split fu s l ∧ (∀ k, k ≤ 400 → (∀ j, j < k → 2 ≤ tK B n j) → CF B n k s' l') ∧ cFr s l s' l' := by
  have n2 := cb.1
  have hb := fun i hi => (cb.2.2 i hi).2
  have key := loop_i (fun f k (z : Bool × fl_I × fl_L) => ∃ s' l', f_X6_split_9 fu f (if z.1 = true then nI 1 else nI 0) (nI k) z.2.1 z.2.2 = (s', l') ∧ p_X6_split_9 fu f (if z.1 = true then nI 1 else nI 0) (nI k) z.2.1 z.2.2 ∧ (∀ k, k ≤ 400 → (∀ j, j < k → 2 ≤ tK B n j) → CF B n k s' l') ∧ cFr s l s' l')
    (fun k z => (z.1 = true → (∀ j, j < k → 2 ≤ tK B n j) ∧ z.2.1 4 4 = nI (qP B n k) ∧ ∀ j, j < k → CF B n j z.2.1 z.2.2) ∧ (z.1 = false → ∀ k, k ≤ 400 → (∀ j, j < k → 2 ≤ tK B n j) → CF B n k z.2.1 z.2.2) ∧ cFr s l z.2.1 z.2.2) 401 ?_ ?_ fu 0 (true, wi s 4 4 (nI 0), l) (Nat.zero_le _) (by omega) ⟨fun _ => ⟨fun j hj => absurd hj (Nat.not_lt_zero j), by show wi s 4 4 (nI 0) 4 4 = _; rw [wi_u, upd_s]; rfl, fun j hj => absurd hj (Nat.not_lt_zero j)⟩, fun h => Bool.noConfusion h, fun q h1 _ _ => wi_c h1, fun j hj => by show wi s 4 4 (nI 0) 4 j = _; rw [wi_u, upd_n hj], fun _ _ => rfl⟩
  · exact key
  · rintro f ⟨m, s0, l0⟩ ⟨h1, h2, h3⟩
    dsimp only at h1 h2 h3 ⊢
    refine ⟨s0, l0, ?_, ?_, ?_, h3⟩
    · unfold f_X6_split_9; simp (disch := omega) only [ln_, leT, leF, ltT, ltF, eqT, eqF, vpT, nlT, nleT, lnF, lenF, eqnF, neqF, nnF, nI_add, pk_mul, pk_div, pk_sub, ni_m, nI_clamp, md10, dm10, gI_l, gI_n, ar_t, ar_f, it_t, it_f, true_and, and_true, not_true_eq_false, not_false_eq_true, implies_true, and_self, eq_self]; rfl
    · unfold p_X6_split_9; simp (disch := omega) only [ln_, leT, leF, ltT, ltF, eqT, eqF, vpT, nlT, nleT, lnF, lenF, eqnF, neqF, nnF, nI_add, pk_mul, pk_div, pk_sub, ni_m, nI_clamp, md10, dm10, gI_l, gI_n, ar_t, ar_f, it_t, it_f, true_and, and_true, not_true_eq_false, not_false_eq_true, implies_true, and_self, eq_self]; trivial
    · cases m with
      | true => intro k hk _; exact (h1 rfl).2.2 k (by omega)
      | false => exact h2 rfl
  · rintro f k ⟨m, s0, l0⟩ hk ⟨h1, h2, h3⟩ ih
    replace ih := fun m s0 l0 => ih (m, s0, l0)
    dsimp only at h1 h2 h3 ih ⊢
    cases m with
    | false =>
      refine ⟨s0, l0, ?_, ?_, h2 rfl, h3⟩
      · unfold f_X6_split_9; simp (disch := omega) only [ln_, leT, leF, ltT, ltF, eqT, eqF, vpT, nlT, nleT, lnF, lenF, eqnF, neqF, nnF, nI_add, pk_mul, pk_div, pk_sub, ni_m, nI_clamp, md10, dm10, gI_l, gI_n, ar_t, ar_f, it_t, it_f, true_and, and_true, not_true_eq_false, not_false_eq_true, implies_true, and_self, eq_self, Bool.false_eq_true]; rfl
      · unfold p_X6_split_9; simp (disch := omega) only [ln_, leT, leF, ltT, ltF, eqT, eqF, vpT, nlT, nleT, lnF, lenF, eqnF, neqF, nnF, nI_add, pk_mul, pk_div, pk_sub, ni_m, nI_clamp, md10, dm10, gI_l, gI_n, ar_t, ar_f, it_t, it_f, true_and, and_true, not_true_eq_false, not_false_eq_true, implies_true, and_self, eq_self, Bool.false_eq_true]; trivial
    | true =>
      obtain ⟨g1, g2, g3⟩ := h1 rfl
      have cb0 : CB B n s0 := CB_keep (h3.1 1 (by omega) (by omega) (by omega)) (h3.1 2 (by omega) (by omega) (by omega)) cb
      have ihT := ih true
      have ihF := ih false
      have eT : (if true = true then nI 1 else nI 0) = nI 1 := if_pos rfl
      have eF : (if false = true then nI 1 else nI 0) = nI 0 := if_neg (by decide)
      simp only [eT] at ihT
      simp only [eF] at ihF
      obtain ⟨s2, e2, p2, a2, f2⟩ := c_skip (fu := fu) (x := nI k) (l := l0) (K := fun x2 x3 s l => f_X6_split_9 fu f x2 x3 s l) (PK := fun x2 x3 s l => p_X6_split_9 fu f x2 x3 s l) hfu cb0 qP_le g2
      have a2 : s2 4 4 = nI (tP B n k) := a2
      have hP : tP B n k ≤ n := tP_le
      have vk : vp_in (nI k) 401 = True := vpT hk (by omega)
      have s3_44 : (wi s2 6 k (nI (tP B n k))) 4 4 = nI (tP B n k) := by rw [wi_c (by omega)]; exact a2
      have cb3 : CB B n (wi s2 6 k (nI (tP B n k))) := CB_keep (by rw [wi_c (by omega)]; exact f2.1 1 (by omega)) (by rw [wi_c (by omega)]; exact f2.1 2 (by omega)) cb0
      have s3_11 := cb3.2.1
      -- what is left when the kind is known
      have fin : ∀ (s4 : fl_I) (l4 : fl_L), s4 4 4 = nI (qP B n (k + 1)) → c4S (wi s2 6 k (nI (tP B n k))) s4 → (tK B n k = 2 ∨ 256 ≤ tK B n k → l4 7 k = lN (p5 (tW B n k))) → (tK B n k = 3 → l4 7 k = lN (tV B n k)) → (∀ j, j ≠ k → l4 7 j = l0 7 j) → (∀ q, q ≠ 7 → l4 q = l0 q) →
          ∃ s' l', f_X6_split_101 fu (fun x2 x3 s l => f_X6_split_9 fu f x2 x3 s l) (nI k) (nI k) (nI (tK B n k)) s4 l4 = (s', l') ∧ p_X6_split_101 fu (fun x2 x3 s l => p_X6_split_9 fu f x2 x3 s l) (nI k) (nI k) (nI (tK B n k)) s4 l4 ∧ (∀ k, k ≤ 400 → (∀ j, j < k → 2 ≤ tK B n j) → CF B n k s' l') ∧ cFr s l s' l' := by
        intro s4 l4 q1 q2 q3 q4 q5 q6
        have hlt : tK B n k < 278 := tkK_lt hb
        have new : CF B n k (wi s4 5 k (nI (tK B n k))) l4 := ⟨by rw [wi_u, upd_s], by rw [wi_c (by omega), q2.1 6 (by omega), wi_u, upd_s], q3, q4⟩
        have old : ∀ j, j < k → CF B n j (wi s4 5 k (nI (tK B n k))) l4 := fun j hj => by
          refine CF_o (k := k) (by omega) ?_ ?_ (q5 j (by omega)) (g3 j hj)
          · rw [wi_u, upd_n (by omega), q2.1 5 (by omega), wi_c (by omega), f2.1 5 (by omega)]
          · rw [wi_c (by omega), q2.1 6 (by omega), wi_u, upd_n (by omega), f2.1 6 (by omega)]
        have fr : cFr s l (wi s4 5 k (nI (tK B n k))) l4 := by
          refine ⟨fun q t1 t2 t3 => ?_, fun j hj => ?_, fun q hq => ?_⟩
          · rw [wi_c t2, q2.1 q t1, wi_c t3, f2.1 q t1]; exact h3.1 q t1 t2 t3
          · rw [wi_c (by omega), q2.2 j hj, wi_c (by omega), f2.2 j hj]; exact h3.2.1 j hj
          · rw [q6 q hq]; exact h3.2.2 q hq
        have stop : tK B n k < 2 → ∀ k', k' ≤ 400 → (∀ j, j < k' → 2 ≤ tK B n j) → CF B n k' (wi s4 5 k (nI (tK B n k))) l4 := by
          intro hs k' hk' hall
          by_cases e : k' < k
          · exact old k' e
          · by_cases e2 : k' = k
            · rw [e2]; exact new
            · have := hall k (by omega); omega
        have r5 : (wi s4 5 k (nI (tK B n k))) 5 k = nI (tK B n k) := by rw [wi_u, upd_s]
        unfold f_X6_split_101 p_X6_split_101 f_X6_split_125 p_X6_split_125
        by_cases e0 : tK B n k = 0
        · obtain ⟨s5, l5, t1, t2, t3⟩ := ihF (wi s4 5 k (nI (tK B n k))) l4 ⟨fun h => absurd h (by decide), fun _ => stop (by omega), fr⟩
          refine ⟨s5, l5, ?_, ?_, t3⟩
          · simp (disch := omega) only [ln_, leT, leF, ltT, ltF, eqT, eqF, vpT, nlT, nleT, lnF, lenF, eqnF, neqF, nnF, nI_add, pk_mul, pk_div, pk_sub, ni_m, nI_clamp, md10, dm10, gI_l, gI_n, ar_t, ar_f, it_t, it_f, true_and, and_true, not_true_eq_false, not_false_eq_true, implies_true, and_self, eq_self, r5]; exact t1
          · simp (disch := omega) only [ln_, leT, leF, ltT, ltF, eqT, eqF, vpT, nlT, nleT, lnF, lenF, eqnF, neqF, nnF, nI_add, pk_mul, pk_div, pk_sub, ni_m, nI_clamp, md10, dm10, gI_l, gI_n, ar_t, ar_f, it_t, it_f, true_and, and_true, not_true_eq_false, not_false_eq_true, implies_true, and_self, eq_self, r5]; exact t2
        · by_cases e1 : tK B n k = 1
          · obtain ⟨s5, l5, t1, t2, t3⟩ := ihF (wi s4 5 k (nI (tK B n k))) l4 ⟨fun h => absurd h (by decide), fun _ => stop (by omega), fr⟩
            refine ⟨s5, l5, ?_, ?_, t3⟩
            · simp (disch := omega) only [ln_, leT, leF, ltT, ltF, eqT, eqF, vpT, nlT, nleT, lnF, lenF, eqnF, neqF, nnF, nI_add, pk_mul, pk_div, pk_sub, ni_m, nI_clamp, md10, dm10, gI_l, gI_n, ar_t, ar_f, it_t, it_f, true_and, and_true, not_true_eq_false, not_false_eq_true, implies_true, and_self, eq_self, r5]; exact t1
            · simp (disch := omega) only [ln_, leT, leF, ltT, ltF, eqT, eqF, vpT, nlT, nleT, lnF, lenF, eqnF, neqF, nnF, nI_add, pk_mul, pk_div, pk_sub, ni_m, nI_clamp, md10, dm10, gI_l, gI_n, ar_t, ar_f, it_t, it_f, true_and, and_true, not_true_eq_false, not_false_eq_true, implies_true, and_self, eq_self, r5]; exact t2
          · have A1 : ∀ j, j < k + 1 → 2 ≤ tK B n j := fun j hj => by
              by_cases ej : j = k
              · rw [ej]; omega
              · exact g1 j (by omega)
            have A2 : ∀ j, j < k + 1 → CF B n j (wi s4 5 k (nI (tK B n k))) l4 := fun j hj => by
              by_cases ej : j = k
              · rw [ej]; exact new
              · exact old j (by omega)
            obtain ⟨s5, l5, t1, t2, t3⟩ := ihT (wi s4 5 k (nI (tK B n k))) l4 ⟨fun _ => ⟨A1, by rw [wi_c (by omega)]; exact q1, A2⟩, fun h => absurd h (by decide), fr⟩
            refine ⟨s5, l5, ?_, ?_, t3⟩
            · simp (disch := omega) only [ln_, leT, leF, ltT, ltF, eqT, eqF, vpT, nlT, nleT, lnF, lenF, eqnF, neqF, nnF, nI_add, pk_mul, pk_div, pk_sub, ni_m, nI_clamp, md10, dm10, gI_l, gI_n, ar_t, ar_f, it_t, it_f, true_and, and_true, not_true_eq_false, not_false_eq_true, implies_true, and_self, eq_self, r5]; exact t1
            · simp (disch := omega) only [ln_, leT, leF, ltT, ltF, eqT, eqF, vpT, nlT, nleT, lnF, lenF, eqnF, neqF, nnF, nI_add, pk_mul, pk_div, pk_sub, ni_m, nI_clamp, md10, dm10, gI_l, gI_n, ar_t, ar_f, it_t, it_f, true_and, and_true, not_true_eq_false, not_false_eq_true, implies_true, and_self, eq_self, r5]; exact t2
      unfold f_X6_split_9 p_X6_split_9
      simp (disch := omega) only [ln_, ltF, eqF, ar_t, ar_f, it_t, it_f, true_and, and_true, not_true_eq_false, not_false_eq_true, implies_true, and_self, eq_self]
      by_cases e : tP B n k < n
      · obtain ⟨s4, l4, t1, t2, t3, t4, t5, t6, t7, t8⟩ := c_kind (fu := fu) (l := wl l0 7 k 0) (k := k) hfu cb3 e s3_44 (by omega) (fun k hk => by rw [wl_o (by omega), h3.2.2 8 (by omega)]; exact hq k hk)
        obtain ⟨s5, l5, u1, u2, u3⟩ := fin s4 l4 t3 t4 (fun h => by obtain ⟨_, v1, v2⟩ := tk_name hb h; exact t5 v1 v2) (fun h => by obtain ⟨_, v1, v2⟩ := tk_int hb h; exact t6 v1 v2) (fun j hj => by rw [t7 j hj, wl_x hj]) (fun q hq => by rw [t8 q hq, wl_o hq])
        refine ⟨s5, l5, ?_, p2 ?_, u3⟩
        · rw [e2]
          unfold f_X6_split_58
          simp (disch := omega) only [ln_, ltT, ar_t, ar_f, it_t, it_f, true_and, and_true, not_true_eq_false, not_false_eq_true, implies_true, and_self, eq_self, a2, s3_44, s3_11, nI_clamp]
          rw [show ((0 : Int64)) = 0 from rfl] at t1
          rw [t1]; exact u1
        · unfold p_X6_split_58
          simp (disch := omega) only [ln_, ltT, ar_t, ar_f, it_t, it_f, true_and, and_true, not_true_eq_false, not_false_eq_true, implies_true, and_self, eq_self, a2, s3_44, s3_11, nI_clamp, vk]
          refine ⟨t2, ?_⟩
          rw [t1]; exact u2
      · have e0 : tK B n k = 0 := tkK_0 (by omega)
        obtain ⟨s5, l5, u1, u2, u3⟩ := fin (wi s2 6 k (nI (tP B n k))) (wl l0 7 k 0) (by rw [s3_44]; congr 1; show _ = tP B n k + tkN B n (tP B n k); rw [show tkN B n (tP B n k) = 0 from if_pos (by omega), Nat.add_zero]) c4_rfl (fun h => by omega) (fun h => by omega) (fun j hj => wl_x hj) (fun q hq => wl_o hq)
        rw [e0] at u1 u2
        refine ⟨s5, l5, ?_, p2 ?_, u3⟩
        · rw [e2]
          unfold f_X6_split_58
          simp (disch := omega) only [ln_, ltF, ar_t, ar_f, it_t, it_f, true_and, and_true, not_true_eq_false, not_false_eq_true, implies_true, and_self, eq_self, a2, s3_44, s3_11, nI_clamp]
          exact u1
        · unfold p_X6_split_58
          simp (disch := omega) only [ln_, ltF, ar_t, ar_f, it_t, it_f, true_and, and_true, not_true_eq_false, not_false_eq_true, implies_true, and_self, eq_self, a2, s3_44, s3_11, nI_clamp, vk]
          exact u2
end ctk2
