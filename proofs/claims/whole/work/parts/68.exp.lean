/-! Expressions: what is read of the tokens T, V from k on: R level within k fault end code. Levels: 0 unit, 1 its rest, 2 product, 3 its rest, 4 sum. Code: an int as it is, 20000 + the sign, 30000 + the variable's number -/
def tkE (T : Nat → Nat) (c k : Nat) : Nat × Nat := if T k = c then (if k < 400 then (0, k + 1) else (2, k)) else (1, k)
def opS (r c : Nat) : Prop := if r = 1 then c = 42 ∨ c = 47 else c = 43 ∨ c = 45
def eCl (T V : Nat → Nat) (R : Nat → Nat → Nat → Nat → Nat → List Nat → Prop) : Prop :=
  (∀ w k, T k = 40 → 6 ≤ w → R 0 w k 2 k []) ∧
  (∀ w k e a, T k = 40 → w < 6 → tkE T 40 k = (e, a) → e ≠ 0 → R 0 w k e a []) ∧
  (∀ w k a e a' c, T k = 40 → w < 6 → tkE T 40 k = (0, a) → R 4 (w + 1) a e a' c → e ≠ 0 → R 0 w k e a' []) ∧
  (∀ w k a a' c e a'', T k = 40 → w < 6 → tkE T 40 k = (0, a) → R 4 (w + 1) a 0 a' c → tkE T 41 a' = (e, a'') → R 0 w k e a'' c) ∧
  (∀ w k e a, T k ≠ 40 → 268 ≤ T k → T k < 277 → tkE T (T k) k = (e, a) → R 0 w k e a [30000 + (T k - 268)]) ∧
  (∀ w k e a, T k ≠ 40 → ¬ (268 ≤ T k ∧ T k < 277) → tkE T 3 k = (e, a) → R 0 w k e a [V k]) ∧
  (∀ r w k, r = 1 ∨ r = 3 → ¬ opS r (T k) → R r w k 0 k []) ∧
  (∀ r w k e a, r = 1 ∨ r = 3 → opS r (T k) → tkE T (T k) k = (e, a) → e ≠ 0 → R r w k e a []) ∧
  (∀ r w k a e a' c, r = 1 ∨ r = 3 → opS r (T k) → tkE T (T k) k = (0, a) → R (r - 1) w a e a' c → e ≠ 0 → R r w k e a' []) ∧
  (∀ r w k a a' c e a'' c', r = 1 ∨ r = 3 → opS r (T k) → tkE T (T k) k = (0, a) → R (r - 1) w a 0 a' c → R r w a' e a'' c' → R r w k e a'' (c ++ (20000 + T k) :: c')) ∧
  (∀ r w k e a c, r = 1 ∨ r = 3 → R (r - 1) w k e a c → e ≠ 0 → R (r + 1) w k e a []) ∧
  (∀ r w k a c e a' c', r = 1 ∨ r = 3 → R (r - 1) w k 0 a c → R r w a e a' c' → R (r + 1) w k e a' (c ++ c'))
def eD (T V : Nat → Nat) (lv w k e a : Nat) (c : List Nat) : Prop := ∀ R, eCl T V R → R lv w k e a c
/-- the entries in the class's code -/
def cI (x : Nat) : Int32 := if x < 20000 then nI x else if x = 20043 then -nI 1 else if x = 20045 then -nI 2 else if x = 20042 then -nI 3 else if x = 20047 then -nI 4 else -nI (7 + (x - 30000))
/-- how far the tokens are looked at -/
def kkT (T : Nat → Nat) (k : Nat) : Prop := k ≤ 400 ∧ ∀ i, i < k → 2 ≤ T i
section cex
variable {B T V : Nat → Nat} {a b c e i j k m n p q r t w e1 a1 : Nat} {s s1 : fl_I} {l l1 : fl_L} {fu : Nat} {x y z : Int32} {C : List Nat}
theorem eD_cl : eCl T V (eD T V) := by
  refine ⟨?_, ?_, ?_, ?_, ?_, ?_, ?_, ?_, ?_, ?_, ?_, ?_⟩
  · exact fun w k h1 h2 R h => h.1 w k h1 h2
  · exact fun w k e a h1 h2 h3 h4 R h => h.2.1 w k e a h1 h2 h3 h4
  · exact fun w k a e a' c h1 h2 h3 h4 h5 R h => h.2.2.1 w k a e a' c h1 h2 h3 (h4 R h) h5
  · exact fun w k a a' c e a'' h1 h2 h3 h4 h5 R h => h.2.2.2.1 w k a a' c e a'' h1 h2 h3 (h4 R h) h5
  · exact fun w k e a h1 h2 h3 h4 R h => h.2.2.2.2.1 w k e a h1 h2 h3 h4
  · exact fun w k e a h1 h2 h3 R h => h.2.2.2.2.2.1 w k e a h1 h2 h3
  · exact fun r w k h1 h2 R h => h.2.2.2.2.2.2.1 r w k h1 h2
  · exact fun r w k e a h1 h2 h3 h4 R h => h.2.2.2.2.2.2.2.1 r w k e a h1 h2 h3 h4
  · exact fun r w k a e a' c h1 h2 h3 h4 h5 R h => h.2.2.2.2.2.2.2.2.1 r w k a e a' c h1 h2 h3 (h4 R h) h5
  · exact fun r w k a a' c e a'' c' h1 h2 h3 h4 h5 R h => h.2.2.2.2.2.2.2.2.2.1 r w k a a' c e a'' c' h1 h2 h3 (h4 R h) (h5 R h)
  · exact fun r w k e a c h1 h2 h3 R h => h.2.2.2.2.2.2.2.2.2.2.1 r w k e a c h1 (h2 R h) h3
  · exact fun r w k a c e a' c' h1 h2 h3 R h => h.2.2.2.2.2.2.2.2.2.2.2 r w k a c e a' c' h1 (h2 R h) (h3 R h)
/-- what reading an expression may change in the class -/
def cEf (t : Nat) (s s' : fl_I) : Prop := (∀ q, q ≠ 3 → q ≠ t → q ≠ t + 9 → s' q = s q) ∧ (∀ j, j ≠ 0 → j ≠ 2 → j ≠ 3 → s' 3 j = s 3 j) ∧ ∀ j, j ≠ 14 → s' t j = s t j
theorem cEf_rfl : cEf t s s := ⟨fun _ _ _ _ => rfl, fun _ _ _ _ => rfl, fun _ _ => rfl⟩
theorem cEf_tr {s2 : fl_I} (h : cEf t s s1) (g : cEf t s1 s2) : cEf t s s2 := ⟨fun q a b c => (g.1 q a b c).trans (h.1 q a b c), fun j a b c => (g.2.1 j a b c).trans (h.2.1 j a b c), fun j a => (g.2.2 j a).trans (h.2.2 j a)⟩
/-- the class's tokens -/
def cTk (B : Nat → Nat) (n : Nat) (s : fl_I) (l : fl_L) : Prop := (∀ i, i < n → B i < 256) ∧ ∀ k, kkT (tK B n) k → CF B n k s l
theorem cTk_keep (ht : t = 9 ∨ t = 20) (h : cEf t s s1) (r : cTk B n s l) : cTk B n s1 l := ⟨r.1, fun k hk => by
  have := r.2 k hk
  unfold CF at this ⊢
  rw [h.1 5 (by omega) (by omega) (by omega), h.1 6 (by omega) (by omega) (by omega)]; exact this⟩
/-- where the class stands: at token k, with m entries of code -/
def cAt (B : Nat → Nat) (n t k m : Nat) (s : fl_I) (l : fl_L) : Prop := cTk B n s l ∧ kkT (tK B n) k ∧ s 3 2 = nI k ∧ s 3 3 = nI 0 ∧ s t 14 = nI m
/-- how it stands behind -/
def cPo (B : Nat → Nat) (n t k e a m : Nat) (C : List Nat) (s : fl_I) (l : fl_L) (r : Int32 × fl_I × fl_L) : Prop := e ≤ 2 ∧ ∃ s', r = (if e = 0 then nI 1 else nI 0, s', l) ∧ cEf t s s' ∧ (e = 0 → k + C.length ≤ a ∧ cAt B n t a (m + C.length) s' l ∧ (∀ j, j < m → s' (t + 9) j = s (t + 9) j) ∧ ∀ i, i < C.length → s' (t + 9) (m + i) = cI (C.getD i 0)) ∧ (e ≠ 0 → s' 3 3 = nI e ∧ s' 3 0 = nI (tP B n a))
theorem tK_lt (h : cTk B n s l) : tK B n k < 278 := tkK_lt h.1
theorem c_kindNow (h : cAt B n t k m s l) : f_X3_kindNow fu s l = nI (tK B n k) ∧ p_X3_kindNow fu s l := by
  obtain ⟨h1, h2, h3, h4, h5⟩ := h
  have := h2.1
  have hc := (h1.2 k h2).1
  unfold f_X3_kindNow p_X3_kindNow
  simp (disch := omega) only [ln_, leT, leF, ltT, ltF, eqT, eqF, vpT, nlT, nleT, lnF, lenF, eqnF, neqF, nnF, nI_add, pk_mul, pk_div, pk_sub, ni_m, nI_clamp, md10, dm10, gI_l, gI_n, ar_t, ar_f, it_t, it_f, true_and, and_true, not_true_eq_false, not_false_eq_true, implies_true, and_self, eq_self, h3, hc]
theorem c_valueNow (h : cAt B n t k m s l) : f_X3_valueNow fu s l = l 7 k ∧ p_X3_valueNow fu s l := by
  obtain ⟨h1, h2, h3, h4, h5⟩ := h
  have := h2.1
  unfold f_X3_valueNow p_X3_valueNow
  simp (disch := omega) only [ln_, leT, leF, ltT, ltF, eqT, eqF, vpT, nlT, nleT, lnF, lenF, eqnF, neqF, nnF, nI_add, pk_mul, pk_div, pk_sub, ni_m, nI_clamp, md10, dm10, gI_l, gI_n, ar_t, ar_f, it_t, it_f, true_and, and_true, not_true_eq_false, not_false_eq_true, implies_true, and_self, eq_self, h3]
theorem c_stop (ht : t = 9 ∨ t = 20) (h : cAt B n t k m s l) (he : e = 1 ∨ e = 2) : cPo B n t k e k m C s l (f_X3_stop fu (nI e) s l) ∧ p_X3_stop fu (nI e) s l := by
  obtain ⟨h1, h2, h3, h4, h5⟩ := h
  have := h2.1
  have hc := (h1.2 k h2).2.1
  unfold f_X3_stop p_X3_stop
  refine ⟨⟨by omega, wi (wi s 3 3 (nI e)) 3 0 (nI (tP B n k)), ?_, ⟨fun q a b c => by simp (disch := omega) only [wi_c, wi_u, upd_s, upd_n, su_r, su_c], fun j a b c => by simp (disch := omega) only [wi_c, wi_u, upd_s, upd_n, su_r, su_c], fun j a => by simp (disch := omega) only [wi_c, wi_u, upd_s, upd_n, su_r, su_c]⟩, fun h => by omega, fun _ => ⟨by simp (disch := omega) only [wi_c, wi_u, upd_s, upd_n, su_r, su_c], by simp (disch := omega) only [wi_c, wi_u, upd_s, upd_n, su_r, su_c]⟩⟩, ?_⟩
  · rw [if_neg (show ¬ e = 0 by omega)]
    simp (disch := omega) only [ln_, leT, leF, ltT, ltF, eqT, eqF, vpT, nlT, nleT, lnF, lenF, eqnF, neqF, nnF, nI_add, pk_mul, pk_div, pk_sub, ni_m, nI_clamp, md10, dm10, gI_l, gI_n, ar_t, ar_f, it_t, it_f, true_and, and_true, not_true_eq_false, not_false_eq_true, implies_true, and_self, eq_self, wi_c, wi_u, upd_s, upd_n, su_r, su_c, h3, hc]
  · simp (disch := omega) only [ln_, leT, leF, ltT, ltF, eqT, eqF, vpT, nlT, nleT, lnF, lenF, eqnF, neqF, nnF, nI_add, pk_mul, pk_div, pk_sub, ni_m, nI_clamp, md10, dm10, gI_l, gI_n, ar_t, ar_f, it_t, it_f, true_and, and_true, not_true_eq_false, not_false_eq_true, implies_true, and_self, eq_self, wi_c, wi_u, upd_s, upd_n, su_r, su_c, h3]
theorem c_take (ht : t = 9 ∨ t = 20) (h : cAt B n t k m s l) (hc : 2 ≤ c) (hc2 : c < 1000) (he : tkE (tK B n) c k = (e, a)) : cPo B n t k e a m [] s l (f_X3_take fu (nI c) s l) ∧ p_X3_take fu (nI c) s l := by
  obtain ⟨k1, k2⟩ := c_kindNow (fu := fu) h
  have hlt := tK_lt (k := k) h.1
  have h3 := h.2.2.1
  have hk := h.2.1.1
  unfold f_X3_take p_X3_take
  unfold tkE at he
  by_cases e1 : tK B n k = c
  · rw [if_pos e1] at he
    by_cases e2 : k < 400
    · rw [if_pos e2] at he
      obtain ⟨rfl, rfl⟩ := Prod.mk.inj he
      refine ⟨⟨by omega, wi s 3 2 (nI (k + 1)), ?_, ⟨fun q a b c => by simp (disch := omega) only [wi_c, wi_u, upd_s, upd_n, su_r, su_c], fun j a b c => by simp (disch := omega) only [wi_c, wi_u, upd_s, upd_n, su_r, su_c], fun j a => by simp (disch := omega) only [wi_c, wi_u, upd_s, upd_n, su_r, su_c]⟩, fun _ => ⟨by show k + 0 ≤ k + 1; omega, ?_, fun j hj => by simp (disch := omega) only [wi_c, wi_u, upd_s, upd_n, su_r, su_c], fun i hi => absurd hi (Nat.not_lt_zero i)⟩, fun h => absurd rfl h⟩, ?_⟩
      · rw [if_pos rfl]
        simp (disch := omega) only [ln_, leT, leF, ltT, ltF, eqT, eqF, vpT, nlT, nleT, lnF, lenF, eqnF, neqF, nnF, nI_add, pk_mul, pk_div, pk_sub, ni_m, nI_clamp, md10, dm10, gI_l, gI_n, ar_t, ar_f, it_t, it_f, true_and, and_true, not_true_eq_false, not_false_eq_true, implies_true, and_self, eq_self, k1, h3, e1]
      · obtain ⟨h1, h2, h3, h4, h5⟩ := h
        refine ⟨cTk_keep ht ⟨fun q a b c => by simp (disch := omega) only [wi_c, wi_u, upd_s, upd_n, su_r, su_c], fun j a b c => by simp (disch := omega) only [wi_c, wi_u, upd_s, upd_n, su_r, su_c], fun j a => by simp (disch := omega) only [wi_c, wi_u, upd_s, upd_n, su_r, su_c]⟩ h1, ⟨by omega, fun i hi => ?_⟩, by simp (disch := omega) only [wi_c, wi_u, upd_s, upd_n, su_r, su_c], by simp (disch := omega) only [wi_c, wi_u, upd_s, upd_n, su_r, su_c]; exact h4, by simp (disch := omega) only [wi_c, wi_u, upd_s, upd_n, su_r, su_c]; exact h5⟩
        by_cases ei : i = k
        · rw [ei, e1]; exact hc
        · exact h2.2 i (by omega)
      · simp (disch := omega) only [ln_, leT, leF, ltT, ltF, eqT, eqF, vpT, nlT, nleT, lnF, lenF, eqnF, neqF, nnF, nI_add, pk_mul, pk_div, pk_sub, ni_m, nI_clamp, md10, dm10, gI_l, gI_n, ar_t, ar_f, it_t, it_f, true_and, and_true, not_true_eq_false, not_false_eq_true, implies_true, and_self, eq_self, k1, k2, h3, e1]
    · rw [if_neg e2] at he
      obtain ⟨rfl, rfl⟩ := Prod.mk.inj he
      obtain ⟨g1, g2⟩ := c_stop (fu := fu) (e := 2) (C := []) ht h (.inr rfl)
      have g3 : (f_X3_stop fu (nI 2) s l).1 = nI 0 := by obtain ⟨_, s', g, _⟩ := g1; rw [g]; rfl
      refine ⟨?_, ?_⟩
      · simp (disch := omega) only [ln_, leT, leF, ltT, ltF, eqT, eqF, vpT, nlT, nleT, lnF, lenF, eqnF, neqF, nnF, nI_add, pk_mul, pk_div, pk_sub, ni_m, nI_clamp, md10, dm10, gI_l, gI_n, ar_t, ar_f, it_t, it_f, true_and, and_true, not_true_eq_false, not_false_eq_true, implies_true, and_self, eq_self, k1, h3, e1]; exact g1
      · simp (disch := omega) only [ln_, leT, leF, ltT, ltF, eqT, eqF, vpT, nlT, nleT, lnF, lenF, eqnF, neqF, nnF, nI_add, pk_mul, pk_div, pk_sub, ni_m, nI_clamp, md10, dm10, gI_l, gI_n, ar_t, ar_f, it_t, it_f, true_and, and_true, not_true_eq_false, not_false_eq_true, implies_true, and_self, eq_self, k1, k2, h3, e1, g2, g3, true_or]
  · rw [if_neg e1] at he
    obtain ⟨rfl, rfl⟩ := Prod.mk.inj he
    obtain ⟨g1, g2⟩ := c_stop (fu := fu) (e := 1) (C := []) ht h (.inl rfl)
    have g3 : (f_X3_stop fu (nI 1) s l).1 = nI 0 := by obtain ⟨_, s', g, _⟩ := g1; rw [g]; rfl
    refine ⟨?_, ?_⟩
    · simp (disch := omega) only [ln_, leT, leF, ltT, ltF, eqT, eqF, vpT, nlT, nleT, lnF, lenF, eqnF, neqF, nnF, nI_add, pk_mul, pk_div, pk_sub, ni_m, nI_clamp, md10, dm10, gI_l, gI_n, ar_t, ar_f, it_t, it_f, true_and, and_true, not_true_eq_false, not_false_eq_true, implies_true, and_self, eq_self, k1, h3]; exact g1
    · simp (disch := omega) only [ln_, leT, leF, ltT, ltF, eqT, eqF, vpT, nlT, nleT, lnF, lenF, eqnF, neqF, nnF, nI_add, pk_mul, pk_div, pk_sub, ni_m, nI_clamp, md10, dm10, gI_l, gI_n, ar_t, ar_f, it_t, it_f, true_and, and_true, not_true_eq_false, not_false_eq_true, implies_true, and_self, eq_self, k1, k2, h3, g2, g3, true_or]
theorem p_addC : p_X5_addCode fu x t s l := by
  unfold p_X5_addCode
  refine ⟨fun _ => trivial, fun h1 => ⟨fun _ => trivial, fun h2 => ⟨?_, trivial⟩⟩⟩
  rcases ag (s t 14) 408 (by omega) with (h | h) | ⟨j, hj, h⟩
  · exact absurd h h1
  · exact absurd h h2
  · rw [h]; exact vp_in_nI hj (by omega)
end cex
