/-! The reference: tokens, stack and code -/
def rI (x : Nat) : Nat := if x < 20000 then 0 else if x = 20043 then 2 else if x = 20045 then 3 else if x = 20042 then 4 else if x = 20047 then 5 else 1
def rJ (x : Nat) : Nat := if x < 20000 then x else if x < 30000 then 0 else x - 30000
/-- the sign of a waiting token, as an entry of code -/
def wO (x : Nat) : Nat := if x = 8 then 20043 else if x = 9 then 20045 else if x = 10 then 20042 else 20047
def okK (K : Nat) : Bool := decide (K ≤ 3 ∨ (256 ≤ K ∧ K < 277)) || isSg K
def rkP (K : Nat) : Prop := (rk K = 6 ↔ K = 40) ∧ (rk K = 7 ↔ K = 41) ∧ (rk K = 8 ↔ K = 43) ∧ (rk K = 9 ↔ K = 45) ∧ (rk K = 10 ↔ K = 42) ∧ (rk K = 15 ↔ K = 47) ∧ (rk K = 2 ↔ K = 3) ∧ (rk K = 1 ↔ K = 2) ∧ (rk K = 4 ↔ K = 59) ∧ (rk K = 5 ↔ K = 61) ∧ (rk K = 13 ↔ K = 60) ∧ (rk K = 0 ↔ K = 0) ∧ (20 ≤ rk K ↔ 256 ≤ K) ∧ (256 ≤ K → rk K = K - 236) ∧ rk K < 41
theorem rk_d : ∀ K : Fin 278, okK K.1 = true → (rk K.1 = 6 ↔ K.1 = 40) ∧ (rk K.1 = 7 ↔ K.1 = 41) ∧ (rk K.1 = 8 ↔ K.1 = 43) ∧ (rk K.1 = 9 ↔ K.1 = 45) ∧ (rk K.1 = 10 ↔ K.1 = 42) ∧ (rk K.1 = 15 ↔ K.1 = 47) ∧ (rk K.1 = 2 ↔ K.1 = 3) ∧ (rk K.1 = 1 ↔ K.1 = 2) ∧ (rk K.1 = 4 ↔ K.1 = 59) ∧ (rk K.1 = 5 ↔ K.1 = 61) ∧ (rk K.1 = 13 ↔ K.1 = 60) ∧ (rk K.1 = 0 ↔ K.1 = 0) ∧ (20 ≤ rk K.1 ↔ 256 ≤ K.1) ∧ (256 ≤ K.1 → rk K.1 = K.1 - 236) ∧ rk K.1 < 41 := by decide +kernel
section rex
variable {B T V : Nat → Nat} {a b c e i j k m n o p q r t w e1 a1 k1 f h : Nat} {s s1 s2 : fl_I} {l l1 : fl_L} {fu : Nat} {x y z : Int32} {C C1 C2 W Q : List Nat}
theorem tK_ok (hb : ∀ i, i < n → B i < 256) : okK (tK B n k) = true := by
  have hk : ∀ K, (K ≤ 3 ∨ (256 ≤ K ∧ K < 277)) → okK K = true := fun K h => by unfold okK; rw [decide_eq_true h]; rfl
  unfold tK tkK
  have g1 := kwL_ge (w := wL B (tP B n k) (rnF isLt B (n - tP B n k) (tP B n k))) (k := 21)
  have g2 : kwL (wL B (tP B n k) (rnF isLt B (n - tP B n k) (tP B n k))) 21 < 277 := by
    have : ∀ (w : List Nat) (j : Nat), j ≤ 21 → kwL w j < 256 + j ∨ kwL w j = 2 := by
      intro w j
      induction j with
      | zero => exact fun _ => .inr rfl
      | succ j ih =>
        intro hj
        show (if kw j = w then _ else _) < _ ∨ (if kw j = w then _ else _) = 2
        by_cases e : kw j = w
        · rw [if_pos e]; left; omega
        · rw [if_neg e]; have := ih (by omega); omega
    have := this (wL B (tP B n k) (rnF isLt B (n - tP B n k) (tP B n k))) 21 (Nat.le_refl _)
    omega
  by_cases e : n ≤ tP B n k
  · rw [if_pos e]; exact hk 0 (by omega)
  · rw [if_neg e]
    by_cases e1 : isLt (B (tP B n k)) = true
    · rw [if_pos e1]
      by_cases e3 : rnF isLt B (n - tP B n k) (tP B n k) ≤ 8
      · rw [if_pos e3]; exact hk _ (by omega)
      · rw [if_neg e3]; exact hk 1 (by omega)
    · rw [if_neg e1]
      by_cases e2 : isDg (B (tP B n k)) = true
      · rw [if_pos e2]; split
        · exact hk 3 (by omega)
        · exact hk 1 (by omega)
      · rw [if_neg e2]
        by_cases e3 : isSg (B (tP B n k)) = true
        · rw [if_pos e3]; unfold okK; rw [e3, Bool.or_true]
        · rw [if_neg e3]; exact hk 1 (by omega)
def rTk (B : Nat → Nat) (n : Nat) (s : fl_I) (l : fl_L) : Prop := (∀ i, i < n → B i < 256) ∧ ∀ k, kkT (tK B n) k → RF B n k s l
theorem rkF (h : rTk B n s l) (k : Nat) : rkP (tK B n k) := rk_d ⟨tK B n k, tkK_lt h.1⟩ (tK_ok h.1)
/-- what reading an expression may change in the reference -/
def rEf (s s' : fl_I) : Prop := (∀ q, q ≠ 60 → q ≠ 89 → q ≠ 90 → q ≠ 91 → s' q = s q) ∧ ∀ j, j ≠ 11 → j ≠ 12 → j ≠ 13 → j ≠ 14 → j ≠ 42 → j ≠ 46 → s' 60 j = s 60 j
theorem rEf_rfl : rEf s s := ⟨fun _ _ _ _ _ => rfl, fun _ _ _ _ _ _ _ => rfl⟩
theorem rEf_tr (h : rEf s s1) (g : rEf s1 s2) : rEf s s2 := ⟨fun q a b c d => (g.1 q a b c d).trans (h.1 q a b c d), fun j a b c d e f => (g.2 j a b c d e f).trans (h.2 j a b c d e f)⟩
theorem rTk_keep (h : rEf s s1) (r : rTk B n s l) : rTk B n s1 l := ⟨r.1, fun k hk => by
  have := r.2 k hk
  unfold RF at this ⊢
  rw [h.1 63 (by omega) (by omega) (by omega) (by omega), h.1 64 (by omega) (by omega) (by omega) (by omega), h.1 65 (by omega) (by omega) (by omega) (by omega)]; exact this⟩
/-- entries put down behind m -/
def rCd (m : Nat) (C : List Nat) (s s' : fl_I) : Prop := (∀ j, j < m ∨ m + C.length ≤ j → s' 89 j = s 89 j ∧ s' 90 j = s 90 j) ∧ ∀ i, i < C.length → s' 89 (m + i) = nI (rI (C.getD i 0)) ∧ s' 90 (m + i) = nI (rJ (C.getD i 0))
theorem rCd_rfl : rCd m [] s s := ⟨fun _ _ => ⟨rfl, rfl⟩, fun i hi => absurd hi (Nat.not_lt_zero i)⟩
theorem rCd_seq (h1 : rCd m C1 s s1) (h2 : rCd (m + C1.length) C2 s1 s2) : rCd m (C1 ++ C2) s s2 := by
  refine ⟨fun j hj => ?_, fun i hi => ?_⟩
  · rw [List.length_append] at hj
    rw [(h2.1 j (by omega)).1, (h2.1 j (by omega)).2]; exact h1.1 j (by omega)
  · rw [List.length_append] at hi
    by_cases ei : i < C1.length
    · rw [getD_l ei, (h2.1 (m + i) (by omega)).1, (h2.1 (m + i) (by omega)).2]; exact h1.2 i ei
    · obtain ⟨d, rfl⟩ : ∃ d, i = C1.length + d := ⟨i - C1.length, by omega⟩
      rw [getD_r, ← Nat.add_assoc]; exact h2.2 d (by omega)
/-- the stack -/
def rSk (W : List Nat) (s : fl_I) : Prop := s 60 46 = nI W.length ∧ ∀ j, j < W.length → s 91 j = nI (W.getD j 0)
/-- where the reference stands -/
def rAt (B : Nat → Nat) (n k m o : Nat) (W : List Nat) (s : fl_I) (l : fl_L) : Prop := rTk B n s l ∧ kkT (tK B n) k ∧ s 60 11 = nI k ∧ s 60 13 = nI 0 ∧ s 60 42 = nI m ∧ s 60 12 = nI o ∧ rSk W s
/-- a fault is told -/
def rBd (B : Nat → Nat) (n e a : Nat) (s : fl_I) : Prop := (e = 1 ∨ e = 2) ∧ s 60 13 = nI e ∧ s 60 14 = nI (tP B n a) ∧ ∃ k, k ≤ 400 ∧ s 60 11 = nI k
theorem r_is (h : rAt B n k m o W s l) : (f_X12_is fu (nI c) s l = if rk (tK B n k) = c then nI 1 else nI 0) ∧ p_X12_is fu (nI c) s l ∨ ¬ c < 1000 := by
  by_cases hc : c < 1000
  · left
    obtain ⟨h1, h2, h3, h4, _⟩ := h
    have hk := h2.1
    have h63 := (h1.2 k h2).1
    have hr := (rkF h1 k).2.2.2.2.2.2.2.2.2.2.2.2.2.2
    unfold f_X12_is p_X12_is
    by_cases e : rk (tK B n k) = c
    · rw [if_pos e]; simp (disch := omega) only [ln_, leT, leF, ltT, ltF, eqT, eqF, vpT, nlT, nleT, lnF, lenF, eqnF, neqF, nnF, nI_add, pk_mul, pk_div, pk_sub, ni_m, nI_clamp, md10, dm10, gI_l, gI_n, ar_t, ar_f, it_t, it_f, true_and, and_true, not_true_eq_false, not_false_eq_true, implies_true, and_self, eq_self, h3, h4, h63]
    · rw [if_neg e]; simp (disch := omega) only [ln_, leT, leF, ltT, ltF, eqT, eqF, vpT, nlT, nleT, lnF, lenF, eqnF, neqF, nnF, nI_add, pk_mul, pk_div, pk_sub, ni_m, nI_clamp, md10, dm10, gI_l, gI_n, ar_t, ar_f, it_t, it_f, true_and, and_true, not_true_eq_false, not_false_eq_true, implies_true, and_self, eq_self, h3, h4, h63]
  · exact .inr hc
theorem r_isB (h : rBd B n e a s) : f_X12_is fu x s l = nI 0 ∧ p_X12_is fu x s l := by
  obtain ⟨h1, h2, h3, h4⟩ := h
  unfold f_X12_is p_X12_is
  simp (disch := omega) only [ln_, leT, leF, ltT, ltF, eqT, eqF, vpT, nlT, nleT, lnF, lenF, eqnF, neqF, nnF, nI_add, pk_mul, pk_div, pk_sub, ni_m, nI_clamp, md10, dm10, gI_l, gI_n, ar_t, ar_f, it_t, it_f, true_and, and_true, not_true_eq_false, not_false_eq_true, implies_true, and_self, eq_self, h2]
theorem r_fail (h : rAt B n k m o W s l) (he : e = 1 ∨ e = 2) : ∃ s', f_X12_fail fu (nI e) s l = (s', l) ∧ p_X12_fail fu (nI e) s l ∧ rBd B n e k s' ∧ s' 60 42 = nI m ∧ s' 60 12 = nI o ∧ rSk W s' ∧ rEf s s' ∧ s' 89 = s 89 ∧ s' 90 = s 90 := by
  obtain ⟨h1, h2, h3, h4, h5, h6, h7⟩ := h
  have hk := h2.1
  have h64 := (h1.2 k h2).2.1
  refine ⟨wi (wi s 60 13 (nI e)) 60 14 (nI (tP B n k)), ?_, ?_, ⟨he, by simp (disch := omega) only [wi_c, wi_u, upd_s, upd_n, su_r, su_c], by simp (disch := omega) only [wi_c, wi_u, upd_s, upd_n, su_r, su_c], k, hk, by simp (disch := omega) only [wi_c, wi_u, upd_s, upd_n, su_r, su_c]; exact h3⟩, by simp (disch := omega) only [wi_c, wi_u, upd_s, upd_n, su_r, su_c]; exact h5, by simp (disch := omega) only [wi_c, wi_u, upd_s, upd_n, su_r, su_c]; exact h6, ⟨by simp (disch := omega) only [wi_c, wi_u, upd_s, upd_n, su_r, su_c]; exact h7.1, fun j hj => by simp (disch := omega) only [wi_c, wi_u, upd_s, upd_n, su_r, su_c]; exact h7.2 j hj⟩, ⟨fun q a b c d => by simp (disch := omega) only [wi_c, wi_u, upd_s, upd_n, su_r, su_c], fun j a b c d e f => by simp (disch := omega) only [wi_c, wi_u, upd_s, upd_n, su_r, su_c]⟩, by simp (disch := omega) only [wi_c, wi_u, upd_s, upd_n, su_r, su_c], by simp (disch := omega) only [wi_c, wi_u, upd_s, upd_n, su_r, su_c]⟩
  · unfold f_X12_fail; simp (disch := omega) only [ln_, leT, leF, ltT, ltF, eqT, eqF, vpT, nlT, nleT, lnF, lenF, eqnF, neqF, nnF, nI_add, pk_mul, pk_div, pk_sub, ni_m, nI_clamp, md10, dm10, gI_l, gI_n, ar_t, ar_f, it_t, it_f, true_and, and_true, not_true_eq_false, not_false_eq_true, implies_true, and_self, eq_self, wi_c, wi_u, upd_s, upd_n, su_r, su_c, h3, h4, h64]
  · unfold p_X12_fail; simp (disch := omega) only [ln_, leT, leF, ltT, ltF, eqT, eqF, vpT, nlT, nleT, lnF, lenF, eqnF, neqF, nnF, nI_add, pk_mul, pk_div, pk_sub, ni_m, nI_clamp, md10, dm10, gI_l, gI_n, ar_t, ar_f, it_t, it_f, true_and, and_true, not_true_eq_false, not_false_eq_true, implies_true, and_self, eq_self, wi_c, wi_u, upd_s, upd_n, su_r, su_c, h3, h4]
theorem r_failB (h : rBd B n e a s) : f_X12_fail fu x s l = (s, l) ∧ p_X12_fail fu x s l := by
  obtain ⟨h1, h2, h3, h4⟩ := h
  unfold f_X12_fail p_X12_fail
  rcases h1 with rfl | rfl <;> simp (disch := omega) only [ln_, leT, leF, ltT, ltF, eqT, eqF, vpT, nlT, nleT, lnF, lenF, eqnF, neqF, nnF, nI_add, pk_mul, pk_div, pk_sub, ni_m, nI_clamp, md10, dm10, gI_l, gI_n, ar_t, ar_f, it_t, it_f, true_and, and_true, not_true_eq_false, not_false_eq_true, implies_true, and_self, eq_self, h2]
/-- the next token, or no room -/
theorem r_next (h : rAt B n k m o W s l) (hT : 2 ≤ tK B n k) : (k < 400 ∧ f_X12_goesOn fu s l = (wi s 60 11 (nI (k + 1)), l) ∧ p_X12_goesOn fu s l ∧ rAt B n (k + 1) m o W (wi s 60 11 (nI (k + 1))) l ∧ rEf s (wi s 60 11 (nI (k + 1)))) ∨ (k = 400 ∧ ∃ s', f_X12_goesOn fu s l = (s', l) ∧ p_X12_goesOn fu s l ∧ rBd B n 2 k s' ∧ s' 60 42 = nI m ∧ s' 60 12 = nI o ∧ rSk W s' ∧ rEf s s' ∧ s' 89 = s 89 ∧ s' 90 = s 90) := by
  have hk := h.2.1.1
  have h3 := h.2.2.1
  by_cases e : k = 400
  · right
    obtain ⟨s', g1, g2, g3⟩ := r_fail (fu := fu) (e := 2) h (.inr rfl)
    refine ⟨e, s', ?_, ?_, g3⟩
    · unfold f_X12_goesOn; simp (disch := omega) only [ln_, leT, leF, ltT, ltF, eqT, eqF, vpT, nlT, nleT, lnF, lenF, eqnF, neqF, nnF, nI_add, pk_mul, pk_div, pk_sub, ni_m, nI_clamp, md10, dm10, gI_l, gI_n, ar_t, ar_f, it_t, it_f, true_and, and_true, not_true_eq_false, not_false_eq_true, implies_true, and_self, eq_self, h3, g1]
    · unfold p_X12_goesOn; simp (disch := omega) only [ln_, leT, leF, ltT, ltF, eqT, eqF, vpT, nlT, nleT, lnF, lenF, eqnF, neqF, nnF, nI_add, pk_mul, pk_div, pk_sub, ni_m, nI_clamp, md10, dm10, gI_l, gI_n, ar_t, ar_f, it_t, it_f, true_and, and_true, not_true_eq_false, not_false_eq_true, implies_true, and_self, eq_self, h3, g2]
  · left
    have fr : rEf s (wi s 60 11 (nI (k + 1))) := ⟨fun q a b c d => by simp (disch := omega) only [wi_c, wi_u, upd_s, upd_n, su_r, su_c], fun j a b c d e f => by simp (disch := omega) only [wi_c, wi_u, upd_s, upd_n, su_r, su_c]⟩
    refine ⟨by omega, ?_, ?_, ⟨rTk_keep fr h.1, ⟨by omega, fun i hi => ?_⟩, by simp (disch := omega) only [wi_c, wi_u, upd_s, upd_n, su_r, su_c], by simp (disch := omega) only [wi_c, wi_u, upd_s, upd_n, su_r, su_c]; exact h.2.2.2.1, by simp (disch := omega) only [wi_c, wi_u, upd_s, upd_n, su_r, su_c]; exact h.2.2.2.2.1, by simp (disch := omega) only [wi_c, wi_u, upd_s, upd_n, su_r, su_c]; exact h.2.2.2.2.2.1, ⟨by simp (disch := omega) only [wi_c, wi_u, upd_s, upd_n, su_r, su_c]; exact h.2.2.2.2.2.2.1, fun j hj => by simp (disch := omega) only [wi_c, wi_u, upd_s, upd_n, su_r, su_c]; exact h.2.2.2.2.2.2.2 j hj⟩⟩, fr⟩
    · unfold f_X12_goesOn; simp (disch := omega) only [ln_, leT, leF, ltT, ltF, eqT, eqF, vpT, nlT, nleT, lnF, lenF, eqnF, neqF, nnF, nI_add, pk_mul, pk_div, pk_sub, ni_m, nI_clamp, md10, dm10, gI_l, gI_n, ar_t, ar_f, it_t, it_f, true_and, and_true, not_true_eq_false, not_false_eq_true, implies_true, and_self, eq_self, h3]
    · unfold p_X12_goesOn; simp (disch := omega) only [ln_, leT, leF, ltT, ltF, eqT, eqF, vpT, nlT, nleT, lnF, lenF, eqnF, neqF, nnF, nI_add, pk_mul, pk_div, pk_sub, ni_m, nI_clamp, md10, dm10, gI_l, gI_n, ar_t, ar_f, it_t, it_f, true_and, and_true, not_true_eq_false, not_false_eq_true, implies_true, and_self, eq_self, h3]
    · by_cases ei : i = k
      · rw [ei]; exact hT
      · exact h.2.1.2 i (by omega)
theorem r_emit (h5 : s 60 42 = nI m) (hm : m < 840) : f_X12_emit fu x y s l = (wi (wi (wi s 89 m x) 90 m y) 60 42 (nI (m + 1)), l) ∧ p_X12_emit fu x y s l := by
  unfold f_X12_emit p_X12_emit
  simp (disch := omega) only [ln_, leT, leF, ltT, ltF, eqT, eqF, vpT, nlT, nleT, lnF, lenF, eqnF, neqF, nnF, nI_add, pk_mul, pk_div, pk_sub, ni_m, nI_clamp, md10, dm10, gI_l, gI_n, ar_t, ar_f, it_t, it_f, true_and, and_true, not_true_eq_false, not_false_eq_true, implies_true, and_self, eq_self, wi_c, wi_u, upd_s, upd_n, su_r, su_c, h5]
end rex
