/-! The class takes names and numbers -/
def sF (s s1 : fl_I) : Prop := ∀ q, q ≠ 3 → s1 q = s q
def lF (l l1 : fl_L) : Prop := ∀ q, q ≠ 3 → l1 q = l q
/-- what waits is noted, or not -/
def nt (lf lj c k : Nat) (b : Prop) (lf' lj' : Nat) : Prop := (lf = 0 ∧ b ∧ lf' = c ∧ lj' = k) ∨ (¬ (lf = 0 ∧ b) ∧ lf' = lf ∧ lj' = lj)
def cJ (B : Nat → Nat) (n t k m lf lj : Nat) (s : fl_I) (l : fl_L) : Prop := cAt B n t k m s l ∧ cLF B n lf lj s ∧ lf ≤ 9
def cB2 (B : Nat → Nat) (n e a : Nat) (s s1 : fl_I) (l l1 : fl_L) : Prop := e ≠ 0 ∧ e ≤ 2 ∧ s1 3 3 = nI e ∧ s1 3 0 = nI (tP B n a) ∧ sF s s1 ∧ lF l l1
section ctk
variable {B : Nat → Nat} {a b c e i j k m n p q t z f lf lj lf' lj' lo hi cn : Nat} {s s1 s2 : fl_I} {l l1 l2 : fl_L} {fu : Nat} {x y : Int32} {v : Int64} {wn : Nat → List Nat} {P : Prop}
theorem sF_tr (h : sF s s1) (g : sF s1 s2) : sF s s2 := fun q hq => (g q hq).trans (h q hq)
theorem lF_tr (h : lF l l1) (g : lF l1 l2) : lF l l2 := fun q hq => (g q hq).trans (h q hq)
theorem lF_rfl : lF l l := fun _ _ => rfl
theorem cB2_tr (h : sF s s1) (h' : lF l l1) (g : cB2 B n e a s1 s2 l1 l2) : cB2 B n e a s s2 l l2 := ⟨g.1, g.2.1, g.2.2.1, g.2.2.2.1, sF_tr h g.2.2.2.2.1, lF_tr h' g.2.2.2.2.2⟩
theorem nt_9 (h : nt lf lj c k P lf' lj') (hc : c ≤ 9) (h9 : lf ≤ 9) : lf' ≤ 9 := by rcases h with h | h <;> omega
theorem nt_k (h : nt lf lj c k P lf' lj') (hk : lf ≠ 0 → lj < k) : lf' ≠ 0 → lj' < k + 1 := by
  intro h0
  rcases h with h | h
  · omega
  · have := hk (by omega); omega
theorem nt_0 (h : nt lf lj c k P lf' lj') (hc : c ≠ 0) (h0 : lf' = 0) : lf = 0 ∧ ¬ P := by
  rcases h with h | h
  · omega
  · have h1 : lf = 0 := by omega
    exact ⟨h1, fun hp => h.1 ⟨h1, hp⟩⟩
theorem cAt_w (hl : lF l l1) (hs : ∀ q, q ≠ 3 → s1 q = s q) (h2 : s1 3 2 = s 3 2) (h3 : s1 3 3 = s 3 3) (ht : t = 9 ∨ t = 20) (h : cAt B n t k m s l) : cAt B n t k m s1 l1 := by
  obtain ⟨⟨g0, g1⟩, g2, g3, g4, g5⟩ := h
  refine ⟨⟨g0, fun k hk => ?_⟩, g2, by rw [h2]; exact g3, by rw [h3]; exact g4, by rw [hs t (by omega)]; exact g5⟩
  have := g1 k hk
  unfold CF at this ⊢
  rw [hs 5 (by omega), hs 6 (by omega), hl 7 (by omega)]; exact this
theorem cT2 (ht : t = 9 ∨ t = 20) (h : cJ B n t k m lf lj s l) (hc : 2 ≤ c) (hc2 : c < 1000) : p_X3_take fu (nI c) s l ∧ ((tkE (tK B n) c k = (0, k + 1) ∧ ∃ s1, f_X3_take fu (nI c) s l = (nI 1, s1, l) ∧ sF s s1 ∧ s1 3 6 = s 3 6 ∧ cJ B n t (k + 1) m lf lj s1 l) ∨ ∃ e a s1, tkE (tK B n) c k = (e, a) ∧ f_X3_take fu (nI c) s l = (nI 0, s1, l) ∧ cB2 B n e a s s1 l l) := by
  obtain ⟨p1, T⟩ := cTt (fu := fu) ht h.1 hc hc2
  have fr : ∀ {v : Int32} {s1 : fl_I}, f_X3_take fu (nI c) s l = (v, s1, l) → ∀ q j, ¬ (q = 3 ∧ j = 0) → ¬ (q = 3 ∧ j = 2) → ¬ (q = 3 ∧ j = 3) → s1 q j = s q j := by
    intro v s1 e q j a b c'
    have := fr_X3_take (fu := fu) (v0 := nI c) (s := s) (l := l) (cq := q) (cj := j) a b c'
    rw [e] at this; exact this
  refine ⟨p1, ?_⟩
  rcases T with ⟨T1, s1, f1, r1, h1, w1⟩ | ⟨e, a, s1, T1, f1, b1⟩
  · have g := fr f1
    refine .inl ⟨T1, s1, f1, fun q hq => funext fun j => g q j (by omega) (by omega) (by omega), g 3 6 (by omega) (by omega) (by omega), h1, ⟨by rw [g 3 4 (by omega) (by omega) (by omega)]; exact h.2.1.1, by rw [g 3 5 (by omega) (by omega) (by omega)]; exact h.2.1.2⟩, h.2.2⟩
  · have g := fr f1
    exact .inr ⟨e, a, s1, T1, f1, b1.1, b1.2.1, b1.2.2.2.1, b1.2.2.2.2, fun q hq => funext fun j => g q j (by omega) (by omega) (by omega), lF_rfl⟩
/-- what waits, noted or not -/
theorem c_note (ht : t = 9 ∨ t = 20) (h : cJ B n t k m lf lj s l) (hc : c ≤ 9) : ∃ s1 lf' lj', f_X3_noteLater fu (nI c) s l = (s1, l) ∧ p_X3_noteLater fu (nI c) s l ∧ nt lf lj c k True lf' lj' ∧ cJ B n t k m lf' lj' s1 l ∧ sF s s1 ∧ s1 3 6 = s 3 6 := by
  obtain ⟨s1, g1, g2, g3, g4, g5⟩ := c_later (fu := fu) (c := c) h.1 h.2.1 h.2.2
  refine ⟨s1, _, _, g1, g2, ?_, ⟨cAt_w lF_rfl g4 (g5 2 (by omega) (by omega)) (g5 3 (by omega) (by omega)) ht h.1, g3, ?_⟩, g4, g5 6 (by omega) (by omega)⟩
  · by_cases e : lf = 0
    · rw [if_pos e, if_pos e]; exact .inl ⟨e, trivial, rfl, rfl⟩
    · rw [if_neg e, if_neg e]; exact .inr ⟨fun h => e h.1, rfl, rfl⟩
  · by_cases e : lf = 0
    · rw [if_pos e]; exact hc
    · rw [if_neg e]; exact h.2.2
/-- a number -/
theorem cI2 (ht : t = 9 ∨ t = 20) (h : cJ B n t k m lf lj s l) (hlo : lo < 1000) (hhi : hi < 10000) : p_X3_takeInt fu (nI lo) (nI hi) s l ∧ ((∃ s1 lf' lj', tkE (tK B n) 3 k = (0, k + 1) ∧ f_X3_takeInt fu (nI lo) (nI hi) s l = (nI 1, s1, l) ∧ sF s s1 ∧ s1 3 6 = nI (tV B n k) ∧ tV B n k ≤ 9999 ∧ nt lf lj 5 k (tV B n k < lo ∨ hi < tV B n k) lf' lj' ∧ cJ B n t (k + 1) m lf' lj' s1 l) ∨ ∃ e a s1, tkE (tK B n) 3 k = (e, a) ∧ f_X3_takeInt fu (nI lo) (nI hi) s l = (nI 0, s1, l) ∧ cB2 B n e a s s1 l l) := by
  obtain ⟨v1, v2⟩ := c_valueNow (fu := fu) h.1
  have w0 : sF s (wi s 3 6 (l 7 k).toInt32) := fun q hq => wi_c hq
  have h0 : cJ B n t k m lf lj (wi s 3 6 (l 7 k).toInt32) l := ⟨cAt_w lF_rfl w0 (by simp (disch := omega) only [wi_c, wi_u, upd_s, upd_n, su_r, su_c]) (by simp (disch := omega) only [wi_c, wi_u, upd_s, upd_n, su_r, su_c]) ht h.1, ⟨by simp (disch := omega) only [wi_c, wi_u, upd_s, upd_n, su_r, su_c]; exact h.2.1.1, by simp (disch := omega) only [wi_c, wi_u, upd_s, upd_n, su_r, su_c]; exact h.2.1.2⟩, h.2.2⟩
  have e6 : wi s 3 6 (l 7 k).toInt32 3 6 = (l 7 k).toInt32 := by simp (disch := omega) only [wi_c, wi_u, upd_s, upd_n, su_r, su_c]
  obtain ⟨s2, lf2, lj2, n1, n2, n3, n4, n5, n6⟩ := c_note (fu := fu) (c := 5) ht h0 (by omega)
  obtain ⟨pa, Ta⟩ := cT2 (fu := fu) (c := 3) ht h0 (by omega) (by omega)
  obtain ⟨pb, Tb⟩ := cT2 (fu := fu) (c := 3) ht n4 (by omega) (by omega)
  have oa : (f_X3_take fu (nI 3) (wi s 3 6 (l 7 k).toInt32) l).1 = nI 0 ∨ (f_X3_take fu (nI 3) (wi s 3 6 (l 7 k).toInt32) l).1 = nI 1 := by
    rcases Ta with ⟨_, s1, f1, _⟩ | ⟨e, a, s1, _, f1, _⟩ <;> rw [f1]
    · exact .inr rfl
    · exact .inl rfl
  have ob : (f_X3_take fu (nI 3) s2 l).1 = nI 0 ∨ (f_X3_take fu (nI 3) s2 l).1 = nI 1 := by
    rcases Tb with ⟨_, s1, f1, _⟩ | ⟨e, a, s1, _, f1, _⟩ <;> rw [f1]
    · exact .inr rfl
    · exact .inl rfl
  have pp : p_X3_takeInt fu (nI lo) (nI hi) s l := by
    unfold p_X3_takeInt
    simp (disch := omega) only [ln_, v1, v2, n1, n2, pa, pb, oa, ob, ar_t, ar_f, it_t, it_f, true_and, and_true, not_true_eq_false, not_false_eq_true, implies_true, and_self, eq_self]
  refine ⟨pp, ?_⟩
  -- the two ways
  have wayA : ¬ ((l 7 k).toInt32 < nI lo) → (l 7 k).toInt32 ≤ nI hi → f_X3_takeInt fu (nI lo) (nI hi) s l = f_X3_take fu (nI 3) (wi s 3 6 (l 7 k).toInt32) l := by
    intro c1 c2
    unfold f_X3_takeInt
    simp (disch := omega) only [ln_, v1, e6, c1, c2, ar_t, ar_f, it_t, it_f, true_and, and_true, not_true_eq_false, not_false_eq_true, implies_true, and_self, eq_self]
  have wayB : ((l 7 k).toInt32 < nI lo ∨ ¬ (l 7 k).toInt32 ≤ nI hi) → f_X3_takeInt fu (nI lo) (nI hi) s l = f_X3_take fu (nI 3) s2 l := by
    intro c1
    unfold f_X3_takeInt
    by_cases c2 : (l 7 k).toInt32 < nI lo
    · simp (disch := omega) only [ln_, v1, e6, c2, n1, ar_t, ar_f, it_t, it_f, true_and, and_true, not_true_eq_false, not_false_eq_true, implies_true, and_self, eq_self]
    · have c3 := c1.resolve_left c2
      simp (disch := omega) only [ln_, v1, e6, c2, c3, n1, ar_t, ar_f, it_t, it_f, true_and, and_true, not_true_eq_false, not_false_eq_true, implies_true, and_self, eq_self]
  by_cases hK : tK B n k = 3
  · have hV := tV_le h.1.1.1 hK
    have e7 : (l 7 k).toInt32 = nI (tV B n k) := by rw [(h.1.1.2 k h.1.2.1).2.2.2 hK, lN_i]
    by_cases hb : tV B n k < lo ∨ hi < tV B n k
    · have ew := wayB (by rw [e7]; rcases hb with hb | hb
                          · exact .inl (nI_lt hb (by omega))
                          · exact .inr (nI_ge hb (by omega)))
      rw [ew]
      rcases Tb with ⟨T1, s1, f1, r1, g6, j1⟩ | ⟨e, a, s1, T1, f1, b1⟩
      · refine .inl ⟨s1, lf2, lj2, T1, f1, sF_tr w0 (sF_tr n5 r1), by rw [g6, n6, e6, e7], hV, ?_, j1⟩
        rcases n3 with ⟨a1, _, a3⟩ | ⟨a1, a2⟩
        · exact .inl ⟨a1, hb, a3⟩
        · exact .inr ⟨fun h => a1 ⟨h.1, trivial⟩, a2⟩
      · exact .inr ⟨e, a, s1, T1, f1, cB2_tr (sF_tr w0 n5) lF_rfl b1⟩
    · have ew := wayA (by rw [e7]; exact nI_nlt (by omega) (by omega)) (by rw [e7]; exact nI_le (by omega) (by omega))
      rw [ew]
      rcases Ta with ⟨T1, s1, f1, r1, g6, j1⟩ | ⟨e, a, s1, T1, f1, b1⟩
      · exact .inl ⟨s1, lf, lj, T1, f1, sF_tr w0 r1, by rw [g6, e6, e7], hV, .inr ⟨fun h => hb h.2, rfl, rfl⟩, j1⟩
      · exact .inr ⟨e, a, s1, T1, f1, cB2_tr w0 lF_rfl b1⟩
  · have bad : ¬ tkE (tK B n) 3 k = (0, k + 1) := fun e => hK (tkE_0 e).1
    by_cases hb : (l 7 k).toInt32 < nI lo ∨ ¬ (l 7 k).toInt32 ≤ nI hi
    · rw [wayB hb]
      rcases Tb with ⟨T1, _⟩ | ⟨e, a, s1, T1, f1, b1⟩
      · exact absurd T1 bad
      · exact .inr ⟨e, a, s1, T1, f1, cB2_tr (sF_tr w0 n5) lF_rfl b1⟩
    · rw [wayA (fun h => hb (.inl h)) (Classical.byContradiction fun h => hb (.inr h))]
      rcases Ta with ⟨T1, _⟩ | ⟨e, a, s1, T1, f1, b1⟩
      · exact absurd T1 bad
      · exact .inr ⟨e, a, s1, T1, f1, cB2_tr w0 lF_rfl b1⟩
/-- a name -/
theorem c_names (hfu : 20000 ≤ fu) (ht : t = 9 ∨ t = 20) (h : cJ B n t k m lf lj s l) (hz : cn ≤ z) (hz2 : z ≤ 8) : ∃ s1 lf' lj', f_X3_takeName_10 fu fu (nI cn) (nI 0) q z s l = f_X3_take fu (nI 2) s1 l ∧ (p_X3_take fu (nI 2) s1 l → ((f_X3_take fu (nI 2) s1 l).1 = nI 0 ∨ (f_X3_take fu (nI 2) s1 l).1 = nI 1) → p_X3_takeName_10 fu fu (nI cn) (nI 0) q z s l) ∧ nt lf lj 3 k (∃ i, i < cn ∧ l q i = l 3 7) lf' lj' ∧ cJ B n t k m lf' lj' s1 l ∧ sF s s1 ∧ s1 3 6 = s 3 6 := by
  refine loop_i (fun f i s0 => ∃ s1 lf' lj', f_X3_takeName_10 fu f (nI cn) (nI i) q z s0 l = f_X3_take fu (nI 2) s1 l ∧ (p_X3_take fu (nI 2) s1 l → ((f_X3_take fu (nI 2) s1 l).1 = nI 0 ∨ (f_X3_take fu (nI 2) s1 l).1 = nI 1) → p_X3_takeName_10 fu f (nI cn) (nI i) q z s0 l) ∧ nt lf lj 3 k (∃ i, i < cn ∧ l q i = l 3 7) lf' lj' ∧ cJ B n t k m lf' lj' s1 l ∧ sF s s1 ∧ s1 3 6 = s 3 6)
    (fun i s0 => ∃ lf' lj', nt lf lj 3 k (∃ j, j < i ∧ l q j = l 3 7) lf' lj' ∧ cJ B n t k m lf' lj' s0 l ∧ sF s s0 ∧ s0 3 6 = s 3 6) cn ?_ ?_ fu 0 s (Nat.zero_le _) (by omega) ⟨lf, lj, .inr ⟨fun h => by obtain ⟨_, j, hj, _⟩ := h; omega, rfl, rfl⟩, h, fun _ _ => rfl, rfl⟩
  · intro f s0 ⟨lf', lj', g1, g2, g3, g4⟩
    refine ⟨s0, lf', lj', ?_, fun p1 p2 => ?_, g1, g2, g3, g4⟩
    · unfold f_X3_takeName_10
      simp (disch := omega) only [ln_, leT, ar_t, ar_f, it_t, it_f, true_and, and_true, not_true_eq_false, not_false_eq_true, implies_true, and_self, eq_self]
    · unfold p_X3_takeName_10
      simp (disch := omega) only [ln_, leT, ar_t, ar_f, it_t, it_f, true_and, and_true, not_true_eq_false, not_false_eq_true, implies_true, and_self, eq_self, p1, p2]
  · intro f i s0 hi ⟨lf', lj', g1, g2, g3, g4⟩ ih
    unfold f_X3_takeName_10 p_X3_takeName_10
    by_cases e : l q i = l 3 7
    · obtain ⟨s2, lf2, lj2, n1, n2, n3, n4, n5, n6⟩ := c_note (fu := fu) (c := 3) ht g2 (by omega)
      have e0 : (lg_cmp (l q i) (l 3 7) = nI 0) = True := eq_true ((lg_cmp_eq _ _).mpr e)
      simp (disch := omega) only [ln_, leF, vpT, nI_clamp, nI_add, ar_t, ar_f, it_t, it_f, true_and, and_true, not_true_eq_false, not_false_eq_true, implies_true, and_self, eq_self, e0, n1, n2]
      refine ih _ ⟨lf2, lj2, ?_, n4, sF_tr g3 n5, n6.trans g4⟩
      rcases n3 with ⟨a1, _, a3, a4⟩ | ⟨a1, a2, a3⟩
      · rcases g1 with ⟨b1, b2, b3, b4⟩ | ⟨b1, b2, b3⟩
        · omega
        · exact .inl ⟨by omega, ⟨i, by omega, e⟩, a3, a4⟩
      · rcases g1 with ⟨b1, ⟨j, j1, j2⟩, b3, b4⟩ | ⟨b1, b2, b3⟩
        · exact .inl ⟨b1, ⟨i, by omega, e⟩, by omega, by omega⟩
        · have : lf' ≠ 0 := fun h => a1 ⟨h, trivial⟩
          exact .inr ⟨fun h => this (by omega), by omega, by omega⟩
    · have e0 : (lg_cmp (l q i) (l 3 7) = nI 0) = False := eq_false (fun h => e ((lg_cmp_eq _ _).mp h))
      simp (disch := omega) only [ln_, leF, vpT, nI_clamp, nI_add, ar_t, ar_f, it_t, it_f, true_and, and_true, not_true_eq_false, not_false_eq_true, implies_true, and_self, eq_self, e0]
      refine ih _ ⟨lf', lj', ?_, g2, g3, g4⟩
      rcases g1 with ⟨b1, ⟨j, j1, j2⟩, b3, b4⟩ | ⟨b1, b2, b3⟩
      · exact .inl ⟨b1, ⟨j, by omega, j2⟩, b3, b4⟩
      · refine .inr ⟨fun h => ?_, b2, b3⟩
        obtain ⟨h1, j, j1, j2⟩ := h
        by_cases ej : j = i
        · exact e (ej ▸ j2)
        · exact b1 ⟨h1, j, by omega, j2⟩
theorem tW_ok (hb : ∀ i, i < n → B i < 256) (h : tK B n k = 2 ∨ 256 ≤ tK B n k) : okW (tW B n k) := by
  obtain ⟨h1, h2, h3⟩ := tk_name hb h
  have e0 : tkN B n (tP B n k) = rnF isLt B (n - tP B n k) (tP B n k) := by unfold tkN; rw [if_neg (by omega), if_pos h2]
  refine ⟨?_, ?_, ?_⟩
  · unfold tW; rw [wL_len]; exact tkN_1 h1
  · unfold tW; rw [wL_len]; exact h3
  · unfold tW
    refine wL_in (fun i hi => ?_)
    rw [e0] at hi
    exact rn_in hi
theorem cN2 (hfu : 20000 ≤ fu) (ht : t = 9 ∨ t = 20) (h : cJ B n t k m lf lj s l) (hz : cn ≤ z) (hz2 : z ≤ 8) (hq : q ≠ 3) (hw : ∀ i, i < cn → l q i = lN (p5 (wn i)) ∧ okW (wn i)) : p_X3_takeName fu (nI cn) q z s l ∧ ((∃ s1 l1 lf' lj', tkE (tK B n) 2 k = (0, k + 1) ∧ f_X3_takeName fu (nI cn) q z s l = (nI 1, s1, l1) ∧ sF s s1 ∧ lF l l1 ∧ l1 3 7 = lN (p5 (tW B n k)) ∧ okW (tW B n k) ∧ nt lf lj 3 k (∃ i, i < cn ∧ wn i = tW B n k) lf' lj' ∧ cJ B n t (k + 1) m lf' lj' s1 l1) ∨ ∃ e a s1 l1, tkE (tK B n) 2 k = (e, a) ∧ f_X3_takeName fu (nI cn) q z s l = (nI 0, s1, l1) ∧ cB2 B n e a s s1 l l1) := by
  obtain ⟨v1, v2⟩ := c_valueNow (fu := fu) h.1
  have lw : lF l (wl l 3 7 (l 7 k)) := fun r hr => wl_o hr
  have h0 : cJ B n t k m lf lj s (wl l 3 7 (l 7 k)) := ⟨cAt_w lw (fun _ _ => rfl) rfl rfl ht h.1, h.2⟩
  obtain ⟨s2, lf2, lj2, n1, n2, n3, n4, n5, n6⟩ := c_names (fu := fu) (q := q) hfu ht h0 hz hz2
  obtain ⟨pb, Tb⟩ := cT2 (fu := fu) (c := 2) ht n4 (by omega) (by omega)
  have ob : (f_X3_take fu (nI 2) s2 (wl l 3 7 (l 7 k))).1 = nI 0 ∨ (f_X3_take fu (nI 2) s2 (wl l 3 7 (l 7 k))).1 = nI 1 := by
    rcases Tb with ⟨_, s1, f1, _⟩ | ⟨e, a, s1, _, f1, _⟩ <;> rw [f1]
    · exact .inr rfl
    · exact .inl rfl
  have e0 : f_X3_takeName fu (nI cn) q z s l = f_X3_take fu (nI 2) s2 (wl l 3 7 (l 7 k)) := by
    unfold f_X3_takeName; rw [v1]; exact n1
  have pp : p_X3_takeName fu (nI cn) q z s l := by
    unfold p_X3_takeName; rw [v1]; exact ⟨v2, n2 pb ob⟩
  refine ⟨pp, ?_⟩
  rw [e0]
  rcases Tb with ⟨T1, s1, f1, r1, g6, j1⟩ | ⟨e, a, s1, T1, f1, b1⟩
  · have hK := (tkE_0 T1).1
    have e7 : l 7 k = lN (p5 (tW B n k)) := (h.1.1.2 k h.1.2.1).2.2.1 (.inl hK)
    have wk := tW_ok h.1.1.1 (.inl hK)
    refine .inl ⟨s1, _, lf2, lj2, T1, f1, sF_tr n5 r1, lw, by rw [wl_e, e7], wk, ?_, j1⟩
    have eq : (∃ i, i < cn ∧ wl l 3 7 (l 7 k) q i = wl l 3 7 (l 7 k) 3 7) ↔ ∃ i, i < cn ∧ wn i = tW B n k := by
      constructor
      · rintro ⟨i, hi, e⟩
        obtain ⟨w1, w2⟩ := hw i hi
        rw [wl_o hq, wl_e, e7, w1] at e
        have e2 := (lcmpE (p5_63 w2.2.2 w2.2.1) (p5_63 wk.2.2 wk.2.1)).mp ((lg_cmp_eq _ _).mpr e)
        exact ⟨i, hi, p5_inj w2.2.2 wk.2.2 e2⟩
      · rintro ⟨i, hi, e⟩
        obtain ⟨w1, w2⟩ := hw i hi
        exact ⟨i, hi, by rw [wl_o hq, wl_e, e7, w1, e]⟩
    rcases n3 with ⟨a1, a2, a3⟩ | ⟨a1, a2⟩
    · exact .inl ⟨a1, eq.mp a2, a3⟩
    · exact .inr ⟨fun h => a1 ⟨h.1, eq.mpr h.2⟩, a2⟩
  · exact .inr ⟨e, a, s1, _, T1, f1, cB2_tr n5 lw b1⟩
end ctk
