/-! The reference takes names and numbers -/
def rN (s s1 : fl_I) : Prop := (∀ q, q ≠ 60 → s1 q = s q) ∧ ∀ j, j ≠ 11 → j ≠ 13 → j ≠ 14 → j ≠ 15 → j ≠ 16 → s1 60 j = s 60 j
def rJt (B : Nat → Nat) (n sd k M br lf lj : Nat) (s : fl_I) (l : fl_L) : Prop := rQ B n sd k M br s l ∧ rLF B n lf lj s ∧ lf ≤ 9 ∧ (lf ≠ 0 → lj < k) ∧ n ≤ 2000
/-- at token st.2, or behind fault st.1 there -/
def rSt (B : Nat → Nat) (n sd M br : Nat) (st : Nat × Nat) (lf lj : Nat) (s : fl_I) (l : fl_L) : Prop := (st.1 = 0 → rJt B n sd st.2 M br lf lj s l) ∧ (st.1 ≠ 0 → rBd B n st.1 st.2 s ∧ s 60 19 = nI sd)
def stq (T : Nat → Nat) (c : Nat) (st : Nat × Nat) : Nat × Nat := if st.1 = 0 then tkE T c st.2 else st
section rtk
variable {B : Nat → Nat} {a b c e i j k m n p q t z f lf lj lf' lj' lf2 lj2 lo hi cn fm sd M br : Nat} {st : Nat × Nat} {s s1 s2 : fl_I} {l l1 l2 : fl_L} {fu : Nat} {x y : Int32} {v : Int64} {wn : Nat → List Nat} {P : Prop} {T : Nat → Nat}
theorem rN_tr (h : rN s s1) (g : rN s1 s2) : rN s s2 := ⟨fun q a => (g.1 q a).trans (h.1 q a), fun j a b c d e => (g.2 j a b c d e).trans (h.2 j a b c d e)⟩
theorem rN_rfl : rN s s := ⟨fun _ _ => rfl, fun _ _ _ _ _ _ => rfl⟩
theorem rN_P (h : rPf s s1) : rN s s1 := ⟨h.1, fun j a b c _ _ => h.2 j a b c⟩
theorem nt_u (h : nt lf lj c k P lf' lj') (g : nt lf lj c k P lf2 lj2) : lf2 = lf' ∧ lj2 = lj' := by
  rcases h with ⟨a1, a2, a3, a4⟩ | ⟨a1, a2, a3⟩ <;> rcases g with ⟨b1, b2, b3, b4⟩ | ⟨b1, b2, b3⟩
  · omega
  · exact absurd ⟨a1, a2⟩ b1
  · exact absurd ⟨b1, b2⟩ a1
  · omega
theorem rTk_k (h3 : s1 63 = s 63) (h4 : s1 64 = s 64) (h5 : s1 65 = s 65) (h6 : l1 66 = l 66) (r : rTk B n s l) : rTk B n s1 l1 := ⟨r.1, fun k hk => by
  have := r.2 k hk
  unfold RF at this ⊢
  rw [h3, h4, h5, h6]; exact this⟩
theorem rSt_k (h0 : s1 60 = s 60) (h3 : s1 63 = s 63) (h4 : s1 64 = s 64) (h5 : s1 65 = s 65) (h6 : l1 66 = l 66) (h : rSt B n sd M br st lf lj s l) : rSt B n sd M br st lf lj s1 l1 := by
  obtain ⟨g1, g2⟩ := h
  refine ⟨fun e => ?_, fun e => ?_⟩
  · have := g1 e
    unfold rJt rQ rPt rLF at this ⊢
    rw [h0]
    exact ⟨⟨⟨rTk_k h3 h4 h5 h6 this.1.1.1, this.1.1.2⟩, this.1.2⟩, this.2⟩
  · have := g2 e
    unfold rBd at this ⊢
    rw [h0]; exact this
theorem rSt_w (hq : q ≠ 60) (h3 : q ≠ 63) (h4 : q ≠ 64) (h5 : q ≠ 65) (h : rSt B n sd M br st lf lj s l) : rSt B n sd M br st lf lj (wi s q j x) l := rSt_k (wi_c (by omega)) (wi_c (by omega)) (wi_c (by omega)) (wi_c (by omega)) rfl h
theorem rSt_l (hq : q ≠ 66) (h : rSt B n sd M br st lf lj s l) : rSt B n sd M br st lf lj s (wl l q j v) := rSt_k rfl rfl rfl rfl (wl_o (by omega)) h
theorem rSt_19 (h : rSt B n sd M br st lf lj s l) : s 60 19 = nI sd := by
  by_cases e : st.1 = 0
  · exact (h.1 e).1.2.2.2.2
  · exact (h.2 e).2
theorem rSt_13 (h : rSt B n sd M br st lf lj s l) : s 60 13 = nI st.1 ∧ st.1 ≤ 2 := by
  by_cases e : st.1 = 0
  · rw [e]; exact ⟨(h.1 e).1.1.2.2.2, by omega⟩
  · obtain ⟨h1, h2, h3⟩ := rBd_13 (h.2 e).1
    exact ⟨h1, h3⟩
theorem stq_0 (h : st.1 = 0) : stq T c st = tkE T c st.2 := if_pos h
theorem stq_n (h : st.1 ≠ 0) : stq T c st = st := if_neg h
theorem stq_e (h : (stq T c st).1 = 0) : st.1 = 0 ∧ T st.2 = c ∧ st.2 < 400 ∧ stq T c st = (0, st.2 + 1) := by
  by_cases e : st.1 = 0
  · rw [stq_0 e] at h ⊢
    have e2 : tkE T c st.2 = (0, (tkE T c st.2).2) := Prod.ext h rfl
    obtain ⟨h1, h2, h3⟩ := tkE_0 e2
    exact ⟨e, h1, h2, by rw [e2, h3]⟩
  · rw [stq_n e] at h; exact absurd h e
theorem sM (h : rSt B n sd M br st lf lj s l) (hc : 2 ≤ c) (hx : rTk B n s l → ∀ k, rk (tK B n k) = b ↔ tK B n k = c) (hb : b < 1000) : ∃ s', f_X12_must fu (nI b) s l = (s', l) ∧ p_X12_must fu (nI b) s l ∧ rN s s' ∧ rSt B n sd M br (stq (tK B n) c st) lf lj s' l := by
  by_cases e0 : st.1 = 0
  · obtain ⟨q1, q2, q3, q4, q5⟩ := h.1 e0
    rw [stq_0 e0]
    cases hE : tkE (tK B n) c st.2 with
    | mk e a =>
      obtain ⟨s', g1, g2, g3, g4, g5, g6⟩ := rM (fu := fu) q1 hc (hx q1.1.1 st.2) hb hE
      refine ⟨s', g1, g2, rN_P g3, fun h0 => ⟨g4 h0, ⟨by rw [g3.2 15 (by omega) (by omega) (by omega)]; exact q2.1, by rw [g3.2 16 (by omega) (by omega) (by omega)]; exact q2.2⟩, q3, fun hl => ?_, q5⟩, fun h0 => ⟨g5 h0, by rw [g3.2 19 (by omega) (by omega) (by omega)]; exact q1.2.2.2.2⟩⟩
      have h0 : e = 0 := h0
      subst h0
      have := (tkE_0 hE).2.2
      have := q4 hl
      show lj < a
      omega
  · obtain ⟨g1, g2⟩ := r_mustB (fu := fu) (x := nI b) (l := l) (h.2 e0).1
    rw [stq_n e0]
    exact ⟨s, g1, g2, rN_rfl, h⟩
/-- the next token -/
theorem sGo (h : rJt B n sd k M br lf lj s l) (hT : tK B n k = c) (hc : 2 ≤ c) : ∃ s', f_X12_goesOn fu s l = (s', l) ∧ p_X12_goesOn fu s l ∧ rN s s' ∧ rSt B n sd M br (tkE (tK B n) c k) lf lj s' l := by
  obtain ⟨q1, q2, q3, q4, q5⟩ := h
  have hk := q1.1.2.1.1
  obtain ⟨s', g1, g2, g3, g4⟩ := r_nextP (fu := fu) q1.1 (by omega)
  refine ⟨s', g1, g2, rN_P g3, ?_⟩
  rcases g4 with ⟨g0, g4⟩ | ⟨g0, g4⟩
  · have e : tkE (tK B n) c k = (0, k + 1) := by unfold tkE; rw [if_pos hT, if_pos g0]
    rw [e]
    refine ⟨fun _ => ⟨⟨g4, by rw [g3.2 42 (by omega) (by omega) (by omega)]; exact q1.2.1, by rw [g3.2 12 (by omega) (by omega) (by omega)]; exact q1.2.2.1, by rw [g3.2 36 (by omega) (by omega) (by omega)]; exact q1.2.2.2.1, by rw [g3.2 19 (by omega) (by omega) (by omega)]; exact q1.2.2.2.2⟩, ⟨by rw [g3.2 15 (by omega) (by omega) (by omega)]; exact q2.1, by rw [g3.2 16 (by omega) (by omega) (by omega)]; exact q2.2⟩, q3, fun hl => by have := q4 hl; show lj < k + 1; omega, q5⟩, fun h => absurd rfl h⟩
  · have e : tkE (tK B n) c k = (2, k) := by unfold tkE; rw [if_pos hT, if_neg (by omega)]
    rw [e]
    exact ⟨fun h => absurd h (by show ¬ (2 : Nat) = 0; omega), fun _ => ⟨g4, by rw [g3.2 19 (by omega) (by omega) (by omega)]; exact q1.2.2.2.2⟩⟩
/-- something that waits is noted -/
theorem sW (h : rJt B n sd k M br lf lj s l) (hj : j ≤ k) (hlj : lf ≠ 0 → lj < j ∨ (lj = j ∧ lf ≤ c)) (hc : 1 ≤ c) (hc9 : c ≤ 9) : ∃ s' lf' lj', f_X12_wrong fu (nI c) (nI j) s l = (s', l) ∧ p_X12_wrong fu (nI c) (nI j) s l ∧ rN s s' ∧ nt lf lj c j True lf' lj' ∧ rQ B n sd k M br s' l ∧ rLF B n lf' lj' s' ∧ lf' ≤ 9 := by
  obtain ⟨q1, q2, q3, q4, q5⟩ := h
  have kj : kkT (tK B n) j := ⟨by have := q1.1.2.1.1; omega, fun i hi => q1.1.2.1.2 i (by omega)⟩
  obtain ⟨s', g1, g2, g3, g4, g5⟩ := r_wrong (fu := fu) (c := c) q1.1.1 q1.1.2.2.2 kj q2 q5 q3 hc hc9 (by
    by_cases e : lf = 0
    · exact .inl e
    · rcases hlj e with h | ⟨h, h'⟩
      · exact .inr (.inl (tP_lt kj h))
      · exact .inr (.inr ⟨by rw [h], h'⟩))
  refine ⟨s', _, _, g1, g2, ⟨g4, fun j _ _ _ a b => g5 j a b⟩, ?_, ?_, g3, ?_⟩
  · by_cases e : lf = 0
    · rw [if_pos e, if_pos e]; exact .inl ⟨e, trivial, rfl, rfl⟩
    · rw [if_neg e, if_neg e]; exact .inr ⟨fun h => e h.1, rfl, rfl⟩
  · obtain ⟨⟨h1, h2, h3, h4⟩, h5, h6, h7, h8⟩ := q1
    exact ⟨⟨rTk_k (g4 63 (by omega)) (g4 64 (by omega)) (g4 65 (by omega)) rfl h1, h2, by rw [g5 11 (by omega) (by omega)]; exact h3, by rw [g5 13 (by omega) (by omega)]; exact h4⟩, by rw [g5 42 (by omega) (by omega)]; exact h5, by rw [g5 12 (by omega) (by omega)]; exact h6, by rw [g5 36 (by omega) (by omega)]; exact h7, by rw [g5 19 (by omega) (by omega)]; exact h8⟩
  · by_cases e : lf = 0
    · rw [if_pos e]; exact hc9
    · rw [if_neg e]; exact q3
/-- a number -/
theorem sI (h : rSt B n sd M br st lf lj s l) (hlo : lo < 1000) (hhi : hi < 10000) : ∃ v s' lf' lj', f_X12_bounded fu (nI lo) (nI hi) s l = (v, s', l) ∧ p_X12_bounded fu (nI lo) (nI hi) s l ∧ rN s s' ∧ rSt B n sd M br (stq (tK B n) 3 st) lf' lj' s' l ∧ ((stq (tK B n) 3 st).1 = 0 → v = nI (tV B n st.2) ∧ nt lf lj 5 st.2 (tV B n st.2 < lo ∨ hi < tV B n st.2) lf' lj') := by
  by_cases e0 : st.1 = 0
  · have J := h.1 e0
    obtain ⟨q1, q2, q3, q4, q5⟩ := J
    rw [stq_0 e0]
    have hk := q1.1.2.1.1
    have h13 := q1.1.2.2.2
    have h11 := q1.1.2.2.1
    have h19 := q1.2.2.2.2
    obtain ⟨i1, i2⟩ := r_isP (fu := fu) (c := 2) q1.1 (by omega)
    have rk2 : rk (tK B n st.2) = 2 ↔ tK B n st.2 = 3 := (rkF q1.1.1 st.2).2.2.2.2.2.2.1
    by_cases hK : tK B n st.2 = 3
    · rw [if_pos (rk2.mpr hK)] at i1
      have h65 := (q1.1.1.2 st.2 q1.1.2.1).2.2.2 hK
      have hV := tV_le q1.1.1.1 hK
      by_cases hb : tV B n st.2 < lo ∨ hi < tV B n st.2
      · obtain ⟨s2, lf2, lj2, w1, w2, w3, w4, w5, w6, w7⟩ := sW (fu := fu) (c := 5) (j := st.2) ⟨q1, q2, q3, q4, q5⟩ (Nat.le_refl _) (fun hl => .inl (q4 hl)) (by omega) (by omega)
        have hk' : lf2 ≠ 0 → lj2 < st.2 + 1 := nt_k w4 q4
        -- lj2 may be the token itself: go on by hand
        obtain ⟨s', g1, g2, g3, g4⟩ := r_nextP (fu := fu) w5.1 (by omega)
        refine ⟨nI (tV B n st.2), s', lf2, lj2, ?_, ?_, rN_tr w3 (rN_P g3), ?_, fun _ => ⟨rfl, ?_⟩⟩
        · unfold f_X12_bounded
          rcases hb with hb | hb
          · simp (disch := omega) only [ln_, ltT, ltF, eqF, nI_clamp, ar_t, ar_f, it_t, it_f, true_and, and_true, not_true_eq_false, not_false_eq_true, implies_true, and_self, eq_self, h13, h11, i1, h65, w1, g1]
          · by_cases hb2 : tV B n st.2 < lo
            · simp (disch := omega) only [ln_, ltT, ltF, eqF, nI_clamp, ar_t, ar_f, it_t, it_f, true_and, and_true, not_true_eq_false, not_false_eq_true, implies_true, and_self, eq_self, h13, h11, i1, h65, w1, g1]
            · simp (disch := omega) only [ln_, ltT, ltF, leF, eqF, nI_clamp, ar_t, ar_f, it_t, it_f, true_and, and_true, not_true_eq_false, not_false_eq_true, implies_true, and_self, eq_self, h13, h11, i1, h65, w1, g1]
        · unfold p_X12_bounded
          simp (disch := omega) only [ln_, ltF, eqF, nI_clamp, vpT, ar_t, ar_f, it_t, it_f, true_and, and_true, not_true_eq_false, not_false_eq_true, implies_true, and_self, eq_self, h13, h11, i1, i2, h65, w1, w2, g1, g2]
          by_cases hb2 : tV B n st.2 < lo
          · simp (disch := omega) only [ltT, ar_t, ar_f, it_t, it_f, true_and, and_true, not_true_eq_false, not_false_eq_true, implies_true, and_self, eq_self]
          · simp (disch := omega) only [ltF, leF, ar_t, ar_f, it_t, it_f, true_and, and_true, not_true_eq_false, not_false_eq_true, implies_true, and_self, eq_self]
        · rcases g4 with ⟨g0, g4⟩ | ⟨g0, g4⟩
          · have e : tkE (tK B n) 3 st.2 = (0, st.2 + 1) := by unfold tkE; rw [if_pos hK, if_pos g0]
            rw [e]
            exact ⟨fun _ => ⟨⟨g4, by rw [g3.2 42 (by omega) (by omega) (by omega)]; exact w5.2.1, by rw [g3.2 12 (by omega) (by omega) (by omega)]; exact w5.2.2.1, by rw [g3.2 36 (by omega) (by omega) (by omega)]; exact w5.2.2.2.1, by rw [g3.2 19 (by omega) (by omega) (by omega)]; exact w5.2.2.2.2⟩, ⟨by rw [g3.2 15 (by omega) (by omega) (by omega)]; exact w6.1, by rw [g3.2 16 (by omega) (by omega) (by omega)]; exact w6.2⟩, w7, hk', q5⟩, fun h => absurd rfl h⟩
          · have e : tkE (tK B n) 3 st.2 = (2, st.2) := by unfold tkE; rw [if_pos hK, if_neg (by omega)]
            rw [e]
            exact ⟨fun h => absurd h (by show ¬ (2 : Nat) = 0; omega), fun _ => ⟨g4, by rw [g3.2 19 (by omega) (by omega) (by omega)]; exact w5.2.2.2.2⟩⟩
        · rcases w4 with ⟨a1, _, a3⟩ | ⟨a1, a2⟩
          · exact .inl ⟨a1, hb, a3⟩
          · exact .inr ⟨fun h => a1 ⟨h.1, trivial⟩, a2⟩
      · obtain ⟨s', g1, g2, g3, g4⟩ := sGo (fu := fu) (c := 3) ⟨q1, q2, q3, q4, q5⟩ hK (by omega)
        refine ⟨nI (tV B n st.2), s', lf, lj, ?_, ?_, g3, g4, fun _ => ⟨rfl, .inr ⟨fun h => hb h.2, rfl, rfl⟩⟩⟩
        · unfold f_X12_bounded
          simp (disch := omega) only [ln_, leT, ltF, eqF, nI_clamp, ar_t, ar_f, it_t, it_f, true_and, and_true, not_true_eq_false, not_false_eq_true, implies_true, and_self, eq_self, h13, h11, i1, h65, g1]
        · unfold p_X12_bounded
          simp (disch := omega) only [ln_, leT, ltF, eqF, nI_clamp, vpT, ar_t, ar_f, it_t, it_f, true_and, and_true, not_true_eq_false, not_false_eq_true, implies_true, and_self, eq_self, h13, h11, i1, i2, h65, g1, g2]
    · rw [if_neg (fun h => hK (rk2.mp h))] at i1
      obtain ⟨s', g1, g2, g3, g4⟩ := r_failP (fu := fu) (e := 1) q1.1 (.inl rfl)
      have e : tkE (tK B n) 3 st.2 = (1, st.2) := by unfold tkE; rw [if_neg hK]
      rw [e]
      refine ⟨nI lo, s', lf, lj, ?_, ?_, rN_P g4, ⟨fun h => absurd h (by show ¬ (1 : Nat) = 0; omega), fun _ => ⟨g3, by rw [g4.2 19 (by omega) (by omega) (by omega)]; exact h19⟩⟩, fun h => absurd h (by show ¬ (1 : Nat) = 0; omega)⟩
      · unfold f_X12_bounded
        simp (disch := omega) only [ln_, ltF, ar_t, ar_f, it_t, it_f, true_and, and_true, not_true_eq_false, not_false_eq_true, implies_true, and_self, eq_self, h13, i1, g1]
      · unfold p_X12_bounded
        simp (disch := omega) only [ln_, ltF, ar_t, ar_f, it_t, it_f, true_and, and_true, not_true_eq_false, not_false_eq_true, implies_true, and_self, eq_self, h13, i1, i2, g1, g2]
  · obtain ⟨g1, g2⟩ := r_failB (fu := fu) (x := nI 1) (l := l) (h.2 e0).1
    obtain ⟨h13, h13'⟩ := rSt_13 h
    rw [stq_n e0]
    refine ⟨nI lo, s, lf, lj, ?_, ?_, rN_rfl, h, fun h => absurd h e0⟩
    · unfold f_X12_bounded
      simp (disch := omega) only [ln_, ltT, ar_t, ar_f, it_t, it_f, true_and, and_true, not_true_eq_false, not_false_eq_true, implies_true, and_self, eq_self, h13, g1]
    · unfold p_X12_bounded
      simp (disch := omega) only [ln_, ltT, ar_t, ar_f, it_t, it_f, true_and, and_true, not_true_eq_false, not_false_eq_true, implies_true, and_self, eq_self, h13, g1, g2]
/-- a name -/
theorem sN (hfu : 20000 ≤ fu) (h : rSt B n sd M br st lf lj s l) (hz : fm + cn ≤ z) (hz2 : z ≤ 16) (hw : ∀ i, i < cn → l q (fm + i) = lN (p27 (wn i).reverse) ∧ okW (wn i)) : ∃ v s' lf' lj', f_X12_named fu (nI fm) (nI cn) q z s l = (v, s', l) ∧ p_X12_named fu (nI fm) (nI cn) q z s l ∧ rN s s' ∧ rSt B n sd M br (stq (tK B n) 2 st) lf' lj' s' l ∧ ((stq (tK B n) 2 st).1 = 0 → v = lN (p27 (tW B n st.2).reverse) ∧ nt lf lj 3 st.2 (∃ i, i < cn ∧ wn i = tW B n st.2) lf' lj') := by
  obtain ⟨s1, m1, m2, m3, m4⟩ := sM (fu := fu) (b := 1) (c := 2) h (by omega) (fun hr k => (rkF hr k).2.2.2.2.2.2.2.1) (by omega)
  have h11 : ∃ k', k' ≤ 400 ∧ s 60 11 = nI k' ∧ (st.1 = 0 → k' = st.2) := by
    by_cases e0 : st.1 = 0
    · exact ⟨st.2, (h.1 e0).1.1.2.1.1, (h.1 e0).1.1.2.2.1, fun _ => rfl⟩
    · obtain ⟨_, _, _, k', k1, k2⟩ := (h.2 e0).1
      exact ⟨k', k1, k2, fun h => absurd h e0⟩
  obtain ⟨k', k1, k2, k3⟩ := h11
  have F : f_X12_named fu (nI fm) (nI cn) q z s l = f_X12_named_14 fu fu (nI fm) (nI cn) (nI k') (nI (fm + 0)) q z s1 l := by
    unfold f_X12_named; rw [show (1 : Int32) = nI 1 from rfl, m1, k2]; rfl
  have Pp : p_X12_named_14 fu fu (nI fm) (nI cn) (nI k') (nI (fm + 0)) q z s1 l → p_X12_named fu (nI fm) (nI cn) q z s l := by
    intro g; unfold p_X12_named; rw [show (1 : Int32) = nI 1 from rfl, m1, k2]; exact ⟨m2, g⟩
  rw [F]
  by_cases e1 : (stq (tK B n) 2 st).1 = 0
  · obtain ⟨e0, hK, _, es⟩ := stq_e e1
    have ek := k3 e0
    subst ek
    have J := m4.1 e1
    rw [es] at J ⊢
    obtain ⟨q1, q2, q3, q4, q5⟩ := J
    have q4' : lf ≠ 0 → lj < st.2 := (h.1 e0).2.2.2.1
    have kk := (h.1 e0).1.1.2.1
    have e66 : l 66 st.2 = lN (p27 (tW B n st.2).reverse) := (q1.1.1.2 st.2 kk).2.2.1 (.inl hK)
    have wk := tW_ok q1.1.1.1 (.inl hK)
    have key := loop_i (fun f i s0 => ∃ s' lf' lj', f_X12_named_14 fu f (nI fm) (nI cn) (nI st.2) (nI (fm + i)) q z s0 l = (lN (p27 (tW B n st.2).reverse), s', l) ∧ p_X12_named_14 fu f (nI fm) (nI cn) (nI st.2) (nI (fm + i)) q z s0 l ∧ rN s1 s' ∧ rQ B n sd (st.2 + 1) M br s' l ∧ rLF B n lf' lj' s' ∧ lf' ≤ 9 ∧ nt lf lj 3 st.2 (∃ i, i < cn ∧ wn i = tW B n st.2) lf' lj')
      (fun i s0 => ∃ lf' lj', rN s1 s0 ∧ rQ B n sd (st.2 + 1) M br s0 l ∧ rLF B n lf' lj' s0 ∧ lf' ≤ 9 ∧ nt lf lj 3 st.2 (∃ j, j < i ∧ wn j = tW B n st.2) lf' lj') cn ?_ ?_ fu 0 s1 (Nat.zero_le _) (by omega) ⟨lf, lj, rN_rfl, q1, q2, q3, .inr ⟨fun h => by obtain ⟨_, j, hj, _⟩ := h; omega, rfl, rfl⟩⟩
    · obtain ⟨s', lf', lj', g1, g2, g3, g4, g5, g6, g7⟩ := key
      refine ⟨_, s', lf', lj', g1, Pp g2, rN_tr m3 g3, ⟨fun _ => ⟨g4, g5, g6, nt_k g7 q4', q5⟩, fun h => absurd rfl h⟩, fun _ => ⟨rfl, g7⟩⟩
    · intro f s0 ⟨lf', lj', g3, g4, g5, g6, g7⟩
      refine ⟨s0, lf', lj', ?_, ?_, g3, g4, g5, g6, g7⟩
      · unfold f_X12_named_14
        simp (disch := omega) only [ln_, nI_add, leT, nI_clamp, ar_t, ar_f, it_t, it_f, true_and, and_true, not_true_eq_false, not_false_eq_true, implies_true, and_self, eq_self, e66]
      · unfold p_X12_named_14
        simp (disch := omega) only [ln_, nI_add, leT, vpT, ar_t, ar_f, it_t, it_f, true_and, and_true, not_true_eq_false, not_false_eq_true, implies_true, and_self, eq_self]
    · intro f i s0 hi ⟨lf', lj', g3, g4, g5, g6, g7⟩ ih
      have h13 := g4.1.2.2.2
      obtain ⟨w1, w2⟩ := hw i hi
      have ec : (lg_cmp (l q (fm + i)) (lN (p27 (tW B n st.2).reverse)) = nI 0) = (wn i = tW B n st.2) := by
        rw [w1, lcmpE (p27_63 w2.2.2 w2.2.1) (p27_63 wk.2.2 wk.2.1)]
        refine propext ⟨fun e => ?_, fun e => by rw [e]⟩
        have := p27_inj (fun x hx => w2.2.2 x (List.mem_reverse.mp hx)) (fun x hx => wk.2.2 x (List.mem_reverse.mp hx)) e
        exact List.reverse_inj.mp this
      have ei : nI (fm + i) + nI 1 = nI (fm + (i + 1)) := by rw [nI_add]; rfl
      unfold f_X12_named_14 p_X12_named_14
      by_cases e : wn i = tW B n st.2
      · have hl : lf' ≠ 0 → lj' < st.2 ∨ (lj' = st.2 ∧ lf' ≤ 3) := by
          intro h0
          rcases g7 with ⟨b1, b2, b3, b4⟩ | ⟨b1, b2, b3⟩
          · right; omega
          · left; have := q4' (by omega); omega
        obtain ⟨s2, lf2, lj2, x1, x2, x3, x4, x5, x6, x7⟩ := sW (fu := fu) (c := 3) (j := st.2) ⟨g4, g5, g6, fun h => by have := hl h; omega, q5⟩ (Nat.le_succ _) hl (by omega) (by omega)
        simp (disch := omega) only [ln_, nI_add, leF, vpT, nI_clamp, ar_t, ar_f, it_t, it_f, true_and, and_true, not_true_eq_false, not_false_eq_true, implies_true, and_self, eq_self, h13, e66, ec, e, x1, x2]
        refine ih _ ⟨lf2, lj2, rN_tr g3 x3, x5, x6, x7, ?_⟩
        rcases x4 with ⟨a1, _, a3, a4⟩ | ⟨a1, a2, a3⟩
        · rcases g7 with ⟨b1, b2, b3, b4⟩ | ⟨b1, b2, b3⟩
          · omega
          · exact .inl ⟨by omega, ⟨i, by omega, e⟩, a3, a4⟩
        · rcases g7 with ⟨b1, ⟨j, j1, j2⟩, b3, b4⟩ | ⟨b1, b2, b3⟩
          · exact .inl ⟨b1, ⟨i, by omega, e⟩, by omega, by omega⟩
          · have : lf' ≠ 0 := fun h => a1 ⟨h, trivial⟩
            exact .inr ⟨fun h => this (by omega), by omega, by omega⟩
      · simp (disch := omega) only [ln_, nI_add, leF, vpT, nI_clamp, ar_t, ar_f, it_t, it_f, true_and, and_true, not_true_eq_false, not_false_eq_true, implies_true, and_self, eq_self, h13, e66, ec, e]
        refine ih _ ⟨lf', lj', g3, g4, g5, g6, ?_⟩
        rcases g7 with ⟨b1, ⟨j, j1, j2⟩, b3, b4⟩ | ⟨b1, b2, b3⟩
        · exact .inl ⟨b1, ⟨j, by omega, j2⟩, b3, b4⟩
        · refine .inr ⟨fun h => ?_, b2, b3⟩
          obtain ⟨h1, j, j1, j2⟩ := h
          by_cases ej : j = i
          · exact e (ej ▸ j2)
          · exact b1 ⟨h1, j, by omega, j2⟩
  · obtain ⟨h13, h13'⟩ := rSt_13 m4
    obtain ⟨f, hf⟩ : ∃ f', fu = f' + 1 := ⟨fu - 1, by omega⟩
    have key : f_X12_named_14 fu (f + 1) (nI fm) (nI cn) (nI k') (nI (fm + 0)) q z s1 l = (l 66 k', s1, l) ∧ p_X12_named_14 fu (f + 1) (nI fm) (nI cn) (nI k') (nI (fm + 0)) q z s1 l := by
      unfold f_X12_named_14 p_X12_named_14
      by_cases ec : cn = 0
      · simp (disch := omega) only [ln_, nI_add, leT, vpT, nI_clamp, ar_t, ar_f, it_t, it_f, true_and, and_true, not_true_eq_false, not_false_eq_true, implies_true, and_self, eq_self]
      · simp (disch := omega) only [ln_, nI_add, leF, eqF, vpT, nI_clamp, ar_t, ar_f, it_t, it_f, true_and, and_true, not_true_eq_false, not_false_eq_true, implies_true, and_self, eq_self, h13]
    rw [← hf] at key
    exact ⟨_, s1, lf, lj, key.1, Pp key.2, m3, m4, fun h => absurd h e1⟩
end rtk
