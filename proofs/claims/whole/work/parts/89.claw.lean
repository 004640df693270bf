/-! The class reads a law -/
def sqT (T : Nat → Nat) (c k e a : Nat) (Q : Nat → Prop) : Prop := (e ≠ 0 ∧ tkE T c k = (e, a)) ∨ ∃ k', tkE T c k = (0, k') ∧ Q k'
def sqE (T V : Nat → Nat) (k e a : Nat) (Q : Nat → List Nat → Prop) : Prop := (e ≠ 0 ∧ ∃ C, eD T V 4 0 k e a C) ∨ ∃ k' C, eD T V 4 0 k 0 k' C ∧ Q k' C
/-- if E < E then E else, from k on -/
def ifD (T V : Nat → Nat) (k e a : Nat) (A Bb C : List Nat) : Prop :=
  sqT T 265 k e a (fun k1 => sqE T V k1 e a (fun k2 A' => sqT T 60 k2 e a (fun k3 => sqE T V k3 e a (fun k4 B' => sqT T 266 k4 e a (fun k5 => sqE T V k5 e a (fun k6 C' => sqT T 267 k6 e a (fun k7 => e = 0 ∧ a = k7 ∧ A' = A ∧ B' = Bb ∧ C' = C)))))))
def laD (T V : Nat → Nat) (k e a : Nat) (bs : Pg) (D : List Nat) : Prop := bs = [] ∧ sqE T V k e a (fun k1 D' => sqT T 59 k1 e a (fun k2 => e = 0 ∧ a = k2 ∧ D' = D))
/-- what stands behind =, so many ifs being left -/
def lwD (T V : Nat → Nat) : Nat → Nat → Nat → Nat → Pg → List Nat → Prop
  | 0, k, e, a, bs, D => (T k = 265 ∧ e = 2 ∧ a = k) ∨ (T k ≠ 265 ∧ laD T V k e a bs D)
  | i + 1, k, e, a, bs, D => (T k = 265 ∧ ((e ≠ 0 ∧ ∃ A B C, ifD T V k e a A B C) ∨ ∃ A B C k' bs', ifD T V k 0 k' A B C ∧ lwD T V i k' e a bs' D ∧ bs = (A, B, C) :: bs')) ∨ (T k ≠ 265 ∧ laD T V k e a bs D)
def cBad (B : Nat → Nat) (n t e a : Nat) (s s' : fl_I) : Prop := e ≠ 0 ∧ e ≤ 2 ∧ cEf t s s' ∧ s' 3 3 = nI e ∧ s' 3 0 = nI (tP B n a)
/-- a branch in the class's code -/
def cBr (K : Nat → Int32) (p : Nat) (A Bb C : List Nat) : Prop := cds K p A ∧ cds K (p + A.length) Bb ∧ K (p + A.length + Bb.length) = -nI 5 ∧ K (p + A.length + Bb.length + 1) = nI (p + A.length + Bb.length + 2 + C.length + 1) ∧ cds K (p + A.length + Bb.length + 2) C ∧ K (p + A.length + Bb.length + 2 + C.length) = -nI 6
section clw2
variable {B : Nat → Nat} {a b c e i j k m n p q t f : Nat} {s s1 s2 : fl_I} {l l1 : fl_L} {fu : Nat} {x y z : Int32} {C C1 C2 A Bb Dl : List Nat} {bs : Pg} {K K' : Nat → Int32}
theorem cBad_tr (h : cEf t s s1) (g : cBad B n t e a s1 s2) : cBad B n t e a s s2 := ⟨g.1, g.2.1, cEf_tr h g.2.2.1, g.2.2.2⟩
theorem cTt (ht : t = 9 ∨ t = 20) (h : cAt B n t k m s l) (hc : 2 ≤ c) (hc2 : c < 1000) : p_X3_take fu (nI c) s l ∧ ((tkE (tK B n) c k = (0, k + 1) ∧ ∃ s1, f_X3_take fu (nI c) s l = (nI 1, s1, l) ∧ cEf t s s1 ∧ cAt B n t (k + 1) m s1 l ∧ ∀ j, j < m → s1 (t + 9) j = s (t + 9) j) ∨ ∃ e a s1, tkE (tK B n) c k = (e, a) ∧ f_X3_take fu (nI c) s l = (nI 0, s1, l) ∧ cBad B n t e a s s1) := by
  cases hE : tkE (tK B n) c k with
  | mk e a =>
    obtain ⟨⟨g0, s1, g1, g2, g3, g4⟩, gp⟩ := c_take (fu := fu) ht h hc hc2 hE
    refine ⟨gp, ?_⟩
    by_cases e0 : e = 0
    · subst e0
      obtain ⟨_, _, rfl⟩ := tkE_0 hE
      obtain ⟨q1, q3, q4, _⟩ := g3 rfl
      exact .inl ⟨rfl, s1, g1, g2, q3, q4⟩
    · rw [if_neg e0] at g1
      exact .inr ⟨e, a, s1, rfl, g1, e0, g0, g2, g4 e0⟩
theorem cE (hfu : 20000 ≤ fu) (ht : t = 9 ∨ t = 20) (h : cAt B n t k m s l) (hm : m ≤ k + 4) : p_sumD fu 8 (nI 0) t s l ∧ ((∃ a C s1, eD (tK B n) (tV B n) 4 0 k 0 a C ∧ f_sumD fu 8 (nI 0) t s l = (nI 1, s1, l) ∧ cEf t s s1 ∧ k + C.length ≤ a ∧ cAt B n t a (m + C.length) s1 l ∧ (∀ j, j < m → s1 (t + 9) j = s (t + 9) j) ∧ cds (s1 (t + 9)) m C ∧ gdC C) ∨ ∃ e a C s1, eD (tK B n) (tV B n) 4 0 k e a C ∧ f_sumD fu 8 (nI 0) t s l = (nI 0, s1, l) ∧ cBad B n t e a s s1) := by
  obtain ⟨e, a, C, d, ⟨g0, s1, g1, g2, g3, g4⟩, gp⟩ := c_sumD (fu := fu) (l := l) (B := B) (n := n) hfu ht 8 0 (by omega) (by omega) k m s h hm
  refine ⟨gp, ?_⟩
  by_cases e0 : e = 0
  · subst e0
    obtain ⟨q1, q3, q4, q5⟩ := g3 rfl
    exact .inl ⟨a, C, s1, d, g1, g2, q1, q3, q4, q5, eD_gd (fun k hk => by have := tV_le h.1.1 hk; omega) d⟩
  · rw [if_neg e0] at g1
    exact .inr ⟨e, a, C, s1, d, g1, e0, g0, g2, g4 e0⟩
theorem gd_1 (g : gdC C) : 1 ≤ C.length := by
  have := g 0
  match C, this with
  | [], h => exact absurd h (by show ¬ 0 = 0 + 1; omega)
  | _ :: C, _ => show 1 ≤ C.length + 1; omega
theorem cA (ht : t = 9 ∨ t = 20) (h : cAt B n t k m s l) (hm : m < 408) : ∃ s1, f_X5_addCode fu x t s l = (s1, l) ∧ cEf t s s1 ∧ cAt B n t k (m + 1) s1 l ∧ (∀ j, j ≠ m → s1 (t + 9) j = s (t + 9) j) ∧ s1 (t + 9) m = x := by
  obtain ⟨a1, a2, a3, a4, _⟩ := c_addC (fu := fu) (x := x) ht h hm
  exact ⟨_, a1, a3, a2, fun j hj => by rw [wi_c (by omega), wi_u, upd_n hj], by rw [wi_c (by omega), wi_u, upd_s]⟩
theorem cds_k (h : cds K p C) (hs : ∀ j, j < p + C.length → K' j = K j) : cds K' p C := fun i hi => by rw [hs (p + i) (by omega)]; exact h i hi
theorem cds_k2 (h : cds K p C) (hs : ∀ j, p ≤ j → j < p + C.length → K' j = K j) : cds K' p C := fun i hi => by rw [hs (p + i) (by omega) (by omega)]; exact h i hi
theorem c_if (hfu : 20000 ≤ fu) (ht : t = 9 ∨ t = 20) (h : cAt B n t k m s l) (hm : m ≤ k + 4) : p_X3_ifTold fu t s l ∧ ((∃ a A Bb C s', ifD (tK B n) (tV B n) k 0 a A Bb C ∧ f_X3_ifTold fu t s l = (nI 1, s', l) ∧ cEf t s s' ∧ k + A.length + Bb.length + C.length + 4 ≤ a ∧ cAt B n t a (m + A.length + Bb.length + 2 + C.length + 1) s' l ∧ (∀ j, j < m → s' (t + 9) j = s (t + 9) j) ∧ cBr (s' (t + 9)) m A Bb C ∧ gdC A ∧ gdC Bb ∧ gdC C) ∨ ∃ e a A Bb C s', ifD (tK B n) (tV B n) k e a A Bb C ∧ f_X3_ifTold fu t s l = (nI 0, s', l) ∧ cBad B n t e a s s') := by
  unfold f_X3_ifTold p_X3_ifTold f_X3_ifTold_7 p_X3_ifTold_7 f_X3_ifTold_16 p_X3_ifTold_16 f_X3_ifTold_25 p_X3_ifTold_25 f_X3_ifTold_34 p_X3_ifTold_34 f_X3_ifTold_44 p_X3_ifTold_44
  obtain ⟨p1, ⟨T1, s1, f1, r1, h1, w1⟩ | ⟨e, a, s1, T1, f1, b1⟩⟩ := cTt (fu := fu) (c := 265) ht h (by omega) (by omega)
  rotate_left
  · refine ⟨by simp (disch := omega) only [ln_, ar_t, ar_f, it_t, it_f, true_and, and_true, not_true_eq_false, not_false_eq_true, implies_true, and_self, eq_self, f1, p1, p_X3_ifTold_47], .inr ⟨e, a, [], [], [], s1, .inl ⟨b1.1, T1⟩, by simp (disch := omega) only [ln_, ar_t, ar_f, it_t, it_f, true_and, and_true, not_true_eq_false, not_false_eq_true, implies_true, and_self, eq_self, f1, f_X3_ifTold_47], b1⟩⟩
  obtain ⟨p2, ⟨k2, A, s2, E2, f2, r2, l2, h2, w2, d2, G2⟩ | ⟨e, a, A, s2, E2, f2, b2⟩⟩ := cE hfu ht h1 (by omega)
  rotate_left
  · refine ⟨by simp (disch := omega) only [ln_, eqF, ar_t, ar_f, it_t, it_f, true_and, and_true, not_true_eq_false, not_false_eq_true, implies_true, and_self, eq_self, f1, p1, f2, p2, p_X3_ifTold_47], .inr ⟨e, a, [], [], [], s2, .inr ⟨_, T1, .inl ⟨b2.1, A, E2⟩⟩, by simp (disch := omega) only [ln_, eqF, ar_t, ar_f, it_t, it_f, true_and, and_true, not_true_eq_false, not_false_eq_true, implies_true, and_self, eq_self, f1, f2, f_X3_ifTold_47], cBad_tr r1 b2⟩⟩
  have r2 := cEf_tr r1 r2
  obtain ⟨p3, ⟨T3, s3, f3, r3, h3, w3⟩ | ⟨e, a, s3, T3, f3, b3⟩⟩ := cTt (fu := fu) (c := 60) ht h2 (by omega) (by omega)
  rotate_left
  · refine ⟨by simp (disch := omega) only [ln_, eqF, ar_t, ar_f, it_t, it_f, true_and, and_true, not_true_eq_false, not_false_eq_true, implies_true, and_self, eq_self, f1, p1, f2, p2, f3, p3, p_X3_ifTold_47], .inr ⟨e, a, [], [], [], s3, .inr ⟨_, T1, .inr ⟨_, _, E2, .inl ⟨b3.1, T3⟩⟩⟩, by simp (disch := omega) only [ln_, eqF, ar_t, ar_f, it_t, it_f, true_and, and_true, not_true_eq_false, not_false_eq_true, implies_true, and_self, eq_self, f1, f2, f3, f_X3_ifTold_47], cBad_tr r2 b3⟩⟩
  have r3 := cEf_tr r2 r3
  obtain ⟨p4, ⟨k4, Bb, s4, E4, f4, r4, l4, h4, w4, d4, G4⟩ | ⟨e, a, Bb, s4, E4, f4, b4⟩⟩ := cE hfu ht h3 (by omega)
  rotate_left
  · refine ⟨by simp (disch := omega) only [ln_, eqF, ar_t, ar_f, it_t, it_f, true_and, and_true, not_true_eq_false, not_false_eq_true, implies_true, and_self, eq_self, f1, p1, f2, p2, f3, p3, f4, p4, p_X3_ifTold_47], .inr ⟨e, a, [], [], [], s4, .inr ⟨_, T1, .inr ⟨_, _, E2, .inr ⟨_, T3, .inl ⟨b4.1, Bb, E4⟩⟩⟩⟩, by simp (disch := omega) only [ln_, eqF, ar_t, ar_f, it_t, it_f, true_and, and_true, not_true_eq_false, not_false_eq_true, implies_true, and_self, eq_self, f1, f2, f3, f4, f_X3_ifTold_47], cBad_tr r3 b4⟩⟩
  have r4 := cEf_tr r3 r4
  obtain ⟨p5, ⟨T5, s5, f5, r5, h5, w5⟩ | ⟨e, a, s5, T5, f5, b5⟩⟩ := cTt (fu := fu) (c := 266) ht h4 (by omega) (by omega)
  rotate_left
  · refine ⟨by simp (disch := omega) only [ln_, eqF, ar_t, ar_f, it_t, it_f, true_and, and_true, not_true_eq_false, not_false_eq_true, implies_true, and_self, eq_self, f1, p1, f2, p2, f3, p3, f4, p4, f5, p5, p_X3_ifTold_47], .inr ⟨e, a, [], [], [], s5, .inr ⟨_, T1, .inr ⟨_, _, E2, .inr ⟨_, T3, .inr ⟨_, _, E4, .inl ⟨b5.1, T5⟩⟩⟩⟩⟩, by simp (disch := omega) only [ln_, eqF, ar_t, ar_f, it_t, it_f, true_and, and_true, not_true_eq_false, not_false_eq_true, implies_true, and_self, eq_self, f1, f2, f3, f4, f5, f_X3_ifTold_47], cBad_tr r4 b5⟩⟩
  have r5 := cEf_tr r4 r5
  have hk5 := h5.2.1.1
  obtain ⟨s6, f6, r6, h6, w6, v6⟩ := cA (fu := fu) (x := -nI 5) ht h5 (by omega)
  have r6 := cEf_tr r5 r6
  obtain ⟨s7, f7, r7, h7, w7, v7⟩ := cA (fu := fu) (x := nI 0) ht h6 (by omega)
  have r7 := cEf_tr r6 r7
  have c6 := h6.2.2.2.2
  have pA := fun x s => eq_true (p_addC (fu := fu) (x := x) (t := t) (s := s) (l := l))
  unfold f_X3_ifTold_55 p_X3_ifTold_55 f_X3_ifTold_65 p_X3_ifTold_65 f_X3_ifTold_71 p_X3_ifTold_71 f_X3_ifTold_81 p_X3_ifTold_81 f_X3_ifTold_92 p_X3_ifTold_92
  obtain ⟨p8, ⟨k8, C, s8, E8, f8, r8, l8, h8, w8, d8, G8⟩ | ⟨e, a, C, s8, E8, f8, b8⟩⟩ := cE hfu ht h7 (by omega)
  rotate_left
  · refine ⟨by simp (disch := omega) only [ln_, eqF, ar_t, ar_f, it_t, it_f, true_and, and_true, not_true_eq_false, not_false_eq_true, implies_true, and_self, eq_self, f1, p1, f2, p2, f3, p3, f4, p4, f5, p5, f6, f7, pA, f8, p8, p_X3_ifTold_84], .inr ⟨e, a, [], [], [], s8, .inr ⟨_, T1, .inr ⟨_, _, E2, .inr ⟨_, T3, .inr ⟨_, _, E4, .inr ⟨_, T5, .inl ⟨b8.1, C, E8⟩⟩⟩⟩⟩⟩, by simp (disch := omega) only [ln_, eqF, ar_t, ar_f, it_t, it_f, true_and, and_true, not_true_eq_false, not_false_eq_true, implies_true, and_self, eq_self, f1, f2, f3, f4, f5, f6, f7, f8, f_X3_ifTold_84], cBad_tr r7 b8⟩⟩
  have r8 := cEf_tr r7 r8
  obtain ⟨p9, ⟨T9, s9, f9, r9, h9, w9⟩ | ⟨e, a, s9, T9, f9, b9⟩⟩ := cTt (fu := fu) (c := 267) ht h8 (by omega) (by omega)
  rotate_left
  · refine ⟨by simp (disch := omega) only [ln_, eqF, ar_t, ar_f, it_t, it_f, true_and, and_true, not_true_eq_false, not_false_eq_true, implies_true, and_self, eq_self, f1, p1, f2, p2, f3, p3, f4, p4, f5, p5, f6, f7, pA, f8, p8, f9, p9, p_X3_ifTold_84], .inr ⟨e, a, [], [], [], s9, .inr ⟨_, T1, .inr ⟨_, _, E2, .inr ⟨_, T3, .inr ⟨_, _, E4, .inr ⟨_, T5, .inr ⟨_, _, E8, .inl ⟨b9.1, T9⟩⟩⟩⟩⟩⟩⟩, by simp (disch := omega) only [ln_, eqF, ar_t, ar_f, it_t, it_f, true_and, and_true, not_true_eq_false, not_false_eq_true, implies_true, and_self, eq_self, f1, f2, f3, f4, f5, f6, f7, f8, f9, f_X3_ifTold_84], cBad_tr r8 b9⟩⟩
  have r9 := cEf_tr r8 r9
  have hk9 := h9.2.1.1
  obtain ⟨sA, fA, rA, hA, wA, vA⟩ := cA (fu := fu) (x := -nI 6) ht h9 (by omega)
  have rA := cEf_tr r9 rA
  have cA := hA.2.2.2.2
  -- the hole
  have eS : f_X5_setCode fu (nI (m + A.length + Bb.length + 1)) (sA t 14) t sA l = (wi sA (t + 9) (m + A.length + Bb.length + 1) (nI (m + A.length + Bb.length + 1 + 1 + C.length + 1)), l) := by
    unfold f_X5_setCode
    simp (disch := omega) only [ln_, ltF, leF, ar_t, ar_f, it_t, it_f, true_and, and_true, not_true_eq_false, not_false_eq_true, implies_true, and_self, eq_self, nI_clamp, cA]
  have eP : p_X5_setCode fu (nI (m + A.length + Bb.length + 1)) (sA t 14) t sA l := by
    unfold p_X5_setCode
    simp (disch := omega) only [ln_, ltF, leF, vpT, ar_t, ar_f, it_t, it_f, true_and, and_true, not_true_eq_false, not_false_eq_true, implies_true, and_self, eq_self, nI_clamp, cA]
  have rS : cEf t sA (wi sA (t + 9) (m + A.length + Bb.length + 1) (nI (m + A.length + Bb.length + 1 + 1 + C.length + 1))) := ⟨fun q _ _ c => wi_c c, fun j _ _ _ => by rw [wi_c (by omega)], fun j _ => by rw [wi_c (by omega)]⟩
  refine ⟨by simp (disch := omega) only [ln_, eqF, ar_t, ar_f, it_t, it_f, true_and, and_true, not_true_eq_false, not_false_eq_true, implies_true, and_self, eq_self, f1, p1, f2, p2, f3, p3, f4, p4, f5, p5, f6, f7, pA, f8, p8, f9, p9, fA, c6, eP, p_X3_ifTold_101], .inl ⟨_, A, Bb, C, _, .inr ⟨_, T1, .inr ⟨_, _, E2, .inr ⟨_, T3, .inr ⟨_, _, E4, .inr ⟨_, T5, .inr ⟨_, _, E8, .inr ⟨_, T9, rfl, rfl, rfl, rfl, rfl⟩⟩⟩⟩⟩⟩⟩, by simp (disch := omega) only [ln_, eqF, ar_t, ar_f, it_t, it_f, true_and, and_true, not_true_eq_false, not_false_eq_true, implies_true, and_self, eq_self, f1, f2, f3, f4, f5, f6, f7, f8, f9, fA, c6, eS, f_X3_ifTold_101], cEf_tr rA rS, by omega, ?_, ?_, ?_, G2, G4, G8⟩⟩
  · obtain ⟨q1, q2, q3, q4, q5⟩ := hA
    refine ⟨cTk_keep ht rS q1, q2, by rw [wi_c (by omega)]; exact q3, by rw [wi_c (by omega)]; exact q4, by rw [wi_c (by omega), q5]⟩
  · intro j hj
    rw [wi_u, upd_n (by omega), wA j (by omega), w9 j (by omega), w8 j (by omega), w7 j (by omega), w6 j (by omega), w5 j (by omega), w4 j (by omega), w3 j (by omega), w2 j (by omega), w1 j (by omega)]
  · have k4 : ∀ j, j < m + A.length + Bb.length → wi sA (t + 9) (m + A.length + Bb.length + 1) (nI (m + A.length + Bb.length + 1 + 1 + C.length + 1)) (t + 9) j = s4 (t + 9) j := fun j hj => by rw [wi_u, upd_n (by omega), wA j (by omega), w9 j (by omega), w8 j (by omega), w7 j (by omega), w6 j (by omega), w5 j (by omega)]
    refine ⟨cds_k d2 (fun j hj => ?_), cds_k d4 k4, ?_, ?_, ?_, ?_⟩
    · rw [k4 j (by omega), w4 j (by omega), w3 j (by omega)]
    · rw [wi_u, upd_n (by omega), wA _ (by omega), w9 _ (by omega), w8 _ (by omega), w7 _ (by omega), v6]
    · rw [wi_u, upd_s]
    · refine cds_k2 (p := m + A.length + Bb.length + 1 + 1) d8 (fun j g1 g2 => ?_)
      rw [wi_u, upd_n (by omega), wA j (by omega), w9 j (by omega)]
    · rw [wi_u, upd_n (by omega)]; exact vA
end clw2
