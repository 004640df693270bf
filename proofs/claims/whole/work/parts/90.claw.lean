/-! The class reads all of a law -/
def cEl (t : Nat) (s s' : fl_I) : Prop := (∀ q, q ≠ 3 → q ≠ t → q ≠ t + 9 → q ≠ t + 10 → s' q = s q) ∧ (∀ j, j ≠ 0 → j ≠ 2 → j ≠ 3 → s' 3 j = s 3 j) ∧ ∀ j, j ≠ 14 → s' t j = s t j
def lAw (T V : Nat → Nat) (y k e a : Nat) (bs : Pg) (D : List Nat) : Prop := sqT T (259 + y) k e a (fun k1 => sqT T 61 k1 e a (fun k2 => lwD T V 4 k2 e a bs D))
/-- a law, read well -/
def cLok (B : Nat → Nat) (n t k m i y : Nat) (p0 : Nat) (a : Nat) (bs : Pg) (D : List Nat) (s s' : fl_I) (l : fl_L) : Prop := cEl t s s' ∧ bs.length ≤ i ∧ k + 4 * bs.length + 2 ≤ a ∧ (∀ j, j < m → s' (t + 9) j = s (t + 9) j) ∧ (∃ q, cAt B n t a q s' l ∧ q ≤ a + 4 ∧ cPr (s' (t + 9)) m bs D q) ∧ gdP bs D ∧ s' (t + 10) y = nI p0 ∧ ∀ j, j ≠ y → s' (t + 10) j = s (t + 10) j
section clw3
variable {B : Nat → Nat} {a b c e i j k m n p q t f y p0 : Nat} {s s1 s2 : fl_I} {l l1 : fl_L} {fu : Nat} {x z : Int32} {C C1 C2 A Bb Dl : List Nat} {bs : Pg} {K K' : Nat → Int32}
theorem cEf_l (h : cEf t s s1) : cEl t s s1 := ⟨fun q a b c _ => h.1 q a b c, h.2⟩
theorem cEl_tr (h : cEl t s s1) (g : cEl t s1 s2) : cEl t s s2 := ⟨fun q a b c d => (g.1 q a b c d).trans (h.1 q a b c d), fun j a b c => (g.2.1 j a b c).trans (h.2.1 j a b c), fun j a => (g.2.2 j a).trans (h.2.2 j a)⟩
theorem cPr_k (h : cPr K p bs Dl q) (hs : ∀ j, p ≤ j → j < q → K' j = K j) : cPr K' p bs Dl q := by
  induction bs generalizing p with
  | nil =>
    obtain ⟨h1, h2, h3⟩ := h
    exact ⟨cds_k2 h1 (fun j a b => hs j a (by omega)), by rw [hs _ (by omega) (by omega)]; exact h2, h3⟩
  | cons b bs ih =>
    obtain ⟨h1, h2, h3, h4, h5, h6, h7⟩ := h
    have hq := cPr_q h7
    refine ⟨cds_k2 h1 (fun j a b => hs j a (by omega)), cds_k2 h2 (fun j a b => hs j (by omega) (by omega)), ?_, ?_, cds_k2 h5 (fun j a b => hs j (by omega) (by omega)), ?_, ih h7 (fun j a b => hs j (by omega) b)⟩
    · rw [hs _ (by omega) (by omega)]; exact h3
    · rw [hs _ (by omega) (by omega)]; exact h4
    · rw [hs _ (by omega) (by omega)]; exact h6
theorem cBr_k {p : Nat} (h : cBr K p A Bb C) (hs : ∀ j, j < p + A.length + Bb.length + 2 + C.length + 1 → K' j = K j) (g : cPr K' (p + A.length + Bb.length + 2 + C.length + 1) bs Dl q) : cPr K' p ((A, Bb, C) :: bs) Dl q := by
  obtain ⟨h1, h2, h3, h4, h5, h6⟩ := h
  refine ⟨cds_k h1 (fun j a => hs j ?_), cds_k h2 (fun j a => hs j ?_), ?_, ?_, cds_k h5 (fun j a => hs j ?_), ?_, g⟩
  · dsimp only at a; omega
  · dsimp only at a; omega
  · rw [hs _ (by dsimp only; omega)]; exact h3
  · rw [hs _ (by dsimp only; omega)]; exact h4
  · dsimp only at a; omega
  · rw [hs _ (by dsimp only; omega)]; exact h6
theorem c_lw (hfu : 20000 ≤ fu) (ht : t = 9 ∨ t = 20) (hy : y < 3) : ∀ i f k m s, i ≤ 4 → i + 2 ≤ f → cAt B n t k m s l → m ≤ k + 4 →
    p_X3_lawTold_34 fu f (nI y) (nI p0) (nI 1) (nI (4 - i)) t s l ∧ ((∃ a bs D s', lwD (tK B n) (tV B n) i k 0 a bs D ∧ f_X3_lawTold_34 fu f (nI y) (nI p0) (nI 1) (nI (4 - i)) t s l = (nI 1, s', l) ∧ cLok B n t k m i y p0 a bs D s s' l) ∨ ∃ e a bs D s', lwD (tK B n) (tV B n) i k e a bs D ∧ f_X3_lawTold_34 fu f (nI y) (nI p0) (nI 1) (nI (4 - i)) t s l = (nI 0, s', l) ∧ cBad B n t e a s s') := by
  have pA := fun x s => eq_true (p_addC (fu := fu) (x := x) (t := t) (s := s) (l := l))
  -- the last one
  have last : ∀ i f k m s, i ≤ 4 → i + 2 ≤ f → cAt B n t k m s l → m ≤ k + 4 → tK B n k ≠ 265 →
    p_X3_lawTold_34 fu f (nI y) (nI p0) (nI 1) (nI (4 - i)) t s l ∧ ((∃ a bs D s', laD (tK B n) (tV B n) k 0 a bs D ∧ f_X3_lawTold_34 fu f (nI y) (nI p0) (nI 1) (nI (4 - i)) t s l = (nI 1, s', l) ∧ cLok B n t k m i y p0 a bs D s s' l) ∨ ∃ e a bs D s', laD (tK B n) (tV B n) k e a bs D ∧ f_X3_lawTold_34 fu f (nI y) (nI p0) (nI 1) (nI (4 - i)) t s l = (nI 0, s', l) ∧ cBad B n t e a s s') := by
    intro i f k m s hi hf h hm hT
    obtain ⟨f, rfl⟩ : ∃ f', f = f' + 1 := ⟨f - 1, by omega⟩
    obtain ⟨k1, k2⟩ := c_kindNow (fu := fu) h
    have hlt := tK_lt (k := k) h.1
    unfold p_X3_lawTold_34 f_X3_lawTold_34
    obtain ⟨p8, ⟨k8, C, s8, E8, f8, r8, l8, h8, w8, d8, G8⟩ | ⟨e, a, C, s8, E8, f8, b8⟩⟩ := cE hfu ht h hm
    rotate_left
    · exact ⟨by simp (disch := omega) only [ln_, ltF, eqF, ar_t, ar_f, it_t, it_f, true_and, and_true, not_true_eq_false, not_false_eq_true, implies_true, and_self, eq_self, k1, k2, f8, p8], .inr ⟨e, a, [], [], s8, ⟨rfl, .inl ⟨b8.1, C, E8⟩⟩, by simp (disch := omega) only [ln_, ltF, eqF, ar_t, ar_f, it_t, it_f, true_and, and_true, not_true_eq_false, not_false_eq_true, implies_true, and_self, eq_self, k1, f8], b8⟩⟩
    obtain ⟨p9, ⟨T9, s9, f9, r9, h9, w9⟩ | ⟨e, a, s9, T9, f9, b9⟩⟩ := cTt (fu := fu) (c := 59) ht h8 (by omega) (by omega)
    rotate_left
    · exact ⟨by simp (disch := omega) only [ln_, ltF, eqF, ar_t, ar_f, it_t, it_f, true_and, and_true, not_true_eq_false, not_false_eq_true, implies_true, and_self, eq_self, k1, k2, f8, p8, f9, p9], .inr ⟨e, a, [], [], s9, ⟨rfl, .inr ⟨_, _, E8, .inl ⟨b9.1, T9⟩⟩⟩, by simp (disch := omega) only [ln_, ltF, eqF, ar_t, ar_f, it_t, it_f, true_and, and_true, not_true_eq_false, not_false_eq_true, implies_true, and_self, eq_self, k1, f8, f9], cBad_tr r8 b9⟩⟩
    have r9 := cEf_tr r8 r9
    have hk9 := h9.2.1.1
    obtain ⟨sA, fA, rA, hA, wA, vA⟩ := cA (fu := fu) (x := -nI 6) ht h9 (by omega)
    have rA := cEf_tr r9 rA
    have rS : cEl t sA (wi sA (t + 10) y (nI p0)) := ⟨fun q _ _ _ d => wi_c d, fun j _ _ _ => by rw [wi_c (by omega)], fun j _ => by rw [wi_c (by omega)]⟩
    refine ⟨by simp (disch := omega) only [ln_, ltF, eqF, vpT, ar_t, ar_f, it_t, it_f, true_and, and_true, not_true_eq_false, not_false_eq_true, implies_true, and_self, eq_self, k1, k2, f8, p8, f9, p9, pA], .inl ⟨_, [], C, _, ⟨rfl, .inr ⟨_, _, E8, .inr ⟨_, T9, rfl, rfl, rfl⟩⟩⟩, by simp (disch := omega) only [ln_, ltF, eqF, ar_t, ar_f, it_t, it_f, true_and, and_true, not_true_eq_false, not_false_eq_true, implies_true, and_self, eq_self, nI_clamp, k1, f8, f9, fA], cEl_tr (cEf_l rA) rS, Nat.zero_le i, (by have := gd_1 G8; show k + 4 * 0 + 2 ≤ k8 + 1; omega), fun j hj => ?_, ⟨m + C.length + 1, ?_, by omega, ?_⟩, G8, by rw [wi_u, upd_s], fun j hj => ?_⟩⟩
    · rw [wi_c (by omega), wA j (by omega), w9 j (by omega), w8 j hj]
    · obtain ⟨q1, q2, q3, q4, q5⟩ := hA
      refine ⟨⟨q1.1, fun k hk => ?_⟩, q2, by rw [wi_c (by omega)]; exact q3, by rw [wi_c (by omega)]; exact q4, by rw [wi_c (by omega)]; exact q5⟩
      have := q1.2 k hk
      unfold CF at this ⊢
      rw [wi_c (by omega), wi_c (by omega)]; exact this
    · rw [wi_c (by omega)]
      exact ⟨cds_k d8 (fun j hj => by rw [wA j (by omega), w9 j (by omega)]), vA, rfl⟩
    · rw [wi_u, upd_n hj, rA.1 (t + 10) (by omega) (by omega) (by omega)]
  intro i
  induction i with
  | zero =>
    intro f k m s hi hf h hm
    by_cases hT : tK B n k = 265
    · obtain ⟨f, rfl⟩ : ∃ f', f = f' + 1 + 1 := ⟨f - 2, by omega⟩
      obtain ⟨k1, k2⟩ := c_kindNow (fu := fu) h
      obtain ⟨⟨g0, s1, g1, g2, _, g4⟩, gp⟩ := c_stop (fu := fu) (e := 2) (C := []) ht h (.inr rfl)
      rw [if_neg (by omega)] at g1
      have n4 : nI (4 - 0) = nI 4 := rfl
      have b2 : cBad B n t 2 k s s1 := ⟨by omega, g0, g2, g4 (by omega)⟩
      refine ⟨?_, .inr ⟨2, k, [], [], s1, .inl ⟨hT, rfl, rfl⟩, ?_, b2⟩⟩
      · unfold p_X3_lawTold_34
        simp (disch := omega) only [ln_, n4, ltF, eqF, ar_t, ar_f, it_t, it_f, true_and, and_true, not_true_eq_false, not_false_eq_true, implies_true, and_self, eq_self, k1, k2, hT, g1, gp]
        unfold p_X3_lawTold_34
        simp (disch := omega) only [ln_, nI_add, ltT, ar_t, ar_f, it_t, it_f, true_and, and_true, not_true_eq_false, not_false_eq_true, implies_true, and_self, eq_self, Nat.reduceAdd]
      · unfold f_X3_lawTold_34
        simp (disch := omega) only [ln_, n4, ltF, eqF, ar_t, ar_f, it_t, it_f, true_and, and_true, not_true_eq_false, not_false_eq_true, implies_true, and_self, eq_self, k1, hT, g1]
        unfold f_X3_lawTold_34
        simp (disch := omega) only [ln_, nI_add, ltT, ar_t, ar_f, it_t, it_f, true_and, and_true, not_true_eq_false, not_false_eq_true, implies_true, and_self, eq_self, Nat.reduceAdd]
    · obtain ⟨l1, ⟨a, bs, D, s', l2, l3⟩ | ⟨e, a, bs, D, s', l2, l3⟩⟩ := last 0 f k m s hi hf h hm hT
      · exact ⟨l1, .inl ⟨a, bs, D, s', .inr ⟨hT, l2⟩, l3⟩⟩
      · exact ⟨l1, .inr ⟨e, a, bs, D, s', .inr ⟨hT, l2⟩, l3⟩⟩
  | succ i ih =>
    intro f k m s hi hf h hm
    by_cases hT : tK B n k = 265
    · obtain ⟨f, rfl⟩ : ∃ f', f = f' + 1 + 1 := ⟨f - 2, by omega⟩
      obtain ⟨k1, k2⟩ := c_kindNow (fu := fu) h
      have n4 : nI (4 - (i + 1)) + nI 1 = nI (4 - i) := by rw [nI_add]; congr 1; omega
      obtain ⟨ip, ⟨a, A, Bb, C, s1, I1, g1, g2, g3, g4, g5, g6, GA, GB, GC⟩ | ⟨e, a, A, Bb, C, s1, I1, g1, g2⟩⟩ := c_if hfu ht h hm
      · obtain ⟨jp, J⟩ := ih (f + 1) a _ s1 (by omega) (by omega) g4 (by omega)
        refine ⟨?_, ?_⟩
        · unfold p_X3_lawTold_34
          simp (disch := omega) only [ln_, n4, ltF, eqF, ar_t, ar_f, it_t, it_f, true_and, and_true, not_true_eq_false, not_false_eq_true, implies_true, and_self, eq_self, k1, k2, hT, g1, ip]
          exact jp
        · have e0 : f_X3_lawTold_34 fu (f + 1 + 1) (nI y) (nI p0) (nI 1) (nI (4 - (i + 1))) t s l = f_X3_lawTold_34 fu (f + 1) (nI y) (nI p0) (nI 1) (nI (4 - i)) t s1 l := by
            conv => lhs; unfold f_X3_lawTold_34
            simp (disch := omega) only [ln_, n4, ltF, eqF, ar_t, ar_f, it_t, it_f, true_and, and_true, not_true_eq_false, not_false_eq_true, implies_true, and_self, eq_self, k1, hT, g1]
          rw [e0]
          rcases J with ⟨a', bs, D, s', j1, j2, ⟨v1, v2, v3, v4, ⟨q, v5, v6, v7⟩, vg, v8, v9⟩⟩ | ⟨e, a', bs, D, s', j1, j2, j3⟩
          · refine .inl ⟨a', (A, Bb, C) :: bs, D, s', .inl ⟨hT, .inr ⟨A, Bb, C, a, bs, I1, j1, rfl⟩⟩, j2, cEl_tr (cEf_l g2) v1, by show bs.length + 1 ≤ i + 1; omega, (by have := gd_1 GA; have := gd_1 GB; have := gd_1 GC; show k + 4 * (bs.length + 1) + 2 ≤ a'; omega), fun j hj => by rw [v4 j (by omega), g5 j hj], ⟨q, v5, v6, cBr_k g6 v4 v7⟩, ⟨GA, GB, GC, vg⟩, v8, fun j hj => by rw [v9 j hj, g2.1 (t + 10) (by omega) (by omega) (by omega)]⟩
          · exact .inr ⟨e, a', (A, Bb, C) :: bs, D, s', .inl ⟨hT, .inr ⟨A, Bb, C, a, bs, I1, j1, rfl⟩⟩, j2, cBad_tr g2 j3⟩
      · refine ⟨?_, .inr ⟨e, a, [], [], s1, .inl ⟨hT, .inl ⟨g2.1, A, Bb, C, I1⟩⟩, ?_, g2⟩⟩
        · unfold p_X3_lawTold_34
          simp (disch := omega) only [ln_, n4, ltF, eqF, ar_t, ar_f, it_t, it_f, true_and, and_true, not_true_eq_false, not_false_eq_true, implies_true, and_self, eq_self, k1, k2, hT, g1, ip]
          unfold p_X3_lawTold_34
          simp (disch := omega) only [ln_, ltF, ar_t, ar_f, it_t, it_f, true_and, and_true, not_true_eq_false, not_false_eq_true, implies_true, and_self, eq_self]
        · unfold f_X3_lawTold_34
          simp (disch := omega) only [ln_, n4, ltF, eqF, ar_t, ar_f, it_t, it_f, true_and, and_true, not_true_eq_false, not_false_eq_true, implies_true, and_self, eq_self, k1, hT, g1]
          unfold f_X3_lawTold_34
          simp (disch := omega) only [ln_, ltF, ar_t, ar_f, it_t, it_f, true_and, and_true, not_true_eq_false, not_false_eq_true, implies_true, and_self, eq_self]
    · obtain ⟨l1, ⟨a, bs, D, s', l2, l3⟩ | ⟨e, a, bs, D, s', l2, l3⟩⟩ := last (i + 1) f k m s hi hf h hm hT
      · exact ⟨l1, .inl ⟨a, bs, D, s', .inr ⟨hT, l2⟩, l3⟩⟩
      · exact ⟨l1, .inr ⟨e, a, bs, D, s', .inr ⟨hT, l2⟩, l3⟩⟩
theorem c_law (hfu : 20000 ≤ fu) (ht : t = 9 ∨ t = 20) (hy : y < 3) (h : cAt B n t k m s l) (hm : m ≤ k + 4) :
    p_X3_lawTold fu (nI y) t s l ∧ ((∃ a bs D s', lAw (tK B n) (tV B n) y k 0 a bs D ∧ f_X3_lawTold fu (nI y) t s l = (nI 1, s', l) ∧ cLok B n t k m 4 y m a bs D s s' l ∧ k + 4 * bs.length + 4 ≤ a) ∨ ∃ e a bs D s', lAw (tK B n) (tV B n) y k e a bs D ∧ f_X3_lawTold fu (nI y) t s l = (nI 0, s', l) ∧ cBad B n t e a s s') := by
  unfold f_X3_lawTold p_X3_lawTold
  obtain ⟨p1, ⟨T1, s1, f1, r1, h1, w1⟩ | ⟨e, a, s1, T1, f1, b1⟩⟩ := cTt (fu := fu) (c := 259 + y) ht h (by omega) (by omega)
  rotate_left
  · exact ⟨by simp (disch := omega) only [ln_, nI_add, ar_t, ar_f, it_t, it_f, true_and, and_true, not_true_eq_false, not_false_eq_true, implies_true, and_self, eq_self, f1, p1], .inr ⟨e, a, [], [], s1, .inl ⟨b1.1, T1⟩, by simp (disch := omega) only [ln_, nI_add, ar_t, ar_f, it_t, it_f, true_and, and_true, not_true_eq_false, not_false_eq_true, implies_true, and_self, eq_self, f1], b1⟩⟩
  obtain ⟨p2, ⟨T2, s2, f2, r2, h2, w2⟩ | ⟨e, a, s2, T2, f2, b2⟩⟩ := cTt (fu := fu) (c := 61) ht h1 (by omega) (by omega)
  rotate_left
  · exact ⟨by simp (disch := omega) only [ln_, nI_add, eqF, ar_t, ar_f, it_t, it_f, true_and, and_true, not_true_eq_false, not_false_eq_true, implies_true, and_self, eq_self, f1, p1, f2, p2], .inr ⟨e, a, [], [], s2, .inr ⟨_, T1, .inl ⟨b2.1, T2⟩⟩, by simp (disch := omega) only [ln_, nI_add, eqF, ar_t, ar_f, it_t, it_f, true_and, and_true, not_true_eq_false, not_false_eq_true, implies_true, and_self, eq_self, f1, f2], cBad_tr r1 b2⟩⟩
  have r2 := cEf_tr r1 r2
  have c2 := h2.2.2.2.2
  obtain ⟨jp, J⟩ := c_lw (p0 := m) hfu ht hy 4 fu (k + 1 + 1) m s2 (by omega) (by omega) h2 (by omega)
  have n0 : nI (4 - 4) = nI 0 := rfl
  rw [n0] at jp J
  refine ⟨by simp (disch := omega) only [ln_, nI_add, eqF, ar_t, ar_f, it_t, it_f, true_and, and_true, not_true_eq_false, not_false_eq_true, implies_true, and_self, eq_self, f1, p1, f2, p2, c2]; exact jp, ?_⟩
  rcases J with ⟨a', bs, D, s', j1, j2, ⟨v1, v2, v3, v4, v5, vg, v8, v9⟩⟩ | ⟨e, a', bs, D, s', j1, j2, j3⟩
  · exact .inl ⟨a', bs, D, s', .inr ⟨_, T1, .inr ⟨_, T2, j1⟩⟩, by simp (disch := omega) only [ln_, nI_add, eqF, ar_t, ar_f, it_t, it_f, true_and, and_true, not_true_eq_false, not_false_eq_true, implies_true, and_self, eq_self, f1, f2, c2]; exact j2, ⟨cEl_tr (cEf_l r2) v1, v2, by omega, fun j hj => by rw [v4 j hj, w2 j hj, w1 j hj], v5, vg, v8, fun j hj => by rw [v9 j hj, r2.1 (t + 10) (by omega) (by omega) (by omega)]⟩, by omega⟩
  · exact .inr ⟨e, a', bs, D, s', .inr ⟨_, T1, .inr ⟨_, T2, j1⟩⟩, by simp (disch := omega) only [ln_, nI_add, eqF, ar_t, ar_f, it_t, it_f, true_and, and_true, not_true_eq_false, not_false_eq_true, implies_true, and_self, eq_self, f1, f2, c2]; exact j2, cBad_tr r2 j3⟩
end clw3
