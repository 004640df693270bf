/-! The reference reads expressions as the rules say -/
def bW (lv w : Nat) (W : List Nat) : Prop := W.length ≤ 3 * w + (if lv = 0 then 2 else if lv ≤ 2 then 1 else 0) ∧ stO W ∧ (1 ≤ lv → W.length = 0 ∨ W.getD (W.length - 1) 0 = 6 ∨ (lv ≤ 2 ∧ (W.getD (W.length - 1) 0 = 8 ∨ W.getD (W.length - 1) 0 = 9)))
def xR (B : Nat → Nat) (n fu b0 lv w k e a : Nat) (C : List Nat) : Prop := w ≤ 6 → ∀ n1 f m W Q s l, 1000 ≤ n1 + k → 1000 ≤ f + k → rAt B n k m w (W ++ Q) s l → m + (W ++ Q).length ≤ b0 + k → bW lv w W → (if lv = 1 ∨ lv = 3 then okQ lv Q else Q = []) → (lv = 3 → ¬ opS 1 (tK B n k)) → (e = 0 → xG B n fu b0 lv w a m W Q C s l (if lv = 1 ∨ lv = 3 then gZ fu n1 f s l else gA fu n1 f s l) (if lv = 1 ∨ lv = 3 then gZp fu n1 f s l else gAp fu n1 f s l)) ∧ (e ≠ 0 → xB B n b0 e a m s l (if lv = 1 ∨ lv = 3 then gZ fu n1 f s l else gA fu n1 f s l) (if lv = 1 ∨ lv = 3 then gZp fu n1 f s l else gAp fu n1 f s l))
section rex9
variable {B : Nat → Nat} {a b c e i j k m n o p q r t w f en v b0 n1 lv a2 e2 : Nat} {s s1 s2 : fl_I} {l l1 : fl_L} {fu : Nat} {x y z : Int32} {C C1 C2 W Q R : List Nat}
theorem stO_6 (h : W.length = 0 ∨ W.getD (W.length - 1) 0 = 6) : stO W := ⟨W, [], by rw [List.reverse_nil, List.append_nil], h, fun y hy => absurd hy (List.not_mem_nil)⟩
theorem stO_p (h : stO W) (hv : v = 10 ∨ v = 15 ∨ (v = 8 ∨ v = 9)) : stO (W ++ [v]) := by
  obtain ⟨W0, R0, rfl, h1, h2⟩ := h
  refine ⟨W0, v :: R0, by rw [List.reverse_cons, List.append_assoc], h1, fun y hy => ?_⟩
  rcases List.mem_cons.mp hy with rfl | h
  · exact hv
  · exact h2 y h
theorem x_go {s' : fl_I} (hn : 1 ≤ n1) (h : s' 60 13 = nI 0) : f_X12_expression_12 fu n1 (nI 0) (nI 1) s' l = gA fu (n1 - 1) fu s' l ∧ (gAp fu (n1 - 1) fu s' l → p_X12_expression_12 fu n1 (nI 0) (nI 1) s' l) := by
  obtain ⟨n1, rfl⟩ : ∃ n', n1 = n' + 1 := ⟨n1 - 1, by omega⟩
  rw [Nat.add_sub_cancel, f_X12_expression_12, p_X12_expression_12]
  refine ⟨?_, fun hp => ?_⟩
  · simp (disch := omega) only [ln_, eqF, eqT, ar_t, ar_f, it_t, it_f, true_and, and_true, not_true_eq_false, not_false_eq_true, implies_true, and_self, eq_self, h]; rfl
  · simp (disch := omega) only [ln_, eqF, eqT, ar_t, ar_f, it_t, it_f, true_and, and_true, not_true_eq_false, not_false_eq_true, implies_true, and_self, eq_self, h]; exact hp
theorem x_goB {s' : fl_I} (hn : 1 ≤ n1) (h : rBd B n e a s') : f_X12_expression_12 fu n1 (nI 0) (nI 1) s' l = (s', l) ∧ p_X12_expression_12 fu n1 (nI 0) (nI 1) s' l := by
  obtain ⟨n1, rfl⟩ : ∃ n', n1 = n' + 1 := ⟨n1 - 1, by omega⟩
  have h13 := h.2.1
  have he := h.1
  rw [f_X12_expression_12, p_X12_expression_12]
  unfold f_X12_expression_272 p_X12_expression_272
  refine ⟨?_, ?_⟩
  · simp (disch := omega) only [ln_, eqF, eqT, ar_t, ar_f, it_t, it_f, true_and, and_true, not_true_eq_false, not_false_eq_true, implies_true, and_self, eq_self, h13]
  · simp (disch := omega) only [ln_, eqF, eqT, ar_t, ar_f, it_t, it_f, true_and, and_true, not_true_eq_false, not_false_eq_true, implies_true, and_self, eq_self, h13]
theorem x_unit (hfu : 20000 ≤ fu) (hb : b0 ≤ 420) : (∀ w k, tK B n k = 40 → 6 ≤ w → xR B n fu b0 0 w k 2 k []) ∧
    (∀ w k e a, tK B n k = 40 → w < 6 → tkE (tK B n) 40 k = (e, a) → e ≠ 0 → xR B n fu b0 0 w k e a []) ∧
    (∀ w k a e a' c, tK B n k = 40 → w < 6 → tkE (tK B n) 40 k = (0, a) → xR B n fu b0 4 (w + 1) a e a' c → e ≠ 0 → xR B n fu b0 0 w k e a' []) ∧
    (∀ w k a a' c e a'', tK B n k = 40 → w < 6 → tkE (tK B n) 40 k = (0, a) → xR B n fu b0 4 (w + 1) a 0 a' c → tkE (tK B n) 41 a' = (e, a'') → xR B n fu b0 0 w k e a'' c) ∧
    (∀ w k e a, tK B n k ≠ 40 → 268 ≤ tK B n k → tK B n k < 277 → tkE (tK B n) (tK B n k) k = (e, a) → xR B n fu b0 0 w k e a [30000 + (tK B n k - 268)]) ∧
    (∀ w k e a, tK B n k ≠ 40 → ¬ (268 ≤ tK B n k ∧ tK B n k < 277) → tkE (tK B n) 3 k = (e, a) → xR B n fu b0 0 w k e a [tV B n k]) := by
  have i0 : ¬ ((0 : Nat) = 1 ∨ (0 : Nat) = 3) := by omega
  have toI : ∀ {w a e a' c}, w < 6 → xR B n fu b0 4 (w + 1) a e a' c → xI B n fu b0 4 (w + 1) a e a' c := by
    intro w a e a' c hw h n1 f m W s l h1 h2 h3 h4 h5 h6
    have i4 : ¬ ((4 : Nat) = 1 ∨ (4 : Nat) = 3) := by omega
    have := h (by omega) n1 f m W [] s l h1 h2 (by rw [List.append_nil]; exact h3) (by rw [List.append_nil]; exact h4) ⟨by rw [if_neg (by omega), if_neg (by omega)]; exact h5, stO_6 h6, fun _ => by omega⟩ (by rw [if_neg i4]) (fun h => by omega)
    rw [if_neg i4, if_neg i4] at this
    exact this
  refine ⟨fun w k hT hw hw6 n1 f m W Q s l h1 h2 h3 h4 h5 h6 _ => ?_, fun w k e a hT hw hE he hw6 n1 f m W Q s l h1 h2 h3 h4 h5 h6 _ => ?_, fun w k a e a' c hT hw hE hI he hw6 n1 f m W Q s l h1 h2 h3 h4 h5 h6 _ => ?_, fun w k a a' c e a'' hT hw hE hI hE2 hw6 n1 f m W Q s l h1 h2 h3 h4 h5 h6 _ => ?_, fun w k e a hT hv1 hv2 hE hw6 n1 f m W Q s l h1 h2 h3 h4 h5 h6 _ => ?_, fun w k e a hT hv hE hw6 n1 f m W Q s l h1 h2 h3 h4 h5 h6 _ => ?_⟩ <;> rw [if_neg i0] at h6 <;> subst h6 <;> rw [List.append_nil] at h3 h4 <;> rw [if_neg i0, if_neg i0] <;> have hWl := h5.1 <;> rw [if_pos rfl] at hWl
  · exact ⟨fun h => by omega, fun _ => x_open h2 h3 h4 hT (by omega) (.inl (by omega)) (by omega)⟩
  · obtain ⟨rfl, h | h⟩ := tkE_n hE he
    · obtain ⟨_, g2, rfl⟩ := h
      have := h3.2.1.1
      exact ⟨fun h => by omega, fun _ => x_open h2 h3 h4 hT (by omega) (.inr (by omega)) (by omega)⟩
    · exact absurd hT h.1
  · obtain ⟨_, hk4, rfl⟩ := tkE_0 hE
    exact ⟨fun h => absurd h he, fun _ => (x_paren (e2 := 0) (a2 := 0) hfu h1 h2 h3 h4 hb hw hT hk4 hWl h5.2.1 (toI hw hI)).1 he⟩
  · obtain ⟨_, hk4, rfl⟩ := tkE_0 hE
    exact (x_paren hfu h1 h2 h3 h4 hb hw hT hk4 hWl h5.2.1 (toI hw hI)).2 rfl hE2
  · exact x_leaf hfu h1 h2 h3 h4 hb hT (.inl ⟨rfl, hv1, hv2, rfl⟩) hE
  · exact x_leaf hfu h1 h2 h3 h4 hb hT (.inr ⟨rfl, hv, rfl⟩) hE
end rex9
