/-! The reference: what waits comes out -/
section rex2
variable {B T V : Nat → Nat} {a b c e i j k m n o p q r t w e1 a1 k1 f h : Nat} {s s1 s2 : fl_I} {l l1 : fl_L} {fu : Nat} {x y z : Int32} {C C1 C2 W Q : List Nat}
theorem r_out (hx : x = nI 0 ∨ x = nI 1) (hW : W.length = 0 ∨ (W.getD (W.length - 1) 0 = 6 ∨ (x = nI 1 ∧ (W.getD (W.length - 1) 0 = 8 ∨ W.getD (W.length - 1) 0 = 9)))) :
    ∀ (R : List Nat) f m s, (∀ y ∈ R, y = 10 ∨ y = 15 ∨ (x = nI 0 ∧ (y = 8 ∨ y = 9))) → R.length < f → rSk (W ++ R.reverse) s → s 60 42 = nI m → m + R.length ≤ 840 → W.length + R.length ≤ 64 →
      ∃ s', f_X12_comesOut_0 fu f x s l = (s', l) ∧ p_X12_comesOut_0 fu f x s l ∧ rSk W s' ∧ s' 60 42 = nI (m + R.length) ∧ rCd m (R.map wO) s s' ∧ (∀ q, q ≠ 60 → q ≠ 89 → q ≠ 90 → s' q = s q) ∧ ∀ j, j ≠ 42 → j ≠ 46 → s' 60 j = s 60 j := by
  intro R
  induction R with
  | nil =>
    intro f m s hR hf hs hm h1 h2
    obtain ⟨f, rfl⟩ : ∃ f', f = f' + 1 := ⟨f - 1, by have : 0 < f := hf; omega⟩
    rw [List.reverse_nil, List.append_nil] at hs
    obtain ⟨g1, g2⟩ := hs
    have h2 : W.length ≤ 64 := h2
    refine ⟨s, ?_, ?_, ⟨g1, g2⟩, hm, rCd_rfl, fun _ _ _ _ => rfl, fun _ _ _ => rfl⟩
    · unfold f_X12_comesOut_0 f_X12_comesOut_41
      by_cases e : W.length = 0
      · simp (disch := omega) only [ln_, leT, leF, ltT, ltF, eqT, eqF, vpT, nlT, nleT, lnF, lenF, eqnF, neqF, nnF, nI_add, pk_mul, pk_div, pk_sub, ni_m, nI_clamp, md10, dm10, gI_l, gI_n, ar_t, ar_f, it_t, it_f, true_and, and_true, not_true_eq_false, not_false_eq_true, implies_true, and_self, eq_self, g1]
      · have g3 := g2 (W.length - 1) (by omega)
        rcases hW.resolve_left e with hw | ⟨rfl, hw | hw⟩ <;> rw [hw] at g3 <;> simp (disch := omega) only [ln_, leT, leF, ltT, ltF, eqT, eqF, vpT, nlT, nleT, lnF, lenF, eqnF, neqF, nnF, nI_add, pk_mul, pk_div, pk_sub, ni_m, nI_clamp, md10, dm10, gI_l, gI_n, ar_t, ar_f, it_t, it_f, true_and, and_true, not_true_eq_false, not_false_eq_true, implies_true, and_self, eq_self, g1, g3]
    · unfold p_X12_comesOut_0 p_X12_comesOut_41
      by_cases e : W.length = 0
      · simp (disch := omega) only [ln_, leT, leF, ltT, ltF, eqT, eqF, vpT, nlT, nleT, lnF, lenF, eqnF, neqF, nnF, nI_add, pk_mul, pk_div, pk_sub, ni_m, nI_clamp, md10, dm10, gI_l, gI_n, ar_t, ar_f, it_t, it_f, true_and, and_true, not_true_eq_false, not_false_eq_true, implies_true, and_self, eq_self, g1]
      · have g3 := g2 (W.length - 1) (by omega)
        rcases hW.resolve_left e with hw | ⟨rfl, hw | hw⟩ <;> rw [hw] at g3 <;> simp (disch := omega) only [ln_, leT, leF, ltT, ltF, eqT, eqF, vpT, nlT, nleT, lnF, lenF, eqnF, neqF, nnF, nI_add, pk_mul, pk_div, pk_sub, ni_m, nI_clamp, md10, dm10, gI_l, gI_n, ar_t, ar_f, it_t, it_f, true_and, and_true, not_true_eq_false, not_false_eq_true, implies_true, and_self, eq_self, g1, g3]
  | cons y R ih =>
    intro f m s hR hf hs hm h1 h2
    rw [List.length_cons] at hf h1 h2
    obtain ⟨f, rfl⟩ : ∃ f', f = f' + 1 := ⟨f - 1, by omega⟩
    rw [List.reverse_cons, ← List.append_assoc] at hs
    obtain ⟨g1, g2⟩ := hs
    have hlen : (W ++ R.reverse ++ [y]).length = W.length + R.length + 1 := by rw [List.length_append, List.length_append, List.length_reverse, List.length_singleton]
    have hlen2 : (W ++ R.reverse).length = W.length + R.length := by rw [List.length_append, List.length_reverse]
    rw [hlen] at g1 g2
    have g3 := g2 (W.length + R.length) (by omega)
    rw [← hlen2, getD_e, hlen2] at g3
    have hy := hR y (List.mem_cons_self ..)
    have hy4 : y = 8 ∨ y = 9 ∨ y = 10 ∨ y = 15 := by omega
    have hnot : x = nI 0 ∨ (y = 10 ∨ y = 15) := by
      rcases hy with h | h | ⟨h, _⟩
      · exact .inr (.inl h)
      · exact .inr (.inr h)
      · exact .inl h
    have em := fun (x : Int32) => r_emit (fu := fu) (x := x) (y := nI 0) (s := wi s 60 46 (nI (W.length + R.length))) (l := l) (m := m) (by rw [wi_u, upd_n (by omega)]; exact hm) (by omega)
    -- the state behind
    have nxt : ∀ v, v = nI (rI (wO y)) → ∃ s', f_X12_comesOut_0 fu f x (wi (wi (wi (wi s 60 46 (nI (W.length + R.length))) 89 m v) 90 m (nI 0)) 60 42 (nI (m + 1))) l = (s', l) ∧ p_X12_comesOut_0 fu f x (wi (wi (wi (wi s 60 46 (nI (W.length + R.length))) 89 m v) 90 m (nI 0)) 60 42 (nI (m + 1))) l ∧ rSk W s' ∧ s' 60 42 = nI (m + (R.length + 1)) ∧ rCd m (wO y :: R.map wO) s s' ∧ (∀ q, q ≠ 60 → q ≠ 89 → q ≠ 90 → s' q = s q) ∧ ∀ j, j ≠ 42 → j ≠ 46 → s' 60 j = s 60 j := by
      intro v hv
      have rj : nI 0 = nI (rJ (wO y)) := by rcases hy4 with rfl | rfl | rfl | rfl <;> rfl
      obtain ⟨s', u1, u2, u3, u4, u5, u6, u7⟩ := ih f (m + 1) (wi (wi (wi (wi s 60 46 (nI (W.length + R.length))) 89 m v) 90 m (nI 0)) 60 42 (nI (m + 1))) (fun y hy => hR y (List.mem_cons_of_mem _ hy)) (by omega) ⟨by rw [hlen2]; simp (disch := omega) only [wi_c, wi_u, upd_s, upd_n, su_r, su_c], fun j hj => by
        rw [hlen2] at hj
        simp (disch := omega) only [wi_c, wi_u, upd_s, upd_n, su_r, su_c]
        rw [g2 j (by omega), getD_l (by rw [hlen2]; exact hj)]⟩ (by simp (disch := omega) only [wi_c, wi_u, upd_s, upd_n, su_r, su_c]) (by omega) (by omega)
      refine ⟨s', u1, u2, u3, by rw [u4]; congr 1; omega, ?_, fun q a b c => by rw [u6 q a b c]; simp (disch := omega) only [wi_c, wi_u, upd_s, upd_n, su_r, su_c], fun j a b => by rw [u7 j a b]; simp (disch := omega) only [wi_c, wi_u, upd_s, upd_n, su_r, su_c]⟩
      refine rCd_seq (C1 := [wO y]) (s1 := wi (wi (wi (wi s 60 46 (nI (W.length + R.length))) 89 m v) 90 m (nI 0)) 60 42 (nI (m + 1))) ⟨fun j hj => by rw [List.length_singleton] at hj; simp (disch := omega) only [wi_c, wi_u, upd_s, upd_n, su_r, su_c, and_self], fun i hi => ?_⟩ u5
      have : i = 0 := by rw [List.length_singleton] at hi; omega
      subst this
      refine ⟨?_, ?_⟩
      · simp (disch := omega) only [wi_c, wi_u, upd_s, upd_n, su_r, su_c]; show upd (s 89) m v m = _; rw [upd_s]; exact hv
      · simp (disch := omega) only [wi_c, wi_u, upd_s, upd_n, su_r, su_c]; show upd (s 90) m (nI 0) m = _; rw [upd_s]; exact rj
    have x01 : (x = nI 0) ∨ (x = nI 1) := hx
    unfold f_X12_comesOut_0 p_X12_comesOut_0 f_X12_comesOut_42 p_X12_comesOut_42 f_X12_comesOut_88 p_X12_comesOut_88
    rw [List.map_cons, List.length_cons]
    have vT : vp_in (nI (W.length + R.length)) 64 = True := vpT (by omega) (by omega)
    rcases hy4 with rfl | rfl | rfl | rfl
    · obtain ⟨s', u1, u2, u3⟩ := nxt (nI 2) rfl
      have hx0 : x = nI 0 := hnot.resolve_right (by omega)
      subst hx0
      refine ⟨s', ?_, ?_, u3⟩
      · simp (disch := omega) only [ln_, leT, leF, ltT, ltF, eqT, eqF, vpT, nlT, nleT, lnF, lenF, eqnF, neqF, nnF, nI_add, pk_mul, pk_div, pk_sub, ni_m, nI_clamp, md10, dm10, gI_l, gI_n, ar_t, ar_f, it_t, it_f, true_and, and_true, not_true_eq_false, not_false_eq_true, implies_true, and_self, eq_self, g1, g3, (em _).1, Nat.add_sub_cancel]; exact u1
      · simp (disch := omega) only [ln_, leT, leF, ltT, ltF, eqT, eqF, vpT, nlT, nleT, lnF, lenF, eqnF, neqF, nnF, nI_add, pk_mul, pk_div, pk_sub, ni_m, nI_clamp, md10, dm10, gI_l, gI_n, ar_t, ar_f, it_t, it_f, true_and, and_true, not_true_eq_false, not_false_eq_true, implies_true, and_self, eq_self, g1, g3, (em _).1, (em _).2, Nat.add_sub_cancel]; exact u2
    · obtain ⟨s', u1, u2, u3⟩ := nxt (nI 3) rfl
      have hx0 : x = nI 0 := hnot.resolve_right (by omega)
      subst hx0
      refine ⟨s', ?_, ?_, u3⟩
      · simp (disch := omega) only [ln_, leT, leF, ltT, ltF, eqT, eqF, vpT, nlT, nleT, lnF, lenF, eqnF, neqF, nnF, nI_add, pk_mul, pk_div, pk_sub, ni_m, nI_clamp, md10, dm10, gI_l, gI_n, ar_t, ar_f, it_t, it_f, true_and, and_true, not_true_eq_false, not_false_eq_true, implies_true, and_self, eq_self, g1, g3, (em _).1, Nat.add_sub_cancel]; exact u1
      · simp (disch := omega) only [ln_, leT, leF, ltT, ltF, eqT, eqF, vpT, nlT, nleT, lnF, lenF, eqnF, neqF, nnF, nI_add, pk_mul, pk_div, pk_sub, ni_m, nI_clamp, md10, dm10, gI_l, gI_n, ar_t, ar_f, it_t, it_f, true_and, and_true, not_true_eq_false, not_false_eq_true, implies_true, and_self, eq_self, g1, g3, (em _).1, (em _).2, Nat.add_sub_cancel]; exact u2
    · obtain ⟨s', u1, u2, u3⟩ := nxt (nI 4) rfl
      refine ⟨s', ?_, ?_, u3⟩
      · rcases x01 with rfl | rfl <;> simp (disch := omega) only [ln_, leT, leF, ltT, ltF, eqT, eqF, vpT, nlT, nleT, lnF, lenF, eqnF, neqF, nnF, nI_add, pk_mul, pk_div, pk_sub, ni_m, nI_clamp, md10, dm10, gI_l, gI_n, ar_t, ar_f, it_t, it_f, true_and, and_true, not_true_eq_false, not_false_eq_true, implies_true, and_self, eq_self, g1, g3, (em _).1, Nat.add_sub_cancel] <;> exact u1
      · rcases x01 with rfl | rfl <;> simp (disch := omega) only [ln_, leT, leF, ltT, ltF, eqT, eqF, vpT, nlT, nleT, lnF, lenF, eqnF, neqF, nnF, nI_add, pk_mul, pk_div, pk_sub, ni_m, nI_clamp, md10, dm10, gI_l, gI_n, ar_t, ar_f, it_t, it_f, true_and, and_true, not_true_eq_false, not_false_eq_true, implies_true, and_self, eq_self, g1, g3, (em _).1, (em _).2, Nat.add_sub_cancel] <;> exact u2
    · obtain ⟨s', u1, u2, u3⟩ := nxt (nI 5) rfl
      refine ⟨s', ?_, ?_, u3⟩
      · rcases x01 with rfl | rfl <;> simp (disch := omega) only [ln_, leT, leF, ltT, ltF, eqT, eqF, vpT, nlT, nleT, lnF, lenF, eqnF, neqF, nnF, nI_add, pk_mul, pk_div, pk_sub, ni_m, nI_clamp, md10, dm10, gI_l, gI_n, ar_t, ar_f, it_t, it_f, true_and, and_true, not_true_eq_false, not_false_eq_true, implies_true, and_self, eq_self, g1, g3, (em _).1, Nat.add_sub_cancel] <;> exact u1
      · rcases x01 with rfl | rfl <;> simp (disch := omega) only [ln_, leT, leF, ltT, ltF, eqT, eqF, vpT, nlT, nleT, lnF, lenF, eqnF, neqF, nnF, nI_add, pk_mul, pk_div, pk_sub, ni_m, nI_clamp, md10, dm10, gI_l, gI_n, ar_t, ar_f, it_t, it_f, true_and, and_true, not_true_eq_false, not_false_eq_true, implies_true, and_self, eq_self, g1, g3, (em _).1, (em _).2, Nat.add_sub_cancel] <;> exact u2
end rex2
