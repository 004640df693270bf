/-! The class reads expressions -/
section cex2
variable {B T V : Nat → Nat} {a b c e i j k m n p q r t w e1 a1 k1 f : Nat} {s s1 : fl_I} {l l1 : fl_L} {fu : Nat} {x y z : Int32} {C C1 C2 : List Nat} {KS : Int32 → Nat → fl_I → fl_L → Int32 × fl_I × fl_L} {KP : Int32 → Nat → fl_I → fl_L → Prop}
theorem getD_l (h : i < C.length) : (C ++ C2).getD i 0 = C.getD i 0 := by
  show ((C ++ C2)[i]?).getD 0 = (C[i]?).getD 0
  rw [List.getElem?_append_left h]
theorem getD_r : (C ++ C2).getD (C.length + i) 0 = C2.getD i 0 := by
  show ((C ++ C2)[C.length + i]?).getD 0 = (C2[i]?).getD 0
  rw [List.getElem?_append_right (by omega), Nat.add_sub_cancel_left]
theorem getD_e : (C ++ [a]).getD C.length 0 = a := by
  have := getD_r (C := C) (C2 := [a]) (i := 0)
  rw [Nat.add_zero] at this; rw [this]; rfl
theorem c_addC (ht : t = 9 ∨ t = 20) (h : cAt B n t k m s l) (hm : m < 408) : f_X5_addCode fu x t s l = (wi (wi s (t + 9) m x) t 14 (nI (m + 1)), l) ∧ cAt B n t k (m + 1) (wi (wi s (t + 9) m x) t 14 (nI (m + 1))) l ∧ cEf t s (wi (wi s (t + 9) m x) t 14 (nI (m + 1))) ∧ (∀ j, j < m → (wi (wi s (t + 9) m x) t 14 (nI (m + 1))) (t + 9) j = s (t + 9) j) ∧ (m + 1 ≤ k + 4 → m + 1 ≤ k + 4) := by
  have h14 := h.2.2.2.2
  have fr : cEf t s (wi (wi s (t + 9) m x) t 14 (nI (m + 1))) := ⟨fun q a b c => by simp (disch := omega) only [wi_c, wi_u, upd_s, upd_n, su_r, su_c], fun j a b c => by simp (disch := omega) only [wi_c, wi_u, upd_s, upd_n, su_r, su_c], fun j a => by simp (disch := omega) only [wi_c, wi_u, upd_s, upd_n, su_r, su_c]⟩
  refine ⟨?_, ⟨cTk_keep ht fr h.1, h.2.1, by simp (disch := omega) only [wi_c, wi_u, upd_s, upd_n, su_r, su_c]; exact h.2.2.1, by simp (disch := omega) only [wi_c, wi_u, upd_s, upd_n, su_r, su_c]; exact h.2.2.2.1, by simp (disch := omega) only [wi_c, wi_u, upd_s, upd_n, su_r, su_c]⟩, fr, fun j hj => by simp (disch := omega) only [wi_c, wi_u, upd_s, upd_n, su_r, su_c], fun h => h⟩
  unfold f_X5_addCode
  simp (disch := omega) only [ln_, leT, leF, ltT, ltF, eqT, eqF, vpT, nlT, nleT, lnF, lenF, eqnF, neqF, nnF, nI_add, pk_mul, pk_div, pk_sub, ni_m, nI_clamp, md10, dm10, gI_l, gI_n, ar_t, ar_f, it_t, it_f, true_and, and_true, not_true_eq_false, not_false_eq_true, implies_true, and_self, eq_self, wi_c, wi_u, upd_s, upd_n, su_r, su_c, h14]
theorem c_addAny : ∃ s', f_X5_addCode fu x t s l = (s', l) ∧ (∀ q, q ≠ t → q ≠ t + 9 → s' q = s q) ∧ ∀ j, j ≠ 14 → s' t j = s t j := by
  unfold f_X5_addCode
  by_cases e1 : s t 14 < 0
  · exact ⟨s, if_pos e1, fun _ _ _ => rfl, fun _ _ => rfl⟩
  · rw [if_neg e1]
    by_cases e2 : (408 : Int32) ≤ s t 14
    · exact ⟨s, if_pos e2, fun _ _ _ => rfl, fun _ _ => rfl⟩
    · rw [if_neg e2]
      exact ⟨_, rfl, fun q h1 h2 => by rw [wi_c h1, wi_c h2], fun j hj => by rw [wi_u, upd_n hj, wi_c (by omega)]⟩
theorem cPo_seq {r : Int32 × fl_I × fl_L} (hk : k + C1.length ≤ k1) (fr : cEf t s s1) (h1 : ∀ j, j < m → s1 (t + 9) j = s (t + 9) j) (h2 : ∀ i, i < C1.length → s1 (t + 9) (m + i) = cI (C1.getD i 0)) (h : cPo B n t k1 e a (m + C1.length) C2 s1 l r) : cPo B n t k e a m (C1 ++ C2) s l r := by
  obtain ⟨h0, s', g1, g2, g3, g4⟩ := h
  refine ⟨h0, s', g1, cEf_tr fr g2, fun he => ?_, g4⟩
  obtain ⟨q1, q3, q4, q5⟩ := g3 he
  rw [List.length_append, ← Nat.add_assoc, ← Nat.add_assoc]
  refine ⟨by omega, q3, fun j hj => by rw [q4 j (by omega), h1 j hj], fun i hi => ?_⟩
  by_cases ei : i < C1.length
  · rw [q4 (m + i) (by omega), h2 i ei, getD_l ei]
  · obtain ⟨d, rfl⟩ : ∃ d, i = C1.length + d := ⟨i - C1.length, by omega⟩
    rw [← Nat.add_assoc, q5 d (by omega), getD_r]

theorem c_exit1 : f_X3_product_10 fu KS (f + 1) x (nI 0) y t s l = (nI 0, s, l) ∧ p_X3_product_10 fu KS KP (f + 1) x (nI 0) y t s l := by
  unfold f_X3_product_10 p_X3_product_10
  by_cases e : nI 400 < y <;> simp (disch := omega) only [ln_, eqT, ar_t, ar_f, it_t, it_f, true_and, and_true, not_true_eq_false, not_false_eq_true, implies_true, and_self, eq_self, e, true_or]
theorem c_rest1 (ht : t = 9 ∨ t = 20) (hu : ∀ k m s, cAt B n t k m s l → m ≤ k + 4 → ∃ e a C, eD (tK B n) (tV B n) 0 w k e a C ∧ cPo B n t k e a m C s l (f_X3_unit fu KS (nI w) t s l) ∧ p_X3_unit fu KS KP (nI w) t s l) :
    ∀ f k m s z, cAt B n t k m s l → m ≤ k + 4 → z ≤ k → 403 ≤ f + z → ∃ e a C, eD (tK B n) (tV B n) 1 w k e a C ∧ cPo B n t k e a m C s l (f_X3_product_10 fu KS f (nI w) (nI 1) (nI z) t s l) ∧ p_X3_product_10 fu KS KP f (nI w) (nI 1) (nI z) t s l := by
  intro f
  induction f with
  | zero => intro k m s z h hm hz hf; have := h.2.1.1; omega
  | succ f ih =>
    intro k m s z h hm hz hf
    have hk := h.2.1.1
    obtain ⟨k1, k2⟩ := c_kindNow (fu := fu) h
    have hlt := tK_lt (k := k) h.1
    obtain ⟨f', rfl⟩ : ∃ f', f = f' + 1 := ⟨f - 1, by omega⟩
    by_cases eo : opS 1 (tK B n k)
    · have go : ∀ (c : Nat) (x : Int32), tK B n k = c → (c = 42 ∧ x = -nI 3 ∨ c = 47 ∧ x = -nI 4) → ∃ e a C, eD (tK B n) (tV B n) 1 w k e a C ∧ ∃ sA sB vA, f_X3_take fu (nI c) s l = (vA, sA, l) ∧ p_X3_take fu (nI c) s l ∧
            ((vA = nI 0 ∧ f_X5_addCode fu x t sA l = (sB, l) ∧ cPo B n t k e a m C s l (nI 0, sB, l)) ∨ (vA = nI 1 ∧ p_X3_unit fu KS KP (nI w) t sA l ∧ ∃ vB sC, f_X3_unit fu KS (nI w) t sA l = (vB, sC, l) ∧ f_X5_addCode fu x t sC l = (sB, l) ∧ ((vB = nI 0 ∧ cPo B n t k e a m C s l (nI 0, sB, l)) ∨ (vB = nI 1 ∧ cPo B n t k e a m C s l (f_X3_product_10 fu KS (f' + 1) (nI w) (nI 1) (nI (z + 1)) t sB l) ∧ p_X3_product_10 fu KS KP (f' + 1) (nI w) (nI 1) (nI (z + 1)) t sB l)))) := by
        intro c x hc hx
        have hcI : cI (20000 + c) = x := by rcases hx with ⟨rfl, rfl⟩ | ⟨rfl, rfl⟩ <;> rfl
        have hc2 : 2 ≤ c ∧ c < 1000 := by omega
        cases hE : tkE (tK B n) c k with
        | mk e a =>
          obtain ⟨⟨g0, sA, g1, g2, g3, g4⟩, gp⟩ := c_take (fu := fu) ht h hc2.1 hc2.2 hE
          by_cases e0 : e = 0
          · subst e0
            obtain ⟨q1, q3, q4, _⟩ := g3 rfl
            rw [List.length_nil, Nat.add_zero] at q1 q3
            obtain ⟨e, a', C, d1, ⟨u0, sC, u1, u2, u3, u4⟩, up⟩ := hu a m sA q3 (by omega)
            by_cases e1 : e = 0
            · subst e1
              obtain ⟨w1, w3, w4, w5⟩ := u3 rfl
              have fr : cEf t s sC := cEf_tr g2 u2
              obtain ⟨b1, b2, b3, b4, b5⟩ := c_addC (fu := fu) (x := x) ht w3 (by have := w3.2.1.1; omega)
              have kq : k + 1 = a := by
                unfold tkE at hE
                rw [if_pos hc] at hE
                by_cases e4 : k < 400
                · rw [if_pos e4] at hE; exact (Prod.mk.inj hE).2
                · rw [if_neg e4] at hE; exact absurd (Prod.mk.inj hE).1 (by omega)
              obtain ⟨e, a'', C', d2, P2, pp2⟩ := ih a' (m + C.length + 1) _ (z + 1) b2 (by omega) (by omega) (by omega)
              refine ⟨e, a'', C ++ (20000 + c) :: C', ?_, sA, _, _, g1, gp, .inr ⟨rfl, up, _, sC, u1, b1, .inr ⟨rfl, ?_, pp2⟩⟩⟩
              · have := eD_cl (T := tK B n) (V := tV B n)
                have h2 := this.2.2.2.2.2.2.2.2.2.1 1 w k a a' C e a'' C' (by omega) eo (by rw [hc]; exact hE) d1 d2
                rw [hc] at h2; exact h2
              · rw [show C ++ (20000 + c) :: C' = (C ++ [20000 + c]) ++ C' from by simp]
                refine cPo_seq (m := m) (k1 := a') (C1 := C ++ [20000 + c]) (by rw [List.length_append, List.length_singleton]; omega) (cEf_tr fr b3) (fun j hj => by rw [b4 j (by omega), w4 j hj, q4 j hj]) (fun i hi => ?_) ?_
                · rw [List.length_append, List.length_singleton] at hi
                  by_cases ei : i < C.length
                  · rw [b4 (m + i) (by omega), w5 i ei, getD_l ei]
                  · have : i = C.length := by omega
                    subst this
                    rw [getD_e, hcI]; show wi (wi sC (t + 9) (m + C.length) x) t 14 _ (t + 9) (m + C.length) = x
                    rw [wi_c (by omega), wi_u, upd_s]
                · rw [List.length_append, List.length_singleton, ← Nat.add_assoc]
                  exact P2
            · obtain ⟨w1, w2⟩ := u4 e1
              obtain ⟨sB, b1, b2, b3⟩ := c_addAny (fu := fu) (x := x) (t := t) (s := sC) (l := l)
              refine ⟨e, a', [], ?_, sA, sB, _, g1, gp, .inr ⟨rfl, up, _, sC, u1, b1, .inl ⟨if_neg e1, ?_⟩⟩⟩
              · have := eD_cl (T := tK B n) (V := tV B n)
                exact this.2.2.2.2.2.2.2.2.1 1 w k a e a' C (by omega) eo (by rw [hc]; exact hE) d1 e1
              · refine ⟨u0, sB, by rw [if_neg e1], cEf_tr (cEf_tr g2 u2) ⟨fun q a b c => b2 q b c, fun j _ _ _ => by rw [b2 3 (by omega) (by omega)], b3⟩, fun h => absurd h e1, fun _ => by rw [b2 3 (by omega) (by omega)]; exact ⟨w1, w2⟩⟩
          · obtain ⟨w1, w2⟩ := g4 e0
            obtain ⟨sB, b1, b2, b3⟩ := c_addAny (fu := fu) (x := x) (t := t) (s := sA) (l := l)
            refine ⟨e, a, [], ?_, sA, sB, _, g1, gp, .inl ⟨if_neg e0, b1, ?_⟩⟩
            · have := eD_cl (T := tK B n) (V := tV B n)
              exact this.2.2.2.2.2.2.2.1 1 w k e a (by omega) eo (by rw [hc]; exact hE) e0
            · refine ⟨g0, sB, by rw [if_neg e0], cEf_tr g2 ⟨fun q a b c => b2 q b c, fun j _ _ _ => by rw [b2 3 (by omega) (by omega)], b3⟩, fun h => absurd h e0, fun _ => by rw [b2 3 (by omega) (by omega)]; exact ⟨w1, w2⟩⟩
      have ho : tK B n k = 42 ∨ tK B n k = 47 := by unfold opS at eo; simpa using eo
      have ex := fun s => c_exit1 (fu := fu) (KS := KS) (KP := KP) (f := f') (x := nI w) (y := nI (z + 1)) (t := t) (s := s) (l := l)
      have pA := fun x s => eq_true (p_addC (fu := fu) (x := x) (t := t) (s := s) (l := l))
      rcases ho with ho | ho
      · obtain ⟨e, a, C, d, sA, sB, vA, t1, t2, t3⟩ := go 42 (-nI 3) ho (.inl ⟨rfl, rfl⟩)
        refine ⟨e, a, C, d, ?_⟩
        rw [ho] at k1
        unfold f_X3_product_10 p_X3_product_10
        rcases t3 with ⟨rfl, t4, t5⟩ | ⟨rfl, t4, vB, sC, t5, t6, ⟨rfl, t7⟩ | ⟨rfl, t7, t8⟩⟩
        · simp (disch := omega) only [ln_, ltF, eqT, eqF, ar_t, ar_f, it_t, it_f, true_and, and_true, not_true_eq_false, not_false_eq_true, implies_true, and_self, eq_self, k1, k2, t1, t2, t4, nI_add, (ex _).1, (ex _).2, pA]
          exact t5
        · simp (disch := omega) only [ln_, ltF, eqT, eqF, ar_t, ar_f, it_t, it_f, true_and, and_true, not_true_eq_false, not_false_eq_true, implies_true, and_self, eq_self, k1, k2, t1, t2, t4, t5, t6, nI_add, (ex _).1, (ex _).2, pA]
          exact t7
        · simp (disch := omega) only [ln_, ltF, eqT, eqF, ar_t, ar_f, it_t, it_f, true_and, and_true, not_true_eq_false, not_false_eq_true, implies_true, and_self, eq_self, k1, k2, t1, t2, t4, t5, t6, nI_add, pA]
          exact ⟨t7, t8⟩
      · obtain ⟨e, a, C, d, sA, sB, vA, t1, t2, t3⟩ := go 47 (-nI 4) ho (.inr ⟨rfl, rfl⟩)
        refine ⟨e, a, C, d, ?_⟩
        rw [ho] at k1
        unfold f_X3_product_10 p_X3_product_10
        rcases t3 with ⟨rfl, t4, t5⟩ | ⟨rfl, t4, vB, sC, t5, t6, ⟨rfl, t7⟩ | ⟨rfl, t7, t8⟩⟩
        · simp (disch := omega) only [ln_, ltF, eqT, eqF, ar_t, ar_f, it_t, it_f, true_and, and_true, not_true_eq_false, not_false_eq_true, implies_true, and_self, eq_self, k1, k2, t1, t2, t4, nI_add, (ex _).1, (ex _).2, pA]
          exact t5
        · simp (disch := omega) only [ln_, ltF, eqT, eqF, ar_t, ar_f, it_t, it_f, true_and, and_true, not_true_eq_false, not_false_eq_true, implies_true, and_self, eq_self, k1, k2, t1, t2, t4, t5, t6, nI_add, (ex _).1, (ex _).2, pA]
          exact t7
        · simp (disch := omega) only [ln_, ltF, eqT, eqF, ar_t, ar_f, it_t, it_f, true_and, and_true, not_true_eq_false, not_false_eq_true, implies_true, and_self, eq_self, k1, k2, t1, t2, t4, t5, t6, nI_add, pA]
          exact ⟨t7, t8⟩
    · have ho : ¬ (tK B n k = 42 ∨ tK B n k = 47) := by unfold opS at eo; simpa using eo
      refine ⟨0, k, [], eD_cl.2.2.2.2.2.2.1 1 w k (by omega) eo, ⟨by omega, s, ?_, cEf_rfl, fun _ => ⟨Nat.le_refl _, h, fun _ _ => rfl, fun i hi => absurd hi (Nat.not_lt_zero i)⟩, fun h => absurd rfl h⟩, ?_⟩
      · unfold f_X3_product_10
        simp (disch := omega) only [ln_, ltF, eqF, ar_t, ar_f, it_t, it_f, true_and, and_true, not_true_eq_false, not_false_eq_true, implies_true, and_self, eq_self, k1]
      · unfold p_X3_product_10
        simp (disch := omega) only [ln_, ltF, eqF, eqT, ar_t, ar_f, it_t, it_f, true_and, and_true, not_true_eq_false, not_false_eq_true, implies_true, and_self, eq_self, k1, k2, or_true, true_or]
theorem c_full1 (hfu : 20000 ≤ fu) (ht : t = 9 ∨ t = 20) (hu : ∀ k m s, cAt B n t k m s l → m ≤ k + 4 → ∃ e a C, eD (tK B n) (tV B n) 0 w k e a C ∧ cPo B n t k e a m C s l (f_X3_unit fu KS (nI w) t s l) ∧ p_X3_unit fu KS KP (nI w) t s l) :
    ∀ k m s, cAt B n t k m s l → m ≤ k + 4 → ∃ e a C, eD (tK B n) (tV B n) 2 w k e a C ∧ cPo B n t k e a m C s l (f_X3_product fu KS (nI w) t s l) ∧ p_X3_product fu KS KP (nI w) t s l := by
  intro k m s h hm
  obtain ⟨e, a, C, d1, ⟨u0, sC, u1, u2, u3, u4⟩, up⟩ := hu k m s h hm
  unfold f_X3_product p_X3_product
  by_cases e0 : e = 0
  · subst e0
    obtain ⟨w1, w3, w4, w5⟩ := u3 rfl
    obtain ⟨e, a', C', d2, P2, pp2⟩ := c_rest1 (fu := fu) ht hu fu a (m + C.length) sC 0 w3 (by omega) (Nat.zero_le _) (by omega)
    refine ⟨e, a', C ++ C', eD_cl.2.2.2.2.2.2.2.2.2.2.2 1 w k a C e a' C' (by omega) d1 d2, ?_, ?_⟩
    · rw [u1]; exact cPo_seq (k1 := a) w1 u2 w4 w5 P2
    · rw [u1]; exact ⟨up, pp2⟩
  · obtain ⟨f', rfl⟩ : ∃ f', fu = f' + 1 := ⟨fu - 1, by omega⟩
    have ex := c_exit1 (fu := f' + 1) (KS := KS) (KP := KP) (f := f') (x := nI w) (y := nI 0) (t := t) (s := sC) (l := l)
    refine ⟨e, a, [], eD_cl.2.2.2.2.2.2.2.2.2.2.1 1 w k e a C (by omega) d1 e0, ?_, ?_⟩
    · rw [u1, if_neg e0]
      show cPo B n t k e a m [] s l (f_X3_product_10 (f' + 1) KS (f' + 1) (nI w) (nI 0) (nI 0) t sC l)
      rw [ex.1]
      exact ⟨u0, sC, by rw [if_neg e0], u2, fun h => absurd h e0, u4⟩
    · rw [u1, if_neg e0]; exact ⟨up, ex.2⟩

theorem c_exit3 : f_X3_sum_10 fu KS (f + 1) x (nI 0) y t s l = (nI 0, s, l) ∧ p_X3_sum_10 fu KS KP (f + 1) x (nI 0) y t s l := by
  unfold f_X3_sum_10 p_X3_sum_10
  by_cases e : nI 400 < y <;> simp (disch := omega) only [ln_, eqT, ar_t, ar_f, it_t, it_f, true_and, and_true, not_true_eq_false, not_false_eq_true, implies_true, and_self, eq_self, e, true_or]
theorem c_rest3 (ht : t = 9 ∨ t = 20) (hu : ∀ k m s, cAt B n t k m s l → m ≤ k + 4 → ∃ e a C, eD (tK B n) (tV B n) 2 w k e a C ∧ cPo B n t k e a m C s l (f_X3_product fu KS (nI w) t s l) ∧ p_X3_product fu KS KP (nI w) t s l) :
    ∀ f k m s z, cAt B n t k m s l → m ≤ k + 4 → z ≤ k → 403 ≤ f + z → ∃ e a C, eD (tK B n) (tV B n) 3 w k e a C ∧ cPo B n t k e a m C s l (f_X3_sum_10 fu KS f (nI w) (nI 1) (nI z) t s l) ∧ p_X3_sum_10 fu KS KP f (nI w) (nI 1) (nI z) t s l := by
  intro f
  induction f with
  | zero => intro k m s z h hm hz hf; have := h.2.1.1; omega
  | succ f ih =>
    intro k m s z h hm hz hf
    have hk := h.2.1.1
    obtain ⟨k1, k2⟩ := c_kindNow (fu := fu) h
    have hlt := tK_lt (k := k) h.1
    obtain ⟨f', rfl⟩ : ∃ f', f = f' + 1 := ⟨f - 1, by omega⟩
    by_cases eo : opS 3 (tK B n k)
    · have go : ∀ (c : Nat) (x : Int32), tK B n k = c → (c = 43 ∧ x = -nI 1 ∨ c = 45 ∧ x = -nI 2) → ∃ e a C, eD (tK B n) (tV B n) 3 w k e a C ∧ ∃ sA sB vA, f_X3_take fu (nI c) s l = (vA, sA, l) ∧ p_X3_take fu (nI c) s l ∧
            ((vA = nI 0 ∧ f_X5_addCode fu x t sA l = (sB, l) ∧ cPo B n t k e a m C s l (nI 0, sB, l)) ∨ (vA = nI 1 ∧ p_X3_product fu KS KP (nI w) t sA l ∧ ∃ vB sC, f_X3_product fu KS (nI w) t sA l = (vB, sC, l) ∧ f_X5_addCode fu x t sC l = (sB, l) ∧ ((vB = nI 0 ∧ cPo B n t k e a m C s l (nI 0, sB, l)) ∨ (vB = nI 1 ∧ cPo B n t k e a m C s l (f_X3_sum_10 fu KS (f' + 1) (nI w) (nI 1) (nI (z + 1)) t sB l) ∧ p_X3_sum_10 fu KS KP (f' + 1) (nI w) (nI 1) (nI (z + 1)) t sB l)))) := by
        intro c x hc hx
        have hcI : cI (20000 + c) = x := by rcases hx with ⟨rfl, rfl⟩ | ⟨rfl, rfl⟩ <;> rfl
        have hc2 : 2 ≤ c ∧ c < 1000 := by omega
        cases hE : tkE (tK B n) c k with
        | mk e a =>
          obtain ⟨⟨g0, sA, g1, g2, g3, g4⟩, gp⟩ := c_take (fu := fu) ht h hc2.1 hc2.2 hE
          by_cases e0 : e = 0
          · subst e0
            obtain ⟨q1, q3, q4, _⟩ := g3 rfl
            rw [List.length_nil, Nat.add_zero] at q1 q3
            obtain ⟨e, a', C, d1, ⟨u0, sC, u1, u2, u3, u4⟩, up⟩ := hu a m sA q3 (by omega)
            by_cases e1 : e = 0
            · subst e1
              obtain ⟨w1, w3, w4, w5⟩ := u3 rfl
              have fr : cEf t s sC := cEf_tr g2 u2
              obtain ⟨b1, b2, b3, b4, b5⟩ := c_addC (fu := fu) (x := x) ht w3 (by have := w3.2.1.1; omega)
              have kq : k + 1 = a := by
                unfold tkE at hE
                rw [if_pos hc] at hE
                by_cases e4 : k < 400
                · rw [if_pos e4] at hE; exact (Prod.mk.inj hE).2
                · rw [if_neg e4] at hE; exact absurd (Prod.mk.inj hE).1 (by omega)
              obtain ⟨e, a'', C', d2, P2, pp2⟩ := ih a' (m + C.length + 1) _ (z + 1) b2 (by omega) (by omega) (by omega)
              refine ⟨e, a'', C ++ (20000 + c) :: C', ?_, sA, _, _, g1, gp, .inr ⟨rfl, up, _, sC, u1, b1, .inr ⟨rfl, ?_, pp2⟩⟩⟩
              · have := eD_cl (T := tK B n) (V := tV B n)
                have h2 := this.2.2.2.2.2.2.2.2.2.1 3 w k a a' C e a'' C' (by omega) eo (by rw [hc]; exact hE) d1 d2
                rw [hc] at h2; exact h2
              · rw [show C ++ (20000 + c) :: C' = (C ++ [20000 + c]) ++ C' from by simp]
                refine cPo_seq (m := m) (k1 := a') (C1 := C ++ [20000 + c]) (by rw [List.length_append, List.length_singleton]; omega) (cEf_tr fr b3) (fun j hj => by rw [b4 j (by omega), w4 j hj, q4 j hj]) (fun i hi => ?_) ?_
                · rw [List.length_append, List.length_singleton] at hi
                  by_cases ei : i < C.length
                  · rw [b4 (m + i) (by omega), w5 i ei, getD_l ei]
                  · have : i = C.length := by omega
                    subst this
                    rw [getD_e, hcI]; show wi (wi sC (t + 9) (m + C.length) x) t 14 _ (t + 9) (m + C.length) = x
                    rw [wi_c (by omega), wi_u, upd_s]
                · rw [List.length_append, List.length_singleton, ← Nat.add_assoc]
                  exact P2
            · obtain ⟨w1, w2⟩ := u4 e1
              obtain ⟨sB, b1, b2, b3⟩ := c_addAny (fu := fu) (x := x) (t := t) (s := sC) (l := l)
              refine ⟨e, a', [], ?_, sA, sB, _, g1, gp, .inr ⟨rfl, up, _, sC, u1, b1, .inl ⟨if_neg e1, ?_⟩⟩⟩
              · have := eD_cl (T := tK B n) (V := tV B n)
                exact this.2.2.2.2.2.2.2.2.1 3 w k a e a' C (by omega) eo (by rw [hc]; exact hE) d1 e1
              · refine ⟨u0, sB, by rw [if_neg e1], cEf_tr (cEf_tr g2 u2) ⟨fun q a b c => b2 q b c, fun j _ _ _ => by rw [b2 3 (by omega) (by omega)], b3⟩, fun h => absurd h e1, fun _ => by rw [b2 3 (by omega) (by omega)]; exact ⟨w1, w2⟩⟩
          · obtain ⟨w1, w2⟩ := g4 e0
            obtain ⟨sB, b1, b2, b3⟩ := c_addAny (fu := fu) (x := x) (t := t) (s := sA) (l := l)
            refine ⟨e, a, [], ?_, sA, sB, _, g1, gp, .inl ⟨if_neg e0, b1, ?_⟩⟩
            · have := eD_cl (T := tK B n) (V := tV B n)
              exact this.2.2.2.2.2.2.2.1 3 w k e a (by omega) eo (by rw [hc]; exact hE) e0
            · refine ⟨g0, sB, by rw [if_neg e0], cEf_tr g2 ⟨fun q a b c => b2 q b c, fun j _ _ _ => by rw [b2 3 (by omega) (by omega)], b3⟩, fun h => absurd h e0, fun _ => by rw [b2 3 (by omega) (by omega)]; exact ⟨w1, w2⟩⟩
      have ho : tK B n k = 43 ∨ tK B n k = 45 := by unfold opS at eo; simpa using eo
      have ex := fun s => c_exit3 (fu := fu) (KS := KS) (KP := KP) (f := f') (x := nI w) (y := nI (z + 1)) (t := t) (s := s) (l := l)
      have pA := fun x s => eq_true (p_addC (fu := fu) (x := x) (t := t) (s := s) (l := l))
      rcases ho with ho | ho
      · obtain ⟨e, a, C, d, sA, sB, vA, t1, t2, t3⟩ := go 43 (-nI 1) ho (.inl ⟨rfl, rfl⟩)
        refine ⟨e, a, C, d, ?_⟩
        rw [ho] at k1
        unfold f_X3_sum_10 p_X3_sum_10
        rcases t3 with ⟨rfl, t4, t5⟩ | ⟨rfl, t4, vB, sC, t5, t6, ⟨rfl, t7⟩ | ⟨rfl, t7, t8⟩⟩
        · simp (disch := omega) only [ln_, ltF, eqT, eqF, ar_t, ar_f, it_t, it_f, true_and, and_true, not_true_eq_false, not_false_eq_true, implies_true, and_self, eq_self, k1, k2, t1, t2, t4, nI_add, (ex _).1, (ex _).2, pA]
          exact t5
        · simp (disch := omega) only [ln_, ltF, eqT, eqF, ar_t, ar_f, it_t, it_f, true_and, and_true, not_true_eq_false, not_false_eq_true, implies_true, and_self, eq_self, k1, k2, t1, t2, t4, t5, t6, nI_add, (ex _).1, (ex _).2, pA]
          exact t7
        · simp (disch := omega) only [ln_, ltF, eqT, eqF, ar_t, ar_f, it_t, it_f, true_and, and_true, not_true_eq_false, not_false_eq_true, implies_true, and_self, eq_self, k1, k2, t1, t2, t4, t5, t6, nI_add, pA]
          exact ⟨t7, t8⟩
      · obtain ⟨e, a, C, d, sA, sB, vA, t1, t2, t3⟩ := go 45 (-nI 2) ho (.inr ⟨rfl, rfl⟩)
        refine ⟨e, a, C, d, ?_⟩
        rw [ho] at k1
        unfold f_X3_sum_10 p_X3_sum_10
        rcases t3 with ⟨rfl, t4, t5⟩ | ⟨rfl, t4, vB, sC, t5, t6, ⟨rfl, t7⟩ | ⟨rfl, t7, t8⟩⟩
        · simp (disch := omega) only [ln_, ltF, eqT, eqF, ar_t, ar_f, it_t, it_f, true_and, and_true, not_true_eq_false, not_false_eq_true, implies_true, and_self, eq_self, k1, k2, t1, t2, t4, nI_add, (ex _).1, (ex _).2, pA]
          exact t5
        · simp (disch := omega) only [ln_, ltF, eqT, eqF, ar_t, ar_f, it_t, it_f, true_and, and_true, not_true_eq_false, not_false_eq_true, implies_true, and_self, eq_self, k1, k2, t1, t2, t4, t5, t6, nI_add, (ex _).1, (ex _).2, pA]
          exact t7
        · simp (disch := omega) only [ln_, ltF, eqT, eqF, ar_t, ar_f, it_t, it_f, true_and, and_true, not_true_eq_false, not_false_eq_true, implies_true, and_self, eq_self, k1, k2, t1, t2, t4, t5, t6, nI_add, pA]
          exact ⟨t7, t8⟩
    · have ho : ¬ (tK B n k = 43 ∨ tK B n k = 45) := by unfold opS at eo; simpa using eo
      refine ⟨0, k, [], eD_cl.2.2.2.2.2.2.1 3 w k (by omega) eo, ⟨by omega, s, ?_, cEf_rfl, fun _ => ⟨Nat.le_refl _, h, fun _ _ => rfl, fun i hi => absurd hi (Nat.not_lt_zero i)⟩, fun h => absurd rfl h⟩, ?_⟩
      · unfold f_X3_sum_10
        simp (disch := omega) only [ln_, ltF, eqF, ar_t, ar_f, it_t, it_f, true_and, and_true, not_true_eq_false, not_false_eq_true, implies_true, and_self, eq_self, k1]
      · unfold p_X3_sum_10
        simp (disch := omega) only [ln_, ltF, eqF, eqT, ar_t, ar_f, it_t, it_f, true_and, and_true, not_true_eq_false, not_false_eq_true, implies_true, and_self, eq_self, k1, k2, or_true, true_or]
theorem c_full3 (hfu : 20000 ≤ fu) (ht : t = 9 ∨ t = 20) (hu : ∀ k m s, cAt B n t k m s l → m ≤ k + 4 → ∃ e a C, eD (tK B n) (tV B n) 2 w k e a C ∧ cPo B n t k e a m C s l (f_X3_product fu KS (nI w) t s l) ∧ p_X3_product fu KS KP (nI w) t s l) :
    ∀ k m s, cAt B n t k m s l → m ≤ k + 4 → ∃ e a C, eD (tK B n) (tV B n) 4 w k e a C ∧ cPo B n t k e a m C s l (f_X3_sum fu KS (nI w) t s l) ∧ p_X3_sum fu KS KP (nI w) t s l := by
  intro k m s h hm
  obtain ⟨e, a, C, d1, ⟨u0, sC, u1, u2, u3, u4⟩, up⟩ := hu k m s h hm
  unfold f_X3_sum p_X3_sum
  by_cases e0 : e = 0
  · subst e0
    obtain ⟨w1, w3, w4, w5⟩ := u3 rfl
    obtain ⟨e, a', C', d2, P2, pp2⟩ := c_rest3 (fu := fu) ht hu fu a (m + C.length) sC 0 w3 (by omega) (Nat.zero_le _) (by omega)
    refine ⟨e, a', C ++ C', eD_cl.2.2.2.2.2.2.2.2.2.2.2 3 w k a C e a' C' (by omega) d1 d2, ?_, ?_⟩
    · rw [u1]; exact cPo_seq (k1 := a) w1 u2 w4 w5 P2
    · rw [u1]; exact ⟨up, pp2⟩
  · obtain ⟨f', rfl⟩ : ∃ f', fu = f' + 1 := ⟨fu - 1, by omega⟩
    have ex := c_exit3 (fu := f' + 1) (KS := KS) (KP := KP) (f := f') (x := nI w) (y := nI 0) (t := t) (s := sC) (l := l)
    refine ⟨e, a, [], eD_cl.2.2.2.2.2.2.2.2.2.2.1 3 w k e a C (by omega) d1 e0, ?_, ?_⟩
    · rw [u1, if_neg e0]
      show cPo B n t k e a m [] s l (f_X3_sum_10 (f' + 1) KS (f' + 1) (nI w) (nI 0) (nI 0) t sC l)
      rw [ex.1]
      exact ⟨u0, sC, by rw [if_neg e0], u2, fun h => absurd h e0, u4⟩
    · rw [u1, if_neg e0]; exact ⟨up, ex.2⟩
end cex2
