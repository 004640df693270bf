/-! The class reads units; all of it -/
section cex3
variable {B T V : Nat → Nat} {a b c e i j k m n p q r t w e1 a1 k1 f : Nat} {s s1 : fl_I} {l l1 : fl_L} {fu : Nat} {x y z : Int32} {C C1 C2 : List Nat} {KS : Int32 → Nat → fl_I → fl_L → Int32 × fl_I × fl_L} {KP : Int32 → Nat → fl_I → fl_L → Prop}
theorem cPo_01 {r : Int32 × fl_I × fl_L} (h : cPo B n t k e a m C s l r) : r.1 = nI 0 ∨ r.1 = nI 1 := by
  obtain ⟨_, s', h, _⟩ := h
  rw [h]
  by_cases e0 : e = 0
  · exact .inr (if_pos e0)
  · exact .inl (if_neg e0)
theorem cPo_bad {r : Int32 × fl_I × fl_L} (he : e ≠ 0) (fr : cEf t s s1) (h : cPo B n t k1 e a m C s1 l r) {m' : Nat} : cPo B n t k e a m' C1 s l r := by
  obtain ⟨h0, s', g1, g2, g3, g4⟩ := h
  exact ⟨h0, s', g1, cEf_tr fr g2, fun h => absurd h he, g4⟩
theorem tkE_0 (h : tkE T c k = (0, a)) : T k = c ∧ k < 400 ∧ a = k + 1 := by
  unfold tkE at h
  by_cases e1 : T k = c
  · rw [if_pos e1] at h
    by_cases e2 : k < 400
    · rw [if_pos e2] at h; exact ⟨e1, e2, (Prod.mk.inj h).2.symm⟩
    · rw [if_neg e2] at h; exact absurd (Prod.mk.inj h).1 (by omega)
  · rw [if_neg e1] at h; exact absurd (Prod.mk.inj h).1 (by omega)
theorem tV_le (hb : ∀ i, i < n → B i < 256) (h : tK B n k = 3) : tV B n k ≤ 9999 := by
  obtain ⟨h1, h2, h3⟩ := tk_int hb h
  unfold tV
  refine dV_4 (fun i hi => ?_) h3
  have e1 : ¬ isLt (B (tP B n k)) = true := fun h => by
    have h5 : 97 ≤ B (tP B n k) ∧ B (tP B n k) ≤ 122 := of_decide_eq_true h
    have h6 : 48 ≤ B (tP B n k) ∧ B (tP B n k) ≤ 57 := of_decide_eq_true h2
    omega
  unfold tkN at hi
  rw [if_neg (by omega), if_neg e1, if_pos h2] at hi
  exact rn_in hi
/-- an entry, and a token taken -/
theorem c_leaf (ht : t = 9 ∨ t = 20) (h : cAt B n t k m s l) (hm : m ≤ k + 4) (hc : 2 ≤ c) (hc2 : c < 1000) (hE : tkE (tK B n) c k = (e, a)) (hx : e = 0 → x = cI b) : cPo B n t k e a m [b] s l (f_X3_take fu (nI c) (f_X5_addCode fu x t s l).1 (f_X5_addCode fu x t s l).2) ∧ p_X3_take fu (nI c) (f_X5_addCode fu x t s l).1 (f_X5_addCode fu x t s l).2 := by
  have hk := h.2.1.1
  obtain ⟨b1, b2, b3, b4, _⟩ := c_addC (fu := fu) (x := x) ht h (by omega)
  rw [b1]
  obtain ⟨g, gp⟩ := c_take (fu := fu) ht b2 hc hc2 hE
  refine ⟨?_, gp⟩
  by_cases e0 : e = 0
  · subst e0
    obtain ⟨_, _, rfl⟩ := tkE_0 hE
    obtain ⟨g0, s', g1, g2, g3, g4⟩ := g
    obtain ⟨q1, q3, q4, _⟩ := g3 rfl
    refine ⟨g0, s', g1, cEf_tr b3 g2, fun _ => ⟨Nat.le_refl _, q3, fun j hj => by rw [q4 j (by omega), b4 j hj], fun i hi => ?_⟩, g4⟩
    have : i = 0 := by rw [List.length_singleton] at hi; omega
    subst this
    show s' (t + 9) m = cI b
    rw [q4 m (by omega), wi_c (by omega), wi_u, upd_s]
    exact hx rfl
  · exact cPo_bad e0 b3 g
theorem c_unit (ht : t = 9 ∨ t = 20) (hw : w ≤ 6) (hS : w < 6 → ∀ k m s, cAt B n t k m s l → m ≤ k + 4 → ∃ e a C, eD (tK B n) (tV B n) 4 (w + 1) k e a C ∧ cPo B n t k e a m C s l (KS (nI (w + 1)) t s l) ∧ KP (nI (w + 1)) t s l) :
    ∀ k m s, cAt B n t k m s l → m ≤ k + 4 → ∃ e a C, eD (tK B n) (tV B n) 0 w k e a C ∧ cPo B n t k e a m C s l (f_X3_unit fu KS (nI w) t s l) ∧ p_X3_unit fu KS KP (nI w) t s l := by
  intro k m s h hm
  have hk := h.2.1.1
  obtain ⟨k1, k2⟩ := c_kindNow (fu := fu) h
  obtain ⟨v1, v2⟩ := c_valueNow (fu := fu) h
  have hlt := tK_lt (k := k) h.1
  have cl := eD_cl (T := tK B n) (V := tV B n)
  have pA := fun x s => eq_true (p_addC (fu := fu) (x := x) (t := t) (s := s) (l := l))
  by_cases e40 : tK B n k = 40
  · by_cases e6 : w < 6
    · cases hE : tkE (tK B n) 40 k with
      | mk e a =>
        obtain ⟨g, gp⟩ := c_take (fu := fu) ht h (by omega) (by omega) hE
        by_cases e0 : e = 0
        · subst e0
          obtain ⟨_, _, ha⟩ := tkE_0 hE
          obtain ⟨g0, sA, g1, g2, g3, g4⟩ := g
          obtain ⟨q1, q3, q4, _⟩ := g3 rfl
          rw [List.length_nil, Nat.add_zero] at q3
          obtain ⟨e, a', C, d1, U, up⟩ := hS e6 a m sA q3 (by omega)
          by_cases e1 : e = 0
          · subst e1
            obtain ⟨u0, sC, u1, u2, u3, u4⟩ := U
            obtain ⟨w1, w3, w4, w5⟩ := u3 rfl
            cases hF : tkE (tK B n) 41 a' with
            | mk e a'' =>
              obtain ⟨o, op⟩ := c_take (fu := fu) ht w3 (by omega) (by omega) hF
              have o1 := cPo_01 o
              refine ⟨e, a'', C, cl.2.2.2.1 w k a a' C e a'' e40 e6 hE d1 hF, ?_, ?_⟩
              · have o' : cPo B n t k e a'' m (C ++ []) s l (f_X3_take fu (nI 41) sC l) := cPo_seq (m := m) (k1 := a') (by omega) (cEf_tr g2 u2) (fun j hj => by rw [w4 j hj, q4 j hj]) w5 o
                rw [List.append_nil] at o'
                obtain ⟨o0, sD, o2, o3⟩ := o'
                refine ⟨o0, sD, ?_, o3⟩
                unfold f_X3_unit
                by_cases e5 : e = 0
                · rw [if_pos e5] at o2 ⊢
                  simp (disch := omega) only [ln_, leT, leF, ltT, ltF, eqT, eqF, vpT, nlT, nleT, lnF, lenF, eqnF, neqF, nnF, nI_add, pk_mul, pk_div, pk_sub, ni_m, nI_clamp, md10, dm10, gI_l, gI_n, ar_t, ar_f, it_t, it_f, true_and, and_true, not_true_eq_false, not_false_eq_true, implies_true, and_self, eq_self, k1, e40, g1, u1, o2]
                · rw [if_neg e5] at o2 ⊢
                  simp (disch := omega) only [ln_, leT, leF, ltT, ltF, eqT, eqF, vpT, nlT, nleT, lnF, lenF, eqnF, neqF, nnF, nI_add, pk_mul, pk_div, pk_sub, ni_m, nI_clamp, md10, dm10, gI_l, gI_n, ar_t, ar_f, it_t, it_f, true_and, and_true, not_true_eq_false, not_false_eq_true, implies_true, and_self, eq_self, k1, e40, g1, u1, o2]
              · unfold p_X3_unit
                simp (disch := omega) only [ln_, leT, leF, ltT, ltF, eqT, eqF, vpT, nlT, nleT, lnF, lenF, eqnF, neqF, nnF, nI_add, pk_mul, pk_div, pk_sub, ni_m, nI_clamp, md10, dm10, gI_l, gI_n, ar_t, ar_f, it_t, it_f, true_and, and_true, not_true_eq_false, not_false_eq_true, implies_true, and_self, eq_self, k1, k2, e40, g1, gp, u1, up, op]
          · obtain ⟨u0, sC, u1, u2⟩ := cPo_bad (k := k) (C1 := []) (m' := m) e1 g2 U
            rw [if_neg e1] at u1
            refine ⟨e, a', [], cl.2.2.1 w k a e a' C e40 e6 hE d1 e1, ⟨u0, sC, ?_, u2⟩, ?_⟩
            · unfold f_X3_unit
              rw [if_neg e1]
              simp (disch := omega) only [ln_, leT, leF, ltT, ltF, eqT, eqF, vpT, nlT, nleT, lnF, lenF, eqnF, neqF, nnF, nI_add, pk_mul, pk_div, pk_sub, ni_m, nI_clamp, md10, dm10, gI_l, gI_n, ar_t, ar_f, it_t, it_f, true_and, and_true, not_true_eq_false, not_false_eq_true, implies_true, and_self, eq_self, k1, e40, g1, u1]
            · unfold p_X3_unit
              simp (disch := omega) only [ln_, leT, leF, ltT, ltF, eqT, eqF, vpT, nlT, nleT, lnF, lenF, eqnF, neqF, nnF, nI_add, pk_mul, pk_div, pk_sub, ni_m, nI_clamp, md10, dm10, gI_l, gI_n, ar_t, ar_f, it_t, it_f, true_and, and_true, not_true_eq_false, not_false_eq_true, implies_true, and_self, eq_self, k1, k2, e40, g1, gp, u1, up]
        · obtain ⟨g0, sA, g1, g2⟩ := g
          rw [if_neg e0] at g1
          refine ⟨e, a, [], cl.2.1 w k e a e40 e6 hE e0, ⟨g0, sA, ?_, g2⟩, ?_⟩
          · unfold f_X3_unit
            rw [if_neg e0]
            simp (disch := omega) only [ln_, leT, leF, ltT, ltF, eqT, eqF, vpT, nlT, nleT, lnF, lenF, eqnF, neqF, nnF, nI_add, pk_mul, pk_div, pk_sub, ni_m, nI_clamp, md10, dm10, gI_l, gI_n, ar_t, ar_f, it_t, it_f, true_and, and_true, not_true_eq_false, not_false_eq_true, implies_true, and_self, eq_self, k1, e40, g1]
          · unfold p_X3_unit
            simp (disch := omega) only [ln_, leT, leF, ltT, ltF, eqT, eqF, vpT, nlT, nleT, lnF, lenF, eqnF, neqF, nnF, nI_add, pk_mul, pk_div, pk_sub, ni_m, nI_clamp, md10, dm10, gI_l, gI_n, ar_t, ar_f, it_t, it_f, true_and, and_true, not_true_eq_false, not_false_eq_true, implies_true, and_self, eq_self, k1, k2, e40, g1, gp]
    · obtain ⟨g, gp⟩ := c_stop (fu := fu) (e := 2) (C := []) ht h (.inr rfl)
      have g3 := cPo_01 g
      refine ⟨2, k, [], cl.1 w k e40 (by omega), ?_, ?_⟩
      · unfold f_X3_unit
        simp (disch := omega) only [ln_, leT, leF, ltT, ltF, eqT, eqF, vpT, nlT, nleT, lnF, lenF, eqnF, neqF, nnF, nI_add, pk_mul, pk_div, pk_sub, ni_m, nI_clamp, md10, dm10, gI_l, gI_n, ar_t, ar_f, it_t, it_f, true_and, and_true, not_true_eq_false, not_false_eq_true, implies_true, and_self, eq_self, k1, e40]; exact g
      · unfold p_X3_unit
        simp (disch := omega) only [ln_, leT, leF, ltT, ltF, eqT, eqF, vpT, nlT, nleT, lnF, lenF, eqnF, neqF, nnF, nI_add, pk_mul, pk_div, pk_sub, ni_m, nI_clamp, md10, dm10, gI_l, gI_n, ar_t, ar_f, it_t, it_f, true_and, and_true, not_true_eq_false, not_false_eq_true, implies_true, and_self, eq_self, k1, k2, e40]; exact ⟨gp, g3⟩
  · by_cases ev : 268 ≤ tK B n k ∧ tK B n k < 277
    · cases hE : tkE (tK B n) (tK B n k) k with
      | mk e a =>
        have hx : -nI 7 - nI (tK B n k - 268) = cI (30000 + (tK B n k - 268)) := by
          unfold cI
          rw [if_neg (by omega), if_neg (by omega), if_neg (by omega), if_neg (by omega), if_neg (by omega), Nat.add_sub_cancel_left, ← nI_add, Int32.neg_add, Int32.sub_eq_add_neg]
        obtain ⟨g, gp⟩ := c_leaf (fu := fu) (x := -nI 7 - nI (tK B n k - 268)) ht h hm (by omega) (by omega) hE (fun _ => hx)
        have g3 := cPo_01 g
        refine ⟨e, a, _, cl.2.2.2.2.1 w k e a e40 ev.1 ev.2 hE, ?_, ?_⟩
        · unfold f_X3_unit
          simp (disch := omega) only [ln_, eqF, ltF, leF, pk_sub, ar_t, ar_f, it_t, it_f, true_and, and_true, not_true_eq_false, not_false_eq_true, implies_true, and_self, eq_self, k1]; exact g
        · unfold p_X3_unit
          simp (disch := omega) only [ln_, eqF, ltF, leF, pk_sub, ar_t, ar_f, it_t, it_f, true_and, and_true, not_true_eq_false, not_false_eq_true, implies_true, and_self, eq_self, k1, k2, pA]; exact ⟨gp, g3⟩
    · cases hE : tkE (tK B n) 3 k with
      | mk e a =>
        obtain ⟨g, gp⟩ := c_leaf (fu := fu) (x := (l 7 k).toInt32) (b := tV B n k) ht h hm (by omega) (by omega) hE (fun e0 => by
          subst e0
          obtain ⟨h3, _, _⟩ := tkE_0 hE
          have h4 := tV_le h.1.1 h3
          rw [(h.1.2 k h.2.1).2.2.2 h3, lN_i]
          unfold cI
          rw [if_pos (by omega)])
        have g3 := cPo_01 g
        refine ⟨e, a, _, cl.2.2.2.2.2.1 w k e a e40 ev hE, ?_, ?_⟩
        · unfold f_X3_unit
          by_cases e7 : tK B n k < 268
          · simp (disch := omega) only [ln_, eqF, ltT, ar_t, ar_f, it_t, it_f, true_and, and_true, not_true_eq_false, not_false_eq_true, implies_true, and_self, eq_self, k1, v1]; exact g
          · simp (disch := omega) only [ln_, eqF, ltF, leT, ar_t, ar_f, it_t, it_f, true_and, and_true, not_true_eq_false, not_false_eq_true, implies_true, and_self, eq_self, k1, v1]; exact g
        · unfold p_X3_unit
          by_cases e7 : tK B n k < 268
          · simp (disch := omega) only [ln_, eqF, ltT, ar_t, ar_f, it_t, it_f, true_and, and_true, not_true_eq_false, not_false_eq_true, implies_true, and_self, eq_self, k1, k2, v1, v2, pA]; exact ⟨gp, g3⟩
          · simp (disch := omega) only [ln_, eqF, ltF, leT, ar_t, ar_f, it_t, it_f, true_and, and_true, not_true_eq_false, not_false_eq_true, implies_true, and_self, eq_self, k1, k2, v1, v2, pA]; exact ⟨gp, g3⟩
theorem c_sumD (hfu : 20000 ≤ fu) (ht : t = 9 ∨ t = 20) : ∀ d w, w ≤ 6 → 7 ≤ d + w → ∀ k m s, cAt B n t k m s l → m ≤ k + 4 → ∃ e a C, eD (tK B n) (tV B n) 4 w k e a C ∧ cPo B n t k e a m C s l (f_sumD fu d (nI w) t s l) ∧ p_sumD fu d (nI w) t s l := by
  intro d
  induction d with
  | zero => intro w h1 h2; omega
  | succ d ih =>
    intro w h1 h2
    exact c_full3 (fu := fu) (KS := f_sumD fu d) (KP := p_sumD fu d) hfu ht (c_full1 hfu ht (c_unit ht h1 (fun hw => ih (w + 1) (by omega) (by omega))))
end cex3
