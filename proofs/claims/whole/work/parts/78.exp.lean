/-! The reference: what stands in brackets -/
section rex8
variable {B : Nat → Nat} {a b c e i j k m n o p q r t w f en v b0 n1 lv a2 e2 : Nat} {s s1 s2 : fl_I} {l l1 : fl_L} {fu : Nat} {x y z : Int32} {C C1 C2 W Q R : List Nat}
theorem okQ_mem (h : okQ lv Q) : (∀ z ∈ Q.reverse, z = 10 ∨ z = 15 ∨ (z = 8 ∨ z = 9)) ∧ Q.length ≤ 2 := by
  obtain ⟨Q1, Q2, rfl, h1, h2⟩ := h
  rcases h1 with rfl | ⟨_, rfl | rfl⟩ <;> rcases h2 with rfl | ⟨_, rfl | rfl⟩ <;> refine ⟨fun z hz => ?_, by decide⟩ <;> simp at hz <;> omega
/-- what the inner sum must do -/
def xI (B : Nat → Nat) (n fu b0 lv w k e a : Nat) (C : List Nat) : Prop := ∀ n1 f m W s l, 1000 ≤ n1 + k → 1000 ≤ f + k → rAt B n k m w W s l → m + W.length ≤ b0 + k → W.length ≤ 3 * w → (W.length = 0 ∨ W.getD (W.length - 1) 0 = 6) → (e = 0 → xG B n fu b0 lv w a m W [] C s l (gA fu n1 f s l) (gAp fu n1 f s l)) ∧ (e ≠ 0 → xB B n b0 e a m s l (gA fu n1 f s l) (gAp fu n1 f s l))
theorem x_paren (hfu : 20000 ≤ fu) (hn : 1000 ≤ n1 + k) (hf : 1000 ≤ f + k) (h : rAt B n k m w W s l) (hm : m + W.length ≤ b0 + k) (hb : b0 ≤ 420) (hw : w < 6) (hT : tK B n k = 40) (hk4 : k < 400) (hW : W.length ≤ 3 * w + 2) (hst : stO W) (hI : xI B n fu b0 4 (w + 1) (k + 1) e a C) :
    (e ≠ 0 → xB B n b0 e a m s l (gA fu n1 f s l) (gAp fu n1 f s l)) ∧ (e = 0 → tkE (tK B n) 41 a = (e2, a2) → (e2 = 0 → xG B n fu b0 0 w a2 m W [] C s l (gA fu n1 f s l) (gAp fu n1 f s l)) ∧ (e2 ≠ 0 → xB B n b0 e2 a2 m s l (gA fu n1 f s l) (gAp fu n1 f s l))) := by
  obtain ⟨f, rfl⟩ : ∃ f', f = f' + 1 := ⟨f - 1, by omega⟩
  have hlW : (W ++ [6]).length = W.length + 1 := by rw [List.length_append, List.length_singleton]
  obtain ⟨s1, g1, g2, g3, g4, g5, g6⟩ := r_open (fu := fu) (f := f) (x := nI 0) (K := fun x1 x2 s l => f_X12_expression_12 fu n1 x1 x2 s l) (PK := fun x1 x2 s l => p_X12_expression_12 fu n1 x1 x2 s l) h hT hw hk4 (by omega)
  obtain ⟨I1, I2⟩ := hI n1 f m (W ++ [6]) s1 l (by omega) (by omega) g3 (by rw [hlW]; omega) (by rw [hlW]; omega) (.inr (by rw [hlW, Nat.add_sub_cancel]; exact getD_e))
  have c0 : ∀ {C' : List Nat} {s' : fl_I}, rCd m C' s1 s' → rCd m C' s s' := fun h => by
    have := rCd_seq (C1 := []) (rCd_tr (rCd_rfl (m := m) (s := s)) g5 g6) h
    exact this
  refine ⟨fun he => ?_, fun he hE => ?_⟩
  · obtain ⟨s', C0, u1, u2, u3, u4, u5, u6⟩ := I2 he
    exact ⟨s', C0, g1.trans u1, g2 u2, u3, rEf_tr g4 u4, c0 u5, u6⟩
  · obtain ⟨n2, f2, Q2, C0, s', q1, q2, q3, q4, q5, q6, q7, q8, q9, q10, q11, q12⟩ := I1 he
    have hk := q4.2.1.1
    obtain ⟨m1, m2⟩ := okQ_mem q1
    have hops : ¬ (tK B n a = 42 ∨ tK B n a = 47 ∨ tK B n a = 43 ∨ tK B n a = 45) := by
      have a1 := q11 (by omega)
      have a3 := q12 (by omega)
      unfold opS at a1 a3
      simp at a1 a3
      omega
    rw [List.length_append, hlW] at q8
    obtain ⟨f2, rfl⟩ : ∃ f', f2 = f' + 1 + 1 := ⟨f2 - 2, by omega⟩
    have q4' : rAt B n a (m + C0.length) (w + 1) (W ++ [6] ++ Q2.reverse.reverse) s' l := by rw [List.reverse_reverse]; exact q4
    have hQl : Q2.reverse.length = Q2.length := List.length_reverse
    by_cases e41 : tK B n a = 41
    · have q7' : C0 ++ flQ Q2 = C := q7
      rcases r_close (fu := fu) (f := f2 + 1) (K := fun x1 x2 s l => f_X12_expression_12 fu n2 x1 x2 s l) (PK := fun x1 x2 s l => p_X12_expression_12 fu n2 x1 x2 s l) hfu q4' (by omega) e41 hst m1 (by omega) (by omega) with ⟨t0, s3, t1, t2, t3, t4, t5⟩ | ⟨t0, _⟩
      · have hE' : (e2, a2) = (0, a + 1) := by rw [← hE]; unfold tkE; rw [if_pos e41, if_pos t0]
        obtain ⟨rfl, rfl⟩ := Prod.mk.inj hE'
        have hlen : (C0 ++ flQ Q2).length = C0.length + Q2.length := by unfold flQ; rw [List.length_append, List.length_map, List.length_reverse]
        refine ⟨fun _ => ⟨n2, f2 + 1, [], C0 ++ flQ Q2, s3, ⟨[], [], rfl, .inl rfl, .inl rfl⟩, (g1.trans q2).trans t1, fun hp => g2 (q3 (t2 hp)), ?_, rEf_tr (rEf_tr g4 q5) t4, rCd_seq (c0 q6) t5, ?_, ?_, by omega, by omega, fun h => by omega, fun h => by omega⟩, fun h => absurd rfl h⟩
        · rw [List.append_nil, hlen, ← Nat.add_assoc, ← hQl]; exact t3
        · rw [q7']; show C ++ [] = [] ++ C; rw [List.append_nil]; rfl
        · rw [List.append_nil, hlen]; omega
      · rcases r_close (fu := fu) (f := f2) (K := fun x1 x2 s l => f_X12_expression_12 fu n2 x1 x2 s l) (PK := fun x1 x2 s l => p_X12_expression_12 fu n2 x1 x2 s l) hfu q4' (by omega) e41 hst m1 (by omega) (by omega) with ⟨t1, _⟩ | ⟨_, s3, C3, t1, t2, t3, t4, t5, t6⟩
        · omega
        · have hE' : (e2, a2) = (2, a) := by rw [← hE]; unfold tkE; rw [if_pos e41, if_neg (by omega)]
          obtain ⟨rfl, rfl⟩ := Prod.mk.inj hE'
          refine ⟨fun h => by omega, fun _ => ⟨s3, C0 ++ C3, (g1.trans q2).trans t1, g2 (q3 t2), t3, rEf_tr (rEf_tr g4 q5) t4, rCd_seq (c0 q6) t5, ?_⟩⟩
          rw [List.length_append]; omega
    · have hE' : (e2, a2) = (1, a) := by rw [← hE]; unfold tkE; rw [if_neg e41]
      obtain ⟨rfl, rfl⟩ := Prod.mk.inj hE'
      have hst2 : stO (W ++ [6] ++ Q2) := ⟨W ++ [6], Q2.reverse, by rw [List.reverse_reverse], .inr (by rw [hlW, Nat.add_sub_cancel]; exact getD_e), m1⟩
      obtain ⟨s3, C3, t1, t2, t3, t4, t5, t6⟩ := r_endO (fu := fu) (f := f2 + 1) (K := fun x1 x2 s l => f_X12_expression_12 fu n2 x1 x2 s l) (PK := fun x1 x2 s l => p_X12_expression_12 fu n2 x1 x2 s l) hfu q4 (by omega) (by omega) hops e41 hst2 (by rw [List.length_append, hlW]; omega) (by rw [List.length_append, hlW]; omega)
      rw [List.length_append, hlW] at t6
      refine ⟨fun h => by omega, fun _ => ⟨s3, C0 ++ C3, (g1.trans q2).trans t1, g2 (q3 t2), t3, rEf_tr (rEf_tr g4 q5) t4, rCd_seq (c0 q6) t5, ?_⟩⟩
      rw [List.length_append]; omega
end rex8
