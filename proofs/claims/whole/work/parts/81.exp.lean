/-! The reference reads expressions -/
section rex11
variable {B : Nat → Nat} {a b c e i j k m n o p q r t w f en v b0 n1 lv a2 e2 : Nat} {s s1 s2 : fl_I} {l l1 : fl_L} {fu : Nat} {x y z : Int32} {C C1 C2 W Q R : List Nat}
theorem bW_dn (hr : r = 1 ∨ r = 3) (h : bW (r + 1) w W) : bW (r - 1) w W ∧ bW r w W := by
  obtain ⟨h1, h2, h3⟩ := h
  have h3 := h3 (by omega)
  rcases hr with rfl | rfl
  · rw [if_neg (by omega), if_pos (by omega)] at h1
    exact ⟨⟨by rw [if_pos (by omega)]; omega, h2, fun h => by omega⟩, by rw [if_neg (by omega), if_pos (by omega)]; omega, h2, fun _ => by omega⟩
  · rw [if_neg (by omega), if_neg (by omega)] at h1
    exact ⟨⟨by rw [if_neg (by omega), if_pos (by omega)]; omega, h2, fun h => by omega⟩, by rw [if_neg (by omega), if_neg (by omega)]; omega, h2, fun _ => by omega⟩
theorem x_full (hr : r = 1 ∨ r = 3) :
    (∀ w k e a c, xR B n fu b0 (r - 1) w k e a c → e ≠ 0 → xR B n fu b0 (r + 1) w k e a []) ∧
    (∀ w k a c e a' c', xR B n fu b0 (r - 1) w k 0 a c → xR B n fu b0 r w a e a' c' → xR B n fu b0 (r + 1) w k e a' (c ++ c')) := by
  have ir' : ¬ (r - 1 = 1 ∨ r - 1 = 3) := by omega
  have i2 : ¬ (r + 1 = 1 ∨ r + 1 = 3) := by omega
  refine ⟨fun w k e a c hU he hw n1 f m W Q s l h1 h2 h3 h4 h5 h6 _ => ?_, fun w k a c e a' c' hU hX hw n1 f m W Q s l h1 h2 h3 h4 h5 h6 _ => ?_⟩ <;> rw [if_neg i2] at h6 <;> subst h6 <;> rw [if_neg i2, if_neg i2] <;> obtain ⟨b1, b2⟩ := bW_dn hr h5 <;> obtain ⟨u1, u2⟩ := hU hw n1 f m W [] s l h1 h2 h3 h4 b1 (by rw [if_neg ir']) (fun h => by omega) <;> rw [if_neg ir', if_neg ir'] at u1 u2
  · exact ⟨fun h => absurd h he, fun _ => u2 he⟩
  · obtain ⟨n2, f2, Q2, C0, s2, q1, q2, q3, q4, q5, q6, q7, q8, q9, q10, q11, q12⟩ := u1 rfl
    obtain ⟨y1, y2⟩ := hX hw n2 f2 (m + C0.length) W Q2 s2 l q9 q10 q4 q8 b2 (by rw [if_pos hr]; exact okQ_up q1 (by omega)) (fun h => q11 (by omega))
    rw [if_pos hr, if_pos hr] at y1 y2
    have q7' : C0 ++ flQ Q2 = c := q7
    refine ⟨fun he => ?_, fun he => ?_⟩
    · obtain ⟨n3, f3, Q3, C3, s3, z1, z2, z3, z4, z5, z6, z7, z8, z9, z10, z11, z12⟩ := y1 he
      refine ⟨n3, f3, Q3, C0 ++ C3, s3, okQ_up z1 (by omega), q2.trans z2, fun hp => q3 (z3 hp), ?_, rEf_tr q5 z5, rCd_seq q6 z6, ?_, ?_, z9, z10, fun _ => z11 (by omega), fun h => z12 (by omega)⟩
      · rw [List.length_append, ← Nat.add_assoc]; exact z4
      · rw [List.append_assoc, z7, ← List.append_assoc, q7']; rfl
      · rw [List.length_append, ← Nat.add_assoc]; exact z8
    · obtain ⟨s3, C3, z1, z2, z3, z4, z5, z6⟩ := y2 he
      exact ⟨s3, C0 ++ C3, q2.trans z1, q3 z2, z3, rEf_tr q5 z4, rCd_seq q6 z5, by rw [List.length_append]; omega⟩
theorem x_cl (hfu : 20000 ≤ fu) (hb : b0 ≤ 420) : eCl (tK B n) (tV B n) (xR B n fu b0) := by
  obtain ⟨u1, u2, u3, u4, u5, u6⟩ := x_unit (B := B) (n := n) hfu hb
  refine ⟨u1, u2, u3, u4, u5, u6, fun r w k hr ho hw n1 f m W Q s l h1 h2 h3 h4 h5 h6 h7 => ?_, fun r w k e a hr ho => (x_rest hfu hb hr ho).1 e a, fun r w k a e a' c hr ho => (x_rest hfu hb hr ho).2.1 a e a' c, fun r w k a a' c e a'' c' hr ho => (x_rest hfu hb hr ho).2.2 a a' c e a'' c', fun r w k e a c hr => (x_full hr).1 w k e a c, fun r w k a c e a' c' hr => (x_full hr).2 w k a c e a' c'⟩
  rw [if_pos hr] at h6
  rw [if_pos hr, if_pos hr]
  refine ⟨fun _ => ⟨n1, f, Q, [], s, h6, rfl, fun h => h, h3, rEf_rfl, rCd_rfl, by rw [List.append_nil]; rfl, h4, h1, h2, fun _ => ?_, fun h => ?_⟩, fun h => absurd rfl h⟩
  · rcases hr with rfl | rfl
    · exact ho
    · exact h7 rfl
  · rcases hr with rfl | rfl
    · omega
    · exact ho
/-- an expression, as the class reads it -/
theorem r_expr (hfu : 20000 ≤ fu) (hb : b0 ≤ 420) (hD : eD (tK B n) (tV B n) 4 0 k e a C) (h1 : rTk B n s l) (h2 : kkT (tK B n) k) (h11 : s 60 11 = nI k) (h13 : s 60 13 = nI 0) (h42 : s 60 42 = nI m) (h12 : s 60 12 = nI 0) (hm : m ≤ b0 + k) :
    (e = 0 → ∃ s', f_X12_expression fu s l = (s', l) ∧ p_X12_expression fu s l ∧ rAt B n a (m + C.length) 0 [] s' l ∧ rEf s s' ∧ rCd m C s s' ∧ m + C.length ≤ b0 + a) ∧ (e ≠ 0 → ∃ s' C0, f_X12_expression fu s l = (s', l) ∧ p_X12_expression fu s l ∧ rBd B n e a s' ∧ rEf s s' ∧ rCd m C0 s s' ∧ m + C0.length ≤ b0 + 401) := by
  have f0 : rEf s (wi s 60 46 (nI 0)) := ⟨fun q a b c d => by simp (disch := omega) only [wi_c, wi_u, upd_s, upd_n, su_r, su_c], fun j a b c d e f => by simp (disch := omega) only [wi_c, wi_u, upd_s, upd_n, su_r, su_c]⟩
  have a0 : rAt B n k m 0 ([] ++ []) (wi s 60 46 (nI 0)) l := ⟨rTk_keep f0 h1, h2, by simp (disch := omega) only [wi_c, wi_u, upd_s, upd_n, su_r, su_c]; exact h11, by simp (disch := omega) only [wi_c, wi_u, upd_s, upd_n, su_r, su_c]; exact h13, by simp (disch := omega) only [wi_c, wi_u, upd_s, upd_n, su_r, su_c]; exact h42, by simp (disch := omega) only [wi_c, wi_u, upd_s, upd_n, su_r, su_c]; exact h12, by simp (disch := omega) only [wi_c, wi_u, upd_s, upd_n, su_r, su_c]; rfl, fun j hj => absurd hj (Nat.not_lt_zero j)⟩
  have c0 : ∀ {C' : List Nat} {s' : fl_I}, rCd m C' (wi s 60 46 (nI 0)) s' → rCd m C' s s' := fun h => rCd_seq (C1 := []) (rCd_tr (rCd_rfl (m := m) (s := s)) (wi_c (by omega)) (wi_c (by omega))) h
  have i4 : ¬ ((4 : Nat) = 1 ∨ (4 : Nat) = 3) := by omega
  obtain ⟨I1, I2⟩ := hD _ (x_cl (fu := fu) hfu hb) (by omega) (fu - 1) fu m [] [] (wi s 60 46 (nI 0)) l (by omega) (by omega) a0 (by show m + 0 ≤ b0 + k; omega) ⟨by show 0 ≤ _; omega, stO_6 (.inl rfl), fun _ => .inl rfl⟩ (by rw [if_neg i4]) (fun h => by omega)
  rw [if_neg i4, if_neg i4] at I1 I2
  obtain ⟨x1, x2⟩ := x_go (fu := fu) (n1 := fu) (l := l) (s' := wi s 60 46 (nI 0)) (by omega) (by simp (disch := omega) only [wi_c, wi_u, upd_s, upd_n, su_r, su_c]; exact h13)
  have k12 : wi s 60 46 (nI 0) 60 12 = nI 0 := by simp (disch := omega) only [wi_c, wi_u, upd_s, upd_n, su_r, su_c]; exact h12
  have E : f_X12_expression fu s l = gA fu (fu - 1) fu (wi s 60 46 (nI 0)) l := by
    rw [← x1]; unfold f_X12_expression
    show f_X12_expression_12 fu fu (wi s 60 46 (nI 0) 60 12) (nI 1) (wi s 60 46 (nI 0)) l = _
    rw [k12]
  have P : gAp fu (fu - 1) fu (wi s 60 46 (nI 0)) l → p_X12_expression fu s l := fun h => by
    unfold p_X12_expression
    show p_X12_expression_12 fu fu (wi s 60 46 (nI 0) 60 12) (nI 1) (wi s 60 46 (nI 0)) l
    rw [k12]; exact x2 h
  refine ⟨fun he => ?_, fun he => ?_⟩
  · obtain ⟨n2, f2, Q2, C0, s2, q1, q2, q3, q4, q5, q6, q7, q8, q9, q10, q11, q12⟩ := I1 he
    have hk := q4.2.1.1
    obtain ⟨m1, m2⟩ := okQ_mem q1
    have hops : ¬ (tK B n a = 42 ∨ tK B n a = 47 ∨ tK B n a = 43 ∨ tK B n a = 45) := by
      have a1 := q11 (by omega)
      have a3 := q12 (by omega)
      unfold opS at a1 a3
      simp at a1 a3
      omega
    have q8' : m + C0.length + Q2.length ≤ b0 + a := q8
    have q7' : C0 ++ flQ Q2 = C := q7
    have hlen : C.length = C0.length + Q2.length := by rw [← q7', List.length_append, flQ_len]
    obtain ⟨f2, rfl⟩ : ∃ f', f2 = f' + 1 := ⟨f2 - 1, by omega⟩
    have q4' : rAt B n a (m + C0.length) 0 Q2.reverse.reverse s2 l := by rw [List.reverse_reverse]; exact q4
    have hQl : Q2.reverse.length = Q2.length := List.length_reverse
    obtain ⟨s3, t1, t2, t3, t4, t5⟩ := r_end (fu := fu) (f := f2) (K := fun x1 x2 s l => f_X12_expression_12 fu n2 x1 x2 s l) (PK := fun x1 x2 s l => p_X12_expression_12 fu n2 x1 x2 s l) hfu q4' hops m1 (by omega) (by omega)
    refine ⟨s3, (E.trans q2).trans t1, P (q3 t2), ?_, rEf_tr (rEf_tr f0 q5) t4, ?_, by omega⟩
    · rw [hlen, ← Nat.add_assoc, ← hQl]; exact t3
    · rw [← q7']; exact rCd_seq (c0 q6) t5
  · obtain ⟨s2, C0, q1, q2, q3, q4, q5, q6⟩ := I2 he
    exact ⟨s2, C0, E.trans q1, P q2, q3, rEf_tr f0 q4, c0 q5, q6⟩
end rex11
