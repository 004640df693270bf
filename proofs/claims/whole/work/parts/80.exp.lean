/-! The reference: sums and products as the rules say; all of them -/
section rex10
variable {B : Nat → Nat} {a b c e i j k m n o p q r t w f en v b0 n1 lv a2 e2 : Nat} {s s1 s2 : fl_I} {l l1 : fl_L} {fu : Nat} {x y z : Int32} {C C1 C2 W Q R : List Nat}
theorem okQ_up (h : okQ lv Q) {lv' : Nat} (hl : lv ≤ lv') : okQ lv' Q := by
  obtain ⟨Q1, Q2, h0, h1, h2⟩ := h
  refine ⟨Q1, Q2, h0, ?_, ?_⟩
  · rcases h1 with h | ⟨h, h'⟩
    · exact .inl h
    · exact .inr ⟨by omega, h'⟩
  · rcases h2 with h | ⟨h, h'⟩
    · exact .inl h
    · exact .inr ⟨by omega, h'⟩
theorem okQ_0 (h : okQ 0 Q) : Q = [] := by
  obtain ⟨Q1, Q2, rfl, h1, h2⟩ := h
  rcases h1 with rfl | ⟨h, _⟩
  · rcases h2 with rfl | ⟨h, _⟩
    · rfl
    · omega
  · omega
theorem okQ_2 (h : okQ 2 Q) : Q = [] ∨ Q = [10] ∨ Q = [15] := by
  obtain ⟨Q1, Q2, rfl, h1, h2⟩ := h
  rcases h1 with rfl | ⟨h, _⟩
  · rcases h2 with rfl | ⟨_, rfl | rfl⟩
    · exact .inl rfl
    · exact .inr (.inl rfl)
    · exact .inr (.inr rfl)
  · omega
theorem flQ_c : flQ (v :: Q) = flQ Q ++ [wO v] := by unfold flQ; rw [List.reverse_cons, List.map_append]; rfl
theorem flQ_len : (flQ Q).length = Q.length := by unfold flQ; rw [List.length_map, List.length_reverse]
/-- a sign, the operand behind it, the rest -/
theorem x_rest (hfu : 20000 ≤ fu) (hb : b0 ≤ 420) (hr : r = 1 ∨ r = 3) (hop : opS r (tK B n k)) :
    (∀ e a, tkE (tK B n) (tK B n k) k = (e, a) → e ≠ 0 → xR B n fu b0 r w k e a []) ∧
    (∀ a e a' c, tkE (tK B n) (tK B n k) k = (0, a) → xR B n fu b0 (r - 1) w a e a' c → e ≠ 0 → xR B n fu b0 r w k e a' []) ∧
    (∀ a a' c e a'' c', tkE (tK B n) (tK B n k) k = (0, a) → xR B n fu b0 (r - 1) w a 0 a' c → xR B n fu b0 r w a' e a'' c' → xR B n fu b0 r w k e a'' (c ++ (20000 + tK B n k) :: c')) := by
  -- the sign itself
  have step : w ≤ 6 → ∀ n1 f m W Q s l, 1000 ≤ n1 + k → 1000 ≤ f + k → rAt B n k m w (W ++ Q) s l → m + (W ++ Q).length ≤ b0 + k → bW r w W → okQ r Q → ∃ s', (gZ fu n1 f s l = f_X12_expression_12 fu n1 (nI 0) (nI 1) s' l) ∧ (p_X12_expression_12 fu n1 (nI 0) (nI 1) s' l → gZp fu n1 f s l) ∧ rEf s s' ∧ rCd m (flQ Q) s s' ∧ ((k < 400 ∧ rAt B n (k + 1) (m + Q.length) w (W ++ [rk (tK B n k)]) s' l) ∨ (k = 400 ∧ rBd B n 2 k s')) := by
    intro hw n1 f m W Q s l h1 h2 h3 h4 h5 h6
    have hk := h3.2.1.1
    obtain ⟨f, rfl⟩ : ∃ f', f = f' + 1 := ⟨f - 1, by omega⟩
    obtain ⟨m1, m2⟩ := okQ_mem h6
    have hW3 : W.length ≤ 3 * w + 2 := by
      have := h5.1
      split at this
      · omega
      · split at this <;> omega
    have h3' : rAt B n k m w (W ++ Q.reverse.reverse) s l := by rw [List.reverse_reverse]; exact h3
    have hQl : Q.reverse.length = Q.length := List.length_reverse
    rw [List.length_append] at h4
    have key : ∀ y, ((tK B n k = 42 ∨ tK B n k = 47) ∧ y = nI 1 ∨ (tK B n k = 43 ∨ tK B n k = 45) ∧ y = nI 0) → (W.length = 0 ∨ (W.getD (W.length - 1) 0 = 6 ∨ (y = nI 1 ∧ (W.getD (W.length - 1) 0 = 8 ∨ W.getD (W.length - 1) 0 = 9)))) → (∀ z ∈ Q.reverse, z = 10 ∨ z = 15 ∨ (y = nI 0 ∧ (z = 8 ∨ z = 9))) → ∃ s', (gZ fu n1 (f + 1) s l = f_X12_expression_12 fu n1 (nI 0) (nI 1) s' l) ∧ (p_X12_expression_12 fu n1 (nI 0) (nI 1) s' l → gZp fu n1 (f + 1) s l) ∧ rEf s s' ∧ rCd m (flQ Q) s s' ∧ ((k < 400 ∧ rAt B n (k + 1) (m + Q.length) w (W ++ [rk (tK B n k)]) s' l) ∨ (k = 400 ∧ rBd B n 2 k s')) := by
      intro y hy hW hR
      have := r_op (fu := fu) (f := f) (x := nI 0) (K := fun x1 x2 s l => f_X12_expression_12 fu n1 x1 x2 s l) (PK := fun x1 x2 s l => p_X12_expression_12 fu n1 x1 x2 s l) hfu h3' hy hW hR (by omega) (by omega)
      rw [hQl] at this
      exact this
    have h53 := h5.2.2 (by omega)
    rcases hr with rfl | rfl
    · have ho : tK B n k = 42 ∨ tK B n k = 47 := by unfold opS at hop; simpa using hop
      have hQ := okQ_2 (okQ_up h6 (by omega))
      refine key (nI 1) (.inl ⟨ho, rfl⟩) ?_ (fun z hz => ?_)
      · rcases h53 with h | h | ⟨_, h⟩
        · exact .inl h
        · exact .inr (.inl h)
        · exact .inr (.inr ⟨rfl, h⟩)
      · rcases hQ with rfl | rfl | rfl <;> simp at hz <;> omega
    · have ho : tK B n k = 43 ∨ tK B n k = 45 := by unfold opS at hop; simpa using hop
      refine key (nI 0) (.inr ⟨ho, rfl⟩) ?_ (fun z hz => ?_)
      · rcases h53 with h | h | ⟨h, _⟩
        · exact .inl h
        · exact .inr (.inl h)
        · omega
      · rcases m1 z hz with h | h | h
        · exact .inl h
        · exact .inr (.inl h)
        · exact .inr (.inr ⟨rfl, h⟩)
  have ir : (r = 1 ∨ r = 3) := hr
  have ir' : ¬ (r - 1 = 1 ∨ r - 1 = 3) := by omega
  refine ⟨fun e a hE he hw n1 f m W Q s l h1 h2 h3 h4 h5 h6 _ => ?_, fun a e a' c hE hU he hw n1 f m W Q s l h1 h2 h3 h4 h5 h6 _ => ?_, fun a a' c e a'' c' hE hU hX hw n1 f m W Q s l h1 h2 h3 h4 h5 h6 _ => ?_⟩ <;> rw [if_pos ir] at h6 <;> rw [if_pos ir, if_pos ir] <;> obtain ⟨s', g1, g2, g3, g4, g5⟩ := step hw n1 f m W Q s l h1 h2 h3 h4 h5 h6
  · refine ⟨fun h => absurd h he, fun _ => ?_⟩
    have hk := h3.2.1.1
    obtain ⟨rfl, h | h⟩ := tkE_n hE he
    · obtain ⟨_, q2, rfl⟩ := h
      rcases g5 with ⟨h, _⟩ | ⟨_, g5⟩
      · omega
      · obtain ⟨t1, t2⟩ := x_goB (fu := fu) (n1 := n1) (l := l) (by omega) g5
        refine ⟨s', flQ Q, g1.trans t1, g2 t2, g5, g3, g4, ?_⟩
        rw [List.length_append] at h4
        rw [flQ_len]; omega
    · exact absurd rfl h.1
  all_goals
    obtain ⟨_, hk4, rfl⟩ := tkE_0 hE
    have g6 : rAt B n (k + 1) (m + Q.length) w (W ++ [rk (tK B n k)]) s' l := by
      rcases g5 with ⟨_, h⟩ | ⟨h, _⟩
      · exact h
      · omega
    have hF := rkF h3.1 k
    have hv : (r = 1 ∧ (rk (tK B n k) = 10 ∨ rk (tK B n k) = 15)) ∨ (r = 3 ∧ (rk (tK B n k) = 8 ∨ rk (tK B n k) = 9)) := by
      unfold opS at hop
      rcases hr with rfl | rfl
      · rw [if_pos rfl] at hop
        rcases hop with h | h
        · exact .inl ⟨rfl, .inl (hF.2.2.2.2.1.mpr h)⟩
        · exact .inl ⟨rfl, .inr (hF.2.2.2.2.2.1.mpr h)⟩
      · rw [if_neg (by omega)] at hop
        rcases hop with h | h
        · exact .inr ⟨rfl, .inl (hF.2.2.1.mpr h)⟩
        · exact .inr ⟨rfl, .inr (hF.2.2.2.1.mpr h)⟩
    have hwO : wO (rk (tK B n k)) = 20000 + tK B n k := by
      unfold opS at hop
      rcases hr with rfl | rfl
      · rw [if_pos rfl] at hop
        rcases hop with h | h
        · rw [hF.2.2.2.2.1.mpr h, h]; rfl
        · rw [hF.2.2.2.2.2.1.mpr h, h]; rfl
      · rw [if_neg (by omega)] at hop
        rcases hop with h | h
        · rw [hF.2.2.1.mpr h, h]; rfl
        · rw [hF.2.2.2.1.mpr h, h]; rfl
    have hlW : (W ++ [rk (tK B n k)]).length = W.length + 1 := by rw [List.length_append, List.length_singleton]
    have h4' := h4
    rw [List.length_append] at h4'
    have hbW : bW (r - 1) w (W ++ [rk (tK B n k)]) := by
      refine ⟨?_, stO_p h5.2.1 (by omega), fun h => ?_⟩
      · have := h5.1
        rw [hlW]
        rcases hr with rfl | rfl
        · rw [if_neg (by omega), if_pos (by omega)] at this
          rw [if_pos (by omega)]; omega
        · rw [if_neg (by omega), if_neg (by omega)] at this
          rw [if_neg (by omega), if_pos (by omega)]; omega
      · rw [hlW, Nat.add_sub_cancel, getD_e]; omega
    obtain ⟨u1, u2⟩ := hU hw (n1 - 1) fu (m + Q.length) (W ++ [rk (tK B n k)]) [] s' l (by omega) (by omega) (by rw [List.append_nil]; exact g6) (by rw [List.append_nil, hlW]; omega) hbW (by rw [if_neg ir']) (fun h => by omega)
    rw [if_neg ir', if_neg ir'] at u1 u2
    obtain ⟨x1, x2⟩ := x_go (fu := fu) (n1 := n1) (l := l) (by omega) g6.2.2.2.1
  · refine ⟨fun h => absurd h he, fun _ => ?_⟩
    obtain ⟨s2, C0, q1, q2, q3, q4, q5, q6⟩ := u2 he
    refine ⟨s2, flQ Q ++ C0, (g1.trans x1).trans q1, g2 (x2 q2), q3, rEf_tr g3 q4, rCd_seq g4 (by rw [flQ_len]; exact q5), ?_⟩
    rw [List.length_append, flQ_len]; omega
  · obtain ⟨n2, f2, Q2, C0, s2, q1, q2, q3, q4, q5, q6, q7, q8, q9, q10, q11, q12⟩ := u1 rfl
    have hQ : okQ r (rk (tK B n k) :: Q2) := by
      rcases hv with ⟨rfl, hv⟩ | ⟨rfl, hv⟩
      · rw [okQ_0 q1]
        refine ⟨[], [rk (tK B n k)], rfl, .inl rfl, .inr ⟨by omega, ?_⟩⟩
        rcases hv with h | h <;> rw [h]
        · exact .inl rfl
        · exact .inr rfl
      · refine ⟨[rk (tK B n k)], Q2, rfl, .inr ⟨by omega, ?_⟩, ?_⟩
        · rcases hv with h | h <;> rw [h]
          · exact .inl rfl
          · exact .inr rfl
        · rcases okQ_2 q1 with h | h | h
          · exact .inl h
          · exact .inr ⟨by omega, .inl h⟩
          · exact .inr ⟨by omega, .inr h⟩
    rw [List.append_assoc] at q4 q8
    obtain ⟨y1, y2⟩ := hX hw n2 f2 (m + Q.length + C0.length) W (rk (tK B n k) :: Q2) s2 l q9 q10 q4 q8 h5 (by rw [if_pos ir]; exact hQ) (fun h => q11 (by omega))
    rw [if_pos ir, if_pos ir] at y1 y2
    refine ⟨fun he => ?_, fun he => ?_⟩
    · obtain ⟨n3, f3, Q3, C3, s3, z1, z2, z3, z4, z5, z6, z7, z8, z9⟩ := y1 he
      have hlen : (flQ Q ++ C0 ++ C3).length = Q.length + C0.length + C3.length := by rw [List.length_append, List.length_append, flQ_len]
      refine ⟨n3, f3, Q3, flQ Q ++ C0 ++ C3, s3, z1, ((g1.trans x1).trans q2).trans z2, fun hp => g2 (x2 (q3 (z3 hp))), ?_, rEf_tr (rEf_tr g3 q5) z5, rCd_seq (s1 := s2) (rCd_seq g4 (by rw [flQ_len]; exact q6)) (by rw [List.length_append, flQ_len, ← Nat.add_assoc]; exact z6), ?_, ?_, z9⟩
      · rw [hlen, ← Nat.add_assoc, ← Nat.add_assoc]; exact z4
      · have q7' : C0 ++ flQ Q2 = c := q7
        rw [List.append_assoc, z7, flQ_c, hwO, ← q7']
        simp only [List.append_assoc, List.cons_append, List.nil_append]
      · rw [hlen, ← Nat.add_assoc, ← Nat.add_assoc]; exact z8
    · obtain ⟨s3, C3, z1, z2, z3, z4, z5, z6⟩ := y2 he
      refine ⟨s3, flQ Q ++ C0 ++ C3, ((g1.trans x1).trans q2).trans z1, g2 (x2 (q3 z2)), z3, rEf_tr (rEf_tr g3 q5) z4, rCd_seq (s1 := s2) (rCd_seq g4 (by rw [flQ_len]; exact q6)) (by rw [List.length_append, flQ_len, ← Nat.add_assoc]; exact z5), ?_⟩
      rw [List.length_append, List.length_append, flQ_len]; omega
end rex10
