/-! The reference's laws -/
section rlr
variable {fu lv f p q n h a b c e i j k x m D h' M M' br : Nat} {s s1 s2 : fl_I} {l : fl_L} {A K K' : Nat → Int32} {st st' : List Int32} {C C1 C2 Dl : List Nat} {u v : Int32} {bs : Pg} {BS : Nat → Pg} {DS : Nat → List Nat}
theorem rds_keep (hc : rds s p C) (h1 : a ≤ p) (h2 : p + C.length ≤ M) (hs : ∀ q j, 89 ≤ q → q ≤ 90 → a ≤ j → j < M → s1 q j = s q j) : rds s1 p C := by
  intro i hi
  rw [hs 89 (p + i) (by omega) (by omega) (by omega) (by omega), hs 90 (p + i) (by omega) (by omega) (by omega) (by omega)]
  exact hc i hi
theorem rPr_e (hr : rPr lv M s b bs Dl e) : b < e := by
  induction bs generalizing b with
  | nil => have := hr.2.2; omega
  | cons B bs ih => have := ih hr.2.2; omega
/-- a program stays where its places do -/
theorem rPr_keep (hr : rPr lv M s b bs Dl e) (hM : M ≤ M') (hs : ∀ q j, 84 ≤ q → q ≤ 88 → b ≤ j → j < e → s1 q j = s q j) (hc : ∀ q j, 89 ≤ q → q ≤ 90 → 420 * lv ≤ j → j < M → s1 q j = s q j) : rPr lv M' s1 b bs Dl e := by
  induction bs generalizing b with
  | nil =>
    obtain ⟨h2, ⟨p, p1, p2, p3, p4, p5⟩, h4⟩ := hr
    refine ⟨by rw [hs 84 b (by omega) (by omega) (by omega) (by omega)]; exact h2, ⟨p, by rw [hs 87 b (by omega) (by omega) (by omega) (by omega)]; exact p1, by rw [hs 88 b (by omega) (by omega) (by omega) (by omega)]; exact p2, rds_keep p3 p4 p5 hc, p4, by omega⟩, h4⟩
  | cons B bs ih =>
    obtain ⟨h2, ⟨p, p1, p2, p3, p4, p5, p6, p7, p8, p9⟩, h4⟩ := hr
    have he := rPr_e h4
    refine ⟨by rw [hs 84 b (by omega) (by omega) (by omega) (by omega)]; exact h2, ⟨p, by rw [hs 85 b (by omega) (by omega) (by omega) (by omega)]; exact p1, by rw [hs 86 b (by omega) (by omega) (by omega) (by omega)]; exact p2, by rw [hs 87 b (by omega) (by omega) (by omega) (by omega)]; exact p3, by rw [hs 88 b (by omega) (by omega) (by omega) (by omega)]; exact p4, rds_keep p5 p8 (by omega) hc, rds_keep p6 (by omega) (by omega) hc, rds_keep p7 (by omega) (by omega) hc, p8, by omega⟩, ih h4 (fun q j x y z w => hs q j x y (by omega) w)⟩
theorem rLw_keep (hr : rLw lv M br BS DS s) (hM : M ≤ M') {br' : Nat} (hb : br ≤ br') (h2 : ∀ q j, 82 ≤ q → q ≤ 83 → 3 * lv ≤ j → j < 3 * lv + 3 → s1 q j = s q j) (hs : ∀ q j, 84 ≤ q → q ≤ 88 → 130 * lv ≤ j → j < br → s1 q j = s q j) (hc : ∀ q j, 89 ≤ q → q ≤ 90 → 420 * lv ≤ j → j < M → s1 q j = s q j) : rLw lv M' br' BS DS s1 := by
  intro k hk
  rw [h2 82 (3 * lv + k) (by omega) (by omega) (by omega) (by omega), h2 83 (3 * lv + k) (by omega) (by omega) (by omega) (by omega)]
  rcases hr k hk with h | ⟨b, e, g1, g2, g3, g4, g5⟩
  · exact .inl h
  · exact .inr ⟨b, e, g1, g2, rPr_keep g3 hM (fun q j x y z w => hs q j x y (by omega) (by omega)) hc, g4, by omega⟩
/-- the branch that tells -/
theorem rl_119 (hfu : 20000 ≤ fu) (hb : b < 260) (g : gdC C) (h7 : s 87 b = nI p) (h8 : s 88 b = nI (p + C.length)) (hc : rds s p C) (hp : p + C.length ≤ 840) (h49 : s 60 49 = nI 0) : ∃ s', f_X12_lawTells_119 fu (nI b) s l = ((vl C (s 92)).getD (nI 0), s', l) ∧ p_X12_lawTells_119 fu (nI b) s l ∧ rB s s' := by
  obtain ⟨r1, r2⟩ := r_termG (fu := fu) (l := l) hfu g hc hp
  cases e : vl C (s 92) with
  | none =>
    obtain ⟨s', a1, a2, a3, a4⟩ := r1 e
    refine ⟨s', ?_, ?_, a4⟩
    · unfold f_X12_lawTells_119 f_X12_lawTells_137
      simp (disch := omega) only [ln_, nI_clamp, h7, h8, a1, a3, eqF, ar_t, ar_f, it_t, it_f, true_and, and_true, not_true_eq_false, not_false_eq_true, implies_true, and_self, eq_self]; rfl
    · unfold p_X12_lawTells_119 p_X12_lawTells_137
      simp (disch := omega) only [ln_, nI_clamp, h7, h8, a1, a2, a3, eqF, vpT, ar_t, ar_f, it_t, it_f, true_and, and_true, not_true_eq_false, not_false_eq_true, implies_true, and_self, eq_self]
  | some y =>
    obtain ⟨s', a1, a2, a3, a4⟩ := r2 y e
    rw [h49] at a3
    refine ⟨s', ?_, ?_, a4⟩
    · unfold f_X12_lawTells_119 f_X12_lawTells_137
      simp (disch := omega) only [ln_, nI_clamp, h7, h8, a1, a3, ar_t, ar_f, it_t, it_f, true_and, and_true, not_true_eq_false, not_false_eq_true, implies_true, and_self, eq_self]; rfl
    · unfold p_X12_lawTells_119 p_X12_lawTells_137
      simp (disch := omega) only [ln_, nI_clamp, h7, h8, a1, a2, a3, vpT, ar_t, ar_f, it_t, it_f, true_and, and_true, not_true_eq_false, not_false_eq_true, implies_true, and_self, eq_self]
theorem r_evP (hfu : 20000 ≤ fu) (hlv : lv ≤ 1) (hk : k < 3) (g : gdP bs Dl) (hr : rPr lv M s b bs Dl e) (hM : M ≤ 840) (he : e ≤ 260) (h83 : s 83 (3 * lv + k) = nI e) (h49 : s 60 49 = nI 0) (hf : bs.length < f) :
    ∃ s', f_X12_lawTells_39 fu f (nI (3 * lv + k)) (nI b) s l = (evP bs Dl (s 92), s', l) ∧ p_X12_lawTells_39 fu f (nI (3 * lv + k)) (nI b) s l ∧ rB s s' := by
  induction bs generalizing s b f with
  | nil =>
    obtain ⟨f, rfl⟩ : ∃ f', f = f' + 1 := ⟨f - 1, by omega⟩
    obtain ⟨h2, ⟨p, p1, p2, p3, p4, p5⟩, h4⟩ := hr
    obtain ⟨s', a1, a2, a3⟩ := rl_119 (l := l) (b := b) hfu (by omega) g p1 p2 p3 (by omega) h49
    refine ⟨s', ?_, ?_, a3⟩
    · unfold f_X12_lawTells_39
      simp (disch := omega) only [ln_, nI_clamp, leF, ar_t, ar_f, it_t, it_f, true_and, and_true, not_true_eq_false, not_false_eq_true, implies_true, and_self, eq_self, h83, h2, a1]; rfl
    · unfold p_X12_lawTells_39
      simp (disch := omega) only [ln_, nI_clamp, leF, vpT, ar_t, ar_f, it_t, it_f, true_and, and_true, not_true_eq_false, not_false_eq_true, implies_true, and_self, eq_self, h83, h2, a2]
  | cons B bs ih =>
    have hf : bs.length + 1 < f := hf
    obtain ⟨f, rfl⟩ : ∃ f', f = f' + 1 := ⟨f - 1, by omega⟩
    obtain ⟨h2, ⟨p, p1, p2, p3, p4, p5, p6, p7, p8, p9⟩, h4⟩ := hr
    obtain ⟨g1, g2, g3, g4⟩ := g
    have he2 := rPr_e h4
    obtain ⟨r1, r2⟩ := r_termG (fu := fu) (l := l) hfu g1 p5 (by omega)
    -- the first of the two
    have A1 : ∃ y s1, f_X12_termOf fu (nI p) (nI (p + B.1.length)) s l = (y, s1, l) ∧ p_X12_termOf fu (nI p) (nI (p + B.1.length)) s l ∧ rB s s1 ∧ ((vl B.1 (s 92) = none ∧ s1 60 49 = nI 1) ∨ (vl B.1 (s 92) = some y ∧ s1 60 49 = nI 0)) := by
      cases ev : vl B.1 (s 92) with
      | none => obtain ⟨s1, a1, a2, a3, a4⟩ := r1 ev; exact ⟨_, s1, a1, a2, a4, .inl ⟨rfl, a3⟩⟩
      | some y => obtain ⟨s1, a1, a2, a3, a4⟩ := r2 y ev; exact ⟨y, s1, a1, a2, a4, .inr ⟨rfl, a3.trans h49⟩⟩
    obtain ⟨y, s1, a1, a2, a3, a4⟩ := A1
    have k92 : s1 92 = s 92 := a3.1 92 (by omega) (by omega)
    have q6 : rds s1 (p + B.1.length) B.2.1 := by unfold rds; rw [a3.1 89 (by omega) (by omega), a3.1 90 (by omega) (by omega)]; exact p6
    obtain ⟨t1, t2⟩ := r_termG (fu := fu) (l := l) hfu g2 q6 (by omega)
    rw [k92] at t1 t2
    have A2 : ∃ z s2, f_X12_termOf fu (nI (p + B.1.length)) (nI (p + B.1.length + B.2.1.length)) s1 l = (z, s2, l) ∧ p_X12_termOf fu (nI (p + B.1.length)) (nI (p + B.1.length + B.2.1.length)) s1 l ∧ rB s1 s2 ∧ ((vl B.2.1 (s 92) = none ∧ s2 60 49 = nI 1) ∨ (vl B.2.1 (s 92) = some z ∧ s2 60 49 = s1 60 49)) := by
      cases ev : vl B.2.1 (s 92) with
      | none => obtain ⟨s1, a1, a2, a3, a4⟩ := t1 ev; exact ⟨_, s1, a1, a2, a4, .inl ⟨rfl, a3⟩⟩
      | some y => obtain ⟨s1, a1, a2, a3, a4⟩ := t2 y ev; exact ⟨y, s1, a1, a2, a4, .inr ⟨rfl, a3⟩⟩
    obtain ⟨z, s2, b1, b2, b3, b4⟩ := A2
    have fr := rB_tr a3 b3
    have k6 : s1 86 b = nI (p + B.1.length) := by rw [a3.1 86 (by omega) (by omega)]; exact p2
    have k7 : s1 87 b = nI (p + B.1.length + B.2.1.length) := by rw [a3.1 87 (by omega) (by omega)]; exact p3
    have F : f_X12_lawTells_39 fu (f + 1) (nI (3 * lv + k)) (nI b) s l = f_X12_lawTells_98 fu (fun x3 x4 s l => f_X12_lawTells_39 fu f x3 x4 s l) (nI (3 * lv + k)) (nI b) y z s2 l := by
      conv => lhs; unfold f_X12_lawTells_39
      unfold f_X12_lawTells_78
      simp (disch := omega) only [ln_, nI_clamp, leF, eqF, ar_t, ar_f, it_t, it_f, true_and, and_true, not_true_eq_false, not_false_eq_true, implies_true, and_self, eq_self, h83, h2, p1, p2, a1, k6, k7, b1]
    have P : p_X12_lawTells_98 fu (fun x3 x4 s l => p_X12_lawTells_39 fu f x3 x4 s l) (nI (3 * lv + k)) (nI b) y z s2 l → p_X12_lawTells_39 fu (f + 1) (nI (3 * lv + k)) (nI b) s l := by
      intro h
      unfold p_X12_lawTells_39 p_X12_lawTells_78
      simp (disch := omega) only [ln_, nI_clamp, leF, eqF, vpT, ar_t, ar_f, it_t, it_f, true_and, and_true, not_true_eq_false, not_false_eq_true, implies_true, and_self, eq_self, h83, h2, p1, p2, a1, a2, k6, k7, b1, b2]
      exact h
    have bad : s2 60 49 = nI 1 → evP (B :: bs) Dl (s 92) = nI 0 → ∃ s', f_X12_lawTells_39 fu (f + 1) (nI (3 * lv + k)) (nI b) s l = (evP (B :: bs) Dl (s 92), s', l) ∧ p_X12_lawTells_39 fu (f + 1) (nI (3 * lv + k)) (nI b) s l ∧ rB s s' := by
      intro h1 h0
      refine ⟨s2, F.trans ?_, P ?_, fr⟩
      · rw [h0]
        unfold f_X12_lawTells_98
        simp (disch := omega) only [ln_, eqF, ar_t, ar_f, it_t, it_f, true_and, and_true, not_true_eq_false, not_false_eq_true, implies_true, and_self, eq_self, h1]
      · unfold p_X12_lawTells_98
        simp (disch := omega) only [ln_, eqF, ar_t, ar_f, it_t, it_f, true_and, and_true, not_true_eq_false, not_false_eq_true, implies_true, and_self, eq_self, h1]
    have hev : ∀ x0 y0, vl B.1 (s 92) = x0 → vl B.2.1 (s 92) = y0 → evP (B :: bs) Dl (s 92) = (match x0, y0 with | some x, some y => if x < y then (vl B.2.2 (s 92)).getD (nI 0) else evP bs Dl (s 92) | _, _ => nI 0) := fun x0 y0 h1 h2 => by rw [← h1, ← h2]; rfl
    rcases b4 with ⟨n1, n2⟩ | ⟨n1, n2⟩
    · refine bad n2 ?_
      rw [hev _ _ rfl n1]
      cases vl B.1 (s 92) <;> rfl
    · rcases a4 with ⟨m1, m2⟩ | ⟨m1, m2⟩
      · refine bad (n2.trans m2) ?_
        rw [hev _ _ m1 n1]
      · have h0 := n2.trans m2
        have hv := hev _ _ m1 n1
        dsimp only at hv
        by_cases lt : y < z
        · rw [if_pos lt] at hv
          have q7 : rds s2 (p + B.1.length + B.2.1.length) B.2.2 := by unfold rds; rw [fr.1 89 (by omega) (by omega), fr.1 90 (by omega) (by omega)]; exact p7
          obtain ⟨s3, d1, d2, d3⟩ := rl_119 (l := l) (b := b) (s := s2) hfu (by omega) g3 (by rw [fr.1 87 (by omega) (by omega)]; exact p3) (by rw [fr.1 88 (by omega) (by omega)]; exact p4) q7 (by omega) h0
          rw [fr.1 92 (by omega) (by omega)] at d1
          refine ⟨s3, F.trans ?_, P ?_, rB_tr fr d3⟩
          · rw [hv]
            unfold f_X12_lawTells_98
            simp (disch := omega) only [ln_, ar_t, ar_f, it_t, it_f, true_and, and_true, not_true_eq_false, not_false_eq_true, implies_true, and_self, eq_self, h0, lt, d1]
          · unfold p_X12_lawTells_98
            simp (disch := omega) only [ln_, ar_t, ar_f, it_t, it_f, true_and, and_true, not_true_eq_false, not_false_eq_true, implies_true, and_self, eq_self, h0, lt, d2]
        · rw [if_neg lt] at hv
          have h4' : rPr lv M s2 (b + 1) bs Dl e := rPr_keep h4 (Nat.le_refl M) (fun q j x y _ _ => by rw [fr.1 q (by omega) (by omega)]) (fun q j x y _ _ => by rw [fr.1 q (by omega) (by omega)])
          obtain ⟨s3, d1, d2, d3⟩ := ih (s := s2) (b := b + 1) (f := f) g4 h4' (by rw [fr.1 83 (by omega) (by omega)]; exact h83) h0 (by omega)
          rw [fr.1 92 (by omega) (by omega)] at d1
          refine ⟨s3, F.trans ?_, P ?_, rB_tr fr d3⟩
          · rw [hv]
            unfold f_X12_lawTells_98
            simp (disch := omega) only [ln_, nI_add, ar_t, ar_f, it_t, it_f, true_and, and_true, not_true_eq_false, not_false_eq_true, implies_true, and_self, eq_self, h0, lt, d1]
          · unfold p_X12_lawTells_98
            simp (disch := omega) only [ln_, nI_add, ar_t, ar_f, it_t, it_f, true_and, and_true, not_true_eq_false, not_false_eq_true, implies_true, and_self, eq_self, h0, lt, d2]
theorem r_LR (hfu : 20000 ≤ fu) (hlv : lv ≤ 1) (g : ∀ k, k < 3 → gdP (BS k) (DS k) ∧ (BS k).length ≤ 10) (h : rLw lv M br BS DS s) (hM : M ≤ 420 * lv + 420) (hb : br ≤ 130 * lv + 130) (h18 : s 60 18 = nI lv) : LR fu (fun k v => if k < 3 then evP (BS k) (DS k) v else nI 0) s := by
  intro k hk s' l' h1 h2
  have h3 := h2.trans h18
  have hh : rLw lv M br BS DS s' := rLw_keep h (Nat.le_refl M) (Nat.le_refl br) (fun q j a b c d => h1 q (by omega) (by omega) lv j h18 hlv (.inl ⟨by omega, c, d⟩)) (fun q j a b c d => h1 q (by omega) (by omega) lv j h18 hlv (.inr (.inl ⟨a, b, c, by omega⟩))) (fun q j a b c d => h1 q (by omega) (by omega) lv j h18 hlv (.inr (.inr ⟨a, c, by omega⟩)))
  have e0 : nI 3 * nI lv + nI k = nI (3 * lv + k) := by rw [pk_mul, nI_add]
  dsimp only
  rw [if_pos hk]
  rcases hh k hk with ⟨g1, g2, g3, g4⟩ | ⟨b, e, g1, g2, g3, g4, g5⟩
  · refine ⟨?_, s', ?_, fun _ _ _ => rfl, fun _ _ => rfl⟩
    · unfold p_X12_lawTells
      simp (disch := omega) only [ln_, h3, e0, nI_clamp, vpT, g1, g2, ar_t, ar_f, it_t, it_f, true_and, and_true, not_true_eq_false, not_false_eq_true, implies_true, and_self, eq_self]
    · unfold f_X12_lawTells
      simp (disch := omega) only [ln_, h3, e0, nI_clamp, g1, g2, ar_t, ar_f, it_t, it_f, true_and, and_true, not_true_eq_false, not_false_eq_true, implies_true, and_self, eq_self]
      rw [g3, g4]
      have : evP [] [min k 1] (s' 92) = nI (min k 1) := by
        show (vl [min k 1] (s' 92)).getD (nI 0) = _
        unfold vl
        rw [rn_i (by omega)]; rfl
      rw [this]
  · have hbe := rPr_e g3
    have k82 : wi s' 60 49 (nI 0) 82 (3 * lv + k) = nI b := by rw [wi_c (by omega)]; exact g1
    have pr : rPr lv M (wi s' 60 49 (nI 0)) b (BS k) (DS k) e := rPr_keep g3 (Nat.le_refl M) (fun q j x y _ _ => by rw [wi_c (by omega)]) (fun q j x y _ _ => by rw [wi_c (by omega)])
    obtain ⟨s2, a1, a2, a3⟩ := r_evP (l := l') (f := fu) hfu hlv hk (g k hk).1 pr (by omega) (by omega) (by rw [wi_c (by omega)]; exact g2) (by rw [wi_u, upd_s]) (by have := (g k hk).2; omega)
    rw [wi_c (by omega)] at a1
    refine ⟨?_, s2, ?_, fun q x y => ?_, fun j hj => ?_⟩
    · unfold p_X12_lawTells
      simp (disch := omega) only [ln_, h3, e0, nI_clamp, vpT, g1, g2, eqF, ar_t, ar_f, it_t, it_f, true_and, and_true, not_true_eq_false, not_false_eq_true, implies_true, and_self, eq_self, k82, a2]
    · unfold f_X12_lawTells
      simp (disch := omega) only [ln_, h3, e0, nI_clamp, g1, g2, eqF, ar_t, ar_f, it_t, it_f, true_and, and_true, not_true_eq_false, not_false_eq_true, implies_true, and_self, eq_self, k82, a1]
    · rw [a3.1 q x y, wi_c y]
    · rw [a3.2 j hj, wi_u, upd_n hj]
end rlr
