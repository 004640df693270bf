/-! All that is told, by both -/
/-- how both stand behind the last thing told -/
def Fin2 (B : Nat → Nat) (n t sd : Nat) (v : Int32) (sC' : fl_I) (lC' : fl_L) (sR' : fl_I) (lR' : fl_L) : Prop :=
  (v = nI 0 ∧ ∃ k m lj M br L W K N Q, CJ B n t k m 0 lj L W K N Q sC' lC' ∧ RJ B n sd k M br 0 lj L W K N Q sR' lR' ∧ TJ 0 L W K N Q) ∨ ∃ e a, 1 ≤ e ∧ e ≤ 9 ∧ v = nI e ∧ sC' 3 0 = nI (tP B n a) ∧ (rBd B n e a sR' ∨ (sR' 60 13 = nI 0 ∧ sR' 60 15 = nI e ∧ sR' 60 16 = nI (tP B n a)))
section lop
variable {B : Nat → Nat} {a b c e i j k m n p q t z f lf lj lf' lj' sd M br y hi o r x P0 nl cnt : Nat} {s s1 s2 sC sR : fl_I} {l l1 l2 lC lR : fl_L} {fu : Nat} {w : List Nat} {L : Lt} {W : Wt} {K : Kt} {N : Nt} {Q : Qt} {st : Nat × Nat} {T : Nat → Nat}
theorem fi_pl (h : cAt B n t k m s l) (hcn : cnt ≤ 400) (hK : tK B n k ≠ 0) (hp : tK B n k < 259 ∨ 262 ≤ tK B n k) : f_X3_fill_32 fu (f + 1) (nI 1) (nI cnt) t s l = f_X3_fill_32 fu f (f_X3_plainTold fu t s l).1 (nI (cnt + 1)) t (f_X3_plainTold fu t s l).2.1 (f_X3_plainTold fu t s l).2.2 ∧ (p_X3_plainTold fu t s l → p_X3_fill_32 fu f (f_X3_plainTold fu t s l).1 (nI (cnt + 1)) t (f_X3_plainTold fu t s l).2.1 (f_X3_plainTold fu t s l).2.2 → p_X3_fill_32 fu (f + 1) (nI 1) (nI cnt) t s l) := by
  obtain ⟨k1, k2⟩ := c_kindNow (fu := fu) h
  have hlt := tK_lt (k := k) h.1
  rcases hp with hp | hp
  · have e0 : (nI (tK B n k) - nI 259 < nI 0) = True := by
      refine eq_true ?_
      rw [Int32.lt_iff_toInt_lt, pk_sub_toInt (by omega) (by omega)]
      show _ < (0 : Int)
      omega
    constructor
    · conv => lhs; unfold f_X3_fill_32
      simp (disch := omega) only [ln_, ltF, eqF, nI_add, ar_t, ar_f, it_t, it_f, true_and, and_true, not_true_eq_false, not_false_eq_true, implies_true, and_self, eq_self, k1, e0]
    · intro g1 g2
      unfold p_X3_fill_32
      simp (disch := omega) only [ln_, ltF, eqF, nI_add, ar_t, ar_f, it_t, it_f, true_and, and_true, not_true_eq_false, not_false_eq_true, implies_true, and_self, eq_self, k1, k2, e0, g1]
      exact g2
  · have e0 : nI (tK B n k) - nI 259 = nI (tK B n k - 259) := pk_sub (by omega)
    constructor
    · conv => lhs; unfold f_X3_fill_32
      simp (disch := omega) only [ln_, ltF, eqF, leT, nI_add, ar_t, ar_f, it_t, it_f, true_and, and_true, not_true_eq_false, not_false_eq_true, implies_true, and_self, eq_self, k1, e0]
    · intro g1 g2
      unfold p_X3_fill_32
      simp (disch := omega) only [ln_, ltF, eqF, leT, nI_add, ar_t, ar_f, it_t, it_f, true_and, and_true, not_true_eq_false, not_false_eq_true, implies_true, and_self, eq_self, k1, k2, e0, g1]
      exact g2
theorem fi_lw (h : cAt B n t k m s l) (hcn : cnt ≤ 400) (hy : y < 3) (hK : tK B n k = 259 + y) : f_X3_fill_32 fu (f + 1) (nI 1) (nI cnt) t s l = f_X3_fill_32 fu f (f_X3_lawTold fu (nI y) t s l).1 (nI (cnt + 1)) t (f_X3_lawTold fu (nI y) t s l).2.1 (f_X3_lawTold fu (nI y) t s l).2.2 ∧ (p_X3_lawTold fu (nI y) t s l → p_X3_fill_32 fu f (f_X3_lawTold fu (nI y) t s l).1 (nI (cnt + 1)) t (f_X3_lawTold fu (nI y) t s l).2.1 (f_X3_lawTold fu (nI y) t s l).2.2 → p_X3_fill_32 fu (f + 1) (nI 1) (nI cnt) t s l) := by
  obtain ⟨k1, k2⟩ := c_kindNow (fu := fu) h
  rw [hK] at k1
  have e0 : nI (259 + y) - nI 259 = nI y := by rw [pk_sub (by omega), Nat.add_sub_cancel_left]
  constructor
  · conv => lhs; unfold f_X3_fill_32
    simp (disch := omega) only [ln_, ltF, eqF, leF, nI_add, ar_t, ar_f, it_t, it_f, true_and, and_true, not_true_eq_false, not_false_eq_true, implies_true, and_self, eq_self, k1, e0]
  · intro g1 g2
    unfold p_X3_fill_32
    simp (disch := omega) only [ln_, ltF, eqF, leF, nI_add, ar_t, ar_f, it_t, it_f, true_and, and_true, not_true_eq_false, not_false_eq_true, implies_true, and_self, eq_self, k1, k2, e0, g1]
    exact g2
/-- behind a fault the class stops -/
theorem fi_bd (hcn : cnt ≤ 401) (h3 : s 3 3 = nI e) (he : 1 ≤ e) (he2 : e ≤ 9) : f_X3_fill_32 fu (f + 1) (nI 0) (nI cnt) t s l = (nI e, s, l) ∧ p_X3_fill_32 fu (f + 1) (nI 0) (nI cnt) t s l := by
  unfold f_X3_fill_32 p_X3_fill_32
  by_cases h : 400 < cnt
  · simp (disch := omega) only [ln_, ltT, eqF, ar_t, ar_f, it_t, it_f, true_and, and_true, not_true_eq_false, not_false_eq_true, implies_true, and_self, eq_self, h3]
  · simp (disch := omega) only [ln_, ltF, eqF, ar_t, ar_f, it_t, it_f, true_and, and_true, not_true_eq_false, not_false_eq_true, implies_true, and_self, eq_self, h3]
theorem pl_k {g : Int32 × fl_I × fl_L} {pg : Prop} {kd : Nat} (h : cAt B n t k m s l) (hK : tK B n k = kd) (hF : f_X3_kindNow fu s l = nI kd → f_X3_plainTold fu t s l = (g.1, g.2.1, g.2.2)) (hP : f_X3_kindNow fu s l = nI kd → p_X3_kindNow fu s l → pg → (g.1 = nI 0 ∨ g.1 = nI 1) → p_X3_plainTold fu t s l) (o : Out B n t sd k sR lR g pg (f_X12_tellOne fu sR lR) (p_X12_tellOne fu sR lR)) : Out B n t sd k sR lR (f_X3_plainTold fu t s l) (p_X3_plainTold fu t s l) (f_X12_tellOne fu sR lR) (p_X12_tellOne fu sR lR) := by
  obtain ⟨k1, k2⟩ := c_kindNow (fu := fu) h
  rw [hK] at k1
  obtain ⟨o1, o2, v, sC', lC', sR', lR', o3, o4⟩ := o
  refine ⟨hP k1 k2 o1 ?_, o2, v, sC', lC', sR', lR', (hF k1).trans o3, o4⟩
  rw [o3]
  rcases o4.2.2 with ⟨_, _, _, _, _, _, _, _, _, _, _, hv, _⟩ | ⟨_, _, hv, _⟩
  · exact .inr hv
  · exact .inl hv
theorem tl_plain (hfu : 20000 ≤ fu) (ht : t = 9 ∨ t = 20) (hsd : sd ≤ 1) (c : CJ B n t k m lf lj L W K N Q sC lC) (r : RJ B n sd k M br lf lj L W K N Q sR lR) (T : TJ lf L W K N Q) (hT : tK B n k < 259 ∨ 262 ≤ tK B n k) : Out B n t sd k sR lR (f_X3_plainTold fu t sC lC) (p_X3_plainTold fu t sC lC) (f_X12_tellOne fu sR lR) (p_X12_tellOne fu sR lR) := by
  by_cases e1 : tK B n k = 256
  · exact pl_k c.1.1 e1 (fun h => by unfold f_X3_plainTold; simp (disch := omega) only [ln_, eqF, ar_t, ar_f, it_t, it_f, true_and, and_true, not_true_eq_false, not_false_eq_true, implies_true, and_self, eq_self, h]) (fun h h2 h3 h4 => by unfold p_X3_plainTold; simp (disch := omega) only [ln_, eqF, ar_t, ar_f, it_t, it_f, true_and, and_true, not_true_eq_false, not_false_eq_true, implies_true, and_self, eq_self, h, h2, h3]; exact h4) (tl_lett hfu ht hsd c r T e1)
  by_cases e2 : tK B n k = 257
  · exact pl_k c.1.1 e2 (fun h => by unfold f_X3_plainTold; simp (disch := omega) only [ln_, eqF, ar_t, ar_f, it_t, it_f, true_and, and_true, not_true_eq_false, not_false_eq_true, implies_true, and_self, eq_self, h]) (fun h h2 h3 h4 => by unfold p_X3_plainTold; simp (disch := omega) only [ln_, eqF, ar_t, ar_f, it_t, it_f, true_and, and_true, not_true_eq_false, not_false_eq_true, implies_true, and_self, eq_self, h, h2, h3]; exact h4) (tl_word hfu ht hsd c r T e2)
  by_cases e3 : tK B n k = 258
  · exact pl_k c.1.1 e3 (fun h => by unfold f_X3_plainTold; simp (disch := omega) only [ln_, eqF, ar_t, ar_f, it_t, it_f, true_and, and_true, not_true_eq_false, not_false_eq_true, implies_true, and_self, eq_self, h]) (fun h h2 h3 h4 => by unfold p_X3_plainTold; simp (disch := omega) only [ln_, eqF, ar_t, ar_f, it_t, it_f, true_and, and_true, not_true_eq_false, not_false_eq_true, implies_true, and_self, eq_self, h, h2, h3]; exact h4) (tl_pick hfu ht hsd c r T e3)
  by_cases e4 : tK B n k = 262
  · exact pl_k c.1.1 e4 (fun h => by unfold f_X3_plainTold; simp (disch := omega) only [ln_, eqF, ar_t, ar_f, it_t, it_f, true_and, and_true, not_true_eq_false, not_false_eq_true, implies_true, and_self, eq_self, h]) (fun h h2 h3 h4 => by unfold p_X3_plainTold; simp (disch := omega) only [ln_, eqF, ar_t, ar_f, it_t, it_f, true_and, and_true, not_true_eq_false, not_false_eq_true, implies_true, and_self, eq_self, h, h2, h3]; exact h4) (tl_wind ht hsd c r T e4)
  by_cases e5 : tK B n k = 263
  · exact pl_k c.1.1 e5 (fun h => by unfold f_X3_plainTold; simp (disch := omega) only [ln_, eqF, ar_t, ar_f, it_t, it_f, true_and, and_true, not_true_eq_false, not_false_eq_true, implies_true, and_self, eq_self, h]) (fun h h2 h3 h4 => by unfold p_X3_plainTold; simp (disch := omega) only [ln_, eqF, ar_t, ar_f, it_t, it_f, true_and, and_true, not_true_eq_false, not_false_eq_true, implies_true, and_self, eq_self, h, h2, h3]; exact h4) (tl_rain ht hsd c r T e5)
  by_cases e6 : tK B n k = 264
  · exact pl_k c.1.1 e6 (fun h => by unfold f_X3_plainTold; simp (disch := omega) only [ln_, eqF, ar_t, ar_f, it_t, it_f, true_and, and_true, not_true_eq_false, not_false_eq_true, implies_true, and_self, eq_self, h]) (fun h h2 h3 h4 => by unfold p_X3_plainTold; simp (disch := omega) only [ln_, eqF, ar_t, ar_f, it_t, it_f, true_and, and_true, not_true_eq_false, not_false_eq_true, implies_true, and_self, eq_self, h, h2, h3]; exact h4) (tl_seed ht hsd c r T e6)
  exact tl_none ht c r (by omega)
theorem tl_all (hfu : 20000 ≤ fu) (ht : t = 9 ∨ t = 20) (hsd : sd ≤ 1) : ∀ d k cnt f f' m lf lj M br L W K N Q sC lC sR lR, 400 < k + d → cnt ≤ k → d + 2 ≤ f → d + 2 ≤ f' → CJ B n t k m lf lj L W K N Q sC lC → RJ B n sd k M br lf lj L W K N Q sR lR → TJ lf L W K N Q →
    p_X3_fill_32 fu f (nI 1) (nI cnt) t sC lC ∧ ∃ v sC' lC' sR' lR', f_X3_fill_32 fu f (nI 1) (nI cnt) t sC lC = (v, sC', lC') ∧ f_X12_read_107 fu f' sR lR = f_X12_read_129 fu sR' lR' ∧ (p_X12_read_129 fu sR' lR' → p_X12_read_107 fu f' sR lR) ∧ rGF sd sR lR sR' lR' ∧ Fin2 B n t sd v sC' lC' sR' lR' := by
  intro d
  induction d with
  | zero =>
    intro k cnt f f' m lf lj M br L W K N Q sC lC sR lR h1 h2 h3 h4 c
    have := c.1.1.2.1.1
    omega
  | succ d ih =>
    intro k cnt f f' m lf lj M br L W K N Q sC lC sR lR h1 h2 h3 h4 c r T
    have hk := c.1.1.2.1.1
    obtain ⟨f, rfl⟩ : ∃ g, f = g + 1 := ⟨f - 1, by omega⟩
    obtain ⟨f', rfl⟩ : ∃ g, f' = g + 1 := ⟨f' - 1, by omega⟩
    obtain ⟨i1, i2⟩ := r_isP (fu := fu) (c := 0) r.1.1.1 (by omega)
    have rk0 : rk (tK B n k) = 0 ↔ tK B n k = 0 := (rkF r.1.1.1.1 k).2.2.2.2.2.2.2.2.2.2.2.1
    have h13 := r.1.1.1.2.2.2
    obtain ⟨k1, k2⟩ := c_kindNow (fu := fu) c.1.1
    by_cases hK : tK B n k = 0
    · rw [if_pos (rk0.mpr hK)] at i1
      rw [hK] at k1
      have c3 := c.1.1.2.2.2.1
      obtain ⟨c4, c5⟩ := c.1.2.1
      have R1 : f_X12_read_107 fu (f' + 1) sR lR = f_X12_read_129 fu sR lR := by
        unfold f_X12_read_107
        simp (disch := omega) only [ln_, eqF, ar_t, ar_f, it_t, it_f, true_and, and_true, not_true_eq_false, not_false_eq_true, implies_true, and_self, eq_self, h13, i1]
      have R2 : p_X12_read_129 fu sR lR → p_X12_read_107 fu (f' + 1) sR lR := by
        intro g
        unfold p_X12_read_107
        simp (disch := omega) only [ln_, eqF, ar_t, ar_f, it_t, it_f, true_and, and_true, not_true_eq_false, not_false_eq_true, implies_true, and_self, eq_self, h13, i1, i2]
        exact g
      have lf9 := c.1.2.2
      by_cases hl : lf = 0
      · subst hl
        refine ⟨?_, nI 0, sC, lC, sR, lR, ?_, R1, R2, rGF_rfl, .inl ⟨rfl, k, m, lj, M, br, L, W, K, N, Q, c, r, T⟩⟩
        · unfold p_X3_fill_32
          simp (disch := omega) only [ln_, ltF, eqF, ar_t, ar_f, it_t, it_f, true_and, and_true, not_true_eq_false, not_false_eq_true, implies_true, and_self, eq_self, k1, k2, c3, c4]
        · unfold f_X3_fill_32
          simp (disch := omega) only [ln_, ltF, eqF, ar_t, ar_f, it_t, it_f, true_and, and_true, not_true_eq_false, not_false_eq_true, implies_true, and_self, eq_self, k1, c3, c4]
      · have c5 := c5 hl
        have d4 := r.1.2.1
        refine ⟨?_, nI lf, wi (wi sC 3 3 (nI lf)) 3 0 (nI (tP B n lj)), lC, sR, lR, ?_, R1, R2, rGF_rfl, .inr ⟨lf, lj, by omega, lf9, rfl, by rw [wi_u, upd_s], .inr ⟨h13, d4.1, d4.2 hl⟩⟩⟩
        · unfold p_X3_fill_32
          simp (disch := omega) only [ln_, ltF, eqF, ar_t, ar_f, it_t, it_f, true_and, and_true, not_true_eq_false, not_false_eq_true, implies_true, and_self, eq_self, k1, k2, c3, c4]
        · unfold f_X3_fill_32
          simp (disch := omega) only [ln_, ltF, eqF, ar_t, ar_f, it_t, it_f, true_and, and_true, not_true_eq_false, not_false_eq_true, implies_true, and_self, eq_self, wi_c, wi_u, upd_s, upd_n, su_r, su_c, k1, c3, c4, c5]
    · rw [if_neg (fun h => hK (rk0.mp h))] at i1
      have R1 : f_X12_read_107 fu (f' + 1) sR lR = f_X12_read_107 fu f' (f_X12_tellOne fu sR lR).1 (f_X12_tellOne fu sR lR).2 := by
        conv => lhs; unfold f_X12_read_107
        unfold f_X12_read_126
        simp (disch := omega) only [ln_, ar_t, ar_f, it_t, it_f, true_and, and_true, not_true_eq_false, not_false_eq_true, implies_true, and_self, eq_self, h13, i1]
      have R2 : p_X12_tellOne fu sR lR → p_X12_read_107 fu f' (f_X12_tellOne fu sR lR).1 (f_X12_tellOne fu sR lR).2 → p_X12_read_107 fu (f' + 1) sR lR := by
        intro g1 g2
        unfold p_X12_read_107 p_X12_read_126
        simp (disch := omega) only [ln_, ar_t, ar_f, it_t, it_f, true_and, and_true, not_true_eq_false, not_false_eq_true, implies_true, and_self, eq_self, h13, i1, i2, g1]
        exact g2
      have S : ∃ (g : Int32 × fl_I × fl_L) (pg : Prop), Out B n t sd k sR lR g pg (f_X12_tellOne fu sR lR) (p_X12_tellOne fu sR lR) ∧ f_X3_fill_32 fu (f + 1) (nI 1) (nI cnt) t sC lC = f_X3_fill_32 fu f g.1 (nI (cnt + 1)) t g.2.1 g.2.2 ∧ (pg → p_X3_fill_32 fu f g.1 (nI (cnt + 1)) t g.2.1 g.2.2 → p_X3_fill_32 fu (f + 1) (nI 1) (nI cnt) t sC lC) := by
        by_cases hp : tK B n k < 259 ∨ 262 ≤ tK B n k
        · obtain ⟨g1, g2⟩ := fi_pl (fu := fu) (f := f) (cnt := cnt) c.1.1 (by omega) hK hp
          exact ⟨_, _, tl_plain hfu ht hsd c r T hp, g1, g2⟩
        · obtain ⟨y, hy, ey⟩ : ∃ y, y < 3 ∧ tK B n k = 259 + y := ⟨tK B n k - 259, by omega, by omega⟩
          obtain ⟨g1, g2⟩ := fi_lw (fu := fu) (f := f) (cnt := cnt) c.1.1 (by omega) hy ey
          exact ⟨_, _, tl_law hfu ht hsd hy c r T ey, g1, g2⟩
      obtain ⟨g, pg, ⟨o1, o2, v, sC', lC', sR', lR', o3, o4, o5, o6⟩, S1, S2⟩ := S
      rw [o3] at S1 S2
      rw [o4] at R1 R2
      rcases o6 with ⟨a, m', lf', lj', M', br', L', W', K', N', Q', rfl, hka, c', r', T'⟩ | ⟨e, a, rfl, e3, e0, rb⟩
      · obtain ⟨j1, v, sC2, lC2, sR2, lR2, j2, j3, j4, j5, j6⟩ := ih a (cnt + 1) f f' m' lf' lj' M' br' L' W' K' N' Q' sC' lC' sR' lR' (by omega) (by omega) (by omega) (by omega) c' r' T'
        exact ⟨S2 o1 j1, v, sC2, lC2, sR2, lR2, S1.trans j2, R1.trans j3, fun h => R2 o2 (j4 h), rGF_tr o5 j5, j6⟩
      · obtain ⟨k13, e1, e2⟩ := rBd_13 rb
        obtain ⟨f, rfl⟩ : ∃ g, f = g + 1 := ⟨f - 1, by omega⟩
        obtain ⟨f', rfl⟩ : ∃ g, f' = g + 1 := ⟨f' - 1, by omega⟩
        obtain ⟨b1, b2⟩ := fi_bd (fu := fu) (f := f) (cnt := cnt + 1) (t := t) (l := lC') (by omega) e3 e1 (by omega)
        have R3 : f_X12_read_107 fu (f' + 1) sR' lR' = f_X12_read_129 fu sR' lR' := by
          unfold f_X12_read_107
          simp (disch := omega) only [ln_, eqF, ar_t, ar_f, it_t, it_f, true_and, and_true, not_true_eq_false, not_false_eq_true, implies_true, and_self, eq_self, k13]
        have R4 : p_X12_read_129 fu sR' lR' → p_X12_read_107 fu (f' + 1) sR' lR' := by
          intro g
          unfold p_X12_read_107
          simp (disch := omega) only [ln_, eqF, ar_t, ar_f, it_t, it_f, true_and, and_true, not_true_eq_false, not_false_eq_true, implies_true, and_self, eq_self, k13]
          exact g
        exact ⟨S2 o1 b2, nI e, sC', lC', sR', lR', S1.trans b1, R1.trans R3, fun h => R2 o2 (R4 h), o5, .inr ⟨e, a, e1, by omega, rfl, e0, .inl rb⟩⟩
end lop
