/-! The reference goes through a law's branches -/
def rds (s : fl_I) (p : Nat) (C : List Nat) : Prop := ∀ i, i < C.length → s 89 (p + i) = nI (rI (C.getD i 0)) ∧ s 90 (p + i) = nI (rJ (C.getD i 0))
/-- a program in the reference's branches: from b on, up to e; its code below M -/
def rPr (lv M : Nat) (s : fl_I) : Nat → Pg → List Nat → Nat → Prop
  | b, [], D, e => s 84 b = nI 0 ∧ (∃ p, s 87 b = nI p ∧ s 88 b = nI (p + D.length) ∧ rds s p D ∧ 420 * lv ≤ p ∧ p + D.length ≤ M) ∧ e = b + 1
  | b, B :: bs, D, e => s 84 b = nI 1 ∧ (∃ p, s 85 b = nI p ∧ s 86 b = nI (p + B.1.length) ∧ s 87 b = nI (p + B.1.length + B.2.1.length) ∧ s 88 b = nI (p + B.1.length + B.2.1.length + B.2.2.length) ∧ rds s p B.1 ∧ rds s (p + B.1.length) B.2.1 ∧ rds s (p + B.1.length + B.2.1.length) B.2.2 ∧ 420 * lv ≤ p ∧ p + B.1.length + B.2.1.length + B.2.2.length ≤ M) ∧ rPr lv M s (b + 1) bs D e
def rLw (lv M br : Nat) (BS : Nat → Pg) (DS : Nat → List Nat) (s : fl_I) : Prop := ∀ k, k < 3 → (s 82 (3 * lv + k) = nI 0 ∧ s 83 (3 * lv + k) = nI 0 ∧ BS k = [] ∧ DS k = [min k 1]) ∨ ∃ b e, s 82 (3 * lv + k) = nI b ∧ s 83 (3 * lv + k) = nI e ∧ rPr lv M s b (BS k) (DS k) e ∧ 130 * lv ≤ b ∧ e ≤ br
def rB (s s' : fl_I) : Prop := (∀ q, q ≠ 93 → q ≠ 60 → s' q = s q) ∧ ∀ j, j ≠ 49 → s' 60 j = s 60 j
section rev
variable {fu lv f p q n h a b c e i j k x m D h' : Nat} {s s1 s2 : fl_I} {l : fl_L} {A K K' : Nat → Int32} {st st' : List Int32} {C C1 C2 Dl : List Nat} {u v : Int32} {bs : Pg}
theorem rB_rfl : rB s s := ⟨fun _ _ _ => rfl, fun _ _ => rfl⟩
theorem rB_tr (g : rB s s1) (g' : rB s1 s2) : rB s s2 := ⟨fun q a b => (g'.1 q a b).trans (g.1 q a b), fun j a => (g'.2 j a).trans (g.2 j a)⟩
theorem rds_c : rds s p (x :: C) ↔ (s 89 p = nI (rI x) ∧ s 90 p = nI (rJ x)) ∧ rds s (p + 1) C := by
  constructor
  · intro g
    refine ⟨g 0 (by show 0 < C.length + 1; omega), fun i hi => ?_⟩
    have := g (i + 1) (by show i + 1 < C.length + 1; omega)
    rw [show p + 1 + i = p + (i + 1) from by omega]; exact this
  · rintro ⟨g1, g2⟩ i hi
    cases i with
    | zero => exact g1
    | succ i =>
      have := g2 i (by have : i + 1 < C.length + 1 := hi; omega)
      rw [show p + (i + 1) = p + 1 + i from by omega]; exact this
theorem rv_i (hp : p < e) (he : e ≤ 840) (hh : h < 400) (h8 : s 89 p = nI 0) (h9 : s 90 p = u) : f_X12_termOf_5 fu (f + 1) (nI e) (nI h) (nI p) s l = f_X12_termOf_5 fu f (nI e) (nI (h + 1)) (nI (p + 1)) (wi s 93 h u) l ∧ (p_X12_termOf_5 fu f (nI e) (nI (h + 1)) (nI (p + 1)) (wi s 93 h u) l → p_X12_termOf_5 fu (f + 1) (nI e) (nI h) (nI p) s l) := by
  constructor
  · conv => lhs; unfold f_X12_termOf_5
    unfold f_X12_termOf_159
    simp (disch := omega) only [ln_, leT, leF, ltT, ltF, eqT, eqF, vpT, nlT, nleT, lnF, lenF, eqnF, neqF, nnF, nI_add, pk_mul, pk_div, pk_sub, ni_m, nI_clamp, md10, dm10, gI_l, gI_n, ar_t, ar_f, it_t, it_f, true_and, and_true, not_true_eq_false, not_false_eq_true, implies_true, and_self, eq_self, h8, h9]
  · intro g
    unfold p_X12_termOf_5 p_X12_termOf_159
    simp (disch := omega) only [ln_, leT, leF, ltT, ltF, eqT, eqF, vpT, nlT, nleT, lnF, lenF, eqnF, neqF, nnF, nI_add, pk_mul, pk_div, pk_sub, ni_m, nI_clamp, md10, dm10, gI_l, gI_n, ar_t, ar_f, it_t, it_f, true_and, and_true, not_true_eq_false, not_false_eq_true, implies_true, and_self, eq_self, h8, h9]; exact g
theorem rv_v (hp : p < e) (he : e ≤ 840) (hh : h < 400) (h8 : s 89 p = nI 1) (h9 : s 90 p = nI j) (hj : j < 9) : f_X12_termOf_5 fu (f + 1) (nI e) (nI h) (nI p) s l = f_X12_termOf_5 fu f (nI e) (nI (h + 1)) (nI (p + 1)) (wi s 93 h (s 92 j)) l ∧ (p_X12_termOf_5 fu f (nI e) (nI (h + 1)) (nI (p + 1)) (wi s 93 h (s 92 j)) l → p_X12_termOf_5 fu (f + 1) (nI e) (nI h) (nI p) s l) := by
  constructor
  · conv => lhs; unfold f_X12_termOf_5
    unfold f_X12_termOf_159
    simp (disch := omega) only [ln_, leT, leF, ltT, ltF, eqT, eqF, vpT, nlT, nleT, lnF, lenF, eqnF, neqF, nnF, nI_add, pk_mul, pk_div, pk_sub, ni_m, nI_clamp, md10, dm10, gI_l, gI_n, ar_t, ar_f, it_t, it_f, true_and, and_true, not_true_eq_false, not_false_eq_true, implies_true, and_self, eq_self, h8, h9]
  · intro g
    unfold p_X12_termOf_5 p_X12_termOf_159
    simp (disch := omega) only [ln_, leT, leF, ltT, ltF, eqT, eqF, vpT, nlT, nleT, lnF, lenF, eqnF, neqF, nnF, nI_add, pk_mul, pk_div, pk_sub, ni_m, nI_clamp, md10, dm10, gI_l, gI_n, ar_t, ar_f, it_t, it_f, true_and, and_true, not_true_eq_false, not_false_eq_true, implies_true, and_self, eq_self, h8, h9]; exact g
theorem rv_o (hp : p < e) (he : e ≤ 840) (hh : m + 2 ≤ 400) (h8 : s 89 p = nI (rI x)) (hx : x = 20043 ∨ x = 20045 ∨ x = 20042 ∨ x = 20047) (h1 : s 93 (m + 1) = v) (h0 : s 93 m = u) (hz : ¬ (x = 20047 ∧ v = nI 0)) : f_X12_termOf_5 fu (f + 1) (nI e) (nI (m + 2)) (nI p) s l = f_X12_termOf_5 fu f (nI e) (nI (m + 1)) (nI (p + 1)) (wi s 93 m (jn x u v)) l ∧ (p_X12_termOf_5 fu f (nI e) (nI (m + 1)) (nI (p + 1)) (wi s 93 m (jn x u v)) l → p_X12_termOf_5 fu (f + 1) (nI e) (nI (m + 2)) (nI p) s l) := by
  have k : ∀ c, nI (rI x) = nI c → s 89 p = nI c := fun c hc => h8.trans hc
  rcases hx with rfl | rfl | rfl | rfl
  · have h8 := k 2 rfl
    constructor
    · conv => lhs; unfold f_X12_termOf_5
      unfold f_X12_termOf_104 f_X12_termOf_159
      simp (disch := omega) only [ln_, leT, leF, eqF, vpT, ar_t, ar_f, it_t, it_f, true_and, and_true, not_true_eq_false, not_false_eq_true, implies_true, and_self, eq_self, hm2, hm1, nI_clamp, nI_add, h8, h1, h0]; rfl
    · intro g
      unfold p_X12_termOf_5 p_X12_termOf_104 p_X12_termOf_159
      simp (disch := omega) only [ln_, leT, leF, eqF, vpT, ar_t, ar_f, it_t, it_f, true_and, and_true, not_true_eq_false, not_false_eq_true, implies_true, and_self, eq_self, hm2, hm1, nI_clamp, nI_add, h8, h1, h0]; exact g
  · have h8 := k 3 rfl
    constructor
    · conv => lhs; unfold f_X12_termOf_5
      unfold f_X12_termOf_104 f_X12_termOf_159
      simp (disch := omega) only [ln_, leT, leF, eqF, vpT, ar_t, ar_f, it_t, it_f, true_and, and_true, not_true_eq_false, not_false_eq_true, implies_true, and_self, eq_self, hm2, hm1, nI_clamp, nI_add, h8, h1, h0]; rfl
    · intro g
      unfold p_X12_termOf_5 p_X12_termOf_104 p_X12_termOf_159
      simp (disch := omega) only [ln_, leT, leF, eqF, vpT, ar_t, ar_f, it_t, it_f, true_and, and_true, not_true_eq_false, not_false_eq_true, implies_true, and_self, eq_self, hm2, hm1, nI_clamp, nI_add, h8, h1, h0]; exact g
  · have h8 := k 4 rfl
    constructor
    · conv => lhs; unfold f_X12_termOf_5
      unfold f_X12_termOf_104 f_X12_termOf_159
      simp (disch := omega) only [ln_, leT, leF, eqF, vpT, ar_t, ar_f, it_t, it_f, true_and, and_true, not_true_eq_false, not_false_eq_true, implies_true, and_self, eq_self, hm2, hm1, nI_clamp, nI_add, h8, h1, h0]; rfl
    · intro g
      unfold p_X12_termOf_5 p_X12_termOf_104 p_X12_termOf_159
      simp (disch := omega) only [ln_, leT, leF, eqF, vpT, ar_t, ar_f, it_t, it_f, true_and, and_true, not_true_eq_false, not_false_eq_true, implies_true, and_self, eq_self, hm2, hm1, nI_clamp, nI_add, h8, h1, h0]; exact g
  · have h8 := k 5 rfl
    have hz : ¬ v = nI 0 := fun e => hz ⟨rfl, e⟩
    constructor
    · conv => lhs; unfold f_X12_termOf_5
      unfold f_X12_termOf_104 f_X12_termOf_159
      simp (disch := omega) only [ln_, leT, leF, eqF, vpT, ar_t, ar_f, it_t, it_f, true_and, and_true, not_true_eq_false, not_false_eq_true, implies_true, and_self, eq_self, hm2, hm1, nI_clamp, nI_add, h8, h1, h0, hz]; rfl
    · intro g
      unfold p_X12_termOf_5 p_X12_termOf_104 p_X12_termOf_159
      simp (disch := omega) only [ln_, leT, leF, eqF, vpT, ar_t, ar_f, it_t, it_f, true_and, and_true, not_true_eq_false, not_false_eq_true, implies_true, and_self, eq_self, hm2, hm1, nI_clamp, nI_add, h8, h1, h0, hz]; exact g
theorem rv_z (hp : p < e) (he : e ≤ 840) (hh : m + 2 ≤ 400) (h8 : s 89 p = nI 5) (h1 : s 93 (m + 1) = nI 0) : f_X12_termOf_5 fu (f + 1) (nI e) (nI (m + 2)) (nI p) s l = (nI 0, wi s 60 49 (nI 1), l) ∧ p_X12_termOf_5 fu (f + 1) (nI e) (nI (m + 2)) (nI p) s l := by
  constructor
  · unfold f_X12_termOf_5
    simp (disch := omega) only [ln_, leT, leF, eqF, vpT, ar_t, ar_f, it_t, it_f, true_and, and_true, not_true_eq_false, not_false_eq_true, implies_true, and_self, eq_self, hm2, hm1, nI_clamp, nI_add, h8, h1]
  · unfold p_X12_termOf_5
    simp (disch := omega) only [ln_, leT, leF, eqF, vpT, ar_t, ar_f, it_t, it_f, true_and, and_true, not_true_eq_false, not_false_eq_true, implies_true, and_self, eq_self, hm2, hm1, nI_clamp, nI_add, h8, h1]
theorem r_runC (hw : wfC C st.length D h') (hS : st.length ≤ D) (hD : D ≤ 400) (hc : rds s p C) (hk : stk (s 93) st) (hp : p + C.length ≤ 840) (hf : 900 ≤ f + p) :
    (rnC C (s 92) st = none → ∃ s', f_X12_termOf_5 fu f (nI (p + C.length)) (nI st.length) (nI p) s l = (nI 0, s', l) ∧ p_X12_termOf_5 fu f (nI (p + C.length)) (nI st.length) (nI p) s l ∧ s' 60 49 = nI 1 ∧ rB s s') ∧
    ∀ st', rnC C (s 92) st = some st' → ∃ s', stk (s' 93) st' ∧ (∀ q, q ≠ 93 → s' q = s q) ∧ f_X12_termOf_5 fu f (nI (p + C.length)) (nI st.length) (nI p) s l = (s' 93 0, s', l) ∧ p_X12_termOf_5 fu f (nI (p + C.length)) (nI st.length) (nI p) s l := by
  induction C generalizing st s p f with
  | nil =>
    refine ⟨fun h => absurd h (fun h => by have h : some st = none := h; injection h), fun st' h => ?_⟩
    have h : some st = some st' := h
    rw [← Option.some.inj h]
    have hp : p ≤ 840 := by have : p + 0 ≤ 840 := hp; omega
    obtain ⟨f, rfl⟩ : ∃ f', f = f' + 1 := ⟨f - 1, by omega⟩
    refine ⟨s, hk, fun _ _ => rfl, ?_, ?_⟩
    · show f_X12_termOf_5 fu (f + 1) (nI p) _ (nI p) s l = _
      unfold f_X12_termOf_5
      simp (disch := omega) only [ln_, leT, ar_t, ar_f, it_t, it_f, true_and, and_true, not_true_eq_false, not_false_eq_true, implies_true, and_self, eq_self, nI_clamp]
    · show p_X12_termOf_5 fu (f + 1) (nI p) _ (nI p) s l
      unfold p_X12_termOf_5
      simp (disch := omega) only [ln_, leT, ar_t, ar_f, it_t, it_f, true_and, and_true, not_true_eq_false, not_false_eq_true, implies_true, and_self, eq_self, nI_clamp]
  | cons x C ih =>
    obtain ⟨⟨k8, k9⟩, kc⟩ := rds_c.mp hc
    have hp : p + (C.length + 1) ≤ 840 := hp
    obtain ⟨f, rfl⟩ : ∃ f', f = f' + 1 := ⟨f - 1, by omega⟩
    have step : ∀ (st1 : List Int32) (s1 : fl_I), (∀ q, q ≠ 93 → s1 q = s q) → rnC (x :: C) (s 92) st = rnC C (s 92) st1 → wfC C st1.length D h' → st1.length ≤ D → stk (s1 93) st1 → (f_X12_termOf_5 fu (f + 1) (nI (p + (C.length + 1))) (nI st.length) (nI p) s l = f_X12_termOf_5 fu f (nI (p + (C.length + 1))) (nI st1.length) (nI (p + 1)) s1 l ∧ (p_X12_termOf_5 fu f (nI (p + (C.length + 1))) (nI st1.length) (nI (p + 1)) s1 l → p_X12_termOf_5 fu (f + 1) (nI (p + (C.length + 1))) (nI st.length) (nI p) s l)) →
        (rnC (x :: C) (s 92) st = none → ∃ s', f_X12_termOf_5 fu (f + 1) (nI (p + (C.length + 1))) (nI st.length) (nI p) s l = (nI 0, s', l) ∧ p_X12_termOf_5 fu (f + 1) (nI (p + (C.length + 1))) (nI st.length) (nI p) s l ∧ s' 60 49 = nI 1 ∧ rB s s') ∧
        ∀ st', rnC (x :: C) (s 92) st = some st' → ∃ s', stk (s' 93) st' ∧ (∀ q, q ≠ 93 → s' q = s q) ∧ f_X12_termOf_5 fu (f + 1) (nI (p + (C.length + 1))) (nI st.length) (nI p) s l = (s' 93 0, s', l) ∧ p_X12_termOf_5 fu (f + 1) (nI (p + (C.length + 1))) (nI st.length) (nI p) s l := by
      intro st1 s1 fr e hw1 hs1 hk1 he
      have g92 : s1 92 = s 92 := fr 92 (by omega)
      have kc1 : rds s1 (p + 1) C := by unfold rds; rw [fr 89 (by omega), fr 90 (by omega)]; exact kc
      obtain ⟨i1, i2⟩ := ih (st := st1) (s := s1) (p := p + 1) (f := f) hw1 hs1 kc1 hk1 (by omega) (by omega)
      rw [g92, show p + 1 + C.length = p + (C.length + 1) from by omega] at i1 i2
      rw [e]
      refine ⟨fun h => ?_, fun st' h => ?_⟩
      · obtain ⟨s', a1, a2, a3, a4⟩ := i1 h
        exact ⟨s', he.1.trans a1, he.2 a2, a3, fun q x y => (a4.1 q x y).trans (fr q x), fun j hj => (a4.2 j hj).trans (by rw [fr 60 (by omega)])⟩
      · obtain ⟨s', a1, a2, a3, a4⟩ := i2 st' h
        exact ⟨s', a1, fun q hq => (a2 q hq).trans (fr q hq), he.1.trans a3, he.2 a4⟩
    rcases hw with ⟨w1, w2, w3⟩ | ⟨w1, w2, w3⟩
    · rcases w1 with w1 | w1
      · refine step (nI x :: st) (wi s 93 st.length (nI x)) (fun q hq => wi_c hq) (rn_i w1) w3 w2 (by rw [wi_u]; exact stk_pu hk rfl) (rv_i (by omega) (by omega) (by omega) ?_ ?_)
        · rw [k8]; unfold rI; rw [if_pos w1]
        · rw [k9]; unfold rJ; rw [if_pos w1]
      · refine step (s 92 (x - 30000) :: st) (wi s 93 st.length (s 92 (x - 30000))) (fun q hq => wi_c hq) (rn_v w1.1) w3 w2 (by rw [wi_u]; exact stk_pu hk rfl) (rv_v (by omega) (by omega) (by omega) ?_ ?_ (by omega))
        · rw [k8]; unfold rI; rw [if_neg (by omega), if_neg (by omega), if_neg (by omega), if_neg (by omega), if_neg (by omega)]
        · rw [k9]; unfold rJ; rw [if_neg (by omega), if_neg (by omega)]
    · obtain ⟨v, u, st2, rfl⟩ := st_2 w2
      obtain ⟨k1, k2, k3⟩ := hk
      have hl : st2.length + 2 ≤ D := hS
      by_cases e : x = 20047 ∧ v = nI 0
      · have hr : rnC (x :: C) (s 92) (v :: u :: st2) = none := by rw [rn_o (by omega) (by omega), if_pos e]
        rw [hr]
        obtain ⟨z1, z2⟩ := rv_z (fu := fu) (f := f) (l := l) (s := s) (p := p) (e := p + (C.length + 1)) (m := st2.length) (by omega) (by omega) (by omega) (by rw [k8, e.1]; rfl) (by rw [← e.2]; exact k1)
        exact ⟨fun _ => ⟨_, z1, z2, by rw [wi_u, upd_s], fun q _ hq => wi_c hq, fun j hj => by rw [wi_u, upd_n hj]⟩, fun st' h => absurd h (fun h => by injection h)⟩
      · refine step (jn x u v :: st2) (wi s 93 st2.length (jn x u v)) (fun q hq => wi_c hq) (by rw [rn_o (by omega) (by omega), if_neg e]) w3 (by show st2.length + 1 ≤ D; omega) (by rw [wi_u]; exact stk_pu k3 rfl) (rv_o (by omega) (by omega) (by omega) k8 w1 k1 k2 e)
/-- a term -/
theorem r_termG (hfu : 20000 ≤ fu) (g : gdC C) (hc : rds s p C) (hp : p + C.length ≤ 840) :
    (vl C (s 92) = none → ∃ s', f_X12_termOf fu (nI p) (nI (p + C.length)) s l = (nI 0, s', l) ∧ p_X12_termOf fu (nI p) (nI (p + C.length)) s l ∧ s' 60 49 = nI 1 ∧ rB s s') ∧
    ∀ x, vl C (s 92) = some x → ∃ s', f_X12_termOf fu (nI p) (nI (p + C.length)) s l = (x, s', l) ∧ p_X12_termOf fu (nI p) (nI (p + C.length)) s l ∧ s' 60 49 = s 60 49 ∧ rB s s' := by
  obtain ⟨r1, r2⟩ := r_runC (fu := fu) (l := l) (f := fu) (st := []) (g 0) (by show 0 ≤ 15; omega) (by omega) hc trivial hp (by omega)
  rw [vl_st g] at r1 r2
  refine ⟨fun h => ?_, fun x h => ?_⟩
  · rw [h] at r1; exact r1 rfl
  · rw [h] at r2
    obtain ⟨s', a1, a2, a3, a4⟩ := r2 _ rfl
    refine ⟨s', ?_, a4, by rw [a2 60 (by omega)], fun q hq _ => a2 q hq, fun j _ => by rw [a2 60 (by omega)]⟩
    rw [← a1.1]; exact a3
end rev
