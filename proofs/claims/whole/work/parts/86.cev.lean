/-! The class goes through a law's code -/
def stk (A : Nat → Int32) : List Int32 → Prop
  | [] => True
  | x :: st => A st.length = x ∧ stk A st
def cds (K : Nat → Int32) (p : Nat) (C : List Nat) : Prop := ∀ i, i < C.length → K (p + i) = cI (C.getD i 0)
/-- a program in the class's code: from p on, its end behind q -/
def cPr (K : Nat → Int32) : Nat → Pg → List Nat → Nat → Prop
  | p, [], D, q => cds K p D ∧ K (p + D.length) = -nI 6 ∧ q = p + D.length + 1
  | p, b :: bs, D, q => cds K p b.1 ∧ cds K (p + b.1.length) b.2.1 ∧ K (p + b.1.length + b.2.1.length) = -nI 5 ∧ K (p + b.1.length + b.2.1.length + 1) = nI (p + b.1.length + b.2.1.length + 2 + b.2.2.length + 1) ∧ cds K (p + b.1.length + b.2.1.length + 2) b.2.2 ∧ K (p + b.1.length + b.2.1.length + 2 + b.2.2.length) = -nI 6 ∧ cPr K (p + b.1.length + b.2.1.length + 2 + b.2.2.length + 1) bs D q
section cev
variable {fu t f p q n h a b c i j x m D h' : Nat} {s s1 : fl_I} {l : fl_L} {A K K' : Nat → Int32} {st st' : List Int32} {C C1 C2 : List Nat} {u v : Int32} {bs : Pg}
theorem nnlT (h : b < a) (ha : a < 2 ^ 31) (hb : b < 2 ^ 31) : (-nI a < -nI b) = True := eq_true (by rw [Int32.lt_iff_toInt_lt, ni_N ha, ni_N hb]; omega)
theorem nnlF (h : a ≤ b) (ha : a < 2 ^ 31) (hb : b < 2 ^ 31) : (-nI a < -nI b) = False := eq_false (by rw [Int32.lt_iff_toInt_lt, ni_N ha, ni_N hb]; omega)
theorem stk_up (g : stk A st) (hj : st.length ≤ j) : stk (upd A j v) st := by
  induction st with
  | nil => trivial
  | cons x st ih =>
    have hj : st.length + 1 ≤ j := hj
    exact ⟨by rw [upd_n (by omega)]; exact g.1, ih g.2 (by omega)⟩
theorem stk_pu (g : stk A st) (hj : st.length = j) : stk (upd A j v) (v :: st) := ⟨by rw [hj, upd_s], stk_up g (by omega)⟩
theorem cds_c : cds K p (x :: C) ↔ K p = cI x ∧ cds K (p + 1) C := by
  constructor
  · intro g
    refine ⟨g 0 (by show 0 < C.length + 1; omega), fun i hi => ?_⟩
    have := g (i + 1) (by show i + 1 < C.length + 1; omega)
    rw [show p + 1 + i = p + (i + 1) from by omega]; exact this
  · rintro ⟨g1, g2⟩ i hi
    cases i with
    | zero => exact g1
    | succ i =>
      have := g2 i (by have : i + 1 < C.length + 1 := hi; omega)
      rw [show p + (i + 1) = p + 1 + i from by omega]; exact this
/-- one entry that is put on the stack -/
theorem cv_i (hp : p < 408) (hn : n < 408) (hh : h < 32) (h9 : s (t + 9) p = nI x) (hx : x < 20000) : f_X1_value_19 fu (f + 1) (nI p) (nI h) (nI n) t s l = f_X1_value_19 fu f (nI (p + 1)) (nI (h + 1)) (nI (n + 1)) t (wi s 49 h (nI x)) l ∧ (p_X1_value_19 fu f (nI (p + 1)) (nI (h + 1)) (nI (n + 1)) t (wi s 49 h (nI x)) l → p_X1_value_19 fu (f + 1) (nI p) (nI h) (nI n) t s l) := by
  constructor
  · conv => lhs; unfold f_X1_value_19
    unfold f_X1_value_241
    simp (disch := omega) only [ln_, leT, leF, ltT, ltF, eqT, eqF, vpT, nlT, nleT, lnF, lenF, eqnF, neqF, nnF, nI_add, pk_mul, pk_div, pk_sub, ni_m, nI_clamp, md10, dm10, gI_l, gI_n, ar_t, ar_f, it_t, it_f, true_and, and_true, not_true_eq_false, not_false_eq_true, implies_true, and_self, eq_self, h9]
  · intro g
    unfold p_X1_value_19 p_X1_value_241
    simp (disch := omega) only [ln_, leT, leF, ltT, ltF, eqT, eqF, vpT, nlT, nleT, lnF, lenF, eqnF, neqF, nnF, nI_add, pk_mul, pk_div, pk_sub, ni_m, nI_clamp, md10, dm10, gI_l, gI_n, ar_t, ar_f, it_t, it_f, true_and, and_true, not_true_eq_false, not_false_eq_true, implies_true, and_self, eq_self, h9]; exact g
theorem cv_v (hp : p < 408) (hn : n < 408) (hh : h < 32) (h9 : s (t + 9) p = -nI (7 + j)) (hx : j < 9) : f_X1_value_19 fu (f + 1) (nI p) (nI h) (nI n) t s l = f_X1_value_19 fu f (nI (p + 1)) (nI (h + 1)) (nI (n + 1)) t (wi s 49 h (s 48 j)) l ∧ (p_X1_value_19 fu f (nI (p + 1)) (nI (h + 1)) (nI (n + 1)) t (wi s 49 h (s 48 j)) l → p_X1_value_19 fu (f + 1) (nI p) (nI h) (nI n) t s l) := by
  have e0 : -nI 7 - -nI (7 + j) = nI j := by rw [Int32.sub_eq_add_neg, Int32.neg_neg, Int32.add_comm, ni_m (by omega), Nat.add_sub_cancel_left]
  have e1 : f_X1_varOf fu (-nI (7 + j)) s l = s 48 j := by
    unfold f_X1_varOf
    simp (disch := omega) only [ln_, e0, ltF, leF, ar_t, ar_f, it_t, it_f, true_and, and_true, not_true_eq_false, not_false_eq_true, implies_true, and_self, eq_self, nI_clamp]
  have e2 : p_X1_varOf fu (-nI (7 + j)) s l := by
    unfold p_X1_varOf
    simp (disch := omega) only [ln_, e0, ltF, leF, vpT, ar_t, ar_f, it_t, it_f, true_and, and_true, not_true_eq_false, not_false_eq_true, implies_true, and_self, eq_self, nI_clamp]
  constructor
  · conv => lhs; unfold f_X1_value_19
    unfold f_X1_value_241
    simp (disch := omega) only [ln_, leT, leF, ltT, ltF, eqT, eqF, vpT, nlT, nleT, lnF, lenF, eqnF, neqF, nnF, nI_add, pk_mul, pk_div, pk_sub, ni_m, nI_clamp, md10, dm10, gI_l, gI_n, ar_t, ar_f, it_t, it_f, true_and, and_true, not_true_eq_false, not_false_eq_true, implies_true, and_self, eq_self, h9, nnlF, e1]
  · intro g
    unfold p_X1_value_19 p_X1_value_241
    simp (disch := omega) only [ln_, leT, leF, ltT, ltF, eqT, eqF, vpT, nlT, nleT, lnF, lenF, eqnF, neqF, nnF, nI_add, pk_mul, pk_div, pk_sub, ni_m, nI_clamp, md10, dm10, gI_l, gI_n, ar_t, ar_f, it_t, it_f, true_and, and_true, not_true_eq_false, not_false_eq_true, implies_true, and_self, eq_self, h9, nnlF, e1, e2]; exact g
theorem jn_n (hx : x = 20043 ∨ x = 20045 ∨ x = 20042 ∨ x = 20047) (hz : ¬ (x = 20047 ∧ v = nI 0)) : f_X1_joined fu (cI x) u v = jn x u v ∧ p_X1_joined fu (cI x) u v := by
  unfold f_X1_joined p_X1_joined cI jn
  rcases hx with rfl | rfl | rfl | rfl
  · simp (disch := omega) only [ln_, nnF, ar_t, ar_f, it_t, it_f, true_and, and_true, not_true_eq_false, not_false_eq_true, implies_true, and_self, eq_self, if_true, if_false, Nat.reduceLT, Nat.reduceEqDiff]
  · simp (disch := omega) only [ln_, nnF, ar_t, ar_f, it_t, it_f, true_and, and_true, not_true_eq_false, not_false_eq_true, implies_true, and_self, eq_self, if_true, if_false, Nat.reduceLT, Nat.reduceEqDiff]
  · simp (disch := omega) only [ln_, nnF, ar_t, ar_f, it_t, it_f, true_and, and_true, not_true_eq_false, not_false_eq_true, implies_true, and_self, eq_self, if_true, if_false, Nat.reduceLT, Nat.reduceEqDiff]
  · have hz : ¬ v = nI 0 := fun e => hz ⟨rfl, e⟩
    simp (disch := omega) only [ln_, nnF, ar_t, ar_f, it_t, it_f, true_and, and_true, not_true_eq_false, not_false_eq_true, implies_true, and_self, eq_self, if_true, if_false, Nat.reduceLT, Nat.reduceEqDiff, hz]
theorem cI_o (hx : x = 20043 ∨ x = 20045 ∨ x = 20042 ∨ x = 20047) : ∃ c, 1 ≤ c ∧ c ≤ 4 ∧ cI x = -nI c ∧ (c = 4 ↔ x = 20047) := by
  unfold cI
  rcases hx with rfl | rfl | rfl | rfl
  · exact ⟨1, by omega, by omega, rfl, by omega⟩
  · exact ⟨2, by omega, by omega, rfl, by omega⟩
  · exact ⟨3, by omega, by omega, rfl, by omega⟩
  · exact ⟨4, by omega, by omega, rfl, by omega⟩
theorem hm2 : nI (m + 2) + -nI 1 = nI (m + 1) := by rw [ni_m (by omega)]; rfl
theorem hm1 : nI (m + 1) - nI 1 = nI m := by rw [pk_sub (by omega)]; rfl
theorem hm3 : nI (m + 2) - nI 1 = nI (m + 1) := by rw [pk_sub (by omega)]; rfl
theorem hm4 : nI (m + 2) + -nI 2 = nI m := by rw [ni_m (by omega)]; rfl
/-- a sign -/
theorem cv_o (hp : p + 1 < 408) (hn : n < 408) (hh : m + 2 < 32) (h9 : s (t + 9) p = cI x) (hx : x = 20043 ∨ x = 20045 ∨ x = 20042 ∨ x = 20047) (h1 : s 49 (m + 1) = v) (h0 : s 49 m = u) (hz : ¬ (x = 20047 ∧ v = nI 0)) : f_X1_value_19 fu (f + 1) (nI p) (nI (m + 2)) (nI n) t s l = f_X1_value_19 fu f (nI (p + 1)) (nI (m + 1)) (nI (n + 1)) t (wi s 49 m (jn x u v)) l ∧ (p_X1_value_19 fu f (nI (p + 1)) (nI (m + 1)) (nI (n + 1)) t (wi s 49 m (jn x u v)) l → p_X1_value_19 fu (f + 1) (nI p) (nI (m + 2)) (nI n) t s l) := by
  obtain ⟨c, c1, c2, c3, c4⟩ := cI_o hx
  obtain ⟨j1, j2⟩ := jn_n (fu := fu) (u := u) hx hz
  rw [c3] at h9 j1 j2
  have hz' : c = 4 → ¬ v = nI 0 := fun e => fun e2 => hz ⟨c4.mp e, e2⟩
  have key : f_X1_value_163 fu (fun x4 x5 x6 s l => f_X1_value_19 fu f x4 x5 x6 t s l) (nI (p + 1)) (nI (m + 2)) (nI n) (-nI c) t s l = f_X1_value_19 fu f (nI (p + 1)) (nI (m + 1)) (nI (n + 1)) t (wi s 49 m (jn x u v)) l := by
    unfold f_X1_value_163 f_X1_value_241
    simp (disch := omega) only [ln_, nnF, ar_t, ar_f, it_t, it_f, true_and, and_true, not_true_eq_false, not_false_eq_true, implies_true, and_self, eq_self, hm2, hm1, nI_clamp, h1, h0, j1, nI_add]
  have keyp : p_X1_value_19 fu f (nI (p + 1)) (nI (m + 1)) (nI (n + 1)) t (wi s 49 m (jn x u v)) l → p_X1_value_163 fu (fun x4 x5 x6 s l => p_X1_value_19 fu f x4 x5 x6 t s l) (nI (p + 1)) (nI (m + 2)) (nI n) (-nI c) t s l := by
    intro g
    unfold p_X1_value_163 p_X1_value_241
    simp (disch := omega) only [ln_, nnF, ar_t, ar_f, it_t, it_f, true_and, and_true, not_true_eq_false, not_false_eq_true, implies_true, and_self, eq_self, hm2, hm1, nI_clamp, h1, h0, j1, j2, nI_add, vpT]
    exact g
  constructor
  · conv => lhs; unfold f_X1_value_19
    by_cases e : c = 4
    · have hz' := hz' e
      simp (disch := omega) only [ln_, leF, ltF, nlT, nnlT, nnF, eqT, ar_t, ar_f, it_t, it_f, true_and, and_true, not_true_eq_false, not_false_eq_true, implies_true, and_self, eq_self, h9, hm3, nI_clamp, nI_add, h1, hz', key, e]
      rw [← e]; exact key
    · simp (disch := omega) only [ln_, leF, ltF, nlT, nnlT, nnF, ar_t, ar_f, it_t, it_f, true_and, and_true, not_true_eq_false, not_false_eq_true, implies_true, and_self, eq_self, h9, hm3, nI_clamp, nI_add, h1, key]
  · intro g
    have g := keyp g
    unfold p_X1_value_19
    by_cases e : c = 4
    · have hz' := hz' e
      rw [e] at h9 g
      simp (disch := omega) only [ln_, leF, ltF, nlT, nnlT, nnF, vpT, ar_t, ar_f, it_t, it_f, true_and, and_true, not_true_eq_false, not_false_eq_true, implies_true, and_self, eq_self, h9, hm3, nI_clamp, nI_add, h1, hz']
      exact g
    · simp (disch := omega) only [ln_, leF, ltF, nlT, nnlT, nnF, vpT, ar_t, ar_f, it_t, it_f, true_and, and_true, not_true_eq_false, not_false_eq_true, implies_true, and_self, eq_self, h9, hm3, nI_clamp, nI_add, h1]
      exact g
/-- a division by 0 -/
theorem cv_z (hp : p + 1 < 408) (hn : n < 408) (hh : m + 2 < 32) (h9 : s (t + 9) p = -nI 4) (h1 : s 49 (m + 1) = nI 0) : f_X1_value_19 fu (f + 1) (nI p) (nI (m + 2)) (nI n) t s l = (nI 0, s, l) ∧ p_X1_value_19 fu (f + 1) (nI p) (nI (m + 2)) (nI n) t s l := by
  constructor
  · unfold f_X1_value_19
    simp (disch := omega) only [ln_, leF, ltF, nlT, nnlT, nnF, ar_t, ar_f, it_t, it_f, true_and, and_true, not_true_eq_false, not_false_eq_true, implies_true, and_self, eq_self, h9, hm3, nI_clamp, nI_add, h1, f_X1_value_161]
  · unfold p_X1_value_19
    simp (disch := omega) only [ln_, leF, ltF, nlT, nnlT, nnF, vpT, ar_t, ar_f, it_t, it_f, true_and, and_true, not_true_eq_false, not_false_eq_true, implies_true, and_self, eq_self, h9, hm3, nI_clamp, nI_add, h1, p_X1_value_161]
/-- held against each other -/
theorem cv_u (hp : p + 1 < 408) (hn : n < 408) (hh : m + 2 < 32) (h9 : s (t + 9) p = -nI 5) (h9' : s (t + 9) (p + 1) = nI q) (h1 : s 49 (m + 1) = v) (h0 : s 49 m = u) : f_X1_value_19 fu (f + 1) (nI p) (nI (m + 2)) (nI n) t s l = f_X1_value_19 fu f (if u < v then nI (p + 2) else nI q) (nI m) (nI (n + 1)) t s l ∧ (p_X1_value_19 fu f (if u < v then nI (p + 2) else nI q) (nI m) (nI (n + 1)) t s l → p_X1_value_19 fu (f + 1) (nI p) (nI (m + 2)) (nI n) t s l) := by
  have c0 : (v ≤ u) = ¬ (u < v) := propext ⟨fun h1 h2 => Int32.lt_irrefl (Int32.lt_of_lt_of_le h2 h1), fun h => Int32.not_lt.mp h⟩
  constructor
  · conv => lhs; unfold f_X1_value_19
    unfold f_X1_value_163 f_X1_value_241
    by_cases e : u < v
    · simp (disch := omega) only [ln_, leF, ltF, nlT, nnlT, nnF, ar_t, ar_f, it_t, it_f, true_and, and_true, not_true_eq_false, not_false_eq_true, implies_true, and_self, eq_self, h9, h9', hm3, hm4, nI_clamp, nI_add, h1, h0, c0, e]
    · simp (disch := omega) only [ln_, leF, ltF, nlT, nnlT, nnF, ar_t, ar_f, it_t, it_f, true_and, and_true, not_true_eq_false, not_false_eq_true, implies_true, and_self, eq_self, h9, h9', hm3, hm4, nI_clamp, nI_add, h1, h0, c0, e]
  · intro g
    unfold p_X1_value_19 p_X1_value_163 p_X1_value_241
    by_cases e : u < v
    · rw [if_pos e] at g
      simp (disch := omega) only [ln_, leF, ltF, nlT, nnlT, nnF, vpT, ar_t, ar_f, it_t, it_f, true_and, and_true, not_true_eq_false, not_false_eq_true, implies_true, and_self, eq_self, h9, h9', hm3, hm4, nI_clamp, nI_add, h1, h0, c0, e]
      exact g
    · rw [if_neg e] at g
      simp (disch := omega) only [ln_, leF, ltF, nlT, nnlT, nnF, vpT, ar_t, ar_f, it_t, it_f, true_and, and_true, not_true_eq_false, not_false_eq_true, implies_true, and_self, eq_self, h9, h9', hm3, hm4, nI_clamp, nI_add, h1, h0, c0, e]
      exact g
/-- told -/
theorem cv_a (hp : p < 408) (hn : n < 408) (hh : m + 1 < 32) (h9 : s (t + 9) p = -nI 6) : f_X1_value_19 fu (f + 1) (nI p) (nI (m + 1)) (nI n) t s l = (s 49 m, s, l) ∧ p_X1_value_19 fu (f + 1) (nI p) (nI (m + 1)) (nI n) t s l := by
  constructor
  · unfold f_X1_value_19
    simp (disch := omega) only [ln_, leF, ltF, nlT, nnlT, ar_t, ar_f, it_t, it_f, true_and, and_true, not_true_eq_false, not_false_eq_true, implies_true, and_self, eq_self, h9, hm1, nI_clamp]
  · unfold p_X1_value_19
    simp (disch := omega) only [ln_, leF, ltF, nlT, nnlT, vpT, ar_t, ar_f, it_t, it_f, true_and, and_true, not_true_eq_false, not_false_eq_true, implies_true, and_self, eq_self, h9, hm1, nI_clamp]
/-- code without tests -/
theorem c_runC (hw : wfC C st.length D h') (hS : st.length ≤ D) (hD : D < 32) (hc : cds (s (t + 9)) p C) (hk : stk (s 49) st) (hp : p + C.length < 408) (hf : 409 ≤ f + p) (hn : n ≤ p) (ht : t + 9 ≠ 49) :
    (rnC C (s 48) st = none → ∃ s', f_X1_value_19 fu f (nI p) (nI st.length) (nI n) t s l = (nI 0, s', l) ∧ p_X1_value_19 fu f (nI p) (nI st.length) (nI n) t s l ∧ ∀ q, q ≠ 49 → s' q = s q) ∧
    ∀ st', rnC C (s 48) st = some st' → ∃ f' n' s', 409 ≤ f' + (p + C.length) ∧ n' ≤ p + C.length ∧ stk (s' 49) st' ∧ (∀ q, q ≠ 49 → s' q = s q) ∧ f_X1_value_19 fu f (nI p) (nI st.length) (nI n) t s l = f_X1_value_19 fu f' (nI (p + C.length)) (nI st'.length) (nI n') t s' l ∧ (p_X1_value_19 fu f' (nI (p + C.length)) (nI st'.length) (nI n') t s' l → p_X1_value_19 fu f (nI p) (nI st.length) (nI n) t s l) := by
  induction C generalizing st s p f n with
  | nil =>
    refine ⟨fun h => absurd h (fun h => by have h : some st = none := h; injection h), fun st' h => ?_⟩
    have h : some st = some st' := h
    rw [← Option.some.inj h]
    exact ⟨f, n, s, hf, hn, hk, fun _ _ => rfl, rfl, fun h => h⟩
  | cons x C ih =>
    obtain ⟨k0, kc⟩ := cds_c.mp hc
    have hp : p + (C.length + 1) < 408 := hp
    obtain ⟨f, rfl⟩ : ∃ f', f = f' + 1 := ⟨f - 1, by omega⟩
    have step : ∀ (st1 : List Int32) (s1 : fl_I), (∀ q, q ≠ 49 → s1 q = s q) → rnC (x :: C) (s 48) st = rnC C (s 48) st1 → wfC C st1.length D h' → st1.length ≤ D → stk (s1 49) st1 → (f_X1_value_19 fu (f + 1) (nI p) (nI st.length) (nI n) t s l = f_X1_value_19 fu f (nI (p + 1)) (nI st1.length) (nI (n + 1)) t s1 l ∧ (p_X1_value_19 fu f (nI (p + 1)) (nI st1.length) (nI (n + 1)) t s1 l → p_X1_value_19 fu (f + 1) (nI p) (nI st.length) (nI n) t s l)) →
        (rnC (x :: C) (s 48) st = none → ∃ s', f_X1_value_19 fu (f + 1) (nI p) (nI st.length) (nI n) t s l = (nI 0, s', l) ∧ p_X1_value_19 fu (f + 1) (nI p) (nI st.length) (nI n) t s l ∧ ∀ q, q ≠ 49 → s' q = s q) ∧
        ∀ st', rnC (x :: C) (s 48) st = some st' → ∃ f' n' s', 409 ≤ f' + (p + (C.length + 1)) ∧ n' ≤ p + (C.length + 1) ∧ stk (s' 49) st' ∧ (∀ q, q ≠ 49 → s' q = s q) ∧ f_X1_value_19 fu (f + 1) (nI p) (nI st.length) (nI n) t s l = f_X1_value_19 fu f' (nI (p + (C.length + 1))) (nI st'.length) (nI n') t s' l ∧ (p_X1_value_19 fu f' (nI (p + (C.length + 1))) (nI st'.length) (nI n') t s' l → p_X1_value_19 fu (f + 1) (nI p) (nI st.length) (nI n) t s l) := by
      intro st1 s1 fr e hw1 hs1 hk1 he
      have g48 : s1 48 = s 48 := fr 48 (by omega)
      obtain ⟨i1, i2⟩ := ih (st := st1) (s := s1) (p := p + 1) (f := f) (n := n + 1) hw1 hs1 (by rw [fr (t + 9) ht]; exact kc) hk1 (by omega) (by omega) (by omega)
      rw [g48] at i1 i2
      rw [e]
      refine ⟨fun h => ?_, fun st' h => ?_⟩
      · obtain ⟨s', a1, a2, a3⟩ := i1 h
        exact ⟨s', he.1.trans a1, he.2 a2, fun q hq => (a3 q hq).trans (fr q hq)⟩
      · obtain ⟨f', n', s', a1, a2, a3, a4, a5, a6⟩ := i2 st' h
        rw [show p + 1 + C.length = p + (C.length + 1) from by omega] at a1 a2 a5 a6
        exact ⟨f', n', s', a1, a2, a3, fun q hq => (a4 q hq).trans (fr q hq), he.1.trans a5, fun hp => he.2 (a6 hp)⟩
    rcases hw with ⟨w1, w2, w3⟩ | ⟨w1, w2, w3⟩
    · rcases w1 with w1 | w1
      · refine step (nI x :: st) (wi s 49 st.length (nI x)) (fun q hq => wi_c hq) (rn_i w1) w3 w2 (by rw [wi_u]; exact stk_pu hk rfl) (cv_i (by omega) (by omega) (by omega) ?_ w1)
        rw [k0]; unfold cI; rw [if_pos w1]
      · refine step (s 48 (x - 30000) :: st) (wi s 49 st.length (s 48 (x - 30000))) (fun q hq => wi_c hq) (rn_v w1.1) w3 w2 (by rw [wi_u]; exact stk_pu hk rfl) (cv_v (by omega) (by omega) (by omega) ?_ (by omega))
        rw [k0]; unfold cI; rw [if_neg (by omega), if_neg (by omega), if_neg (by omega), if_neg (by omega), if_neg (by omega)]
    · obtain ⟨v, u, st2, rfl⟩ := st_2 w2
      obtain ⟨k1, k2, k3⟩ := hk
      have hl : st2.length + 2 ≤ D := hS
      by_cases e : x = 20047 ∧ v = nI 0
      · have hr : rnC (x :: C) (s 48) (v :: u :: st2) = none := by rw [rn_o (by omega) (by omega), if_pos e]
        rw [hr]
        obtain ⟨z1, z2⟩ := cv_z (fu := fu) (f := f) (t := t) (l := l) (s := s) (n := n) (p := p) (m := st2.length) (by omega) (by omega) (by omega) (by rw [k0, e.1]; rfl) (by rw [← e.2]; exact k1)
        exact ⟨fun _ => ⟨s, z1, z2, fun _ _ => rfl⟩, fun st' h => absurd h (fun h => by injection h)⟩
      · refine step (jn x u v :: st2) (wi s 49 st2.length (jn x u v)) (fun q hq => wi_c hq) (by rw [rn_o (by omega) (by omega), if_neg e]) w3 (by show st2.length + 1 ≤ D; omega) (by rw [wi_u]; exact stk_pu k3 rfl) (cv_o (by omega) (by omega) (by omega) k0 w1 k1 k2 e)
end cev
section cev2
variable {fu t f p q n h a b c i j x m D h' : Nat} {s s1 : fl_I} {l : fl_L} {A K K' : Nat → Int32} {st st' : List Int32} {C C1 C2 Dl : List Nat} {u v : Int32} {bs : Pg}
/-- code for one value -/
theorem c_runG (g : gdC C) (hS : st.length + 15 < 32) (hc : cds (s (t + 9)) p C) (hk : stk (s 49) st) (hp : p + C.length < 408) (hf : 409 ≤ f + p) (hn : n ≤ p) (ht : t + 9 ≠ 49) :
    (vl C (s 48) = none → ∃ s', f_X1_value_19 fu f (nI p) (nI st.length) (nI n) t s l = (nI 0, s', l) ∧ p_X1_value_19 fu f (nI p) (nI st.length) (nI n) t s l ∧ ∀ q, q ≠ 49 → s' q = s q) ∧
    ∀ x, vl C (s 48) = some x → ∃ f' n' s', 409 ≤ f' + (p + C.length) ∧ n' ≤ p + C.length ∧ stk (s' 49) (x :: st) ∧ (∀ q, q ≠ 49 → s' q = s q) ∧ f_X1_value_19 fu f (nI p) (nI st.length) (nI n) t s l = f_X1_value_19 fu f' (nI (p + C.length)) (nI (st.length + 1)) (nI n') t s' l ∧ (p_X1_value_19 fu f' (nI (p + C.length)) (nI (st.length + 1)) (nI n') t s' l → p_X1_value_19 fu f (nI p) (nI st.length) (nI n) t s l) := by
  obtain ⟨r1, r2⟩ := c_runC (fu := fu) (l := l) (g st.length) (by omega) hS hc hk hp hf hn ht
  rw [vl_st g] at r1 r2
  refine ⟨fun h => ?_, fun x h => ?_⟩
  · rw [h] at r1; exact r1 rfl
  · rw [h] at r2; exact r2 _ rfl
theorem cPr_q (g : cPr K p bs Dl q) : p < q := by
  induction bs generalizing p with
  | nil => have := g.2.2; omega
  | cons b bs ih => have := ih g.2.2.2.2.2.2; omega
theorem c_evP (g : gdP bs Dl) (hc : cPr (s (t + 9)) p bs Dl q) (hq : q ≤ 408) (hf : 409 ≤ f + p) (hn : n ≤ p) (ht : t + 9 ≠ 49) : ∃ s', f_X1_value_19 fu f (nI p) (nI 0) (nI n) t s l = (evP bs Dl (s 48), s', l) ∧ p_X1_value_19 fu f (nI p) (nI 0) (nI n) t s l ∧ ∀ q, q ≠ 49 → s' q = s q := by
  induction bs generalizing s p f n with
  | nil =>
    obtain ⟨c1, c2, c3⟩ := hc
    obtain ⟨r1, r2⟩ := c_runG (fu := fu) (l := l) (st := []) g (by show 0 + 15 < 32; omega) c1 trivial (by omega) hf hn ht
    show ∃ s', _ = ((vl Dl (s 48)).getD (nI 0), s', l) ∧ _
    cases e : vl Dl (s 48) with
    | none => exact r1 e
    | some x =>
      obtain ⟨f', n', s', a1, a2, a3, a4, a5, a6⟩ := r2 x e
      obtain ⟨f', rfl⟩ : ∃ f2, f' = f2 + 1 := ⟨f' - 1, by omega⟩
      obtain ⟨b1, b2⟩ := cv_a (fu := fu) (f := f') (l := l) (m := 0) (n := n') (p := p + Dl.length) (t := t) (s := s') (by omega) (by omega) (by omega) (by rw [a4 (t + 9) ht]; exact c2)
      refine ⟨s', (a5.trans b1).trans ?_, a6 b2, a4⟩
      have a0 : s' 49 0 = x := a3.1
      rw [a0]; rfl
  | cons b bs ih =>
    obtain ⟨g1, g2, g3, g4⟩ := g
    obtain ⟨c1, c2, c3, c4, c5, c6, c7⟩ := hc
    have hq2 := cPr_q c7
    obtain ⟨r1, r2⟩ := c_runG (fu := fu) (l := l) (st := []) g1 (by show 0 + 15 < 32; omega) c1 trivial (by omega) hf hn ht
    cases e1 : vl b.1 (s 48) with
    | none =>
      obtain ⟨s', a1, a2, a3⟩ := r1 e1
      refine ⟨s', a1.trans ?_, a2, a3⟩
      unfold evP; rw [e1]
    | some x =>
      obtain ⟨f1, n1, s1, a1, a2, a3, a4, a5, a6⟩ := r2 x e1
      obtain ⟨q1, q2⟩ := c_runG (fu := fu) (l := l) (s := s1) (st := [x]) g2 (by show 1 + 15 < 32; omega) (by rw [a4 (t + 9) ht]; exact c2) a3 (by omega) a1 a2 ht
      rw [a4 48 (by omega)] at q1 q2
      cases e2 : vl b.2.1 (s 48) with
      | none =>
        obtain ⟨s', b1, b2, b3⟩ := q1 e2
        refine ⟨s', (a5.trans b1).trans ?_, a6 b2, fun q hq => (b3 q hq).trans (a4 q hq)⟩
        unfold evP; rw [e1, e2]
      | some y =>
        obtain ⟨f2, n2, s2, b1, b2, b3, b4, b5, b6⟩ := q2 y e2
        obtain ⟨f2, rfl⟩ : ∃ f3, f2 = f3 + 1 := ⟨f2 - 1, by omega⟩
        have fr2 : ∀ q, q ≠ 49 → s2 q = s q := fun q hq => (b4 q hq).trans (a4 q hq)
        have k9 := fr2 (t + 9) ht
        obtain ⟨u1, u2⟩ := cv_u (fu := fu) (f := f2) (l := l) (m := 0) (n := n2) (p := p + b.1.length + b.2.1.length) (t := t) (s := s2) (by omega) (by omega) (by omega) (by rw [k9]; exact c3) (by rw [k9]; exact c4) b3.1 b3.2.1
        by_cases e3 : x < y
        · rw [if_pos e3] at u1 u2
          obtain ⟨q1, q2⟩ := c_runG (fu := fu) (l := l) (s := s2) (st := []) (f := f2) (n := n2 + 1) g3 (by show 0 + 15 < 32; omega) (by rw [k9]; exact c5) trivial (by omega) (by omega) (by omega) ht
          rw [fr2 48 (by omega)] at q1 q2
          have hev : evP (b :: bs) Dl (s 48) = (vl b.2.2 (s 48)).getD (nI 0) := by
            show (match vl b.1 (s 48), vl b.2.1 (s 48) with | some x, some y => if x < y then (vl b.2.2 (s 48)).getD (nI 0) else evP bs Dl (s 48) | _, _ => nI 0) = _
            rw [e1, e2]; exact if_pos e3
          cases e4 : vl b.2.2 (s 48) with
          | none =>
            obtain ⟨s', d1, d2, d3⟩ := q1 e4
            refine ⟨s', (((a5.trans b5).trans u1).trans d1).trans ?_, a6 (b6 (u2 d2)), fun q hq => (d3 q hq).trans (fr2 q hq)⟩
            rw [hev, e4]; rfl
          | some z =>
            obtain ⟨f3, n3, s3, d1, d2, d3, d4, d5, d6⟩ := q2 z e4
            obtain ⟨f3, rfl⟩ : ∃ f4, f3 = f4 + 1 := ⟨f3 - 1, by omega⟩
            have fr3 : ∀ q, q ≠ 49 → s3 q = s q := fun q hq => (d4 q hq).trans (fr2 q hq)
            obtain ⟨w1, w2⟩ := cv_a (fu := fu) (f := f3) (l := l) (m := 0) (n := n3) (p := p + b.1.length + b.2.1.length + 2 + b.2.2.length) (t := t) (s := s3) (by omega) (by omega) (by omega) (by rw [fr3 (t + 9) ht]; exact c6)
            refine ⟨s3, ((((a5.trans b5).trans u1).trans d5).trans w1).trans ?_, a6 (b6 (u2 (d6 w2))), fr3⟩
            have d0 : s3 49 0 = z := d3.1
            rw [d0, hev, e4]; rfl
        · rw [if_neg e3] at u1 u2
          have hev : evP (b :: bs) Dl (s 48) = evP bs Dl (s 48) := by
            show (match vl b.1 (s 48), vl b.2.1 (s 48) with | some x, some y => if x < y then (vl b.2.2 (s 48)).getD (nI 0) else evP bs Dl (s 48) | _, _ => nI 0) = _
            rw [e1, e2]; exact if_neg e3
          obtain ⟨s', d1, d2, d3⟩ := ih (s := s2) (p := p + b.1.length + b.2.1.length + 2 + b.2.2.length + 1) (f := f2) (n := n2 + 1) g4 (by rw [k9]; exact c7) (by omega) (by omega)
          rw [fr2 48 (by omega)] at d1
          exact ⟨s', (((a5.trans b5).trans u1).trans d1).trans (by rw [hev]), a6 (b6 (u2 d2)), fun q hq => (d3 q hq).trans (fr2 q hq)⟩
/-- all three laws -/
def cLw (t : Nat) (BS : Nat → Pg) (DS : Nat → List Nat) (s : fl_I) : Prop := ∀ k, k < 3 → ∃ p q, s (t + 10) k = nI p ∧ cPr (s (t + 9)) p (BS k) (DS k) q ∧ q ≤ 408
theorem c_LC {BS : Nat → Pg} {DS : Nat → List Nat} (hfu : 20000 ≤ fu) (ht : t = 9 ∨ t = 20) (g : ∀ k, k < 3 → gdP (BS k) (DS k)) (h : cLw t BS DS s) : LC fu t (fun k v => if k < 3 then evP (BS k) (DS k) v else nI 0) s := by
  intro k hk s' l' e9 e10
  obtain ⟨p, q, h1, h2, h3⟩ := h k hk
  have hq := cPr_q h2
  obtain ⟨s2, a1, a2, a3⟩ := c_evP (fu := fu) (f := fu) (n := 0) (l := l') (s := s') (t := t) (g k hk) (by rw [e9]; exact h2) h3 (by omega) (Nat.zero_le p) (by omega)
  have hp : s' (t + 10) k = nI p := by rw [e10]; exact h1
  refine ⟨?_, s2, ?_, a3⟩
  · unfold p_X1_value
    simp (disch := omega) only [ln_, vpT, ar_t, ar_f, it_t, it_f, true_and, and_true, not_true_eq_false, not_false_eq_true, implies_true, and_self, eq_self, nI_clamp, hp]; exact a2
  · unfold f_X1_value
    simp (disch := omega) only [ln_, ar_t, ar_f, it_t, it_f, true_and, and_true, not_true_eq_false, not_false_eq_true, implies_true, and_self, eq_self, nI_clamp, hp]
    rw [if_pos hk]; exact a1
theorem LW_c {BS : Nat → Pg} {DS : Nat → List Nat} (g : ∀ k, k < 3 → gdP (BS k) (DS k)) : LWc (fun k v => if k < 3 then evP (BS k) (DS k) v else nI 0) := by
  intro k v v' h
  dsimp only
  by_cases e : k < 3
  · rw [if_pos e, if_pos e]; exact evP_cg h (g k e)
  · rw [if_neg e, if_neg e]
end cev2
