/-! Laws, blowing, hours, in the reference -/
/-- the places of the live side in the rows of laws -/
def inS (lv q j : Nat) : Prop := (q ≤ 83 ∧ 3 * lv ≤ j ∧ j < 3 * lv + 3) ∨ (84 ≤ q ∧ q ≤ 88 ∧ 130 * lv ≤ j ∧ j < 130 * lv + 130) ∨ (89 ≤ q ∧ 420 * lv ≤ j ∧ j < 420 * lv + 420)
def LR (fu : Nat) (LW : Lw) (s : fl_I) : Prop := ∀ k, k < 3 → ∀ (s' : fl_I) (l' : fl_L), (∀ q, 82 ≤ q → q ≤ 90 → ∀ lv j, s 60 18 = nI lv → lv ≤ 1 → inS lv q j → s' q j = s q j) → s' 60 18 = s 60 18 → p_X12_lawTells fu (nI k) (nI (min k 1)) s' l' ∧ ∃ s'', f_X12_lawTells fu (nI k) (nI (min k 1)) s' l' = (LW k (s' 92), s'', l') ∧ (∀ q, q ≠ 93 → q ≠ 60 → s'' q = s' q) ∧ ∀ j, j ≠ 49 → s'' 60 j = s' 60 j
theorem LR_side {fu : Nat} {LW : Lw} {s s' : fl_I} (h : LR fu LW s) (h1 : ∀ q, 82 ≤ q → q ≤ 90 → ∀ lv j, s 60 18 = nI lv → lv ≤ 1 → inS lv q j → s' q j = s q j) (h2 : s' 60 18 = s 60 18) : LR fu LW s' := fun k hk s2 l2 e1 e2 => h k hk s2 l2 (fun q a b lv j x y z => (e1 q a b lv j (h2.trans x) y z).trans (h1 q a b lv j x y z)) (e2.trans h2)
theorem LR_keep {fu : Nat} {LW : Lw} {s s' : fl_I} (h : LR fu LW s) (h1 : ∀ q, 82 ≤ q → q ≤ 90 → s' q = s q) (h2 : s' 60 18 = s 60 18) : LR fu LW s' := LR_side h (fun q a b _ j _ _ _ => by rw [h1 q a b]) h2
/-- what the reference has of a text -/
def rT (lv P np : Nat) (ht sg : Nat → Nat) (wx wy rn sd : Int32) (s : fl_I) : Prop :=
  lv ≤ 1 ∧ s 60 18 = nI lv ∧ s 60 54 = nI P ∧ s 74 lv = nI np ∧ (∀ b, b < np → s 78 (4 * lv + b) = nI (ht b)) ∧ (∀ i, i < P → s 96 i = nI (sg i)) ∧ s 79 (2 * lv) = wx ∧ s 79 (2 * lv + 1) = wy ∧ s 80 lv = rn ∧ s 81 lv = sd
/-- nothing but what laws are told with has changed -/
def rK (s s' : fl_I) : Prop := (∀ q, q ≠ 92 → q ≠ 93 → q ≠ 60 → s' q = s q) ∧ ∀ j, j ≠ 49 → s' 60 j = s 60 j
/-- and the row -/
def rR (s s' : fl_I) : Prop := (∀ q, q ≠ 92 → q ≠ 93 → q ≠ 98 → q ≠ 60 → q ≠ 95 → s' q = s q) ∧ ∀ j, j ≠ 49 → s' 60 j = s 60 j
section rlw
variable {fu P np lv i b c q k n : Nat} {ht sg : Nat → Nat} {Y : Yd} {s s' s1 : fl_I} {l : fl_L} {LW : Lw} {wx wy rn sd : Int32} {st : Bool}
theorem rK_rfl : rK s s := ⟨fun _ _ _ _ => rfl, fun _ _ => rfl⟩
theorem rR_rfl : rR s s := ⟨fun _ _ _ _ _ _ => rfl, fun _ _ => rfl⟩
theorem rK_R (h : rK s s') : rR s s' := ⟨fun q a b _ d _ => h.1 q a b d, h.2⟩
theorem rK_tr (h : rK s s1) (h' : rK s1 s') : rK s s' := ⟨fun q a b d => (h'.1 q a b d).trans (h.1 q a b d), fun j hj => (h'.2 j hj).trans (h.2 j hj)⟩
theorem rR_tr (h : rR s s1) (h' : rR s1 s') : rR s s' := ⟨fun q a b c d e => (h'.1 q a b c d e).trans (h.1 q a b c d e), fun j hj => (h'.2 j hj).trans (h.2 j hj)⟩
theorem rR_95 (h : ∀ q, q ≠ 95 → s' q = s q) : rR s s' := ⟨fun q _ _ _ _ e => h q e, fun j _ => by rw [h 60 (by omega)]⟩
theorem rT_keep (h : rR s s') (r : rT lv P np ht sg wx wy rn sd s) : rT lv P np ht sg wx wy rn sd s' := by
  obtain ⟨r1, r2, r3, r4, r5, r6, r7, r8, r9, r10⟩ := r
  refine ⟨r1, by rw [h.2 18 (by omega)]; exact r2, by rw [h.2 54 (by omega)]; exact r3, ?_, ?_, ?_, ?_, ?_, ?_, ?_⟩
  · rw [h.1 74 (by omega) (by omega) (by omega) (by omega) (by omega)]; exact r4
  · rw [h.1 78 (by omega) (by omega) (by omega) (by omega) (by omega)]; exact r5
  · rw [h.1 96 (by omega) (by omega) (by omega) (by omega) (by omega)]; exact r6
  · rw [h.1 79 (by omega) (by omega) (by omega) (by omega) (by omega)]; exact r7
  · rw [h.1 79 (by omega) (by omega) (by omega) (by omega) (by omega)]; exact r8
  · rw [h.1 80 (by omega) (by omega) (by omega) (by omega) (by omega)]; exact r9
  · rw [h.1 81 (by omega) (by omega) (by omega) (by omega) (by omega)]; exact r10
theorem LR_R (h : rR s s') (r : LR fu LW s) : LR fu LW s' := LR_keep r (fun q a b => h.1 q (by omega) (by omega) (by omega) (by omega) (by omega)) (h.2 18 (by omega))
theorem YF_K (h : rK s s') (y : YF P np Y (s 95)) : YF P np Y (s' 95) := by rw [h.1 95 (by omega) (by omega) (by omega)]; exact y
theorem r_looks (hfu : 20000 ≤ fu) : ∃ s', f_X12_looks fu s l = (s', l) ∧ p_X12_looks fu s l ∧ (∀ q, q ≠ 92 → s' q = s q) ∧ s' 92 3 = s 95 140 ∧ ∀ j, j < 9 → j ≠ 3 → s' 92 j = nI 0 := by
  refine loop_i (fun n i s0 => ∃ s', f_X12_looks_2 fu n (nI i) s0 l = (s', l) ∧ p_X12_looks_2 fu n (nI i) s0 l ∧ (∀ q, q ≠ 92 → s' q = s q) ∧ s' 92 3 = s 95 140 ∧ ∀ j, j < 9 → j ≠ 3 → s' 92 j = nI 0) (fun i s0 => (∀ q, q ≠ 92 → s0 q = s q) ∧ ∀ j, j < i → s0 92 j = nI 0) 9 ?_ ?_ fu 0 s (Nat.zero_le _) (by omega) ⟨fun _ _ => rfl, fun j hj => absurd hj (Nat.not_lt_zero j)⟩
  · intro n s0 hs
    refine ⟨wi s0 92 3 (s 95 140), ?_, ?_, fun q hq => by rw [wi_c hq]; exact hs.1 q hq, by rw [wi_u, upd_s], fun j h1 h2 => by rw [wi_u, upd_n h2]; exact hs.2 j h1⟩
    · unfold f_X12_looks_2
      simp (disch := omega) only [ln_, leT, leF, ltT, ltF, eqT, eqF, vpT, nlT, nleT, lnF, lenF, eqnF, neqF, nnF, nI_add, pk_mul, pk_div, pk_sub, ni_m, nI_clamp, md10, dm10, gI_l, gI_n, ar_t, ar_f, it_t, it_f, true_and, and_true, not_true_eq_false, not_false_eq_true, implies_true, and_self, eq_self, hs.1]
    · unfold p_X12_looks_2
      simp (disch := omega) only [ln_, leT, leF, ltT, ltF, eqT, eqF, vpT, nlT, nleT, lnF, lenF, eqnF, neqF, nnF, nI_add, pk_mul, pk_div, pk_sub, ni_m, nI_clamp, md10, dm10, gI_l, gI_n, ar_t, ar_f, it_t, it_f, true_and, and_true, not_true_eq_false, not_false_eq_true, implies_true, and_self, eq_self]
  · intro n i s0 hi hs ih
    unfold p_X12_looks_2 f_X12_looks_2
    simp (disch := omega) only [ln_, leT, leF, ltT, ltF, eqT, eqF, vpT, nlT, nleT, lnF, lenF, eqnF, neqF, nnF, nI_add, pk_mul, pk_div, pk_sub, ni_m, nI_clamp, md10, dm10, gI_l, gI_n, ar_t, ar_f, it_t, it_f, true_and, and_true, not_true_eq_false, not_false_eq_true, implies_true, and_self, eq_self]
    refine ih _ ⟨fun q hq => by rw [wi_c hq]; exact hs.1 q hq, fun j hj => ?_⟩
    rw [wi_u]
    by_cases e : j = i
    · subst e; rw [upd_s]
    · rw [upd_n e]; exact hs.2 j (by omega)
theorem r_looksAt (hfu : 20000 ≤ fu) (r : rT lv P np ht sg wx wy rn sd s) (y : YF P np Y (s 95)) (w : YW P np ht Y) (hi : i < P) (hl : Y.2.1 i < 80) : ∃ s', f_X12_looksAt fu (nI i) s l = (s', l) ∧ p_X12_looksAt fu (nI i) s l ∧ (∀ q, q ≠ 92 → s' q = s q) ∧ ∀ j, j < 9 → s' 92 j = vrs sg P Y i j := by
  obtain ⟨s1, e1, p1, k1, k2, k3⟩ := r_looks (s := s) (l := l) hfu
  have hP := w.1
  have h96 := r.2.2.2.2.2.1 i hi
  obtain ⟨⟨a1, a2, _⟩, _, a3⟩ := y.2.1 i hi |>.imp (fun h => h hl) id
  have L : ∀ s2 : fl_I, s2 95 = s 95 → s2 60 = s 60 → p_X12_lieAt fu (nI (Y.2.1 i)) s2 l ∧ f_X12_lieAt fu (nI (Y.2.1 i)) s2 l = nI (ct (fun k => Y.2.1 k == Y.2.1 i) P) := by
    intro s2 q1 q2
    exact r_lieAt hfu (by rw [q2]; exact r.2.2.1) (by rw [q1]; exact y) w hl
  have q96 := k1 96 (by omega)
  have q95 := k1 95 (by omega)
  have q60 := k1 60 (by omega)
  refine ⟨wi (wi (wi (wi (wi (wi s1 92 0 (nI (sg i))) 92 1 (nI (Y.2.1 i % 10))) 92 2 (nI (Y.2.1 i / 10))) 92 4 (nI (Y.2.2.1 i))) 92 7 (nI (ct (fun k => Y.2.1 k == Y.2.1 i) P))) 92 8 (nI i), ?_, ?_, ?_, ?_⟩
  · unfold f_X12_looksAt f_X12_cellOf
    simp (disch := omega) only [e1, ln_, leT, leF, ltT, ltF, eqT, eqF, vpT, nlT, nleT, lnF, lenF, eqnF, neqF, nnF, nI_add, pk_mul, pk_div, pk_sub, ni_m, nI_clamp, md10, dm10, gI_l, gI_n, ar_t, ar_f, it_t, it_f, true_and, and_true, not_true_eq_false, not_false_eq_true, implies_true, and_self, eq_self, wi_c, wi_u, upd_s, upd_n, su_r, su_c, q96, q95, h96, a1, a2, a3]
    rw [(L _ (by simp (disch := omega) only [wi_c, wi_u, upd_s, upd_n, su_r, su_c, q95]) (by simp (disch := omega) only [wi_c, wi_u, upd_s, upd_n, su_r, su_c, q60])).2]
  · unfold p_X12_looksAt f_X12_cellOf p_X12_cellOf
    simp (disch := omega) only [e1, p1, ln_, leT, leF, ltT, ltF, eqT, eqF, vpT, nlT, nleT, lnF, lenF, eqnF, neqF, nnF, nI_add, pk_mul, pk_div, pk_sub, ni_m, nI_clamp, md10, dm10, gI_l, gI_n, ar_t, ar_f, it_t, it_f, true_and, and_true, not_true_eq_false, not_false_eq_true, implies_true, and_self, eq_self, wi_c, wi_u, upd_s, upd_n, su_r, su_c, q96, q95, h96, a1, a2, a3]
    exact (L _ (by simp (disch := omega) only [wi_c, wi_u, upd_s, upd_n, su_r, su_c, q95]) (by simp (disch := omega) only [wi_c, wi_u, upd_s, upd_n, su_r, su_c, q60])).1
  · intro q hq
    simp (disch := omega) only [wi_c, wi_u, upd_s, upd_n, su_r, su_c]
    exact k1 q hq
  · intro j hj
    have h3 : s1 92 3 = Y.1 := by rw [k2]; exact y.1
    have : j = 0 ∨ j = 1 ∨ j = 2 ∨ j = 3 ∨ j = 4 ∨ j = 5 ∨ j = 6 ∨ j = 7 ∨ j = 8 := by omega
    rcases this with rfl | rfl | rfl | rfl | rfl | rfl | rfl | rfl | rfl <;> simp (disch := omega) only [wi_c, wi_u, upd_s, upd_n, su_r, su_c, vr, vrs, h3, k3]
/-- a law of the reference, told of a piece -/
theorem r_tells (hfu : 20000 ≤ fu) (r : rT lv P np ht sg wx wy rn sd s) (y : YF P np Y (s 95)) (w : YW P np ht Y) (hi : i < P) (hl : Y.2.1 i < 80) (hL : LR fu LW s) (hC : LWc LW) (hk : k < 3) : ∃ s0 s', f_X12_looksAt fu (nI i) s l = (s0, l) ∧ p_X12_looksAt fu (nI i) s l ∧ p_X12_lawTells fu (nI k) (nI (min k 1)) s0 l ∧ f_X12_lawTells fu (nI k) (nI (min k 1)) s0 l = (LW k (vrs sg P Y i), s', l) ∧ rK s s' := by
  obtain ⟨s0, e0, p0, k0, v0⟩ := r_looksAt (l := l) hfu r y w hi hl
  obtain ⟨hp, s2, e, h1, h2⟩ := hL k hk s0 l (fun q a b _ j _ _ _ => by rw [k0 q (by omega)]) (by rw [k0 60 (by omega)])
  refine ⟨s0, s2, e0, p0, hp, ?_, fun q a b d => by rw [h1 q b d, k0 q a], fun j hj => by rw [h2 j hj, k0 60 (by omega)]⟩
  rw [e, hC k _ _ v0]
theorem r_isBlown (hfu : 20000 ≤ fu) (r : rT lv P np ht sg wx wy rn sd s) (y : YF P np Y (s 95)) (w : YW P np ht Y) (hi : i < P) (hl : Y.2.1 i < 80) (hL : LR fu LW s) (hC : LWc LW) : ∃ s', f_X12_isBlown fu (nI i) s l = (if LW 0 (vrs sg P Y i) ≤ nI 0 then nI 0 else nI 1, s', l) ∧ p_X12_isBlown fu (nI i) s l ∧ rK s s' := by
  obtain ⟨s0, s', e0, p0, p1, e1, h⟩ := r_tells (l := l) hfu r y w hi hl hL hC (show 0 < 3 by omega)
  have p1 : p_X12_lawTells fu (nI 0) (nI 0) s0 l := p1
  have e1 : f_X12_lawTells fu (nI 0) (nI 0) s0 l = (LW 0 (vrs sg P Y i), s', l) := e1
  refine ⟨s', ?_, ?_, h⟩
  · unfold f_X12_isBlown
    by_cases hb : LW 0 (vrs sg P Y i) ≤ nI 0
    · simp (disch := omega) only [ln_, ar_t, ar_f, it_t, it_f, true_and, and_true, not_true_eq_false, not_false_eq_true, implies_true, and_self, eq_self, e0, e1, hb]
    · simp (disch := omega) only [ln_, ar_t, ar_f, it_t, it_f, true_and, and_true, not_true_eq_false, not_false_eq_true, implies_true, and_self, eq_self, e0, e1, hb]
  · unfold p_X12_isBlown
    simp (disch := omega) only [ln_, ar_t, ar_f, it_t, it_f, true_and, and_true, not_true_eq_false, not_false_eq_true, implies_true, and_self, eq_self, e0, p0, e1, p1]
theorem r_takesOf (hfu : 20000 ≤ fu) (r : rT lv P np ht sg wx wy rn sd s) (y : YF P np Y (s 95)) (w : YW P np ht Y) (hi : i < P) (hl : Y.2.1 i < 80) (hL : LR fu LW s) (hC : LWc LW) : ∃ s', f_X12_takesOf fu (nI i) s l = (nI (hdN (LW 1 (vrs sg P Y i)) 99), s', l) ∧ p_X12_takesOf fu (nI i) s l ∧ rK s s' := by
  obtain ⟨s0, s', e0, p0, p1, e1, h⟩ := r_tells (l := l) hfu r y w hi hl hL hC (show 1 < 3 by omega)
  have p1 : p_X12_lawTells fu (nI 1) (nI 1) s0 l := p1
  have e1 : f_X12_lawTells fu (nI 1) (nI 1) s0 l = (LW 1 (vrs sg P Y i), s', l) := e1
  refine ⟨s', ?_, ?_, h⟩
  · unfold f_X12_takesOf
    simp (disch := omega) only [ln_, ar_t, ar_f, it_t, it_f, true_and, and_true, not_true_eq_false, not_false_eq_true, implies_true, and_self, eq_self, e0, e1, within_n]
  · unfold p_X12_takesOf
    simp (disch := omega) only [ln_, ar_t, ar_f, it_t, it_f, true_and, and_true, not_true_eq_false, not_false_eq_true, implies_true, and_self, eq_self, e0, p0, e1, p1, p_withinT]
theorem r_paysOf (hfu : 20000 ≤ fu) (r : rT lv P np ht sg wx wy rn sd s) (y : YF P np Y (s 95)) (w : YW P np ht Y) (hi : i < P) (hb : b < np) (hL : LR fu LW s) (hC : LWc LW) : ∃ s', f_X12_paysOf fu (nI b) (nI i) s l = (nI (hdN (LW 2 (vrp sg ht P Y b i)) 99), s', l) ∧ p_X12_paysOf fu (nI b) (nI i) s l ∧ rK s s' := by
  obtain ⟨s1, e1, p1, k1, k2, k3⟩ := r_looks (s := s) (l := l) hfu
  have hP := w.1
  have hn := w.2.1
  have h96 := r.2.2.2.2.2.1 i hi
  have h78 := r.2.2.2.2.1 b hb
  have h18 := r.2.1
  have hlv := r.1
  have H : ∀ s2 : fl_I, s2 95 = s 95 → s2 60 = s 60 → p_X12_inHat fu (nI b) s2 l ∧ f_X12_inHat fu (nI b) s2 l = nI (cnt Y.2.1 P b) := by
    intro s2 q1 q2
    exact r_inHat hfu (by rw [q2]; exact r.2.2.1) (by rw [q1]; exact y) w (by omega)
  have q96 := k1 96 (by omega)
  have q95 := k1 95 (by omega)
  have q60 := k1 60 (by omega)
  have q78 := k1 78 (by omega)
  obtain ⟨hp, s2, e, h1, h2⟩ := hL 2 (by omega) (wi (wi (wi (wi s1 92 0 (nI (sg i))) 92 5 (nI (ht b))) 92 6 (nI (cnt Y.2.1 P b))) 92 8 (nI b)) l (fun q a b _ j _ _ _ => by simp (disch := omega) only [wi_c, wi_u, upd_s, upd_n, su_r, su_c]; rw [k1 q (by omega)]) (by simp (disch := omega) only [wi_c, wi_u, upd_s, upd_n, su_r, su_c]; rw [q60])
  have p2 : p_X12_lawTells fu (nI 2) (nI 1) _ l := hp
  have e2 : f_X12_lawTells fu (nI 2) (nI 1) _ l = _ := e
  have hH := H (wi (wi s1 92 0 (nI (sg i))) 92 5 (nI (ht b))) (by simp (disch := omega) only [wi_c, wi_u, upd_s, upd_n, su_r, su_c, q95]) (by simp (disch := omega) only [wi_c, wi_u, upd_s, upd_n, su_r, su_c, q60])
  have h3 : s1 92 3 = Y.1 := by rw [k2]; exact y.1
  have ev : LW 2 (vrp sg ht P Y b i) = LW 2 ((wi (wi (wi (wi s1 92 0 (nI (sg i))) 92 5 (nI (ht b))) 92 6 (nI (cnt Y.2.1 P b))) 92 8 (nI b)) 92) := by
    refine hC 2 _ _ (fun j hj => ?_)
    have : j = 0 ∨ j = 1 ∨ j = 2 ∨ j = 3 ∨ j = 4 ∨ j = 5 ∨ j = 6 ∨ j = 7 ∨ j = 8 := by omega
    rcases this with rfl | rfl | rfl | rfl | rfl | rfl | rfl | rfl | rfl <;> simp (disch := omega) only [wi_c, wi_u, upd_s, upd_n, su_r, su_c, vr, vrp, h3, k3]
  refine ⟨s2, ?_, ?_, fun q a b d => ?_, fun j hj => ?_⟩
  · unfold f_X12_paysOf
    simp (disch := omega) only [e1, ln_, leT, leF, ltT, ltF, eqT, eqF, vpT, nlT, nleT, lnF, lenF, eqnF, neqF, nnF, nI_add, pk_mul, pk_div, pk_sub, ni_m, nI_clamp, md10, dm10, gI_l, gI_n, ar_t, ar_f, it_t, it_f, true_and, and_true, not_true_eq_false, not_false_eq_true, implies_true, and_self, eq_self, wi_c, wi_u, upd_s, upd_n, su_r, su_c, q96, q60, q78, h96, h18, h78, hH, e2, within_n, ev]
  · unfold p_X12_paysOf
    simp (disch := omega) only [e1, p1, ln_, leT, leF, ltT, ltF, eqT, eqF, vpT, nlT, nleT, lnF, lenF, eqnF, neqF, nnF, nI_add, pk_mul, pk_div, pk_sub, ni_m, nI_clamp, md10, dm10, gI_l, gI_n, ar_t, ar_f, it_t, it_f, true_and, and_true, not_true_eq_false, not_false_eq_true, implies_true, and_self, eq_self, wi_c, wi_u, upd_s, upd_n, su_r, su_c, q96, q60, q78, h96, h18, h78, hH, p2, e2, p_withinT]
  · rw [h1 q b d]
    simp (disch := omega) only [wi_c, wi_u, upd_s, upd_n, su_r, su_c]
    exact k1 q a
  · rw [h2 j hj]
    simp (disch := omega) only [wi_c, wi_u, upd_s, upd_n, su_r, su_c]
    rw [q60]
theorem r_owedTo (hfu : 20000 ≤ fu) (r : rT lv P np ht sg wx wy rn sd s) (y : YF P np Y (s 95)) (w : YW P np ht Y) (hb : b < np) (hL : LR fu LW s) (hC : LWc LW) : ∃ s', f_X12_owedTo fu (nI b) s l = (nI (sm (fun i => if Y.2.1 i = 80 + b then hdN (LW 2 (vrp sg ht P Y b i)) 99 else 0) P), s', l) ∧ p_X12_owedTo fu (nI b) s l ∧ rK s s' := by
  have hP := w.1
  have hn := w.2.1
  refine loop_i (fun n i (z : Int32 × fl_I) => ∃ s', f_X12_owedTo_4 fu n (nI b) z.1 (nI i) z.2 l = (nI (sm (fun i => if Y.2.1 i = 80 + b then hdN (LW 2 (vrp sg ht P Y b i)) 99 else 0) P), s', l) ∧ p_X12_owedTo_4 fu n (nI b) z.1 (nI i) z.2 l ∧ rK s s') (fun i z => z.1 = nI (sm (fun i => if Y.2.1 i = 80 + b then hdN (LW 2 (vrp sg ht P Y b i)) 99 else 0) i) ∧ rK s z.2) P ?_ ?_ fu 0 (nI 0, s) (Nat.zero_le _) (by omega) ⟨rfl, rK_rfl⟩
  · intro n z hz
    obtain ⟨x, s0⟩ := z
    obtain ⟨z1, z2⟩ := hz
    have z1 : x = _ := z1
    have z2 : rK s s0 := z2
    have h5 : s0 60 54 = nI P := by rw [z2.2 54 (by omega)]; exact r.2.2.1
    refine ⟨s0, ?_, ?_, z2⟩
    · unfold f_X12_owedTo_4
      simp (disch := omega) only [ln_, leT, leF, ltT, ltF, eqT, eqF, vpT, nlT, nleT, lnF, lenF, eqnF, neqF, nnF, nI_add, pk_mul, pk_div, pk_sub, ni_m, nI_clamp, md10, dm10, gI_l, gI_n, ar_t, ar_f, it_t, it_f, true_and, and_true, not_true_eq_false, not_false_eq_true, implies_true, and_self, eq_self, h5, z1]
    · unfold p_X12_owedTo_4
      simp (disch := omega) only [ln_, leT, leF, ltT, ltF, eqT, eqF, vpT, nlT, nleT, lnF, lenF, eqnF, neqF, nnF, nI_add, pk_mul, pk_div, pk_sub, ni_m, nI_clamp, md10, dm10, gI_l, gI_n, ar_t, ar_f, it_t, it_f, true_and, and_true, not_true_eq_false, not_false_eq_true, implies_true, and_self, eq_self, h5]
  · intro n i z hi hz ih
    replace ih := fun x s' => ih (x, s')
    dsimp only at ih
    obtain ⟨x, s0⟩ := z
    obtain ⟨z1, z2⟩ := hz
    have z1 : x = _ := z1
    have z2 : rK s s0 := z2
    have h5 : s0 60 54 = nI P := by rw [z2.2 54 (by omega)]; exact r.2.2.1
    have y0 := YF_K z2 y
    have h3 := (w.2.2.1 i hi).1
    obtain ⟨s2, e2, p2, k2⟩ := r_paysOf (l := l) hfu (rT_keep (rK_R z2) r) y0 w hi hb (LR_R (rK_R z2) hL) hC
    obtain ⟨g1, g2, g3⟩ := y0.2.1 i hi
    unfold p_X12_owedTo_4 f_X12_owedTo_4
    by_cases h : Y.2.1 i < 80
    · have h1 := (g1 h).2.2
      simp (disch := omega) only [ln_, leT, leF, ltT, ltF, eqT, eqF, vpT, nlT, nleT, lnF, lenF, eqnF, neqF, nnF, nI_add, pk_mul, pk_div, pk_sub, ni_m, nI_clamp, md10, dm10, gI_l, gI_n, ar_t, ar_f, it_t, it_f, true_and, and_true, not_true_eq_false, not_false_eq_true, implies_true, and_self, eq_self, h5, h1]
      exact ih _ _ ⟨by rw [z1]; show nI _ = nI (sm _ _ + (if _ then _ else _)); rw [if_neg (by omega), Nat.add_zero], z2⟩
    · have h1 := g2 (by omega)
      by_cases e : Y.2.1 i = 80 + b
      · simp (disch := omega) only [ln_, leT, leF, ltT, ltF, eqT, eqF, vpT, nlT, nleT, lnF, lenF, eqnF, neqF, nnF, nI_add, pk_mul, pk_div, pk_sub, ni_m, nI_clamp, md10, dm10, gI_l, gI_n, ar_t, ar_f, it_t, it_f, true_and, and_true, not_true_eq_false, not_false_eq_true, implies_true, and_self, eq_self, h5, h1, e2, p2]
        exact ih _ _ ⟨by rw [z1]; show nI _ + nI _ = nI (sm _ _ + (if _ then _ else _)); rw [if_pos e, nI_add], rK_tr z2 k2⟩
      · simp (disch := omega) only [ln_, leT, leF, ltT, ltF, eqT, eqF, vpT, nlT, nleT, lnF, lenF, eqnF, neqF, nnF, nI_add, pk_mul, pk_div, pk_sub, ni_m, nI_clamp, md10, dm10, gI_l, gI_n, ar_t, ar_f, it_t, it_f, true_and, and_true, not_true_eq_false, not_false_eq_true, implies_true, and_self, eq_self, h5, h1]
        exact ih _ _ ⟨by rw [z1]; show nI _ = nI (sm _ _ + (if _ then _ else _)); rw [if_neg e, Nat.add_zero], z2⟩
theorem r_lossNow (hfu : 20000 ≤ fu) (r : rT lv P np ht sg wx wy rn sd s) (y : YF P np Y (s 95)) (w : YW P np ht Y) (hL : LR fu LW s) (hC : LWc LW) : ∃ s', f_X12_lossNow fu s l = (nI (sm (fun i => if Y.2.1 i < 80 then hdN (LW 1 (vrs sg P Y i)) 99 else 0) P), s', l) ∧ p_X12_lossNow fu s l ∧ rK s s' := by
  have hP := w.1
  have hn := w.2.1
  refine loop_i (fun n i (z : Int32 × fl_I) => ∃ s', f_X12_lossNow_4 fu n z.1 (nI i) z.2 l = (nI (sm (fun i => if Y.2.1 i < 80 then hdN (LW 1 (vrs sg P Y i)) 99 else 0) P), s', l) ∧ p_X12_lossNow_4 fu n z.1 (nI i) z.2 l ∧ rK s s') (fun i z => z.1 = nI (sm (fun i => if Y.2.1 i < 80 then hdN (LW 1 (vrs sg P Y i)) 99 else 0) i) ∧ rK s z.2) P ?_ ?_ fu 0 (nI 0, s) (Nat.zero_le _) (by omega) ⟨rfl, rK_rfl⟩
  · intro n z hz
    obtain ⟨x, s0⟩ := z
    obtain ⟨z1, z2⟩ := hz
    have z1 : x = _ := z1
    have z2 : rK s s0 := z2
    have h5 : s0 60 54 = nI P := by rw [z2.2 54 (by omega)]; exact r.2.2.1
    refine ⟨s0, ?_, ?_, z2⟩
    · unfold f_X12_lossNow_4
      simp (disch := omega) only [ln_, leT, leF, ltT, ltF, eqT, eqF, vpT, nlT, nleT, lnF, lenF, eqnF, neqF, nnF, nI_add, pk_mul, pk_div, pk_sub, ni_m, nI_clamp, md10, dm10, gI_l, gI_n, ar_t, ar_f, it_t, it_f, true_and, and_true, not_true_eq_false, not_false_eq_true, implies_true, and_self, eq_self, h5, z1]
    · unfold p_X12_lossNow_4
      simp (disch := omega) only [ln_, leT, leF, ltT, ltF, eqT, eqF, vpT, nlT, nleT, lnF, lenF, eqnF, neqF, nnF, nI_add, pk_mul, pk_div, pk_sub, ni_m, nI_clamp, md10, dm10, gI_l, gI_n, ar_t, ar_f, it_t, it_f, true_and, and_true, not_true_eq_false, not_false_eq_true, implies_true, and_self, eq_self, h5]
  · intro n i z hi hz ih
    replace ih := fun x s' => ih (x, s')
    dsimp only at ih
    obtain ⟨x, s0⟩ := z
    obtain ⟨z1, z2⟩ := hz
    have z1 : x = _ := z1
    have z2 : rK s s0 := z2
    have h5 : s0 60 54 = nI P := by rw [z2.2 54 (by omega)]; exact r.2.2.1
    have y0 := YF_K z2 y
    have h1 := r_doesLie (fu := fu) (l := l) y0 w hi
    unfold p_X12_lossNow_4 f_X12_lossNow_4
    by_cases h : Y.2.1 i < 80
    · obtain ⟨s2, e2, p2, k2⟩ := r_takesOf (l := l) hfu (rT_keep (rK_R z2) r) y0 w hi h (LR_R (rK_R z2) hL) hC
      rw [if_pos h] at h1
      simp (disch := omega) only [ln_, leT, leF, ltT, ltF, eqT, eqF, vpT, nlT, nleT, lnF, lenF, eqnF, neqF, nnF, nI_add, pk_mul, pk_div, pk_sub, ni_m, nI_clamp, md10, dm10, gI_l, gI_n, ar_t, ar_f, it_t, it_f, true_and, and_true, not_true_eq_false, not_false_eq_true, implies_true, and_self, eq_self, h5, h1, e2, p2]
      exact ih _ _ ⟨by rw [z1]; show nI _ + nI _ = nI (sm _ _ + (if _ then _ else _)); rw [if_pos h, nI_add], rK_tr z2 k2⟩
    · rw [if_neg h] at h1
      simp (disch := omega) only [ln_, leT, leF, ltT, ltF, eqT, eqF, vpT, nlT, nleT, lnF, lenF, eqnF, neqF, nnF, nI_add, pk_mul, pk_div, pk_sub, ni_m, nI_clamp, md10, dm10, gI_l, gI_n, ar_t, ar_f, it_t, it_f, true_and, and_true, not_true_eq_false, not_false_eq_true, implies_true, and_self, eq_self, h5, h1]
      exact ih _ _ ⟨by rw [z1]; show nI _ = nI (sm _ _ + (if _ then _ else _)); rw [if_neg h, Nat.add_zero], z2⟩
theorem nar0 : vp_nar .boolean (nI 0) = nI 0 := by decide +kernel
theorem nar1 : vp_nar .boolean (nI 1) = nI 1 := by decide +kernel
/-- the second half of blowing: dry or not, as the row of what is blown says -/
def mvY (bl : Nat → Bool) (wx wy : Int32) (Y : Yd) : Yd :=
  (Y.1, fun i => if Y.2.1 i < 80 ∧ bl i = true then 10 * hdN (nI (Y.2.1 i / 10) + wy) 7 + hdN (nI (Y.2.1 i % 10) + wx) 9 else Y.2.1 i,
    fun i => if Y.2.1 i < 80 then (if bl i = true then 0 else min 999 (Y.2.2.1 i + 1)) else Y.2.2.1 i, Y.2.2.2)
theorem wi999 {x : Nat} (h : x ≤ 999) : f_X12_within fu (nI (x + 1)) (nI 0) (nI 999) = nI (min 999 (x + 1)) := by
  rw [within_n (by omega)]
  unfold hdN
  rw [if_neg (nI_nlt (Nat.zero_le _) (by omega))]
  by_cases e : 999 < x + 1
  · rw [if_pos (nI_lt e (by omega)), Nat.min_eq_left (by omega)]
  · rw [if_neg (nI_nlt (by omega) (by omega)), nI_clamp (by omega), Nat.min_eq_right (by omega)]
theorem r_blows69 {bl : Nat → Bool} (hfu : 20000 ≤ fu) (r : rT lv P np ht sg wx wy rn sd s) (y : YF P np Y (s 95)) (w : YW P np ht Y) (hb : ∀ i, i < P → s 98 i = if bl i = true then nI 1 else nI 0) :
    ∃ s', f_X12_blows_69 fu fu (nI 0) s l = (s', l) ∧ p_X12_blows_69 fu fu (nI 0) s l ∧ YF P np (mvY bl wx wy Y) (s' 95) ∧ ∀ q, q ≠ 95 → s' q = s q := by
  have hP := w.1
  have hn := w.2.1
  obtain ⟨r1, r2, r3, r4, r5, r6, r7, r8, r9, r10⟩ := r
  have key := loop_i (fun n i s0 => ∃ s', f_X12_blows_69 fu n (nI i) s0 l = (s', l) ∧ p_X12_blows_69 fu n (nI i) s0 l ∧ (∀ q, q ≠ 95 → s' q = s q) ∧ YF P np (mvY bl wx wy Y) (s' 95))
    (fun i s0 => (∀ q, q ≠ 95 → s0 q = s q) ∧ YF P np (Y.1, fun j => if j < i then (mvY bl wx wy Y).2.1 j else Y.2.1 j, fun j => if j < i then (mvY bl wx wy Y).2.2.1 j else Y.2.2.1 j, Y.2.2.2) (s0 95)) P ?_ ?_ fu 0 s (Nat.zero_le _) (by omega) ⟨fun _ _ => rfl, y⟩
  · obtain ⟨s', e, hp, hq, hy⟩ := key
    exact ⟨s', e, hp, hy, hq⟩
  · intro n s0 hs
    have h5 : s0 60 54 = nI P := by rw [hs.1 60 (by omega)]; exact r3
    refine ⟨s0, ?_, ?_, hs.1, YF_congr (by exact ⟨rfl, fun i hi => ⟨if_pos hi, if_pos hi⟩, fun _ _ => ⟨rfl, rfl⟩⟩) hs.2⟩
    · unfold f_X12_blows_69
      simp (disch := omega) only [ln_, leT, leF, ltT, ltF, eqT, eqF, vpT, nlT, nleT, lnF, lenF, eqnF, neqF, nnF, nI_add, pk_mul, pk_div, pk_sub, ni_m, nI_clamp, md10, dm10, gI_l, gI_n, ar_t, ar_f, it_t, it_f, true_and, and_true, not_true_eq_false, not_false_eq_true, implies_true, and_self, eq_self, h5]
    · unfold p_X12_blows_69
      simp (disch := omega) only [ln_, leT, leF, ltT, ltF, eqT, eqF, vpT, nlT, nleT, lnF, lenF, eqnF, neqF, nnF, nI_add, pk_mul, pk_div, pk_sub, ni_m, nI_clamp, md10, dm10, gI_l, gI_n, ar_t, ar_f, it_t, it_f, true_and, and_true, not_true_eq_false, not_false_eq_true, implies_true, and_self, eq_self, h5]
  · intro n i s0 hi hs ih
    obtain ⟨hs1, hs2⟩ := hs
    have h5 : s0 60 54 = nI P := by rw [hs1 60 (by omega)]; exact r3
    have h18 : s0 60 18 = nI lv := by rw [hs1 60 (by omega)]; exact r2
    have h79 : s0 79 (2 * lv) = wx := by rw [hs1 79 (by omega)]; exact r7
    have h80 : s0 79 (2 * lv + 1) = wy := by rw [hs1 79 (by omega)]; exact r8
    have h98 := hb i hi
    rw [← hs1 98 (by omega)] at h98
    obtain ⟨g1, g2, g3⟩ := w.2.2.1 i hi
    have hyi := hs2.2.1 i hi
    have ew : (fun j => if j < i then (mvY bl wx wy Y).2.1 j else Y.2.1 j) i = Y.2.1 i := if_neg (Nat.lt_irrefl i)
    have el : (fun j => if j < i then (mvY bl wx wy Y).2.2.1 j else Y.2.2.1 j) i = Y.2.2.1 i := if_neg (Nat.lt_irrefl i)
    simp only [] at hyi
    rw [if_neg (Nat.lt_irrefl i), if_neg (Nat.lt_irrefl i)] at hyi
    obtain ⟨a1, a2, a3⟩ := hyi
    have fin : ∀ R : Nat → Int32, (∀ j, j ≠ i → j ≠ 32 + i → j ≠ 96 + i → R j = s0 95 j) → (Y.2.1 i < 80 → R i = nI ((mvY bl wx wy Y).2.1 i % 10) ∧ R (32 + i) = nI ((mvY bl wx wy Y).2.1 i / 10)) → R (96 + i) = nI ((mvY bl wx wy Y).2.2.1 i) → YF P np (Y.1, fun j => if j < i + 1 then (mvY bl wx wy Y).2.1 j else Y.2.1 j, fun j => if j < i + 1 then (mvY bl wx wy Y).2.2.1 j else Y.2.2.1 j, Y.2.2.2) R := by
      intro R f1 f2 f3
      refine ⟨by rw [f1 140 (by omega) (by omega) (by omega)]; exact hs2.1, fun j hj => ?_, fun j hj => ?_⟩
      · simp only []
        by_cases e : j = i
        · subst e
          rw [if_pos (Nat.lt_succ_self j), if_pos (Nat.lt_succ_self j)]
          have hm : (Y.2.1 j < 80 → (mvY bl wx wy Y).2.1 j < 80) ∧ (80 ≤ Y.2.1 j → (mvY bl wx wy Y).2.1 j = Y.2.1 j) := by
            refine ⟨fun h => ?_, fun h => if_neg (fun e => by omega)⟩
            show (if _ then _ else _) < 80
            split
            · exact bl_lt
            · exact h
          refine ⟨fun h => ?_, fun h => ?_, f3⟩
          · have h' : Y.2.1 j < 80 := by
              rcases Nat.lt_or_ge (Y.2.1 j) 80 with h1 | h1
              · exact h1
              · rw [hm.2 h1] at h; omega
            rw [(f2 h').1, (f2 h').2, f1 (64 + j) (by omega) (by omega) (by omega)]
            exact ⟨rfl, rfl, (a1 h').2.2⟩
          · have h' : 80 ≤ Y.2.1 j := by
              rcases Nat.lt_or_ge (Y.2.1 j) 80 with h1 | h1
              · have := hm.1 h1; omega
              · exact h1
            rw [f1 (64 + j) (by omega) (by omega) (by omega), hm.2 h']
            exact a2 h'
        · have hy := hs2.2.1 j hj
          simp only [] at hy
          rw [f1 j (by omega) (by omega) (by omega), f1 (32 + j) (by omega) (by omega) (by omega), f1 (64 + j) (by omega) (by omega) (by omega), f1 (96 + j) (by omega) (by omega) (by omega)]
          by_cases e2 : j < i
          · rw [if_pos e2, if_pos e2] at hy; rw [if_pos (show j < i + 1 by omega), if_pos (show j < i + 1 by omega)]; exact hy
          · rw [if_neg e2, if_neg e2] at hy; rw [if_neg (show ¬ j < i + 1 by omega), if_neg (show ¬ j < i + 1 by omega)]; exact hy
      · rw [f1 (128 + j) (by omega) (by omega) (by omega), f1 (132 + j) (by omega) (by omega) (by omega), f1 (136 + j) (by omega) (by omega) (by omega)]; exact hs2.2.2 j hj
    unfold p_X12_blows_69 f_X12_blows_69 p_X12_doesLie f_X12_doesLie
    by_cases h : Y.2.1 i < 80
    · obtain ⟨b1, b2, b3⟩ := a1 h
      by_cases hbl : bl i = true
      · rw [if_pos hbl] at h98
        have m1 : (mvY bl wx wy Y).2.1 i = 10 * hdN (nI (Y.2.1 i / 10) + wy) 7 + hdN (nI (Y.2.1 i % 10) + wx) 9 := if_pos ⟨h, hbl⟩
        have m2 : (mvY bl wx wy Y).2.2.1 i = 0 := by show (if _ then (if _ then _ else _) else _) = _; rw [if_pos h, if_pos hbl]
        have n1 := hdN_le (v := nI (Y.2.1 i / 10) + wy) (m := 7) (by omega)
        have n2 := hdN_le (v := nI (Y.2.1 i % 10) + wx) (m := 9) (by omega)
        simp (disch := omega) only [ln_, leT, leF, ltT, ltF, eqT, eqF, vpT, nlT, nleT, lnF, lenF, eqnF, neqF, nnF, nI_add, pk_mul, pk_div, pk_sub, ni_m, nI_clamp, md10, dm10, gI_l, gI_n, ar_t, ar_f, it_t, it_f, true_and, and_true, not_true_eq_false, not_false_eq_true, implies_true, and_self, eq_self, h5, h18, h98, b1, b2, b3, wi_c, wi_u, upd_s, upd_n, su_r, su_c, h79, h80, within_n, p_withinT]
        refine ih _ ⟨fun q hq => by rw [wi_c hq, wi_c hq, wi_c hq]; exact hs1 q hq, fin _ (fun j j1 j2 j3 => ?_) (fun _ => ⟨?_, ?_⟩) ?_⟩
        · simp (disch := omega) only [wi_c, wi_u, upd_s, upd_n, su_r, su_c]
        · simp (disch := omega) only [wi_c, wi_u, upd_s, upd_n, su_r, su_c]
          rw [m1]; congr 1; omega
        · simp (disch := omega) only [wi_c, wi_u, upd_s, upd_n, su_r, su_c]
          rw [m1]; congr 1; omega
        · simp (disch := omega) only [wi_c, wi_u, upd_s, upd_n, su_r, su_c, m2]
      · rw [if_neg hbl] at h98
        have m1 : (mvY bl wx wy Y).2.1 i = Y.2.1 i := if_neg (fun e => hbl e.2)
        have m2 : (mvY bl wx wy Y).2.2.1 i = min 999 (Y.2.2.1 i + 1) := by show (if _ then (if _ then _ else _) else _) = _; rw [if_pos h, if_neg hbl]
        simp (disch := omega) only [ln_, leT, leF, ltT, ltF, eqT, eqF, vpT, nlT, nleT, lnF, lenF, eqnF, neqF, nnF, nI_add, pk_mul, pk_div, pk_sub, ni_m, nI_clamp, md10, dm10, gI_l, gI_n, ar_t, ar_f, it_t, it_f, true_and, and_true, not_true_eq_false, not_false_eq_true, implies_true, and_self, eq_self, h5, h18, h98, b1, b2, b3, a3, wi_c, wi_u, upd_s, upd_n, su_r, su_c, wi999, p_withinT]
        refine ih _ ⟨fun q hq => by rw [wi_c hq]; exact hs1 q hq, fin _ (fun j j1 j2 j3 => ?_) (fun _ => ⟨?_, ?_⟩) ?_⟩
        · simp (disch := omega) only [wi_c, wi_u, upd_s, upd_n, su_r, su_c]
        · simp (disch := omega) only [wi_c, wi_u, upd_s, upd_n, su_r, su_c, m1, b1]
        · simp (disch := omega) only [wi_c, wi_u, upd_s, upd_n, su_r, su_c, m1, b2]
        · simp (disch := omega) only [wi_c, wi_u, upd_s, upd_n, su_r, su_c, m2]
    · have b3 := a2 (by omega)
      have m2 : (mvY bl wx wy Y).2.2.1 i = Y.2.2.1 i := if_neg h
      simp (disch := omega) only [ln_, leT, leF, ltT, ltF, eqT, eqF, vpT, nlT, nleT, lnF, lenF, eqnF, neqF, nnF, nI_add, pk_mul, pk_div, pk_sub, ni_m, nI_clamp, md10, dm10, gI_l, gI_n, ar_t, ar_f, it_t, it_f, true_and, and_true, not_true_eq_false, not_false_eq_true, implies_true, and_self, eq_self, h5, b3]
      exact ih _ ⟨hs1, fin _ (fun _ _ _ _ => rfl) (fun e => absurd e h) (by rw [a3, m2])⟩
theorem r_blows22 {d : Int32} {dry : Bool} (hd : d = if dry = true then nI 1 else nI 0) (hfu : 20000 ≤ fu) (r : rT lv P np ht sg wx wy rn sd s) (y : YF P np Y (s 95)) (w : YW P np ht Y) (hL : LR fu LW s) (hC : LWc LW) :
    ∃ s', f_X12_blows_22 fu fu d (nI 0) s l = (s', l) ∧ p_X12_blows_22 fu fu d (nI 0) s l ∧ YF P np (mvY (fun i => dry && decide (Y.2.1 i < 80) && decide (¬ LW 0 (vrs sg P Y i) ≤ nI 0)) wx wy Y) (s' 95) ∧ rR s s' := by
  have hP := w.1
  have hn := w.2.1
  refine loop_i (fun n i s0 => ∃ s', f_X12_blows_22 fu n d (nI i) s0 l = (s', l) ∧ p_X12_blows_22 fu n d (nI i) s0 l ∧ YF P np (mvY (fun i => dry && decide (Y.2.1 i < 80) && decide (¬ LW 0 (vrs sg P Y i) ≤ nI 0)) wx wy Y) (s' 95) ∧ rR s s')
    (fun i s0 => (rR s s0 ∧ s0 95 = s 95) ∧ ∀ j, j < i → s0 98 j = if (dry && decide (Y.2.1 j < 80) && decide (¬ LW 0 (vrs sg P Y j) ≤ nI 0)) = true then nI 1 else nI 0) P ?_ ?_ fu 0 s (Nat.zero_le _) (by omega) ⟨⟨rR_rfl, rfl⟩, fun j hj => absurd hj (Nat.not_lt_zero j)⟩
  · intro n s0 hs
    obtain ⟨⟨hs1, hs9⟩, hs2⟩ := hs
    have h5 : s0 60 54 = nI P := by rw [hs1.2 54 (by omega)]; exact r.2.2.1
    obtain ⟨s', e, p, hy, hr⟩ := r_blows69 (l := l) hfu (rT_keep hs1 r) (by rw [hs9]; exact y) w hs2
    refine ⟨s', ?_, ?_, hy, rR_tr hs1 (rR_95 hr)⟩
    · unfold f_X12_blows_22
      simp (disch := omega) only [ln_, leT, leF, ltT, ltF, eqT, eqF, vpT, nlT, nleT, lnF, lenF, eqnF, neqF, nnF, nI_add, pk_mul, pk_div, pk_sub, ni_m, nI_clamp, md10, dm10, gI_l, gI_n, ar_t, ar_f, it_t, it_f, true_and, and_true, not_true_eq_false, not_false_eq_true, implies_true, and_self, eq_self, h5, e]
    · unfold p_X12_blows_22
      simp (disch := omega) only [ln_, leT, leF, ltT, ltF, eqT, eqF, vpT, nlT, nleT, lnF, lenF, eqnF, neqF, nnF, nI_add, pk_mul, pk_div, pk_sub, ni_m, nI_clamp, md10, dm10, gI_l, gI_n, ar_t, ar_f, it_t, it_f, true_and, and_true, not_true_eq_false, not_false_eq_true, implies_true, and_self, eq_self, h5, p]
  · intro n i s0 hi hs ih
    obtain ⟨⟨hs1, hs9⟩, hs2⟩ := hs
    have h5 : s0 60 54 = nI P := by rw [hs1.2 54 (by omega)]; exact r.2.2.1
    have y0 : YF P np Y (s0 95) := by rw [hs9]; exact y
    have h1 := r_doesLie (fu := fu) (l := l) y0 w hi
    have fin : ∀ s2 : fl_I, ∀ v : Int32, rK s0 s2 → v = (if (dry && decide (Y.2.1 i < 80) && decide (¬ LW 0 (vrs sg P Y i) ≤ nI 0)) = true then nI 1 else nI 0) → (rR s (wi s2 98 i v) ∧ (wi s2 98 i v) 95 = s 95) ∧ ∀ j, j < i + 1 → (wi s2 98 i v) 98 j = if (dry && decide (Y.2.1 j < 80) && decide (¬ LW 0 (vrs sg P Y j) ≤ nI 0)) = true then nI 1 else nI 0 := by
      intro s2 v f1 f3
      refine ⟨⟨⟨fun q a b c d e => by rw [wi_c c, f1.1 q a b d]; exact hs1.1 q a b c d e, fun j hj => by rw [wi_c (by omega), f1.2 j hj]; exact hs1.2 j hj⟩, by rw [wi_c (by omega), f1.1 95 (by omega) (by omega) (by omega)]; exact hs9⟩, fun j hj => ?_⟩
      rw [wi_u]
      by_cases e : j = i
      · subst e; rw [upd_s]; exact f3
      · rw [upd_n e, f1.1 98 (by omega) (by omega) (by omega)]; exact hs2 j (by omega)
    unfold p_X12_blows_22 f_X12_blows_22
    cases dry with
    | false =>
      have hd : d = nI 0 := hd
      simp (disch := omega) only [ln_, leT, leF, ltT, ltF, eqT, eqF, vpT, nlT, nleT, lnF, lenF, eqnF, neqF, nnF, nI_add, pk_mul, pk_div, pk_sub, ni_m, nI_clamp, md10, dm10, gI_l, gI_n, ar_t, ar_f, it_t, it_f, true_and, and_true, not_true_eq_false, not_false_eq_true, implies_true, and_self, eq_self, h5, hd, nar0]
      have := ih _ (fin s0 (nI 0) rK_rfl rfl)
      rw [hd] at this
      exact this
    | true =>
      have hd : d = nI 1 := hd
      by_cases h : Y.2.1 i < 80
      · rw [if_pos h] at h1
        obtain ⟨s2, e2, p2, k2⟩ := r_isBlown (l := l) hfu (rT_keep hs1 r) y0 w hi h (LR_R hs1 hL) hC
        by_cases hb : LW 0 (vrs sg P Y i) ≤ nI 0
        · rw [if_pos hb] at e2
          simp (disch := omega) only [ln_, leT, leF, ltT, ltF, eqT, eqF, vpT, nlT, nleT, lnF, lenF, eqnF, neqF, nnF, nI_add, pk_mul, pk_div, pk_sub, ni_m, nI_clamp, md10, dm10, gI_l, gI_n, ar_t, ar_f, it_t, it_f, true_and, and_true, not_true_eq_false, not_false_eq_true, implies_true, and_self, eq_self, h5, hd, h1, e2, p2, nar0]
          have := ih _ (fin s2 (nI 0) k2 (by simp [hb]))
          rw [hd] at this
          exact this
        · rw [if_neg hb] at e2
          simp (disch := omega) only [ln_, leT, leF, ltT, ltF, eqT, eqF, vpT, nlT, nleT, lnF, lenF, eqnF, neqF, nnF, nI_add, pk_mul, pk_div, pk_sub, ni_m, nI_clamp, md10, dm10, gI_l, gI_n, ar_t, ar_f, it_t, it_f, true_and, and_true, not_true_eq_false, not_false_eq_true, implies_true, and_self, eq_self, h5, hd, h1, e2, p2, nar1]
          have := ih _ (fin s2 (nI 1) k2 (by simp [hb, h]))
          rw [hd] at this
          exact this
      · rw [if_neg h] at h1
        simp (disch := omega) only [ln_, leT, leF, ltT, ltF, eqT, eqF, vpT, nlT, nleT, lnF, lenF, eqnF, neqF, nnF, nI_add, pk_mul, pk_div, pk_sub, ni_m, nI_clamp, md10, dm10, gI_l, gI_n, ar_t, ar_f, it_t, it_f, true_and, and_true, not_true_eq_false, not_false_eq_true, implies_true, and_self, eq_self, h5, hd, h1, nar0]
        have := ih _ (fin s0 (nI 0) rK_rfl (by simp [h]))
        rw [hd] at this
        exact this
theorem mv_bl : YE P np (mvY (fun i => true && decide (Y.2.1 i < 80) && decide (¬ LW 0 (vrs sg P Y i) ≤ nI 0)) wx wy Y) (blY LW sg wx wy P Y) := by
  refine ⟨rfl, fun i _ => ?_, fun _ _ => ⟨rfl, rfl⟩⟩
  show (if _ then _ else _) = (if _ then _ else _) ∧ (if _ then (if _ then _ else _) else _) = (if _ then (if _ then _ else _) else _)
  by_cases h : Y.2.1 i < 80
  · by_cases h2 : LW 0 (vrs sg P Y i) ≤ nI 0
    · simp [h, h2]
    · simp [h, h2]
  · simp [h]
theorem mv_lo : YE P np (mvY (fun i => false && decide (Y.2.1 i < 80) && decide (¬ LW 0 (vrs sg P Y i) ≤ nI 0)) wx wy Y) (loY Y) := by
  refine ⟨rfl, fun i _ => ?_, fun _ _ => ⟨rfl, rfl⟩⟩
  show (if _ then _ else _) = _ ∧ (if _ then (if _ then _ else _) else _) = (if _ then _ else _)
  by_cases h : Y.2.1 i < 80
  · simp [h, loY]
  · simp [h, loY]
theorem r_isRain (r : rT lv P np ht sg wx wy rn sd s) (y : YF P np Y (s 95)) : p_X12_isRain fu s l ∧ f_X12_isRain fu s l = if rn ≤ rl (s 60 52) Y.1 then nI 0 else nI 1 := by
  obtain ⟨r1, r2, r3, r4, r5, r6, r7, r8, r9, r10⟩ := r
  have h140 : s 95 (140 : Int32).toNatClampNeg = Y.1 := y.1
  have hc : (s 60 18).toNatClampNeg = lv := by rw [r2, nI_clamp (by omega)]
  have hv : vp_in (s 60 18) 2 := by rw [r2]; exact vp_in_nI (by omega) (by omega)
  unfold p_X12_isRain f_X12_isRain
  rw [hc, r9, h140]
  exact ⟨⟨trivial, trivial, hv, fun _ => trivial, fun _ => trivial⟩, rfl⟩
theorem r_blows (hfu : 20000 ≤ fu) (r : rT lv P np ht sg wx wy rn sd s) (y : YF P np Y (s 95)) (w : YW P np ht Y) (hL : LR fu LW s) (hC : LWc LW) (hst : s 60 53 = if st = true then nI 1 else nI 0) :
    ∃ s', f_X12_blows fu s l = (s', l) ∧ p_X12_blows fu s l ∧ YF P np (if st = false ∧ ¬ rn ≤ rl (s 60 52) Y.1 then loY Y else blY LW sg wx wy P Y) (s' 95) ∧ rR s s' := by
  obtain ⟨s1, e1, p1, y1, k1⟩ := r_blows22 (l := l) (d := nI 1) (dry := true) rfl hfu r y w hL hC
  obtain ⟨s0, e0, p0, y0, k0⟩ := r_blows22 (l := l) (d := nI 0) (dry := false) rfl hfu r y w hL hC
  have hr := r_isRain (fu := fu) (l := l) r y
  have y1 := YF_congr mv_bl y1
  have y0 := YF_congr mv_lo y0
  unfold f_X12_blows p_X12_blows
  cases st with
  | true =>
    have hst : s 60 53 = nI 1 := hst
    refine ⟨s1, ?_, ?_, ?_, k1⟩
    · simp (disch := omega) only [ln_, leT, leF, ltT, ltF, eqT, eqF, vpT, nlT, nleT, lnF, lenF, eqnF, neqF, nnF, nI_add, pk_mul, pk_div, pk_sub, ni_m, nI_clamp, md10, dm10, gI_l, gI_n, ar_t, ar_f, it_t, it_f, true_and, and_true, not_true_eq_false, not_false_eq_true, implies_true, and_self, eq_self, hst, e1]
    · simp (disch := omega) only [ln_, leT, leF, ltT, ltF, eqT, eqF, vpT, nlT, nleT, lnF, lenF, eqnF, neqF, nnF, nI_add, pk_mul, pk_div, pk_sub, ni_m, nI_clamp, md10, dm10, gI_l, gI_n, ar_t, ar_f, it_t, it_f, true_and, and_true, not_true_eq_false, not_false_eq_true, implies_true, and_self, eq_self, hst, p1]
    · rw [if_neg (fun h => Bool.noConfusion h.1)]; exact y1
  | false =>
    have hst : s 60 53 = nI 0 := hst
    by_cases h : rn ≤ rl (s 60 52) Y.1
    · rw [if_pos h] at hr
      refine ⟨s1, ?_, ?_, ?_, k1⟩
      · simp (disch := omega) only [ln_, leT, leF, ltT, ltF, eqT, eqF, vpT, nlT, nleT, lnF, lenF, eqnF, neqF, nnF, nI_add, pk_mul, pk_div, pk_sub, ni_m, nI_clamp, md10, dm10, gI_l, gI_n, ar_t, ar_f, it_t, it_f, true_and, and_true, not_true_eq_false, not_false_eq_true, implies_true, and_self, eq_self, hst, hr, e1]
      · simp (disch := omega) only [ln_, leT, leF, ltT, ltF, eqT, eqF, vpT, nlT, nleT, lnF, lenF, eqnF, neqF, nnF, nI_add, pk_mul, pk_div, pk_sub, ni_m, nI_clamp, md10, dm10, gI_l, gI_n, ar_t, ar_f, it_t, it_f, true_and, and_true, not_true_eq_false, not_false_eq_true, implies_true, and_self, eq_self, hst, hr, p1]
      · rw [if_neg (fun e => e.2 h)]; exact y1
    · rw [if_neg h] at hr
      refine ⟨s0, ?_, ?_, ?_, k0⟩
      · simp (disch := omega) only [ln_, leT, leF, ltT, ltF, eqT, eqF, vpT, nlT, nleT, lnF, lenF, eqnF, neqF, nnF, nI_add, pk_mul, pk_div, pk_sub, ni_m, nI_clamp, md10, dm10, gI_l, gI_n, ar_t, ar_f, it_t, it_f, true_and, and_true, not_true_eq_false, not_false_eq_true, implies_true, and_self, eq_self, hst, hr, e0]
      · simp (disch := omega) only [ln_, leT, leF, ltT, ltF, eqT, eqF, vpT, nlT, nleT, lnF, lenF, eqnF, neqF, nnF, nI_add, pk_mul, pk_div, pk_sub, ni_m, nI_clamp, md10, dm10, gI_l, gI_n, ar_t, ar_f, it_t, it_f, true_and, and_true, not_true_eq_false, not_false_eq_true, implies_true, and_self, eq_self, hst, hr, p0]
      · rw [if_pos ⟨rfl, h⟩]; exact y0
theorem r_hour (hfu : 20000 ≤ fu) (r : rT lv P np ht sg wx wy rn sd s) (y : YF P np Y (s 95)) (w : YW P np ht Y) (hL : LR fu LW s) (hC : LWc LW) (hst : s 60 53 = if st = true then nI 1 else nI 0) :
    ∃ s', f_X12_hourGoes fu s l = (s', l) ∧ p_X12_hourGoes fu s l ∧ YF P np (hrY LW sg ht wx wy rn P np st (s 60 52) Y) (s' 95) ∧ rR s s' := by
  have hn := w.2.1
  have hP := w.1
  have second : ∀ s1 : fl_I, rR s s1 → YF P np (wkY Y) (s1 95) → ∃ s', f_X12_hourGoes_28 fu fu (nI 0) s1 l = (s', l) ∧ p_X12_hourGoes_28 fu fu (nI 0) s1 l ∧ YF P np (hrY LW sg ht wx wy rn P np st (s 60 52) Y) (s' 95) ∧ rR s s' := by
    intro s1 k1 y1
    refine loop_i (fun n b s0 => ∃ s', f_X12_hourGoes_28 fu n (nI b) s0 l = (s', l) ∧ p_X12_hourGoes_28 fu n (nI b) s0 l ∧ YF P np (hrY LW sg ht wx wy rn P np st (s 60 52) Y) (s' 95) ∧ rR s s') (fun b s0 => YF P np (pkB ht P (wkY Y) b) (s0 95) ∧ rR s s0) np ?_ ?_ fu 0 s1 (Nat.zero_le _) (by omega) ⟨y1, k1⟩
    · intro n s0 hs
      obtain ⟨hy, hk⟩ := hs
      have r0 := rT_keep hk r
      have h18 := r0.2.1
      have h74 := r0.2.2.2.1
      have hlv := r.1
      obtain ⟨s2, e2, p2, y2, k2⟩ := r_blows (st := st) (l := l) hfu r0 hy (pkB_W (wkY_W w) (Nat.le_refl np)) (LR_R hk hL) hC (by rw [hk.2 53 (by omega)]; exact hst)
      rw [hk.2 52 (by omega), pkB_at.2] at y2
      refine ⟨wi s2 95 140 (s2 95 140 + nI 1), ?_, ?_, ?_, ?_⟩
      · unfold f_X12_hourGoes_28
        simp (disch := omega) only [ln_, leT, leF, ltT, ltF, eqT, eqF, vpT, nlT, nleT, lnF, lenF, eqnF, neqF, nnF, nI_add, pk_mul, pk_div, pk_sub, ni_m, nI_clamp, md10, dm10, gI_l, gI_n, ar_t, ar_f, it_t, it_f, true_and, and_true, not_true_eq_false, not_false_eq_true, implies_true, and_self, eq_self, h18, h74, e2]
      · unfold p_X12_hourGoes_28
        simp (disch := omega) only [ln_, leT, leF, ltT, ltF, eqT, eqF, vpT, nlT, nleT, lnF, lenF, eqnF, neqF, nnF, nI_add, pk_mul, pk_div, pk_sub, ni_m, nI_clamp, md10, dm10, gI_l, gI_n, ar_t, ar_f, it_t, it_f, true_and, and_true, not_true_eq_false, not_false_eq_true, implies_true, and_self, eq_self, h18, h74, p2]
      · rw [wi_u]
        refine ⟨?_, fun i hi => ?_, fun j hj => ?_⟩
        · rw [upd_s, y2.1]; rfl
        · rw [upd_n (by omega), upd_n (by omega), upd_n (by omega), upd_n (by omega)]; exact y2.2.1 i hi
        · rw [upd_n (by omega), upd_n (by omega), upd_n (by omega)]; exact y2.2.2 j hj
      · exact rR_tr hk (rR_tr k2 (rR_95 (fun q hq => wi_c hq)))
    · intro n b s0 hb hs ih
      obtain ⟨hy, hk⟩ := hs
      have r0 := rT_keep hk r
      have h18 := r0.2.1
      have h74 := r0.2.2.2.1
      have hlv := r.1
      obtain ⟨s2, e2, p2, y2, k2⟩ := r_picksUp (l := l) hfu hlv h18 r0.2.2.1 r0.2.2.2.2.1 hy (pkB_W (wkY_W w) (Nat.le_of_lt hb)) hb
      unfold p_X12_hourGoes_28 f_X12_hourGoes_28
      simp (disch := omega) only [ln_, leT, leF, ltT, ltF, eqT, eqF, vpT, nlT, nleT, lnF, lenF, eqnF, neqF, nnF, nI_add, pk_mul, pk_div, pk_sub, ni_m, nI_clamp, md10, dm10, gI_l, gI_n, ar_t, ar_f, it_t, it_f, true_and, and_true, not_true_eq_false, not_false_eq_true, implies_true, and_self, eq_self, h18, h74, e2, p2]
      exact ih _ ⟨y2, rR_tr hk (rR_95 k2)⟩
  refine loop_i (fun n b s0 => ∃ s', f_X12_hourGoes_2 fu n (nI b) s0 l = (s', l) ∧ p_X12_hourGoes_2 fu n (nI b) s0 l ∧ YF P np (hrY LW sg ht wx wy rn P np st (s 60 52) Y) (s' 95) ∧ rR s s') (fun b s0 => YF P np (wkM Y b) (s0 95) ∧ rR s s0) np ?_ ?_ fu 0 s (Nat.zero_le _) (by omega) ⟨YF_congr wkM_0 y, rR_rfl⟩
  · intro n s0 hs
    obtain ⟨hy, hk⟩ := hs
    have r0 := rT_keep hk r
    have h18 := r0.2.1
    have h74 := r0.2.2.2.1
    have hlv := r.1
    obtain ⟨s2, e2, p2, y2, k2⟩ := second s0 hk (YF_congr wkM_n hy)
    refine ⟨s2, ?_, ?_, y2, k2⟩
    · unfold f_X12_hourGoes_2
      simp (disch := omega) only [ln_, leT, leF, ltT, ltF, eqT, eqF, vpT, nlT, nleT, lnF, lenF, eqnF, neqF, nnF, nI_add, pk_mul, pk_div, pk_sub, ni_m, nI_clamp, md10, dm10, gI_l, gI_n, ar_t, ar_f, it_t, it_f, true_and, and_true, not_true_eq_false, not_false_eq_true, implies_true, and_self, eq_self, h18, h74, e2]
    · unfold p_X12_hourGoes_2
      simp (disch := omega) only [ln_, leT, leF, ltT, ltF, eqT, eqF, vpT, nlT, nleT, lnF, lenF, eqnF, neqF, nnF, nI_add, pk_mul, pk_div, pk_sub, ni_m, nI_clamp, md10, dm10, gI_l, gI_n, ar_t, ar_f, it_t, it_f, true_and, and_true, not_true_eq_false, not_false_eq_true, implies_true, and_self, eq_self, h18, h74, p2]
  · intro n b s0 hb hs ih
    obtain ⟨hy, hk⟩ := hs
    have r0 := rT_keep hk r
    have h18 := r0.2.1
    have h74 := r0.2.2.2.1
    have hlv := r.1
    obtain ⟨s2, e2, p2, y2, k2⟩ := r_pickerGoes (fu := fu) (l := l) w hb hy
    unfold p_X12_hourGoes_2 f_X12_hourGoes_2
    simp (disch := omega) only [ln_, leT, leF, ltT, ltF, eqT, eqF, vpT, nlT, nleT, lnF, lenF, eqnF, neqF, nnF, nI_add, pk_mul, pk_div, pk_sub, ni_m, nI_clamp, md10, dm10, gI_l, gI_n, ar_t, ar_f, it_t, it_f, true_and, and_true, not_true_eq_false, not_false_eq_true, implies_true, and_self, eq_self, h18, h74, e2, p2]
    exact ih _ ⟨y2, rR_tr hk (rR_95 k2)⟩
theorem r_goes (hfu : 20000 ≤ fu) (r : rT lv P np ht sg wx wy rn sd s) (y : YF P np Y (s 95)) (w : YW P np ht Y) (hL : LR fu LW s) (hC : LWc LW) (hst : s 60 53 = if st = true then nI 1 else nI 0) (hn : n ≤ 100) :
    ∃ s', f_X12_goes fu (nI n) s l = (s', l) ∧ p_X12_goes fu (nI n) s l ∧ YF P np (goY LW sg ht wx wy rn P np st (s 60 52) Y n) (s' 95) ∧ rR s s' := by
  refine loop_i (fun m i s0 => ∃ s', f_X12_goes_2 fu m (nI n) (nI i) s0 l = (s', l) ∧ p_X12_goes_2 fu m (nI n) (nI i) s0 l ∧ YF P np (goY LW sg ht wx wy rn P np st (s 60 52) Y n) (s' 95) ∧ rR s s') (fun i s0 => YF P np (goY LW sg ht wx wy rn P np st (s 60 52) Y i) (s0 95) ∧ rR s s0) n ?_ ?_ fu 0 s (Nat.zero_le _) (by omega) ⟨y, rR_rfl⟩
  · intro m s0 hs
    refine ⟨s0, ?_, ?_, hs⟩
    · unfold f_X12_goes_2
      simp (disch := omega) only [ln_, leT, leF, ltT, ltF, eqT, eqF, vpT, nlT, nleT, lnF, lenF, eqnF, neqF, nnF, nI_add, pk_mul, pk_div, pk_sub, ni_m, nI_clamp, md10, dm10, gI_l, gI_n, ar_t, ar_f, it_t, it_f, true_and, and_true, not_true_eq_false, not_false_eq_true, implies_true, and_self, eq_self]
    · unfold p_X12_goes_2
      simp (disch := omega) only [ln_, leT, leF, ltT, ltF, eqT, eqF, vpT, nlT, nleT, lnF, lenF, eqnF, neqF, nnF, nI_add, pk_mul, pk_div, pk_sub, ni_m, nI_clamp, md10, dm10, gI_l, gI_n, ar_t, ar_f, it_t, it_f, true_and, and_true, not_true_eq_false, not_false_eq_true, implies_true, and_self, eq_self]
  · intro m i s0 hi hs ih
    obtain ⟨hy, hk⟩ := hs
    obtain ⟨s2, e2, p2, y2, k2⟩ := r_hour (st := st) (l := l) hfu (rT_keep hk r) hy (goY_W w) (LR_R hk hL) hC (by rw [hk.2 53 (by omega)]; exact hst)
    rw [hk.2 52 (by omega)] at y2
    unfold p_X12_goes_2 f_X12_goes_2
    simp (disch := omega) only [ln_, leT, leF, ltT, ltF, eqT, eqF, vpT, nlT, nleT, lnF, lenF, eqnF, neqF, nnF, nI_add, pk_mul, pk_div, pk_sub, ni_m, nI_clamp, md10, dm10, gI_l, gI_n, ar_t, ar_f, it_t, it_f, true_and, and_true, not_true_eq_false, not_false_eq_true, implies_true, and_self, eq_self, e2, p2]
    exact ih _ ⟨y2, rR_tr hk k2⟩
end rlw
