/-! Hours: a picker's step, picking up, rain -/
def stp (c g : Nat) : Nat := if g % 10 < c % 10 then c - 1 else if c % 10 < g % 10 then c + 1 else if g / 10 < c / 10 then c - 10 else if c / 10 < g / 10 then c + 10 else c
theorem stp_cases (c g : Nat) : (g % 10 < c % 10 ∧ stp c g = c - 1) ∨ (c % 10 < g % 10 ∧ stp c g = c + 1) ∨ (g % 10 = c % 10 ∧ g / 10 < c / 10 ∧ stp c g = c - 10) ∨ (g % 10 = c % 10 ∧ c / 10 < g / 10 ∧ stp c g = c + 10) ∨ (g % 10 = c % 10 ∧ g / 10 = c / 10 ∧ stp c g = c) := by
  unfold stp
  by_cases h1 : g % 10 < c % 10
  · exact .inl ⟨h1, if_pos h1⟩
  · by_cases h2 : c % 10 < g % 10
    · exact .inr (.inl ⟨h2, by rw [if_neg h1, if_pos h2]⟩)
    · by_cases h3 : g / 10 < c / 10
      · exact .inr (.inr (.inl ⟨by omega, h3, by rw [if_neg h1, if_neg h2, if_pos h3]⟩))
      · by_cases h4 : c / 10 < g / 10
        · exact .inr (.inr (.inr (.inl ⟨by omega, h4, by rw [if_neg h1, if_neg h2, if_neg h3, if_pos h4]⟩)))
        · exact .inr (.inr (.inr (.inr ⟨by omega, by omega, by rw [if_neg h1, if_neg h2, if_neg h3, if_neg h4]⟩)))
theorem stp_lt {c g : Nat} (hc : c < 80) (hg : g < 80) : stp c g < 80 := by
  rcases stp_cases c g with h | h | h | h | h <;> omega
theorem cmpL {fu x y : Nat} (h : x < y) (hy : y < 2 ^ 31) : f_J6_compare_7cf53 fu (nI x) (nI y) = -nI 1 := by
  unfold f_J6_compare_7cf53; rw [if_neg (nI_ge h hy)]; rfl
theorem cmpG {fu x y : Nat} (h : y < x) (hy : x < 2 ^ 31) : f_J6_compare_7cf53 fu (nI x) (nI y) = nI 1 := by
  unfold f_J6_compare_7cf53; rw [if_pos (nI_le (Nat.le_of_lt h) hy), if_neg (fun e => by have := (nI_eq hy (by omega)).mp e; omega)]; rfl
theorem cmpE {fu x y : Nat} (h : x = y) (hy : x < 2 ^ 31) : f_J6_compare_7cf53 fu (nI x) (nI y) = nI 0 := by
  subst h; unfold f_J6_compare_7cf53; rw [if_pos (nI_le (Nat.le_refl _) hy), if_pos rfl]; rfl
theorem p_cmpT {fu : Nat} {x y : Int32} : p_J6_compare_7cf53 fu x y = True := eq_true ⟨fun _ => ⟨fun _ => trivial, fun _ => trivial⟩, fun _ => trivial⟩
theorem nmul (a b : Nat) : nI a * -nI b = -nI (a * b) := by rw [← pk_mul, Int32.mul_neg]
def wkA (Y : Yd) (j : Nat) : Nat := if Y.2.2.2.2 j < 80 then stp (Y.2.2.2.1 j) (Y.2.2.2.2 j) else Y.2.2.2.1 j
def wkG (Y : Yd) (j : Nat) : Nat := if Y.2.2.2.2 j < 80 ∧ stp (Y.2.2.2.1 j) (Y.2.2.2.2 j) = Y.2.2.2.2 j then 80 else Y.2.2.2.2 j
def wkY (Y : Yd) : Yd := (Y.1, Y.2.1, Y.2.2.1, wkA Y, wkG Y)
def wkM (Y : Yd) (b : Nat) : Yd := (Y.1, Y.2.1, Y.2.2.1, fun j => if j < b then wkA Y j else Y.2.2.2.1 j, fun j => if j < b then wkG Y j else Y.2.2.2.2 j)
def un (f : Nat → Nat) (k v : Nat) : Nat → Nat := fun j => if j = k then v else f j
theorem un_s {f : Nat → Nat} {k v : Nat} : un f k v k = v := if_pos rfl
theorem un_n {f : Nat → Nat} {k v j : Nat} (h : j ≠ k) : un f k v j = f j := if_neg h
theorem wkM_0 {P np : Nat} {Y : Yd} : YE P np Y (wkM Y 0) := ⟨rfl, fun _ _ => ⟨rfl, rfl⟩, fun j _ => ⟨by simp [wkM], by simp [wkM]⟩⟩
theorem wkM_n {P np : Nat} {Y : Yd} : YE P np (wkM Y np) (wkY Y) := ⟨rfl, fun _ _ => ⟨rfl, rfl⟩, fun _ hj => ⟨if_pos hj, if_pos hj⟩⟩
theorem wkY_W {P np : Nat} {ht : Nat → Nat} {Y : Yd} (w : YW P np ht Y) : YW P np ht (wkY Y) := by
  refine ⟨w.1, w.2.1, w.2.2.1, fun b hb => ?_⟩
  obtain ⟨h1, h2, h3, h4⟩ := w.2.2.2 b hb
  refine ⟨?_, ?_, h3, h4⟩
  · show wkA Y b < 80
    unfold wkA; split
    · exact stp_lt h1 (by assumption)
    · exact h1
  · show wkG Y b ≤ 80
    unfold wkG; split
    · exact Nat.le_refl _
    · exact h2
section cgo
variable {fu P np a t i b c q : Nat} {ht : Nat → Nat} {Y : Yd} {s : fl_I} {l : fl_L}
theorem c_walk (hfu : 20000 ≤ fu) (y : yC P np Y a s) (w : YW P np ht Y) : ∃ s', f_X9_walk fu a s l = (s', l) ∧ p_X9_walk fu a s l ∧ yC P np (wkY Y) a s' ∧ ∀ r, r ≠ a + 3 → r ≠ a + 4 → s' r = s r := by
  have h4 := w.2.1
  have key := loop_i (fun n i s' => ∃ s'', f_X9_walk_2 fu n (nI i) a s' l = (s'', l) ∧ p_X9_walk_2 fu n (nI i) a s' l ∧ yC P np (wkM Y np) a s'' ∧ ∀ r, r ≠ a + 3 → r ≠ a + 4 → s'' r = s r) (fun i s' => yC P np (wkM Y i) a s' ∧ ∀ r, r ≠ a + 3 → r ≠ a + 4 → s' r = s r) np ?_ ?_ fu 0 s (Nat.zero_le _) (by omega) ⟨YC_congr wkM_0 y, fun _ _ _ => rfl⟩
  · obtain ⟨s', e, hp, hy, hr⟩ := key
    exact ⟨s', e, hp, YC_congr wkM_n hy, hr⟩
  · intro n s' hs
    have h5 := hs.1.2.2.1
    refine ⟨s', ?_, ?_, hs⟩
    · unfold f_X9_walk_2
      simp (disch := omega) only [ln_, leT, leF, ltT, ltF, eqT, eqF, vpT, nlT, nleT, lnF, lenF, eqnF, neqF, nnF, nI_add, pk_mul, pk_div, pk_sub, ni_m, nI_clamp, md10, dm10, gI_l, gI_n, ar_t, ar_f, it_t, it_f, true_and, and_true, not_true_eq_false, not_false_eq_true, implies_true, and_self, eq_self, h5]
    · unfold p_X9_walk_2
      simp (disch := omega) only [ln_, leT, leF, ltT, ltF, eqT, eqF, vpT, nlT, nleT, lnF, lenF, eqnF, neqF, nnF, nI_add, pk_mul, pk_div, pk_sub, ni_m, nI_clamp, md10, dm10, gI_l, gI_n, ar_t, ar_f, it_t, it_f, true_and, and_true, not_true_eq_false, not_false_eq_true, implies_true, and_self, eq_self, h5]
  · intro n b s' hb hs ih
    have h5 := hs.1.2.2.1
    obtain ⟨hc, hg, hx, _⟩ := w.2.2.2 b hb
    have h1 : s' (a + 3) b = nI (Y.2.2.2.1 b) := by rw [(hs.1.2.2.2.2 b hb).1]; show nI (if b < b then _ else _) = _; rw [if_neg (Nat.lt_irrefl b)]
    have h2 : s' (a + 4) b = gI (Y.2.2.2.2 b) := by rw [(hs.1.2.2.2.2 b hb).2.1]; show gI (if b < b then _ else _) = _; rw [if_neg (Nat.lt_irrefl b)]
    have fin : ∀ s'' : fl_I, (∀ r, r ≠ a + 3 → r ≠ a + 4 → s'' r = s' r) → s'' (a + 3) b = nI (wkA Y b) → s'' (a + 4) b = gI (wkG Y b) → (∀ j, j ≠ b → s'' (a + 3) j = s' (a + 3) j ∧ s'' (a + 4) j = s' (a + 4) j) → yC P np (wkM Y (b + 1)) a s'' ∧ ∀ r, r ≠ a + 3 → r ≠ a + 4 → s'' r = s r := by
      intro s'' f1 f2 f3 f4
      refine ⟨?_, fun r k1 k2 => by rw [f1 r k1 k2, hs.2 r k1 k2]⟩
      show YC P np _ (s'' a) (s'' (a + 1)) (s'' (a + 2)) (s'' (a + 3)) (s'' (a + 4)) (s'' (a + 5))
      rw [f1 a (by omega) (by omega), f1 (a + 1) (by omega) (by omega), f1 (a + 2) (by omega) (by omega), f1 (a + 5) (by omega) (by omega)]
      refine ⟨hs.1.1, hs.1.2.1, hs.1.2.2.1, hs.1.2.2.2.1, fun j hj => ?_⟩
      obtain ⟨g1, g2, g3⟩ := hs.1.2.2.2.2 j hj
      by_cases e : j = b
      · subst e
        refine ⟨?_, ?_, g3⟩
        · rw [f2]; show _ = nI (if j < j + 1 then _ else _); rw [if_pos (Nat.lt_succ_self j)]
        · rw [f3]; show _ = gI (if j < j + 1 then _ else _); rw [if_pos (Nat.lt_succ_self j)]
      · refine ⟨?_, ?_, g3⟩
        · rw [(f4 j e).1, g1]; show nI (if j < b then _ else _) = nI (if j < b + 1 then _ else _)
          by_cases e2 : j < b
          · rw [if_pos e2, if_pos (by omega)]
          · rw [if_neg e2, if_neg (by omega)]
        · rw [(f4 j e).2, g2]; show gI (if j < b then _ else _) = gI (if j < b + 1 then _ else _)
          by_cases e2 : j < b
          · rw [if_pos e2, if_pos (by omega)]
          · rw [if_neg e2, if_neg (by omega)]
    unfold p_X9_walk_2 f_X9_walk_2
    by_cases h80 : Y.2.2.2.2 b < 80
    · have hA : wkA Y b = stp (Y.2.2.2.1 b) (Y.2.2.2.2 b) := if_pos h80
      have hr := stp_cases (Y.2.2.2.1 b) (Y.2.2.2.2 b)
      by_cases hx : stp (Y.2.2.2.1 b) (Y.2.2.2.2 b) = Y.2.2.2.2 b
      · have hG : wkG Y b = 80 := if_pos ⟨h80, hx⟩
        rcases hr with ⟨k1, k2⟩ | ⟨k1, k2⟩ | ⟨k0, k1, k2⟩ | ⟨k0, k1, k2⟩ | ⟨k0, k1, k2⟩
        all_goals try (exfalso; omega)
        all_goals
          simp (disch := omega) only [ln_, leT, leF, ltT, ltF, eqT, eqF, vpT, nlT, nleT, lnF, lenF, eqnF, neqF, nnF, nI_add, pk_mul, pk_div, pk_sub, ni_m, nI_clamp, md10, dm10, gI_l, gI_n, ar_t, ar_f, it_t, it_f, true_and, and_true, not_true_eq_false, not_false_eq_true, implies_true, and_self, eq_self, h5, h1, h2, p_cmpT, cmpL, cmpG, cmpE, nmul, wi_c, wi_u, upd_s, upd_n, su_r, su_c, Nat.reduceMul]
          refine ih _ (fin _ (fun r m1 m2 => ?_) ?_ ?_ (fun j hj => ?_))
          · simp only [wi_c m1, wi_c m2]
          · simp (disch := omega) only [wi_c, wi_u, upd_s, upd_n, su_r, su_c, hA]
            congr 1 <;> omega
          · simp (disch := omega) only [wi_c, wi_u, upd_s, upd_n, su_r, su_c, hG, gI_n]
          · simp (disch := omega) only [wi_c, wi_u, upd_s, upd_n, su_r, su_c, and_self]
      · have hG : wkG Y b = Y.2.2.2.2 b := if_neg (fun h => hx h.2)
        rcases hr with ⟨k1, k2⟩ | ⟨k1, k2⟩ | ⟨k0, k1, k2⟩ | ⟨k0, k1, k2⟩ | ⟨k0, k1, k2⟩
        all_goals try (exfalso; omega)
        all_goals
          simp (disch := omega) only [ln_, leT, leF, ltT, ltF, eqT, eqF, vpT, nlT, nleT, lnF, lenF, eqnF, neqF, nnF, nI_add, pk_mul, pk_div, pk_sub, ni_m, nI_clamp, md10, dm10, gI_l, gI_n, ar_t, ar_f, it_t, it_f, true_and, and_true, not_true_eq_false, not_false_eq_true, implies_true, and_self, eq_self, h5, h1, h2, p_cmpT, cmpL, cmpG, cmpE, nmul, wi_c, wi_u, upd_s, upd_n, su_r, su_c, Nat.reduceMul]
          refine ih _ (fin _ (fun r m1 m2 => ?_) ?_ ?_ (fun j hj => ?_))
          · simp only [wi_c m1]
          · simp (disch := omega) only [wi_c, wi_u, upd_s, upd_n, su_r, su_c, hA]
            congr 1 <;> omega
          · simp (disch := omega) only [wi_c, wi_u, upd_s, upd_n, su_r, su_c, hG, h2]
          · simp (disch := omega) only [wi_c, wi_u, upd_s, upd_n, su_r, su_c, and_self]
    · have hA : wkA Y b = Y.2.2.2.1 b := if_neg h80
      have hG : wkG Y b = Y.2.2.2.2 b := if_neg (fun h => h80 h.1)
      simp (disch := omega) only [ln_, leT, leF, ltT, ltF, eqT, eqF, vpT, nlT, nleT, lnF, lenF, eqnF, neqF, nnF, nI_add, pk_mul, pk_div, pk_sub, ni_m, nI_clamp, md10, dm10, gI_l, gI_n, ar_t, ar_f, it_t, it_f, true_and, and_true, not_true_eq_false, not_false_eq_true, implies_true, and_self, eq_self, h5, h1, h2]
      exact ih _ (fin _ (fun _ _ _ => rfl) (by rw [h1, hA]) (by rw [h2, hG]) (fun _ _ => ⟨rfl, rfl⟩))
end cgo
/-- picking up -/
def pk1 (ht : Nat → Nat) (P b : Nat) (Y : Yd) (k : Nat) : Yd := if Y.2.1 k = Y.2.2.2.1 b ∧ cnt Y.2.1 P b < ht b then (Y.1, un Y.2.1 k (80 + b), un Y.2.2.1 k 0, Y.2.2.2) else Y
def pkL (ht : Nat → Nat) (P b : Nat) (Y : Yd) : Nat → Yd
  | 0 => Y
  | k + 1 => pk1 ht P b (pkL ht P b Y k) k
def pkB (ht : Nat → Nat) (P : Nat) (Y : Yd) : Nat → Yd
  | 0 => Y
  | b + 1 => pkL ht P b (pkB ht P Y b) P
section pku
variable {fu P np a t i b c q k : Nat} {ht : Nat → Nat} {Y : Yd} {s : fl_I} {l : fl_L}
theorem pk1_at : (pk1 ht P b Y k).2.2.2 = Y.2.2.2 ∧ (pk1 ht P b Y k).1 = Y.1 := by unfold pk1; split <;> exact ⟨rfl, rfl⟩
theorem pkL_at : (pkL ht P b Y k).2.2.2 = Y.2.2.2 ∧ (pkL ht P b Y k).1 = Y.1 := by
  induction k with
  | zero => exact ⟨rfl, rfl⟩
  | succ k ih => unfold pkL; rw [pk1_at.1, pk1_at.2]; exact ih
theorem pkB_at : (pkB ht P Y k).2.2.2 = Y.2.2.2 ∧ (pkB ht P Y k).1 = Y.1 := by
  induction k with
  | zero => exact ⟨rfl, rfl⟩
  | succ k ih => unfold pkB; rw [pkL_at.1, pkL_at.2]; exact ih
theorem cnt_put {w : Nat → Nat} (hk : k < P) (hw : w k < 80) : cnt (un w k (80 + b)) P c = cnt w P c + if c = b then 1 else 0 := by
  unfold cnt
  by_cases e : c = b
  · subst e
    rw [if_pos rfl]
    refine ct_up hk (fun j _ hj => by rw [un_n hj]) ?_ ?_
    · simp; omega
    · rw [un_s]; simp
  · rw [if_neg e, Nat.add_zero]
    refine ct_congr (fun j _ => ?_)
    by_cases e2 : j = k
    · subst e2; rw [un_s]
      have h1 : (80 + b) ≠ (80 + c) := by omega
      have h2 : (w j) ≠ (80 + c) := by omega
      rw [beq_false_of_ne h1, beq_false_of_ne h2]
    · rw [un_n e2]
theorem pk1_W (w : YW P np ht Y) (hb : b < np) (hk : k < P) : YW P np ht (pk1 ht P b Y k) := by
  unfold pk1
  by_cases h : Y.2.1 k = Y.2.2.2.1 b ∧ cnt Y.2.1 P b < ht b
  · rw [if_pos h]
    have hl : Y.2.1 k < 80 := by have := (w.2.2.2 b hb).1; omega
    refine ⟨w.1, w.2.1, fun i hi => ?_, fun c hc => ?_⟩
    · by_cases e : i = k
      · subst e; show un _ _ _ _ < _ ∧ un _ _ _ _ ≤ _ ∧ (_ ≤ un _ _ _ _ → un _ _ _ _ = _); rw [un_s, un_s]; exact ⟨by omega, by omega, fun _ => rfl⟩
      · show un _ _ _ _ < _ ∧ un _ _ _ _ ≤ _ ∧ (_ ≤ un _ _ _ _ → un _ _ _ _ = _); rw [un_n e, un_n e]; exact w.2.2.1 i hi
    · obtain ⟨g1, g2, g3, g4⟩ := w.2.2.2 c hc
      refine ⟨g1, g2, ?_, g4⟩
      show cnt (un Y.2.1 k (80 + b)) P c ≤ _
      rw [cnt_put hk hl]
      by_cases e : c = b
      · subst e; rw [if_pos rfl]; omega
      · rw [if_neg e]; omega
  · rw [if_neg h]; exact w
theorem pkL_W (w : YW P np ht Y) (hb : b < np) (hk : k ≤ P) : YW P np ht (pkL ht P b Y k) := by
  induction k with
  | zero => exact w
  | succ k ih => exact pk1_W (ih (by omega)) hb (by omega)
theorem pkB_W (w : YW P np ht Y) (hb : b ≤ np) : YW P np ht (pkB ht P Y b) := by
  induction b with
  | zero => exact w
  | succ b ih => exact pkL_W (ih (by omega)) (by omega) (Nat.le_refl P)
theorem pkL_full (h : ht b ≤ cnt (pkL ht P b Y k).2.1 P b) : ∀ m, pkL ht P b Y (k + m) = pkL ht P b Y k := by
  intro m
  induction m with
  | zero => rfl
  | succ m ih => show pk1 ht P b (pkL ht P b Y (k + m)) (k + m) = _; rw [ih]; unfold pk1; rw [if_neg (by omega)]
theorem c_pickUp20 {K2 : Int32 → fl_I → fl_L → fl_I × fl_L} {P2 : Int32 → fl_I → fl_L → Prop} (hfu : 20000 ≤ fu) (y : yC P np Y a s) (w : YW P np ht Y) (hb : b < np) (hat : t = 9 ∨ t = 20) (haa : a = 31 ∨ a = 37) (hh : ∀ b, b < np → s (t + 8) b = nI (ht b)) :
    ∃ s', f_X9_pickUp_20 fu K2 fu (nI b) (nI (Y.2.2.2.1 b)) (nI 0) t a s l = K2 (nI (b + 1)) s' l ∧ (P2 (nI (b + 1)) s' l → p_X9_pickUp_20 fu P2 fu (nI b) (nI (Y.2.2.2.1 b)) (nI 0) t a s l) ∧ yC P np (pkL ht P b Y P) a s' ∧ ∀ r, r ≠ a + 1 → r ≠ a + 2 → r ≠ a + 5 → s' r = s r := by
  have hP := w.1
  have hn := w.2.1
  refine loop_i (fun n k s0 => ∃ s', f_X9_pickUp_20 fu K2 n (nI b) (nI (Y.2.2.2.1 b)) (nI k) t a s0 l = K2 (nI (b + 1)) s' l ∧ (P2 (nI (b + 1)) s' l → p_X9_pickUp_20 fu P2 n (nI b) (nI (Y.2.2.2.1 b)) (nI k) t a s0 l) ∧ yC P np (pkL ht P b Y P) a s' ∧ ∀ r, r ≠ a + 1 → r ≠ a + 2 → r ≠ a + 5 → s' r = s r) (fun k s0 => yC P np (pkL ht P b Y k) a s0 ∧ ∀ r, r ≠ a + 1 → r ≠ a + 2 → r ≠ a + 5 → s0 r = s r) P ?_ ?_ fu 0 s (Nat.zero_le _) (by omega) ⟨y, fun _ _ _ _ => rfl⟩
  · intro n s0 hs
    have h5 := hs.1.2.1
    refine ⟨s0, ?_, ?_, hs⟩
    · unfold f_X9_pickUp_20
      simp (disch := omega) only [ln_, leT, leF, ltT, ltF, eqT, eqF, vpT, nlT, nleT, lnF, lenF, eqnF, neqF, nnF, nI_add, pk_mul, pk_div, pk_sub, ni_m, nI_clamp, md10, dm10, gI_l, gI_n, ar_t, ar_f, it_t, it_f, true_and, and_true, not_true_eq_false, not_false_eq_true, implies_true, and_self, eq_self, h5]
    · unfold p_X9_pickUp_20
      simp (disch := omega) only [ln_, leT, leF, ltT, ltF, eqT, eqF, vpT, nlT, nleT, lnF, lenF, eqnF, neqF, nnF, nI_add, pk_mul, pk_div, pk_sub, ni_m, nI_clamp, md10, dm10, gI_l, gI_n, ar_t, ar_f, it_t, it_f, true_and, and_true, not_true_eq_false, not_false_eq_true, implies_true, and_self, eq_self, h5]
      exact fun h => h
  · intro n k s0 hk hs ih
    have h5 := hs.1.2.1
    have wk := pkL_W w hb (Nat.le_of_lt hk)
    obtain ⟨g1, g2, g3, g4⟩ := wk.2.2.2 b hb
    have h1 := (hs.1.2.2.2.1 k hk).1
    have h6 := (hs.1.2.2.2.2 b hb).2.2
    have h7 : s0 (t + 8) b = nI (ht b) := by rw [hs.2 (t + 8) (by omega) (by omega) (by omega)]; exact hh b hb
    have h8 := (wk.2.2.1 k hk).1
    have h9 : Y.2.2.2.1 b < 80 := (w.2.2.2 b hb).1
    have ha : (pkL ht P b Y k).2.2.2.1 = Y.2.2.2.1 := by rw [pkL_at.1]
    by_cases hfl : ht b ≤ cnt (pkL ht P b Y k).2.1 P b
    · have e : pkL ht P b Y P = pkL ht P b Y k := by have := pkL_full hfl (P - k); rwa [show k + (P - k) = P from by omega] at this
      refine ⟨s0, ?_, ?_, by rw [e]; exact hs.1, hs.2⟩
      · unfold f_X9_pickUp_20
        simp (disch := omega) only [ln_, leT, leF, ltT, ltF, eqT, eqF, vpT, nlT, nleT, lnF, lenF, eqnF, neqF, nnF, nI_add, pk_mul, pk_div, pk_sub, ni_m, nI_clamp, md10, dm10, gI_l, gI_n, ar_t, ar_f, it_t, it_f, true_and, and_true, not_true_eq_false, not_false_eq_true, implies_true, and_self, eq_self, h5, h6, h7]
      · unfold p_X9_pickUp_20
        simp (disch := omega) only [ln_, leT, leF, ltT, ltF, eqT, eqF, vpT, nlT, nleT, lnF, lenF, eqnF, neqF, nnF, nI_add, pk_mul, pk_div, pk_sub, ni_m, nI_clamp, md10, dm10, gI_l, gI_n, ar_t, ar_f, it_t, it_f, true_and, and_true, not_true_eq_false, not_false_eq_true, implies_true, and_self, eq_self, h5, h6, h7]
        exact fun h => h
    · unfold p_X9_pickUp_20 f_X9_pickUp_20 p_X10_putInHat f_X10_putInHat
      by_cases hw : (pkL ht P b Y k).2.1 k = Y.2.2.2.1 b
      · have hz : pkL ht P b Y (k + 1) = ((pkL ht P b Y k).1, un (pkL ht P b Y k).2.1 k (80 + b), un (pkL ht P b Y k).2.2.1 k 0, (pkL ht P b Y k).2.2.2) := by
          show pk1 ht P b (pkL ht P b Y k) k = _; unfold pk1; rw [if_pos ⟨by rw [ha]; exact hw, by omega⟩]
        simp (disch := omega) only [ln_, leT, leF, ltT, ltF, eqT, eqF, vpT, nlT, nleT, lnF, lenF, eqnF, neqF, nnF, nI_add, pk_mul, pk_div, pk_sub, ni_m, nI_clamp, md10, dm10, gI_l, gI_n, ar_t, ar_f, it_t, it_f, true_and, and_true, not_true_eq_false, not_false_eq_true, implies_true, and_self, eq_self, h5, h6, h7, h1, wi_c, wi_u, upd_s, upd_n, su_r, su_c]
        refine ih _ ⟨?_, fun r m1 m2 m3 => by rw [wi_c m3, wi_c m2, wi_c m1]; exact hs.2 r m1 m2 m3⟩
        rw [hz]
        simp (disch := omega) only [yC, wi_c, wi_u, upd_s, upd_n, su_r, su_c]
        refine ⟨hs.1.1, hs.1.2.1, hs.1.2.2.1, fun i hi => ?_, fun c hc => ?_⟩
        · show _ = nI (un _ _ _ _) ∧ _ = nI (un _ _ _ _)
          by_cases e : i = k
          · subst e; rw [upd_s, upd_s, un_s, un_s]; exact ⟨rfl, rfl⟩
          · rw [upd_n e, upd_n e, un_n e, un_n e]; exact hs.1.2.2.2.1 i hi
        · obtain ⟨m1, m2, m3⟩ := hs.1.2.2.2.2 c hc
          refine ⟨m1, m2, ?_⟩
          show _ = nI (cnt (un (pkL ht P b Y k).2.1 k (80 + b)) P c)
          rw [cnt_put hk (by omega)]
          by_cases e : c = b
          · subst e; rw [upd_s, if_pos rfl]
          · rw [upd_n e, if_neg e, m3]; rfl
      · have hz : pkL ht P b Y (k + 1) = pkL ht P b Y k := by
          show pk1 ht P b (pkL ht P b Y k) k = _; unfold pk1; rw [if_neg (by rw [ha]; exact fun h => hw h.1)]
        simp (disch := omega) only [ln_, leT, leF, ltT, ltF, eqT, eqF, vpT, nlT, nleT, lnF, lenF, eqnF, neqF, nnF, nI_add, pk_mul, pk_div, pk_sub, ni_m, nI_clamp, md10, dm10, gI_l, gI_n, ar_t, ar_f, it_t, it_f, true_and, and_true, not_true_eq_false, not_false_eq_true, implies_true, and_self, eq_self, h5, h6, h7, h1]
        exact ih _ (by rw [hz]; exact hs)
theorem c_pickUp (hfu : 20000 ≤ fu) (y : yC P np Y a s) (w : YW P np ht Y) (hat : t = 9 ∨ t = 20) (haa : a = 31 ∨ a = 37) (hh : ∀ b, b < np → s (t + 8) b = nI (ht b)) : ∃ s', f_X9_pickUp fu t a s l = (s', l) ∧ p_X9_pickUp fu t a s l ∧ yC P np (pkB ht P Y np) a s' ∧ ∀ r, r ≠ a + 1 → r ≠ a + 2 → r ≠ a + 5 → s' r = s r := by
  have hn := w.2.1
  refine loop_i (fun n b s0 => ∃ s', f_X9_pickUp_2 fu n (nI b) t a s0 l = (s', l) ∧ p_X9_pickUp_2 fu n (nI b) t a s0 l ∧ yC P np (pkB ht P Y np) a s' ∧ ∀ r, r ≠ a + 1 → r ≠ a + 2 → r ≠ a + 5 → s' r = s r) (fun b s0 => yC P np (pkB ht P Y b) a s0 ∧ ∀ r, r ≠ a + 1 → r ≠ a + 2 → r ≠ a + 5 → s0 r = s r) np ?_ ?_ fu 0 s (Nat.zero_le _) (by omega) ⟨y, fun _ _ _ _ => rfl⟩
  · intro n s0 hs
    have h5 := hs.1.2.2.1
    refine ⟨s0, ?_, ?_, hs⟩
    · unfold f_X9_pickUp_2
      simp (disch := omega) only [ln_, leT, leF, ltT, ltF, eqT, eqF, vpT, nlT, nleT, lnF, lenF, eqnF, neqF, nnF, nI_add, pk_mul, pk_div, pk_sub, ni_m, nI_clamp, md10, dm10, gI_l, gI_n, ar_t, ar_f, it_t, it_f, true_and, and_true, not_true_eq_false, not_false_eq_true, implies_true, and_self, eq_self, h5]
    · unfold p_X9_pickUp_2
      simp (disch := omega) only [ln_, leT, leF, ltT, ltF, eqT, eqF, vpT, nlT, nleT, lnF, lenF, eqnF, neqF, nnF, nI_add, pk_mul, pk_div, pk_sub, ni_m, nI_clamp, md10, dm10, gI_l, gI_n, ar_t, ar_f, it_t, it_f, true_and, and_true, not_true_eq_false, not_false_eq_true, implies_true, and_self, eq_self, h5]
  · intro n b s0 hb hs ih
    have h5 := hs.1.2.2.1
    have h6 := (hs.1.2.2.2.2 b hb).1
    have wk := pkB_W w (Nat.le_of_lt hb)
    obtain ⟨s1, e1, p1, y1, r1⟩ := c_pickUp20 (l := l) (K2 := fun x2 s l => f_X9_pickUp_2 fu n x2 t a s l) (P2 := fun x2 s l => p_X9_pickUp_2 fu n x2 t a s l) hfu hs.1 wk hb hat haa (fun b hb => by rw [hs.2 (t + 8) (by omega) (by omega) (by omega)]; exact hh b hb)
    unfold p_X9_pickUp_2 f_X9_pickUp_2
    simp (disch := omega) only [ln_, leT, leF, ltT, ltF, eqT, eqF, vpT, nlT, nleT, lnF, lenF, eqnF, neqF, nnF, nI_add, pk_mul, pk_div, pk_sub, ni_m, nI_clamp, md10, dm10, gI_l, gI_n, ar_t, ar_f, it_t, it_f, true_and, and_true, not_true_eq_false, not_false_eq_true, implies_true, and_self, eq_self, h5, h6, e1]
    obtain ⟨s2, e2, p2, y2, r2⟩ := ih s1 ⟨y1, fun r m1 m2 m3 => by rw [r1 r m1 m2 m3]; exact hs.2 r m1 m2 m3⟩
    exact ⟨s2, e2, p1 p2, y2, r2⟩
def loY (Y : Yd) : Yd := (Y.1, Y.2.1, fun i => if Y.2.1 i < 80 then min 999 (Y.2.2.1 i + 1) else Y.2.2.1 i, Y.2.2.2)
theorem loY_W (w : YW P np ht Y) : YW P np ht (loY Y) := by
  refine ⟨w.1, w.2.1, fun i hi => ?_, w.2.2.2⟩
  obtain ⟨g1, g2, g3⟩ := w.2.2.1 i hi
  refine ⟨g1, ?_, fun h => ?_⟩
  · show (if _ then _ else _) ≤ _
    split
    · exact Nat.min_le_left _ _
    · exact g2
  · show (if _ then _ else _) = _
    rw [if_neg (by show ¬ _ < _; exact Nat.not_lt.mpr h)]; exact g3 h
theorem mn999 {x : Nat} (h : x ≤ 999) : i_min (nI 999) (nI (x + 1)) = nI (min 999 (x + 1)) := by
  show (if nI (x + 1) < nI 999 then nI (x + 1) else nI 999) = _
  by_cases e : x + 1 < 999
  · rw [if_pos (nI_lt e (by omega)), Nat.min_eq_right (by omega)]
  · rw [if_neg (nI_nlt (by omega) (by omega)), Nat.min_eq_left (by omega)]
theorem c_lieOn (hfu : 20000 ≤ fu) (y : yC P np Y a s) (w : YW P np ht Y) : ∃ s', f_X9_lieOn fu a s l = (s', l) ∧ p_X9_lieOn fu a s l ∧ yC P np (loY Y) a s' ∧ ∀ r, r ≠ a + 2 → s' r = s r := by
  have hP := w.1
  have key := loop_i (fun n i s' => ∃ s'', f_X9_lieOn_2 fu n (nI i) a s' l = (s'', l) ∧ p_X9_lieOn_2 fu n (nI i) a s' l ∧ (∀ r, r ≠ a + 2 → s'' r = s r) ∧ ∀ j, j < P → s'' (a + 2) j = nI ((loY Y).2.2.1 j)) (fun i s' => (∀ r, r ≠ a + 2 → s' r = s r) ∧ (∀ j, j < i → s' (a + 2) j = nI ((loY Y).2.2.1 j)) ∧ ∀ j, i ≤ j → s' (a + 2) j = s (a + 2) j) P ?_ ?_ fu 0 s (Nat.zero_le _) (by omega) ⟨fun _ _ => rfl, fun j hj => absurd hj (Nat.not_lt_zero j), fun _ _ => rfl⟩
  · obtain ⟨s', e, hp, hr, hy⟩ := key
    refine ⟨s', e, hp, ?_, hr⟩
    show YC P np _ (s' a) (s' (a + 1)) (s' (a + 2)) (s' (a + 3)) (s' (a + 4)) (s' (a + 5))
    rw [hr a (by omega), hr (a + 1) (by omega), hr (a + 3) (by omega), hr (a + 4) (by omega), hr (a + 5) (by omega)]
    exact ⟨y.1, y.2.1, y.2.2.1, fun i hi => ⟨(y.2.2.2.1 i hi).1, hy i hi⟩, y.2.2.2.2⟩
  · intro n s' hs
    have h5 : s' a 1 = nI P := by rw [hs.1 a (by omega)]; exact y.2.1
    refine ⟨s', ?_, ?_, hs.1, hs.2.1⟩
    · unfold f_X9_lieOn_2
      simp (disch := omega) only [ln_, leT, leF, ltT, ltF, eqT, eqF, vpT, nlT, nleT, lnF, lenF, eqnF, neqF, nnF, nI_add, pk_mul, pk_div, pk_sub, ni_m, nI_clamp, md10, dm10, gI_l, gI_n, ar_t, ar_f, it_t, it_f, true_and, and_true, not_true_eq_false, not_false_eq_true, implies_true, and_self, eq_self, h5]
    · unfold p_X9_lieOn_2
      simp (disch := omega) only [ln_, leT, leF, ltT, ltF, eqT, eqF, vpT, nlT, nleT, lnF, lenF, eqnF, neqF, nnF, nI_add, pk_mul, pk_div, pk_sub, ni_m, nI_clamp, md10, dm10, gI_l, gI_n, ar_t, ar_f, it_t, it_f, true_and, and_true, not_true_eq_false, not_false_eq_true, implies_true, and_self, eq_self, h5]
  · intro n i s' hi hs ih
    have h5 : s' a 1 = nI P := by rw [hs.1 a (by omega)]; exact y.2.1
    have h1 : s' (a + 1) i = nI (Y.2.1 i) := by rw [hs.1 (a + 1) (by omega)]; exact (y.2.2.2.1 i hi).1
    have h2 : s' (a + 2) i = nI (Y.2.2.1 i) := by rw [hs.2.2 i (Nat.le_refl i)]; exact (y.2.2.2.1 i hi).2
    obtain ⟨g1, g2, g3⟩ := w.2.2.1 i hi
    have g4 := w.2.1
    unfold p_X9_lieOn_2 f_X9_lieOn_2 p_X10_isLying f_X10_isLying
    by_cases h : Y.2.1 i < 80
    · simp (disch := omega) only [ln_, leT, leF, ltT, ltF, eqT, eqF, vpT, nlT, nleT, lnF, lenF, eqnF, neqF, nnF, nI_add, pk_mul, pk_div, pk_sub, ni_m, nI_clamp, md10, dm10, gI_l, gI_n, ar_t, ar_f, it_t, it_f, true_and, and_true, not_true_eq_false, not_false_eq_true, implies_true, and_self, eq_self, h5, h1, h2, mn999]
      refine ih _ ⟨fun r hr => by rw [wi_c hr]; exact hs.1 r hr, fun j hj => ?_, fun j hj => ?_⟩
      · rw [wi_u]
        by_cases e : j = i
        · subst e; rw [upd_s]; show _ = nI (if _ then _ else _); rw [if_pos h]
        · rw [upd_n e]; exact hs.2.1 j (by omega)
      · rw [wi_u, upd_n (by omega)]; exact hs.2.2 j (by omega)
    · simp (disch := omega) only [ln_, leT, leF, ltT, ltF, eqT, eqF, vpT, nlT, nleT, lnF, lenF, eqnF, neqF, nnF, nI_add, pk_mul, pk_div, pk_sub, ni_m, nI_clamp, md10, dm10, gI_l, gI_n, ar_t, ar_f, it_t, it_f, true_and, and_true, not_true_eq_false, not_false_eq_true, implies_true, and_self, eq_self, h5, h1, h2]
      refine ih _ ⟨hs.1, fun j hj => ?_, fun j hj => hs.2.2 j (by omega)⟩
      by_cases e : j = i
      · subst e; rw [h2]; show _ = nI (if _ then _ else _); rw [if_neg h]
      · exact hs.2.1 j (by omega)
end pku
