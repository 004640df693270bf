/-! Laws, as functions of nine values; blowing; hours, in the class -/
abbrev Lw : Type := Nat → (Nat → Int32) → Int32
def vr (x0 x1 x2 x3 x4 x5 x6 x7 x8 : Int32) (j : Nat) : Int32 := match j with
  | 0 => x0 | 1 => x1 | 2 => x2 | 3 => x3 | 4 => x4 | 5 => x5 | 6 => x6 | 7 => x7 | 8 => x8 | _ => 0
def vrs (sg : Nat → Nat) (P : Nat) (Y : Yd) (i : Nat) : Nat → Int32 := vr (nI (sg i)) (nI (Y.2.1 i % 10)) (nI (Y.2.1 i / 10)) Y.1 (nI (Y.2.2.1 i)) (nI 0) (nI 0) (nI (ct (fun k => Y.2.1 k == Y.2.1 i) P)) (nI i)
def vrp (sg ht : Nat → Nat) (P : Nat) (Y : Yd) (b i : Nat) : Nat → Int32 := vr (nI (sg i)) (nI 0) (nI 0) Y.1 (nI 0) (nI (ht b)) (nI (cnt Y.2.1 P b)) (nI 0) (nI b)
def LWc (LW : Lw) : Prop := ∀ k v v', (∀ j, j < 9 → v j = v' j) → LW k v = LW k v'
def LC (fu t : Nat) (LW : Lw) (s : fl_I) : Prop := ∀ k, k < 3 → ∀ (s' : fl_I) (l' : fl_L), s' (t + 9) = s (t + 9) → s' (t + 10) = s (t + 10) → p_X1_value fu (nI k) t s' l' ∧ ∃ s'', f_X1_value fu (nI k) t s' l' = (LW k (s' 48), s'', l') ∧ ∀ q, q ≠ 49 → s'' q = s' q
theorem LC_keep {fu t : Nat} {LW : Lw} {s s' : fl_I} (h9 : s' (t + 9) = s (t + 9)) (h10 : s' (t + 10) = s (t + 10)) (h : LC fu t LW s) : LC fu t LW s' := fun k hk s2 l2 e1 e2 => h k hk s2 l2 (e1.trans h9) (e2.trans h10)
def hdN (v : Int32) (m : Nat) : Nat := if v < nI 0 then 0 else if nI m < v then m else v.toNatClampNeg
theorem hdN_le {v : Int32} {m : Nat} (hm : m < 2 ^ 31 - 1) : hdN v m ≤ m := by
  unfold hdN
  rcases ag v (m + 1) (by omega) with (h | h) | ⟨j, h, rfl⟩
  · rw [if_pos h]; omega
  · split
    · omega
    · split
      · exact Nat.le_refl _
      · rename_i h2
        exact absurd (Int32.lt_of_lt_of_le (nI_lt (Nat.lt_succ_self m) (by omega)) h) h2
  · rw [if_neg (nI_nlt (Nat.zero_le _) (by omega)), if_neg (nI_nlt (by omega) (by omega)), nI_clamp (by omega)]; omega
theorem held_n {fu m : Nat} {v : Int32} (hm : m < 2 ^ 31 - 1) : f_X11_held fu v (nI m) = nI (hdN v m) := by
  show (if nI 0 < (if v < nI m then v else nI m) then (if v < nI m then v else nI m) else nI 0) = _
  unfold hdN
  rcases ag v (m + 1) (by omega) with (h | h) | ⟨j, h, rfl⟩
  · have h2 : v < nI m := Int32.lt_of_lt_of_le h (nI_le (Nat.zero_le _) (by omega))
    rw [if_pos h2, if_neg (fun e => Int32.lt_irrefl (Int32.lt_trans h e)), if_pos h]
  · have h2 : nI m < v := Int32.lt_of_lt_of_le (nI_lt (Nat.lt_succ_self m) (by omega)) h
    have h3 : ¬ v < nI 0 := fun e => nI_pos (n := m) (by omega) (Int32.lt_trans h2 e)
    rw [if_neg (fun e => Int32.lt_irrefl (Int32.lt_trans h2 e)), if_neg h3, if_pos h2]
    by_cases e : m = 0
    · subst e; rw [if_neg Int32.lt_irrefl]
    · rw [if_pos (nI_lt (by omega) (by omega))]
  · rw [if_neg (nI_nlt (Nat.zero_le j) (by omega)), if_neg (nI_nlt (show j ≤ m by omega) (by omega)), nI_clamp (by omega)]
    by_cases e : j = m
    · subst e; rw [if_neg Int32.lt_irrefl]
      by_cases e : j = 0
      · subst e; rw [if_neg Int32.lt_irrefl]
      · rw [if_pos (nI_lt (by omega) (by omega))]
    · rw [if_pos (nI_lt (by omega) (by omega))]
      by_cases e : j = 0
      · subst e; rw [if_neg Int32.lt_irrefl]
      · rw [if_pos (nI_lt (by omega) (by omega))]
theorem within_n {fu m : Nat} {v : Int32} (hm : m < 2 ^ 31 - 1) : f_X12_within fu v (nI 0) (nI m) = nI (hdN v m) := by
  show (if nI 0 ≤ v then (if v ≤ nI m then v else nI m) else nI 0) = _
  unfold hdN
  rcases ag v (m + 1) (by omega) with (h | h) | ⟨j, h, rfl⟩
  · rw [if_neg (fun e => Int32.lt_irrefl (Int32.lt_of_lt_of_le h e)), if_pos h]
  · have h2 : nI m < v := Int32.lt_of_lt_of_le (nI_lt (Nat.lt_succ_self m) (by omega)) h
    have h3 : ¬ v < nI 0 := fun e => nI_pos (n := m) (by omega) (Int32.lt_trans h2 e)
    have h4 : nI 0 ≤ v := Int32.le_of_lt (Int32.lt_of_le_of_lt (nI_le (Nat.zero_le m) (by omega)) h2)
    rw [if_pos h4, if_neg (fun e => Int32.lt_irrefl (Int32.lt_of_lt_of_le h2 e)), if_neg h3, if_pos h2]
  · rw [if_pos (nI_le (Nat.zero_le j) (by omega)), if_pos (nI_le (show j ≤ m by omega) (by omega)), if_neg (nI_nlt (Nat.zero_le _) (by omega)), if_neg (nI_nlt (by omega) (by omega)), nI_clamp (by omega)]
theorem p_withinT {fu : Nat} {x y z : Int32} : p_X12_within fu x y z = True := eq_true ⟨fun _ => ⟨fun _ => trivial, fun _ => trivial⟩, fun _ => trivial⟩
theorem p_heldT {fu : Nat} {x y : Int32} : p_X11_held fu x y = True := rfl
def blY (LW : Lw) (sg : Nat → Nat) (wx wy : Int32) (P : Nat) (Y : Yd) : Yd :=
  (Y.1, fun i => if Y.2.1 i < 80 ∧ ¬ LW 0 (vrs sg P Y i) ≤ nI 0 then 10 * hdN (nI (Y.2.1 i / 10) + wy) 7 + hdN (nI (Y.2.1 i % 10) + wx) 9 else Y.2.1 i,
    fun i => if Y.2.1 i < 80 then (if LW 0 (vrs sg P Y i) ≤ nI 0 then min 999 (Y.2.2.1 i + 1) else 0) else Y.2.2.1 i, Y.2.2.2)
def rl (sd h : Int32) : Int32 := f_X11_lot 0 (nI 100) sd (nI 4 * h)
def hrY (LW : Lw) (sg ht : Nat → Nat) (wx wy rn : Int32) (P np : Nat) (st : Bool) (sd : Int32) (Y : Yd) : Yd :=
  ((if st = false ∧ ¬ rn ≤ rl sd Y.1 then loY (pkB ht P (wkY Y) np) else blY LW sg wx wy P (pkB ht P (wkY Y) np)).1 + nI 1, (if st = false ∧ ¬ rn ≤ rl sd Y.1 then loY (pkB ht P (wkY Y) np) else blY LW sg wx wy P (pkB ht P (wkY Y) np)).2)
def goY (LW : Lw) (sg ht : Nat → Nat) (wx wy rn : Int32) (P np : Nat) (st : Bool) (sd : Int32) (Y : Yd) : Nat → Yd
  | 0 => Y
  | n + 1 => hrY LW sg ht wx wy rn P np st sd (goY LW sg ht wx wy rn P np st sd Y n)
section clw
variable {fu P np t a i b c q k n : Nat} {ht sg : Nat → Nat} {Y : Yd} {s : fl_I} {l : fl_L} {LW : Lw} {wx wy rn sd : Int32} {st : Bool}
theorem bl_lt {v u : Int32} : 10 * hdN v 7 + hdN u 9 < 80 := by
  have h1 := hdN_le (v := v) (m := 7) (by omega)
  have h2 := hdN_le (v := u) (m := 9) (by omega)
  omega
theorem bl_cnt : cnt (blY LW sg wx wy P Y).2.1 P b = cnt Y.2.1 P b := by
  refine ct_congr (fun i _ => ?_)
  show ((if _ then _ else _) == _) = _
  split
  · rename_i h
    have := bl_lt (v := nI (Y.2.1 i / 10) + wy) (u := nI (Y.2.1 i % 10) + wx)
    have h1 : (10 * hdN (nI (Y.2.1 i / 10) + wy) 7 + hdN (nI (Y.2.1 i % 10) + wx) 9) ≠ 80 + b := by omega
    have h2 : (Y.2.1 i) ≠ 80 + b := by omega
    rw [beq_false_of_ne h1, beq_false_of_ne h2]
  · rfl
theorem blY_W (w : YW P np ht Y) : YW P np ht (blY LW sg wx wy P Y) := by
  refine ⟨w.1, w.2.1, fun i hi => ?_, fun b hb => ?_⟩
  · obtain ⟨g1, g2, g3⟩ := w.2.2.1 i hi
    have := bl_lt (v := nI (Y.2.1 i / 10) + wy) (u := nI (Y.2.1 i % 10) + wx)
    show (if _ then _ else _) < _ ∧ (if _ then _ else _) ≤ _ ∧ (_ ≤ (if _ then _ else _) → (if _ then _ else _) = _)
    by_cases h : Y.2.1 i < 80
    · by_cases h2 : LW 0 (vrs sg P Y i) ≤ nI 0
      · rw [if_neg (fun e => e.2 h2), if_pos h, if_pos h2]
        exact ⟨g1, Nat.min_le_left _ _, fun e => by omega⟩
      · rw [if_pos ⟨h, h2⟩, if_pos h, if_neg h2]
        exact ⟨by omega, by omega, fun _ => rfl⟩
    · rw [if_neg (fun e => h e.1), if_neg h]
      exact ⟨g1, g2, g3⟩
  · obtain ⟨g1, g2, g3, g4⟩ := w.2.2.2 b hb
    exact ⟨g1, g2, by rw [bl_cnt]; exact g3, g4⟩
theorem hrY_W (w : YW P np ht Y) : YW P np ht (hrY LW sg ht wx wy rn P np st sd Y) := by
  have h1 := pkB_W (wkY_W w) (Nat.le_refl np)
  unfold hrY
  by_cases h : st = false ∧ ¬ rn ≤ rl sd Y.1
  · rw [if_pos h]; exact loY_W h1
  · rw [if_neg h]; exact blY_W h1
theorem goY_W (w : YW P np ht Y) : YW P np ht (goY LW sg ht wx wy rn P np st sd Y n) := by
  induction n with
  | zero => exact w
  | succ n ih => exact hrY_W ih
/-- the class's law of a piece -/
theorem c_ofPiece {x4 : Int32} {wi_ li_ : Nat} {h_ : Int32} (hL : LC fu t LW s) (hC : LWc LW) (hk : k < 3) (hi : i < 32) (hat : t = 9 ∨ t = 20) (haa : a = 31 ∨ a = 37) (hw : wi_ < 84) (h1 : s (a + 1) i = nI wi_) (h2 : s (a + 2) i = nI li_) (h3 : s a 0 = h_) (h4 : s (t + 4) i = nI (sg i)) :
    ∃ s', f_X1_ofPiece fu (nI k) (nI i) x4 t a s l = (LW k (vr (nI (sg i)) (nI (wi_ % 10)) (nI (wi_ / 10)) h_ (nI li_) (nI 0) (nI 0) x4 (nI i)), s', l) ∧ p_X1_ofPiece fu (nI k) (nI i) x4 t a s l ∧ ∀ r, r ≠ 48 → r ≠ 49 → s' r = s r := by
  obtain ⟨hp, s2, e, hr⟩ := hL k hk (wi (wi (wi (wi (wi (wi (wi (wi (wi s 48 0 (nI (sg i))) 48 1 (nI (wi_ % 10))) 48 2 (nI (wi_ / 10))) 48 3 h_) 48 4 (nI li_)) 48 5 (nI 0)) 48 6 (nI 0)) 48 7 x4) 48 8 (nI i)) l (by simp (disch := omega) only [wi_c, wi_u, upd_s, upd_n, su_r, su_c]) (by simp (disch := omega) only [wi_c, wi_u, upd_s, upd_n, su_r, su_c])
  have ev : LW k (vr (nI (sg i)) (nI (wi_ % 10)) (nI (wi_ / 10)) h_ (nI li_) (nI 0) (nI 0) x4 (nI i)) = LW k ((wi (wi (wi (wi (wi (wi (wi (wi (wi s 48 0 (nI (sg i))) 48 1 (nI (wi_ % 10))) 48 2 (nI (wi_ / 10))) 48 3 h_) 48 4 (nI li_)) 48 5 (nI 0)) 48 6 (nI 0)) 48 7 x4) 48 8 (nI i)) 48) := by
    refine hC k _ _ (fun j hj => ?_)
    have : j = 0 ∨ j = 1 ∨ j = 2 ∨ j = 3 ∨ j = 4 ∨ j = 5 ∨ j = 6 ∨ j = 7 ∨ j = 8 := by omega
    rcases this with rfl | rfl | rfl | rfl | rfl | rfl | rfl | rfl | rfl <;> simp (disch := omega) only [wi_c, wi_u, upd_s, upd_n, su_r, su_c, vr]
  refine ⟨s2, ?_, ?_, fun r m1 m2 => ?_⟩
  · unfold f_X1_ofPiece
    simp (disch := omega) only [ln_, leT, leF, ltT, ltF, eqT, eqF, vpT, nlT, nleT, lnF, lenF, eqnF, neqF, nnF, nI_add, pk_mul, pk_div, pk_sub, ni_m, nI_clamp, md10, dm10, gI_l, gI_n, ar_t, ar_f, it_t, it_f, true_and, and_true, not_true_eq_false, not_false_eq_true, implies_true, and_self, eq_self, h1, h2, h3, h4, wi_c, wi_u, upd_s, upd_n, su_r, su_c]
    rw [e, ev]
  · unfold p_X1_ofPiece
    simp (disch := omega) only [ln_, leT, leF, ltT, ltF, eqT, eqF, vpT, nlT, nleT, lnF, lenF, eqnF, neqF, nnF, nI_add, pk_mul, pk_div, pk_sub, ni_m, nI_clamp, md10, dm10, gI_l, gI_n, ar_t, ar_f, it_t, it_f, true_and, and_true, not_true_eq_false, not_false_eq_true, implies_true, and_self, eq_self, h1, h2, h3, h4, wi_c, wi_u, upd_s, upd_n, su_r, su_c]
    exact hp
  · rw [hr r m2]
    simp (disch := omega) only [wi_c, wi_u, upd_s, upd_n, su_r, su_c]
theorem c_pays (hL : LC fu t LW s) (hC : LWc LW) (hi : i < 32) (hb : b < 4) (hat : t = 9 ∨ t = 20) (haa : a = 31 ∨ a = 37) (h4 : s (t + 4) i = nI (sg i)) (h8 : s (t + 8) b = nI (ht b)) (h3 : s a 0 = Y.1) (h5 : s (a + 5) b = nI (cnt Y.2.1 P b)) :
    ∃ s', f_X1_pays fu (nI b) (nI i) t a s l = (LW 2 (vrp sg ht P Y b i), s', l) ∧ p_X1_pays fu (nI b) (nI i) t a s l ∧ ∀ r, r ≠ 48 → r ≠ 49 → s' r = s r := by
  obtain ⟨hp, s2, e, hr⟩ := hL 2 (by omega) (wi (wi (wi (wi (wi (su s 48 (fun j => if j < 9 then nI 0 else s 48 j)) 48 0 (nI (sg i))) 48 3 Y.1) 48 5 (nI (ht b))) 48 6 (nI (cnt Y.2.1 P b))) 48 8 (nI b)) l (by simp (disch := omega) only [wi_c, wi_u, upd_s, upd_n, su_r, su_c]) (by simp (disch := omega) only [wi_c, wi_u, upd_s, upd_n, su_r, su_c])
  have ev : LW 2 (vrp sg ht P Y b i) = LW 2 ((wi (wi (wi (wi (wi (su s 48 (fun j => if j < 9 then nI 0 else s 48 j)) 48 0 (nI (sg i))) 48 3 Y.1) 48 5 (nI (ht b))) 48 6 (nI (cnt Y.2.1 P b))) 48 8 (nI b)) 48) := by
    refine hC 2 _ _ (fun j hj => ?_)
    have : j = 0 ∨ j = 1 ∨ j = 2 ∨ j = 3 ∨ j = 4 ∨ j = 5 ∨ j = 6 ∨ j = 7 ∨ j = 8 := by omega
    rcases this with rfl | rfl | rfl | rfl | rfl | rfl | rfl | rfl | rfl <;> simp (disch := omega) only [wi_c, wi_u, upd_s, upd_n, su_r, su_c, vr, vrp] <;> rfl
  refine ⟨s2, ?_, ?_, fun r m1 m2 => ?_⟩
  · unfold f_X1_pays fl_fill
    simp (disch := omega) only [ln_, leT, leF, ltT, ltF, eqT, eqF, vpT, nlT, nleT, lnF, lenF, eqnF, neqF, nnF, nI_add, pk_mul, pk_div, pk_sub, ni_m, nI_clamp, md10, dm10, gI_l, gI_n, ar_t, ar_f, it_t, it_f, true_and, and_true, not_true_eq_false, not_false_eq_true, implies_true, and_self, eq_self, h3, h4, h5, h8, wi_c, wi_u, upd_s, upd_n, su_r, su_c]
    rw [e, ev]
  · unfold p_X1_pays fl_fill
    simp (disch := omega) only [ln_, leT, leF, ltT, ltF, eqT, eqF, vpT, nlT, nleT, lnF, lenF, eqnF, neqF, nnF, nI_add, pk_mul, pk_div, pk_sub, ni_m, nI_clamp, md10, dm10, gI_l, gI_n, ar_t, ar_f, it_t, it_f, true_and, and_true, not_true_eq_false, not_false_eq_true, implies_true, and_self, eq_self, h3, h4, h5, h8, wi_c, wi_u, upd_s, upd_n, su_r, su_c]
    exact hp
  · rw [hr r m2]
    simp (disch := omega) only [wi_c, wi_u, upd_s, upd_n, su_r, su_c]
theorem c_blow (hfu : 20000 ≤ fu) (y : yC P np Y a s) (w : YW P np ht Y) (hL : LC fu t LW s) (hC : LWc LW) (hat : t = 9 ∨ t = 20) (haa : a = 31 ∨ a = 37) (hsg : ∀ i, i < P → s (t + 4) i = nI (sg i)) (h15 : s t 15 = wx) (h16 : s t 16 = wy) :
    ∃ s', f_X9_blow fu t a s l = (s', l) ∧ p_X9_blow fu t a s l ∧ yC P np (blY LW sg wx wy P Y) a s' ∧ ∀ r, r ≠ a + 1 → r ≠ a + 2 → r ≠ 48 → r ≠ 49 → r ≠ 50 → s' r = s r := by
  have hP := w.1
  have hn := w.2.1
  obtain ⟨s1, e1, p1, r1, c1⟩ := c_countAll (l := l) (q := 50) hfu y w (fun k hk => by omega)
  have key := loop_i (fun n i s' => ∃ s'', f_X9_blow_10 fu n (nI i) t a s' l = (s'', l) ∧ p_X9_blow_10 fu n (nI i) t a s' l ∧ (∀ r, r ≠ a + 1 → r ≠ a + 2 → r ≠ 48 → r ≠ 49 → r ≠ 50 → s'' r = s r) ∧ ∀ j, j < P → s'' (a + 1) j = nI ((blY LW sg wx wy P Y).2.1 j) ∧ s'' (a + 2) j = nI ((blY LW sg wx wy P Y).2.2.1 j))
    (fun i s' => (∀ r, r ≠ a + 1 → r ≠ a + 2 → r ≠ 48 → r ≠ 49 → r ≠ 50 → s' r = s r) ∧ s' 50 = s1 50 ∧ (∀ j, j < i → s' (a + 1) j = nI ((blY LW sg wx wy P Y).2.1 j) ∧ s' (a + 2) j = nI ((blY LW sg wx wy P Y).2.2.1 j)) ∧ ∀ j, i ≤ j → s' (a + 1) j = s (a + 1) j ∧ s' (a + 2) j = s (a + 2) j) P ?_ ?_ fu 0 s1 (Nat.zero_le _) (by omega) ⟨fun r _ _ _ _ h => r1 r h, rfl, fun j hj => absurd hj (Nat.not_lt_zero j), fun j _ => ⟨by rw [r1 (a + 1) (by omega)], by rw [r1 (a + 2) (by omega)]⟩⟩
  · obtain ⟨s', e, hp, hr, hy⟩ := key
    refine ⟨s', ?_, ?_, ?_, hr⟩
    · unfold f_X9_blow; rw [e1]; exact e
    · unfold p_X9_blow; rw [e1]; exact ⟨p1, hp⟩
    · show YC P np _ (s' a) (s' (a + 1)) (s' (a + 2)) (s' (a + 3)) (s' (a + 4)) (s' (a + 5))
      rw [hr a (by omega) (by omega) (by omega) (by omega) (by omega), hr (a + 3) (by omega) (by omega) (by omega) (by omega) (by omega), hr (a + 4) (by omega) (by omega) (by omega) (by omega) (by omega), hr (a + 5) (by omega) (by omega) (by omega) (by omega) (by omega)]
      exact ⟨y.1, y.2.1, y.2.2.1, hy, fun b hb => by rw [bl_cnt]; exact y.2.2.2.2 b hb⟩
  · intro n s' hs
    have h5 : s' a 1 = nI P := by rw [hs.1 a (by omega) (by omega) (by omega) (by omega) (by omega)]; exact y.2.1
    refine ⟨s', ?_, ?_, hs.1, hs.2.2.1⟩
    · unfold f_X9_blow_10
      simp (disch := omega) only [ln_, leT, leF, ltT, ltF, eqT, eqF, vpT, nlT, nleT, lnF, lenF, eqnF, neqF, nnF, nI_add, pk_mul, pk_div, pk_sub, ni_m, nI_clamp, md10, dm10, gI_l, gI_n, ar_t, ar_f, it_t, it_f, true_and, and_true, not_true_eq_false, not_false_eq_true, implies_true, and_self, eq_self, h5]
    · unfold p_X9_blow_10
      simp (disch := omega) only [ln_, leT, leF, ltT, ltF, eqT, eqF, vpT, nlT, nleT, lnF, lenF, eqnF, neqF, nnF, nI_add, pk_mul, pk_div, pk_sub, ni_m, nI_clamp, md10, dm10, gI_l, gI_n, ar_t, ar_f, it_t, it_f, true_and, and_true, not_true_eq_false, not_false_eq_true, implies_true, and_self, eq_self, h5]
  · intro n i s' hi hs ih
    obtain ⟨hs1, hs2, hs3, hs4⟩ := hs
    have h5 : s' a 1 = nI P := by rw [hs1 a (by omega) (by omega) (by omega) (by omega) (by omega)]; exact y.2.1
    have ha : s' a 0 = Y.1 := by rw [hs1 a (by omega) (by omega) (by omega) (by omega) (by omega)]; exact y.1
    have h1 : s' (a + 1) i = nI (Y.2.1 i) := by rw [(hs4 i (Nat.le_refl i)).1]; exact (y.2.2.2.1 i hi).1
    have h2 : s' (a + 2) i = nI (Y.2.2.1 i) := by rw [(hs4 i (Nat.le_refl i)).2]; exact (y.2.2.2.1 i hi).2
    have h4 : s' (t + 4) i = nI (sg i) := by rw [hs1 (t + 4) (by omega) (by omega) (by omega) (by omega) (by omega)]; exact hsg i hi
    obtain ⟨g1, g2, g3⟩ := w.2.2.1 i hi
    unfold p_X9_blow_10 f_X9_blow_10
    by_cases h : Y.2.1 i < 80
    · have h50 : s' 50 (Y.2.1 i) = nI (ct (fun k => Y.2.1 k == Y.2.1 i) P) := by rw [hs2]; exact c1 _ h
      obtain ⟨s2, e2, p2, r2⟩ := c_ofPiece (l := l) (x4 := nI (ct (fun k => Y.2.1 k == Y.2.1 i) P)) (LC_keep (hs1 (t + 9) (by omega) (by omega) (by omega) (by omega) (by omega)) (hs1 (t + 10) (by omega) (by omega) (by omega) (by omega) (by omega)) hL) hC (show 0 < 3 by omega) (show i < 32 by omega) hat haa (by omega) h1 h2 ha h4
      have e2 : f_X1_ofPiece fu (nI 0) (nI i) (nI (ct (fun k => Y.2.1 k == Y.2.1 i) P)) t a s' l = (LW 0 (vrs sg P Y i), s2, l) := e2
      have k15 : s2 t 15 = wx := by rw [r2 t (by omega) (by omega), hs1 t (by omega) (by omega) (by omega) (by omega) (by omega)]; exact h15
      have k16 : s2 t 16 = wy := by rw [r2 t (by omega) (by omega), hs1 t (by omega) (by omega) (by omega) (by omega) (by omega)]; exact h16
      have k2 : s2 (a + 2) i = nI (Y.2.2.1 i) := by rw [r2 (a + 2) (by omega) (by omega)]; exact h2
      by_cases hb : LW 0 (vrs sg P Y i) ≤ nI 0
      · simp (disch := omega) only [ln_, leT, leF, ltT, ltF, eqT, eqF, vpT, nlT, nleT, lnF, lenF, eqnF, neqF, nnF, nI_add, pk_mul, pk_div, pk_sub, ni_m, nI_clamp, md10, dm10, gI_l, gI_n, ar_t, ar_f, it_t, it_f, true_and, and_true, not_true_eq_false, not_false_eq_true, implies_true, and_self, eq_self, h5, h1, h50, e2, p2, hb, k2, mn999]
        refine ih _ ⟨fun r m1 m2 m3 m4 m5 => by rw [wi_c m2, r2 r m3 m4]; exact hs1 r m1 m2 m3 m4 m5, by rw [wi_c (by omega), r2 50 (by omega) (by omega)]; exact hs2, fun j hj => ?_, fun j hj => ?_⟩
        · rw [wi_c (by omega), wi_u, r2 (a + 1) (by omega) (by omega), r2 (a + 2) (by omega) (by omega)]
          by_cases e : j = i
          · subst e; rw [upd_s, h1]
            show nI _ = nI (if _ then _ else _) ∧ nI _ = nI (if _ then (if _ then _ else _) else _)
            rw [if_neg (fun e => e.2 hb), if_pos h, if_pos hb]; exact ⟨rfl, rfl⟩
          · rw [upd_n e]; exact hs3 j (by omega)
        · rw [wi_c (by omega), wi_u, r2 (a + 1) (by omega) (by omega), r2 (a + 2) (by omega) (by omega), upd_n (by omega)]; exact hs4 j (by omega)
      · simp (disch := omega) only [ln_, leT, leF, ltT, ltF, eqT, eqF, vpT, nlT, nleT, lnF, lenF, eqnF, neqF, nnF, nI_add, pk_mul, pk_div, pk_sub, ni_m, nI_clamp, md10, dm10, gI_l, gI_n, ar_t, ar_f, it_t, it_f, true_and, and_true, not_true_eq_false, not_false_eq_true, implies_true, and_self, eq_self, h5, h1, h50, e2, p2, hb, k15, k16, p_heldT, held_n]
        refine ih _ ⟨fun r m1 m2 m3 m4 m5 => by rw [wi_c m2, wi_c m1, r2 r m3 m4]; exact hs1 r m1 m2 m3 m4 m5, by rw [wi_c (by omega), wi_c (by omega), r2 50 (by omega) (by omega)]; exact hs2, fun j hj => ?_, fun j hj => ?_⟩
        · rw [wi_c (by omega), wi_u, wi_u, wi_c (by omega), r2 (a + 1) (by omega) (by omega), r2 (a + 2) (by omega) (by omega)]
          by_cases e : j = i
          · subst e; rw [upd_s, upd_s]
            show nI _ = nI (if _ then _ else _) ∧ nI _ = nI (if _ then (if _ then _ else _) else _)
            rw [if_pos ⟨h, hb⟩, if_pos h, if_neg hb]; exact ⟨rfl, rfl⟩
          · rw [upd_n e, upd_n e]; exact hs3 j (by omega)
        · rw [wi_c (by omega), wi_u, wi_u, wi_c (by omega), r2 (a + 1) (by omega) (by omega), r2 (a + 2) (by omega) (by omega), upd_n (by omega), upd_n (by omega)]; exact hs4 j (by omega)
    · simp (disch := omega) only [ln_, leT, leF, ltT, ltF, eqT, eqF, vpT, nlT, nleT, lnF, lenF, eqnF, neqF, nnF, nI_add, pk_mul, pk_div, pk_sub, ni_m, nI_clamp, md10, dm10, gI_l, gI_n, ar_t, ar_f, it_t, it_f, true_and, and_true, not_true_eq_false, not_false_eq_true, implies_true, and_self, eq_self, h5, h1]
      refine ih _ ⟨hs1, hs2, fun j hj => ?_, fun j hj => hs4 j (by omega)⟩
      by_cases e : j = i
      · subst e; rw [h1, h2]
        show nI _ = nI (if _ then _ else _) ∧ nI _ = nI (if _ then (if _ then _ else _) else _)
        rw [if_neg (fun e => h e.1), if_neg h]; exact ⟨rfl, rfl⟩
      · exact hs3 j (by omega)
theorem c_rains {x h : Int32} (h17 : s t 17 = rn) : p_X11_rains fu x h t s l ∧ f_X11_rains fu x h t s l = if rn ≤ rl x h then nI 0 else nI 1 := by
  have e : f_X11_lot fu (100 : Int32) x ((4 : Int32) * h) = rl x h := rfl
  unfold p_X11_rains f_X11_rains
  rw [e, h17]
  refine ⟨⟨⟨trivial, trivial, ⟨fun _ => trivial, fun _ => ⟨by decide, trivial⟩⟩⟩, fun _ => trivial, fun _ => trivial⟩, rfl⟩
theorem c_goOn {x : Int32} (hfu : 20000 ≤ fu) (y : yC P np Y a s) (w : YW P np ht Y) (hL : LC fu t LW s) (hC : LWc LW) (hat : t = 9 ∨ t = 20) (haa : a = 31 ∨ a = 37) (hsg : ∀ i, i < P → s (t + 4) i = nI (sg i)) (hh : ∀ b, b < np → s (t + 8) b = nI (ht b)) (h15 : s t 15 = wx) (h16 : s t 16 = wy) (h17 : s t 17 = rn) (hn : n ≤ 100) (hx : (st = true ∧ x = -nI 1) ∨ (st = false ∧ ¬ x = -nI 1)) :
    ∃ s', f_X9_goOn fu (nI n) x t a s l = (s', l) ∧ p_X9_goOn fu (nI n) x t a s l ∧ yC P np (goY LW sg ht wx wy rn P np st x Y n) a s' ∧ ∀ r, (r < a ∨ a + 5 < r) → r ≠ 48 → r ≠ 49 → r ≠ 50 → s' r = s r := by
  refine loop_i (fun m i s0 => ∃ s', f_X9_goOn_3 fu m (nI n) x (nI i) t a s0 l = (s', l) ∧ p_X9_goOn_3 fu m (nI n) x (nI i) t a s0 l ∧ yC P np (goY LW sg ht wx wy rn P np st x Y n) a s' ∧ ∀ r, (r < a ∨ a + 5 < r) → r ≠ 48 → r ≠ 49 → r ≠ 50 → s' r = s r) (fun i s0 => yC P np (goY LW sg ht wx wy rn P np st x Y i) a s0 ∧ ∀ r, (r < a ∨ a + 5 < r) → r ≠ 48 → r ≠ 49 → r ≠ 50 → s0 r = s r) n ?_ ?_ fu 0 s (Nat.zero_le _) (by omega) ⟨y, fun _ _ _ _ _ => rfl⟩
  · intro m s0 hs
    refine ⟨s0, ?_, ?_, hs⟩
    · unfold f_X9_goOn_3
      simp (disch := omega) only [ln_, leT, leF, ltT, ltF, eqT, eqF, vpT, nlT, nleT, lnF, lenF, eqnF, neqF, nnF, nI_add, pk_mul, pk_div, pk_sub, ni_m, nI_clamp, md10, dm10, gI_l, gI_n, ar_t, ar_f, it_t, it_f, true_and, and_true, not_true_eq_false, not_false_eq_true, implies_true, and_self, eq_self]
    · unfold p_X9_goOn_3
      simp (disch := omega) only [ln_, leT, leF, ltT, ltF, eqT, eqF, vpT, nlT, nleT, lnF, lenF, eqnF, neqF, nnF, nI_add, pk_mul, pk_div, pk_sub, ni_m, nI_clamp, md10, dm10, gI_l, gI_n, ar_t, ar_f, it_t, it_f, true_and, and_true, not_true_eq_false, not_false_eq_true, implies_true, and_self, eq_self]
  · intro m i s0 hi hs ih
    obtain ⟨hy, hr⟩ := hs
    have wi0 := goY_W (LW := LW) (sg := sg) (wx := wx) (wy := wy) (rn := rn) (st := st) (sd := x) (n := i) w
    generalize hZ : goY LW sg ht wx wy rn P np st x Y i = Z at hy wi0
    obtain ⟨s1, e1, p1, y1, r1⟩ := c_walk (l := l) hfu hy wi0
    obtain ⟨s2, e2, p2, y2, r2⟩ := c_pickUp (l := l) hfu y1 (wkY_W wi0) hat haa (fun b hb => by rw [r1 (t + 8) (by omega) (by omega), hr (t + 8) (by omega) (by omega) (by omega) (by omega)]; exact hh b hb)
    have w2 := pkB_W (wkY_W wi0) (Nat.le_refl np)
    have hr2 : ∀ r, (r < a ∨ a + 5 < r) → r ≠ 48 → r ≠ 49 → r ≠ 50 → s2 r = s r := fun r m1 m2 m3 m4 => by rw [r2 r (by omega) (by omega) (by omega), r1 r (by omega) (by omega)]; exact hr r m1 m2 m3 m4
    have hh2 : s2 a 0 = Z.1 := by rw [y2.1, pkB_at.2]; rfl
    have hrn := c_rains (fu := fu) (l := l) (x := x) (h := s2 a 0) (show s2 t 17 = rn by rw [hr2 t (by omega) (by omega) (by omega) (by omega)]; exact h17)
    rw [hh2] at hrn
    unfold p_X9_goOn_3 f_X9_goOn_3
    by_cases hq : st = false ∧ ¬ rn ≤ rl x Z.1
    · obtain ⟨hst, hx⟩ : st = false ∧ ¬ x = -nI 1 := by
        rcases hx with h | h
        · rw [h.1] at hq; exact absurd hq.1 (by decide)
        · exact h
      rw [if_neg hq.2] at hrn
      obtain ⟨s3, e3, p3, y3, r3⟩ := c_lieOn (l := l) hfu y2 w2
      simp (disch := omega) only [ln_, leT, leF, ltT, ltF, eqT, eqF, vpT, nlT, nleT, lnF, lenF, eqnF, neqF, nnF, nI_add, pk_mul, pk_div, pk_sub, ni_m, nI_clamp, md10, dm10, gI_l, gI_n, ar_t, ar_f, it_t, it_f, true_and, and_true, not_true_eq_false, not_false_eq_true, implies_true, and_self, eq_self, e1, p1, e2, p2, hx, hh2, hrn, e3, p3]
      refine ih _ ⟨?_, fun r m1 m2 m3 m4 => by rw [wi_c (by omega), r3 r (by omega)]; exact hr2 r m1 m2 m3 m4⟩
      show yC P np (hrY LW sg ht wx wy rn P np st x (goY LW sg ht wx wy rn P np st x Y i)) a _
      rw [hZ]
      unfold hrY
      rw [if_pos hq]
      simp (disch := omega) only [yC, wi_c, wi_u, upd_s, upd_n, su_r, su_c]
      exact ⟨by rw [upd_s, y3.1], by rw [upd_n (by omega)]; exact y3.2.1, by rw [upd_n (by omega)]; exact y3.2.2.1, y3.2.2.2⟩
    · obtain ⟨s3, e3, p3, y3, r3⟩ := c_blow (l := l) (wx := wx) (wy := wy) (sg := sg) hfu y2 w2 (LC_keep (hr2 (t + 9) (by omega) (by omega) (by omega) (by omega)) (hr2 (t + 10) (by omega) (by omega) (by omega) (by omega)) hL) hC hat haa (fun i hi => by rw [hr2 (t + 4) (by omega) (by omega) (by omega) (by omega)]; exact hsg i hi) (by rw [hr2 t (by omega) (by omega) (by omega) (by omega)]; exact h15) (by rw [hr2 t (by omega) (by omega) (by omega) (by omega)]; exact h16)
      have fin : yC P np (goY LW sg ht wx wy rn P np st x Y (i + 1)) a (wi s3 a 0 (s3 a 0 + nI 1)) ∧ ∀ r, (r < a ∨ a + 5 < r) → r ≠ 48 → r ≠ 49 → r ≠ 50 → (wi s3 a 0 (s3 a 0 + nI 1)) r = s r := by
        refine ⟨?_, fun r m1 m2 m3 m4 => by rw [wi_c (by omega), r3 r (by omega) (by omega) m2 m3 m4]; exact hr2 r m1 m2 m3 m4⟩
        show yC P np (hrY LW sg ht wx wy rn P np st x (goY LW sg ht wx wy rn P np st x Y i)) a _
        rw [hZ]
        unfold hrY
        rw [if_neg hq]
        simp (disch := omega) only [yC, wi_c, wi_u, upd_s, upd_n, su_r, su_c]
        exact ⟨by rw [upd_s, y3.1], by rw [upd_n (by omega)]; exact y3.2.1, by rw [upd_n (by omega)]; exact y3.2.2.1, y3.2.2.2⟩
      rcases hx with ⟨hst, hx⟩ | ⟨hst, hx⟩
      · subst hx
        simp (disch := omega) only [ln_, leT, leF, ltT, ltF, eqT, eqF, vpT, nlT, nleT, lnF, lenF, eqnF, neqF, nnF, nI_add, pk_mul, pk_div, pk_sub, ni_m, nI_clamp, md10, dm10, gI_l, gI_n, ar_t, ar_f, it_t, it_f, true_and, and_true, not_true_eq_false, not_false_eq_true, implies_true, and_self, eq_self, e1, p1, e2, p2, e3, p3]
        exact ih _ fin
      · have hrr : rn ≤ rl x Z.1 := by
          by_cases e : rn ≤ rl x Z.1
          · exact e
          · exact absurd ⟨hst, e⟩ hq
        rw [if_pos hrr] at hrn
        simp (disch := omega) only [ln_, leT, leF, ltT, ltF, eqT, eqF, vpT, nlT, nleT, lnF, lenF, eqnF, neqF, nnF, nI_add, pk_mul, pk_div, pk_sub, ni_m, nI_clamp, md10, dm10, gI_l, gI_n, ar_t, ar_f, it_t, it_f, true_and, and_true, not_true_eq_false, not_false_eq_true, implies_true, and_self, eq_self, e1, p1, e2, p2, hx, hh2, hrn, e3, p3]
        exact ih _ fin
end clw
