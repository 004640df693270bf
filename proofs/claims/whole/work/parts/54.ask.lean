/-! ask -/
section ask
variable {fu t lv P np nl nw : Nat} {ht sg lo : Nat → Nat} {wd : Nat → List Nat} {wx wy rn sd : Int32} {LW : Lw} {Y : Yd} {s s1 s2 : fl_I} {l : fl_L} {D : fl_D} {a i b c q k n g m h S nt B : Nat} {x y z v : Int32} {tl : Nat → Nat} {th : Nat → Bool} {L : List Nat}
theorem pc8 (hB : B < 256) : pc B 10 ≤ 8 := by
  have h8 : bt B 8 = 0 := bt_no (by omega)
  have h9 : bt B 9 = 0 := bt_no (by omega)
  have := pc_le B 8
  show pc B 8 + bt B 8 + bt B 9 ≤ 8
  omega
theorem wst_le (hB : B < 256) (hn : nw ≤ 8) {u : Nat} : wst wd B nw u ≤ 8 := by
  have h1 := pc8 hB
  have h2 := wth_le (wd := wd) (B := B) (u := u) (n := nw) (by omega)
  unfold wst
  split <;> omega
theorem wth_t {u : Nat} (h1 : bt B n = 1) (h2 : u ∈ wd n) : wth wd B (n + 1) u = wth wd B n u + 1 := by unfold wth; rw [ct_t (by simp [h1, h2])]
theorem wth_f {u : Nat} (h : ¬ (bt B n = 1 ∧ u ∈ wd n)) : wth wd B (n + 1) u = wth wd B n u := by unfold wth; rw [ct_f (by simpa using h)]
theorem c_best (hfu : 20000 ≤ fu) (h1 : s t 1 = nI nw) (hl : ∀ w, w < nw → l (t + 2) w = lN (p5 (wd w))) (hnw : nw ≤ 8) (hW : ∀ w, w < nw → okW (wd w)) (hB : B < 256) : p_X7_bestQuestion fu (nI B) t s l ∧ f_X7_bestQuestion fu (nI B) t s l = if B = 0 then -nI 2 else gI (bq (wst wd B nw) 9 26).1 := by
  have hwl := fun u => wst_le (wd := wd) (u := u) hB hnw
  have htl := fun u n (hn : n ≤ 10) => wth_le (wd := wd) (B := B) (u := u) hn
  have hp8 := pc8 hB
  have hbc := bc_n (fu := fu) hB
  -- one sign
  have inner : ∀ (K : Int32 → Int32 → Int32 → Int32 → Int32) (Pk : Int32 → Int32 → Int32 → Int32 → Prop) (x3 : Int32) (few u : Nat), 1 ≤ u → u ≤ 26 → few ≤ 9 → (f_X7_bestQuestion_31 fu K fu (nI B) x3 (nI few) (nI u) (nI 0) (nI 0) t s l = if wst wd B nw u < few then K (nI B) (nI u) (nI (wst wd B nw u)) (nI (u + 1)) else K (nI B) x3 (nI few) (nI (u + 1))) ∧ ((if wst wd B nw u < few then Pk (nI B) (nI u) (nI (wst wd B nw u)) (nI (u + 1)) else Pk (nI B) x3 (nI few) (nI (u + 1))) → p_X7_bestQuestion_31 fu Pk fu (nI B) x3 (nI few) (nI u) (nI 0) (nI 0) t s l) := by
    intro K Pk x3 few u hu1 hu hfew
    refine loop_i (fun f w r => (f_X7_bestQuestion_31 fu K f (nI B) x3 (nI few) (nI u) r (nI w) t s l = if wst wd B nw u < few then K (nI B) (nI u) (nI (wst wd B nw u)) (nI (u + 1)) else K (nI B) x3 (nI few) (nI (u + 1))) ∧ ((if wst wd B nw u < few then Pk (nI B) (nI u) (nI (wst wd B nw u)) (nI (u + 1)) else Pk (nI B) x3 (nI few) (nI (u + 1))) → p_X7_bestQuestion_31 fu Pk f (nI B) x3 (nI few) (nI u) r (nI w) t s l)) (fun w r => r = nI (wth wd B w u)) nw ?_ ?_ fu 0 (nI 0) (Nat.zero_le _) (by omega) rfl
    · intro f r hr
      have hb := htl u nw (by omega)
      have hmx : i_max (nI (wth wd B nw u)) (nI (pc B 10) - nI (wth wd B nw u)) = nI (wst wd B nw u) := by rw [pk_sub hb, i_maxN (by omega) (by omega)]; rfl
      have hw8 := hwl u
      unfold p_X7_bestQuestion_31 f_X7_bestQuestion_31
      by_cases e : wst wd B nw u < few
      · simp (disch := omega) only [ln_, leT, leF, nI_add, ar_t, ar_f, it_t, it_f, true_and, and_true, not_true_eq_false, not_false_eq_true, implies_true, and_self, eq_self, h1, hr, hbc, hmx, p_bcT, e]
        exact fun h => h
      · simp (disch := omega) only [ln_, leT, leF, nI_add, ar_t, ar_f, it_t, it_f, true_and, and_true, not_true_eq_false, not_false_eq_true, implies_true, and_self, eq_self, h1, hr, hbc, hmx, p_bcT, e]
        exact fun h => h
    · intro f w r hw hr ih
      have hlw := hl w hw
      have hb := bitN (S := B) (k := w) (by omega) (by omega)
      have hbl := bt_lt B w
      have hs := c_has (fu := fu) (v := u) hfu (hW w hw) hu1 hu
      unfold p_X7_bestQuestion_31 f_X7_bestQuestion_31
      by_cases e : bt B w = 1
      · by_cases e2 : u ∈ wd w
        · rw [if_pos e2] at hs
          simp (disch := omega) only [ln_, leF, eqT, eqF, vpT, nI_clamp, nI_add, ar_t, ar_f, it_t, it_f, true_and, and_true, not_true_eq_false, not_false_eq_true, implies_true, and_self, eq_self, h1, hb, hlw, hs, hr]
          exact ih _ (by rw [wth_t e e2])
        · rw [if_neg e2] at hs
          simp (disch := omega) only [ln_, leF, eqT, eqF, vpT, nI_clamp, nI_add, ar_t, ar_f, it_t, it_f, true_and, and_true, not_true_eq_false, not_false_eq_true, implies_true, and_self, eq_self, h1, hb, hlw, hs]
          exact ih _ (by rw [hr, wth_f (fun h => e2 h.2)])
      · simp (disch := omega) only [ln_, leF, eqF, vpT, nI_clamp, nI_add, ar_t, ar_f, it_t, it_f, true_and, and_true, not_true_eq_false, not_false_eq_true, implies_true, and_self, eq_self, h1, hb]
        exact ih _ (by rw [hr, wth_f (fun h => e h.1)])
  unfold p_X7_bestQuestion f_X7_bestQuestion
  by_cases h0 : B = 0
  · subst h0
    have hw0 : ∀ u, wst wd 0 nw u = 0 := fun u => by
      have h1 : pc 0 10 = 0 := by decide
      have := htl u nw (by omega)
      unfold wst
      rw [if_neg (by omega)]; omega
    have A := loop_i (fun f u (_ : Unit) => p_X7_bestQuestion_18 fu f (nI 0) (-nI 2) (nI 0) (nI (u + 1)) t s l ∧ f_X7_bestQuestion_18 fu f (nI 0) (-nI 2) (nI 0) (nI (u + 1)) t s l = -nI 2) (fun _ _ => True) 26 ?_ ?_ fu 0 () (Nat.zero_le _) (by omega) trivial
    · simp (disch := omega) only [ln_, leT, leF, ltT, ltF, eqT, eqF, vpT, nlT, nleT, lnF, lenF, eqnF, neqF, nnF, nI_add, pk_mul, pk_div, pk_sub, ni_m, nI_clamp, md10, dm10, gI_l, gI_n, ar_t, ar_f, it_t, it_f, true_and, and_true, not_true_eq_false, not_false_eq_true, implies_true, and_self, eq_self]; exact A
    · intro f _ _
      unfold p_X7_bestQuestion_18 f_X7_bestQuestion_18
      simp (disch := omega) only [ln_, ltT, nI_add, Nat.reduceAdd, ar_t, ar_f, it_t, it_f, true_and, and_true, not_true_eq_false, not_false_eq_true, implies_true, and_self, eq_self]
    · intro f u _ hu _ ih
      have hi := inner (fun x2 x3 x4 x5 => f_X7_bestQuestion_18 fu f x2 x3 x4 x5 t s l) (fun x2 x3 x4 x5 => p_X7_bestQuestion_18 fu f x2 x3 x4 x5 t s l) (-nI 2) 0 (u + 1) (by omega) (by omega) (by omega)
      rw [hw0, if_neg (Nat.lt_irrefl 0), if_neg (Nat.lt_irrefl 0)] at hi
      have h2 := ih () trivial
      have hp := hi.2 h2.1
      unfold p_X7_bestQuestion_18 f_X7_bestQuestion_18
      simp (disch := omega) only [ln_, ltF, ar_t, ar_f, it_t, it_f, true_and, and_true, not_true_eq_false, not_false_eq_true, implies_true, and_self, eq_self, hi.1, hp]
      exact h2.2
  · have A := loop_i (fun f u (z : Int32 × Int32) => p_X7_bestQuestion_18 fu f (nI B) z.1 z.2 (nI (u + 1)) t s l ∧ f_X7_bestQuestion_18 fu f (nI B) z.1 z.2 (nI (u + 1)) t s l = gI (bq (wst wd B nw) 9 26).1) (fun u z => z.1 = gI (bq (wst wd B nw) 9 u).1 ∧ z.2 = nI (bq (wst wd B nw) 9 u).2) 26 ?_ ?_ fu 0 (-nI 2, nI 9) (Nat.zero_le _) (by omega) ⟨rfl, rfl⟩
    · dsimp only at A
      simp (disch := omega) only [ln_, leT, leF, ltT, ltF, eqT, eqF, vpT, nlT, nleT, lnF, lenF, eqnF, neqF, nnF, nI_add, pk_mul, pk_div, pk_sub, ni_m, nI_clamp, md10, dm10, gI_l, gI_n, ar_t, ar_f, it_t, it_f, true_and, and_true, not_true_eq_false, not_false_eq_true, implies_true, and_self, eq_self, if_neg h0]; exact A
    · intro f z hz
      obtain ⟨x1, x2⟩ := z
      obtain ⟨z1, z2⟩ := hz
      dsimp only at z1 z2 ⊢
      unfold p_X7_bestQuestion_18 f_X7_bestQuestion_18
      simp (disch := omega) only [ln_, ltT, nI_add, Nat.reduceAdd, ar_t, ar_f, it_t, it_f, true_and, and_true, not_true_eq_false, not_false_eq_true, implies_true, and_self, eq_self, z1]
    · intro f u z hu hz ih
      replace ih := fun x s' => ih (x, s')
      dsimp only at ih
      obtain ⟨x1, x2⟩ := z
      obtain ⟨z1, z2⟩ := hz
      dsimp only at z1 z2 ⊢
      have hfb : (bq (wst wd B nw) 9 u).2 ≤ 9 := by
        rcases bq_b (n := u) hwl with ⟨_, _, a⟩ | ⟨_, _, a⟩ <;> omega
      have hi := inner (fun x2 x3 x4 x5 => f_X7_bestQuestion_18 fu f x2 x3 x4 x5 t s l) (fun x2 x3 x4 x5 => p_X7_bestQuestion_18 fu f x2 x3 x4 x5 t s l) x1 (bq (wst wd B nw) 9 u).2 (u + 1) (by omega) (by omega) hfb
      have hst : bq (wst wd B nw) 9 (u + 1) = if wst wd B nw (u + 1) < (bq (wst wd B nw) 9 u).2 then (u + 1, wst wd B nw (u + 1)) else bq (wst wd B nw) 9 u := rfl
      unfold p_X7_bestQuestion_18 f_X7_bestQuestion_18
      by_cases e : wst wd B nw (u + 1) < (bq (wst wd B nw) 9 u).2
      · rw [if_pos e, if_pos e] at hi
        rw [if_pos e] at hst
        have h2 := ih (nI (u + 1)) (nI (wst wd B nw (u + 1))) ⟨by rw [hst, gI_l (by show u + 1 < 80; omega)], by rw [hst]⟩
        have hp := hi.2 h2.1
        simp (disch := omega) only [ln_, ltF, ar_t, ar_f, it_t, it_f, true_and, and_true, not_true_eq_false, not_false_eq_true, implies_true, and_self, eq_self, z2, hi.1, hp]
        exact h2.2
      · rw [if_neg e, if_neg e] at hi
        rw [if_neg e] at hst
        have h2 := ih x1 (nI (bq (wst wd B nw) 9 u).2) ⟨by rw [hst]; exact z1, by rw [hst]⟩
        have hp := hi.2 h2.1
        simp (disch := omega) only [ln_, ltF, ar_t, ar_f, it_t, it_f, true_and, and_true, not_true_eq_false, not_false_eq_true, implies_true, and_self, eq_self, z2, hi.1, hp]
        exact h2.2
theorem r_best (hfu : 20000 ≤ fu) (hlv : lv ≤ 1) (h18 : s 60 18 = nI lv) (h72 : s 72 lv = nI nw) (hl : ∀ w, w < nw → l 73 (8 * lv + w) = lN (p27 (wd w).reverse)) (hnw : nw ≤ 8) (hW : ∀ w, w < nw → okW (wd w)) (hB : B < 256) : p_X12_ask_29 fu fu (nI B) (-nI 2) (nI 0) (nI 1) s l ∧ f_X12_ask_29 fu fu (nI B) (-nI 2) (nI 0) (nI 1) s l = if B = 0 then -nI 2 else gI (bq (wst wd B nw) 9 26).1 := by
  have hwl := fun u => wst_le (wd := wd) (u := u) hB hnw
  have htl := fun u n (hn : n ≤ 10) => wth_le (wd := wd) (B := B) (u := u) hn
  have hp8 := pc8 hB
  have hbc := bits_n (fu := fu) (S := B) hfu (by omega)
  by_cases h0 : B = 0
  · subst h0
    obtain ⟨f, hf⟩ : ∃ f, fu = f + 1 := ⟨fu - 1, by omega⟩
    have e1 : ∀ x2 x3 x4 x5 s l, f_X12_ask_29 fu fu x2 x3 x4 x5 s l = f_X12_ask_29 fu (f + 1) x2 x3 x4 x5 s l := by intros; rw [← hf]
    have e2 : ∀ x2 x3 x4 x5 s l, p_X12_ask_29 fu fu x2 x3 x4 x5 s l = p_X12_ask_29 fu (f + 1) x2 x3 x4 x5 s l := by intros; rw [← hf]
    rw [e1, e2, if_pos rfl]
    unfold p_X12_ask_29 f_X12_ask_29
    simp (disch := omega) only [ln_, leT, leF, ltT, ltF, eqT, eqF, vpT, nlT, nleT, lnF, lenF, eqnF, neqF, nnF, nI_add, pk_mul, pk_div, pk_sub, ni_m, nI_clamp, md10, dm10, gI_l, gI_n, ar_t, ar_f, it_t, it_f, true_and, and_true, not_true_eq_false, not_false_eq_true, implies_true, and_self, eq_self]
  · rw [if_neg h0]
    have inner : ∀ (K : Int32 → Int32 → Int32 → Int32 → Int32) (Pk : Int32 → Int32 → Int32 → Int32 → Prop) (x3 x4 : Int32) (bst few u : Nat), 1 ≤ u → u ≤ 26 → ((x3 = -nI 2 ∧ few = 9) ∨ (x3 = nI bst ∧ bst < 80 ∧ x4 = nI few ∧ few ≤ 9)) → (f_X12_ask_46 fu K fu (nI B) x3 x4 (nI u) (nI 0) (nI 0) s l = if wst wd B nw u < few then K (nI B) (nI u) (nI (wst wd B nw u)) (nI (u + 1)) else K (nI B) x3 x4 (nI (u + 1))) ∧ ((if wst wd B nw u < few then Pk (nI B) (nI u) (nI (wst wd B nw u)) (nI (u + 1)) else Pk (nI B) x3 x4 (nI (u + 1))) → p_X12_ask_46 fu Pk fu (nI B) x3 x4 (nI u) (nI 0) (nI 0) s l) := by
      intro K Pk x3 x4 bst few u hu1 hu hor
      refine loop_i (fun f w r => (f_X12_ask_46 fu K f (nI B) x3 x4 (nI u) r (nI w) s l = if wst wd B nw u < few then K (nI B) (nI u) (nI (wst wd B nw u)) (nI (u + 1)) else K (nI B) x3 x4 (nI (u + 1))) ∧ ((if wst wd B nw u < few then Pk (nI B) (nI u) (nI (wst wd B nw u)) (nI (u + 1)) else Pk (nI B) x3 x4 (nI (u + 1))) → p_X12_ask_46 fu Pk f (nI B) x3 x4 (nI u) r (nI w) s l)) (fun w r => r = nI (wth wd B w u)) nw ?_ ?_ fu 0 (nI 0) (Nat.zero_le _) (by omega) rfl
      · intro f r hr
        have hb := htl u nw (by omega)
        have hw8 := hwl u
        have hsub : nI (pc B 10) - nI (wth wd B nw u) = nI (pc B 10 - wth wd B nw u) := pk_sub hb
        unfold p_X12_ask_46 f_X12_ask_46
        by_cases c1 : wth wd B nw u ≤ pc B 10 - wth wd B nw u
        · have hws : wst wd B nw u = pc B 10 - wth wd B nw u := by unfold wst; split <;> omega
          rcases hor with ⟨o1, o2⟩ | ⟨o1, o2, o3, o4⟩
          · have hlt : wst wd B nw u < few := by omega
            rw [if_pos hlt, if_pos hlt]
            simp (disch := omega) only [ln_, leT, leF, nlT, vpT, nI_clamp, nI_add, ar_t, ar_f, it_t, it_f, true_and, and_true, not_true_eq_false, not_false_eq_true, implies_true, and_self, eq_self, h18, h72, hr, hbc, hsub, o1, hws]
            exact fun h => h
          · by_cases e : wst wd B nw u < few
            · rw [if_pos e, if_pos e]
              simp (disch := omega) only [ln_, leT, leF, ltT, ltF, vpT, nI_clamp, nI_add, ar_t, ar_f, it_t, it_f, true_and, and_true, not_true_eq_false, not_false_eq_true, implies_true, and_self, eq_self, h18, h72, hr, hbc, hsub, o1, o3, hws]
              exact fun h => h
            · rw [if_neg e, if_neg e]
              simp (disch := omega) only [ln_, leT, leF, ltT, ltF, vpT, nI_clamp, nI_add, ar_t, ar_f, it_t, it_f, true_and, and_true, not_true_eq_false, not_false_eq_true, implies_true, and_self, eq_self, h18, h72, hr, hbc, hsub, o1, o3]
              exact fun h => h
        · have hws : wst wd B nw u = wth wd B nw u := by unfold wst; split <;> omega
          rcases hor with ⟨o1, o2⟩ | ⟨o1, o2, o3, o4⟩
          · have hlt : wst wd B nw u < few := by omega
            rw [if_pos hlt, if_pos hlt]
            simp (disch := omega) only [ln_, leT, leF, nlT, vpT, nI_clamp, nI_add, ar_t, ar_f, it_t, it_f, true_and, and_true, not_true_eq_false, not_false_eq_true, implies_true, and_self, eq_self, h18, h72, hr, hbc, hsub, o1, hws]
            exact fun h => h
          · by_cases e : wst wd B nw u < few
            · rw [if_pos e, if_pos e]
              simp (disch := omega) only [ln_, leT, leF, ltT, ltF, vpT, nI_clamp, nI_add, ar_t, ar_f, it_t, it_f, true_and, and_true, not_true_eq_false, not_false_eq_true, implies_true, and_self, eq_self, h18, h72, hr, hbc, hsub, o1, o3, hws]
              exact fun h => h
            · rw [if_neg e, if_neg e]
              simp (disch := omega) only [ln_, leT, leF, ltT, ltF, vpT, nI_clamp, nI_add, ar_t, ar_f, it_t, it_f, true_and, and_true, not_true_eq_false, not_false_eq_true, implies_true, and_self, eq_self, h18, h72, hr, hbc, hsub, o1, o3]
              exact fun h => h
      · intro f w r hw hr ih
        have hb := bitN (S := B) (k := w) (by omega) (by omega)
        have hbl := bt_lt B w
        have hs := r_there (l := l) (n := w) (k := u) hfu hlv h18 hl hnw hW hw hu
        unfold p_X12_ask_46 f_X12_ask_46
        by_cases e : bt B w = 1
        · by_cases e2 : u ∈ wd w
          · rw [if_pos e2] at hs
            simp (disch := omega) only [ln_, leF, eqT, eqF, vpT, nI_clamp, nI_add, ar_t, ar_f, it_t, it_f, true_and, and_true, not_true_eq_false, not_false_eq_true, implies_true, and_self, eq_self, h18, h72, hb, hs, hr]
            exact ih _ (by rw [wth_t e e2])
          · rw [if_neg e2] at hs
            simp (disch := omega) only [ln_, leF, eqT, eqF, vpT, nI_clamp, nI_add, ar_t, ar_f, it_t, it_f, true_and, and_true, not_true_eq_false, not_false_eq_true, implies_true, and_self, eq_self, h18, h72, hb, hs]
            exact ih _ (by rw [hr, wth_f (fun h => e2 h.2)])
        · simp (disch := omega) only [ln_, leF, eqF, vpT, nI_clamp, nI_add, ar_t, ar_f, it_t, it_f, true_and, and_true, not_true_eq_false, not_false_eq_true, implies_true, and_self, eq_self, h18, h72, hb]
          exact ih _ (by rw [hr, wth_f (fun h => e h.1)])
    refine loop_i (fun f u (z : Int32 × Int32) => p_X12_ask_29 fu f (nI B) z.1 z.2 (nI (u + 1)) s l ∧ f_X12_ask_29 fu f (nI B) z.1 z.2 (nI (u + 1)) s l = gI (bq (wst wd B nw) 9 26).1) (fun u z => (u = 0 ∧ z.1 = -nI 2) ∨ (0 < u ∧ z.1 = nI (bq (wst wd B nw) 9 u).1 ∧ z.2 = nI (bq (wst wd B nw) 9 u).2)) 26 ?_ ?_ fu 0 (-nI 2, nI 0) (Nat.zero_le _) (by omega) (.inl ⟨rfl, rfl⟩)
    · intro f z hz
      obtain ⟨x1, x2⟩ := z
      dsimp only at hz ⊢
      rcases hz with ⟨h, _⟩ | ⟨_, z1, z2⟩
      · omega
      · have : (bq (wst wd B nw) 9 26).1 < 80 := by rcases bq_b (n := 26) hwl with ⟨_, a, _⟩ | ⟨_, a, _⟩ <;> omega
        unfold p_X12_ask_29 f_X12_ask_29
        simp (disch := omega) only [ln_, leT, gI_l, nI_add, Nat.reduceAdd, ar_t, ar_f, it_t, it_f, true_and, and_true, not_true_eq_false, not_false_eq_true, implies_true, and_self, eq_self, z1]
    · intro f u z hu hz ih
      replace ih := fun x s' => ih (x, s')
      dsimp only at ih
      obtain ⟨x1, x2⟩ := z
      dsimp only at hz ⊢
      have hst : bq (wst wd B nw) 9 (u + 1) = if wst wd B nw (u + 1) < (bq (wst wd B nw) 9 u).2 then (u + 1, wst wd B nw (u + 1)) else bq (wst wd B nw) 9 u := rfl
      have hw8 := hwl (u + 1)
      have hor : (x1 = -nI 2 ∧ (bq (wst wd B nw) 9 u).2 = 9) ∨ (x1 = nI (bq (wst wd B nw) 9 u).1 ∧ (bq (wst wd B nw) 9 u).1 < 80 ∧ x2 = nI (bq (wst wd B nw) 9 u).2 ∧ (bq (wst wd B nw) 9 u).2 ≤ 9) := by
        rcases bq_b (n := u) hwl with ⟨a1, a2, a3⟩ | ⟨a1, a2, a3⟩
        · rcases hz with ⟨b1, b2⟩ | ⟨b1, b2, b3⟩
          · exact .inl ⟨b2, a3⟩
          · omega
        · rcases hz with ⟨b1, b2⟩ | ⟨b1, b2, b3⟩
          · omega
          · exact .inr ⟨b2, by omega, b3, by omega⟩
      have hi := inner (fun x2 x3 x4 x5 => f_X12_ask_29 fu f x2 x3 x4 x5 s l) (fun x2 x3 x4 x5 => p_X12_ask_29 fu f x2 x3 x4 x5 s l) x1 x2 (bq (wst wd B nw) 9 u).1 (bq (wst wd B nw) 9 u).2 (u + 1) (by omega) (by omega) hor
      unfold p_X12_ask_29 f_X12_ask_29
      by_cases e : wst wd B nw (u + 1) < (bq (wst wd B nw) 9 u).2
      · rw [if_pos e, if_pos e] at hi
        rw [if_pos e] at hst
        have h2 := ih (nI (u + 1)) (nI (wst wd B nw (u + 1))) (.inr ⟨by omega, by rw [hst], by rw [hst]⟩)
        have hp := hi.2 h2.1
        simp (disch := omega) only [ln_, leF, eqF, ar_t, ar_f, it_t, it_f, true_and, and_true, not_true_eq_false, not_false_eq_true, implies_true, and_self, eq_self, hi.1, hp]
        exact h2.2
      · rw [if_neg e, if_neg e] at hi
        rw [if_neg e] at hst
        have h2 := ih x1 x2 (by
          rcases hz with ⟨b1, b2⟩ | ⟨b1, b2, b3⟩
          · rcases bq_b (n := u) hwl with ⟨a1, a2, a3⟩ | ⟨a1, a2, a3⟩ <;> omega
          · exact .inr ⟨by omega, by rw [hst]; exact b2, by rw [hst]; exact b3⟩)
        have hp := hi.2 h2.1
        simp (disch := omega) only [ln_, leF, eqF, ar_t, ar_f, it_t, it_f, true_and, and_true, not_true_eq_false, not_false_eq_true, implies_true, and_self, eq_self, hi.1, hp]
        exact h2.2
theorem m_ask (hfu : 20000 ≤ fu) (hD : (if D.2.2.1 then 20 else 9) = t) (cv : CV fu t P np nl nw ht sg lo wd wx wy rn sd LW Y s l) (rv : RV fu lv P np nl nw ht sg lo wd wx wy rn sd LW Y s l) (ct0 : cTo nt tl th s) (rt0 : rTo nt tl th s) (bt0 : bTo nt tl) : Qy s l (f_X11_ask fu x D s l, s, l) (p_X11_ask fu x D s l) (fun s l => (f_X12_ask fu x s l, s, l)) (p_X12_ask fu x) := by
  obtain ⟨ht0, hTx, hL, hC, yc, yw, tb⟩ := cv
  obtain ⟨rt, rx, _⟩ := rv
  have hnw := tb.2.2.2.1
  have hW := tb.2.2.2.2.2.2.1
  have hn := bt0.1
  have h57 := ct0.1
  have h65 := rt0.1
  unfold f_X11_ask p_X11_ask f_X12_ask p_X12_ask f_X12_in
  rw [hD]
  rcases ag3 x 0 nt (by omega) (by omega) with h | ⟨h1, h2, h3⟩ | ⟨k, _, hk, rfl⟩
  · refine Qy_mk (-nI 1) s s ?_ ?_ cS_rfl (fun _ _ => rfl) ?_ ?_ rS_rfl <;> simp (disch := omega) only [ln_, leT, leF, ltT, ltF, eqT, eqF, vpT, nlT, nleT, lnF, lenF, eqnF, neqF, nnF, nI_add, pk_mul, pk_div, pk_sub, ni_m, nI_clamp, md10, dm10, gI_l, gI_n, ar_t, ar_f, it_t, it_f, true_and, and_true, not_true_eq_false, not_false_eq_true, implies_true, and_self, eq_self, h, p_inT]
  · refine Qy_mk (-nI 1) s s ?_ ?_ cS_rfl (fun _ _ => rfl) ?_ ?_ rS_rfl <;> simp (disch := omega) only [ln_, leT, leF, ltT, ltF, eqT, eqF, vpT, nlT, nleT, lnF, lenF, eqnF, neqF, nnF, nI_add, pk_mul, pk_div, pk_sub, ni_m, nI_clamp, md10, dm10, gI_l, gI_n, ar_t, ar_f, it_t, it_f, true_and, and_true, not_true_eq_false, not_false_eq_true, implies_true, and_self, eq_self, h57, h65, h1, h2, h3, p_inT]
  · have a1 := c_left (l := l) (t := t) hfu ct0 bt0 hTx.1.2.1 hTx.2.2.2.2 hnw hW hk
    have a2 := r_written (l := l) hfu rt0 bt0 rt.1 rt.2.1 rx.2.1 rx.2.2.2 hnw hW hk
    have hml := mkB_lt (fun w => agB tl th (wd w) k) nw
    have hp8 : 2 ^ nw ≤ 2 ^ 8 := Nat.pow_le_pow_right (by omega) (by omega)
    generalize mkB (fun w => agB tl th (wd w) k) nw = B at a1 a2 hml
    have b1 := c_best (l := l) (t := t) (B := B) hfu hTx.1.2.1 hTx.2.2.2.2 hnw hW (by omega)
    have b2 := r_best (l := l) (B := B) hfu rt.1 rt.2.1 rx.2.1 rx.2.2.2 hnw hW (by omega)
    refine Qy_mk (if B = 0 then -nI 2 else gI (bq (wst wd B nw) 9 26).1) s s ?_ ?_ cS_rfl (fun _ _ => rfl) ?_ ?_ rS_rfl <;> simp (disch := omega) only [ln_, ltF, leT, eqF, ar_t, ar_f, it_t, it_f, true_and, and_true, not_true_eq_false, not_false_eq_true, implies_true, and_self, eq_self, h57, h65, a1, a2, b1, b2, p_inT]
end ask
