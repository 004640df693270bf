/-! What lies where among the yards made later; the past; the slots -/
def frI (D : fl_D) : Prop := D.2.2.2.1 = 54 ∨ (107 ≤ D.2.2.2.1 ∧ D.2.2.2.1 < D.1 ∧ ∀ k, k ≤ 5 → D.2.1 (D.2.2.2.1 - k) = false)
def pYd (D : fl_D) (p : Nat) : Prop := 107 ≤ p ∧ isY D p
def dI (D : fl_D) : Prop := fl_ok D ∧ frI D ∧ (∀ i p, D.2.2.2.2.1 i = some p → pYd D p) ∧ (∀ i p, D.2.2.2.2.2 i = some p → pYd D p) ∧ (∀ i j p, D.2.2.2.2.1 i = some p → D.2.2.2.2.1 j = some p → i = j) ∧ (∀ i j p, D.2.2.2.2.2 i = some p → D.2.2.2.2.2 j = some p → i = j) ∧ ∀ i j p, D.2.2.2.2.1 i = some p → D.2.2.2.2.2 j = some p → False
section dyn
variable {D D' : fl_D} {p p' i : Nat}
theorem pYd_t (h : pYd D p) : D.2.1 p = true ∧ ∀ k, 1 ≤ k → k ≤ 5 → D.2.1 (p + k) = false := by
  obtain ⟨h0, h | h | ⟨_, h1, h2, h3, h4, h5, h6⟩⟩ := h
  · omega
  · omega
  · refine ⟨h1, fun k a b => ?_⟩
    have : k = 1 ∨ k = 2 ∨ k = 3 ∨ k = 4 ∨ k = 5 := by omega
    rcases this with rfl | rfl | rfl | rfl | rfl <;> assumption
theorem pYd_dj (h : pYd D p) (h' : pYd D p') (n : p ≠ p') : p + 5 < p' ∨ p' + 5 < p := by
  obtain ⟨a1, a2⟩ := pYd_t h
  obtain ⟨b1, b2⟩ := pYd_t h'
  rcases Nat.lt_or_ge p p' with e | e
  · left
    rcases Nat.lt_or_ge (p + 5) p' with e2 | e2
    · exact e2
    · have := a2 (p' - p) (by omega) (by omega)
      rw [show p + (p' - p) = p' from by omega, b1] at this
      exact absurd this (by decide)
  · right
    rcases Nat.lt_or_ge (p' + 5) p with e2 | e2
    · exact e2
    · have := b2 (p - p') (by omega) (by omega)
      rw [show p' + (p - p') = p from by omega, a1] at this
      exact absurd this (by decide)
theorem frI_dj (h : frI D) (hp : pYd D p) : D.2.2.2.1 < p ∨ p + 5 < D.2.2.2.1 := by
  obtain ⟨a1, a2⟩ := pYd_t hp
  rcases h with h | ⟨h1, h2, h3⟩
  · have := hp.1; omega
  · rcases Nat.lt_or_ge D.2.2.2.1 p with e | e
    · exact .inl e
    · right
      rcases Nat.lt_or_ge (p + 5) D.2.2.2.1 with e2 | e2
      · exact e2
      · have := h3 (D.2.2.2.1 - p) (by omega)
        rw [show D.2.2.2.1 - (D.2.2.2.1 - p) = p from by omega, a1] at this
        exact absurd this (by decide)
theorem frI_ok (h : frI D) : D.2.2.2.1 = 54 ∨ (107 ≤ D.2.2.2.1 ∧ frok D) := by
  rcases h with h | ⟨h1, h2, h3⟩
  · exact .inl h
  · refine .inr ⟨h1, fun f g => ?_⟩
    unfold cl fl_y
    have a0 := h3 0 (by omega); have a1 := h3 1 (by omega); have a2 := h3 2 (by omega); have a3 := h3 3 (by omega); have a4 := h3 4 (by omega); have a5 := h3 5 (by omega)
    rw [Nat.sub_zero] at a0
    rw [if_neg (by omega), a0, a1, a2, a3, a4, a5]
    simp
theorem frI_fr (h : frI D) : fl_fr D := by
  rcases frI_ok h with h | h
  · exact .inl h
  · exact .inr h.2
theorem dI_hfr (h : dI D) : D.2.2.2.1 = 54 ∨ (107 ≤ D.2.2.2.1 ∧ frok D) := frI_ok h.2.1
theorem pYd_lt (ok : fl_ok D) (h : pYd D p) : p + 6 ≤ D.1 := ok.2 p (pYd_t h).1
theorem pYd_o (ok : fl_ok D) (hy : D'.2.1 = fun x => x == D.1 || D.2.1 x) (h : pYd D p) : pYd D' p := ⟨h.1, isY_old ok hy h.2⟩
theorem frI_o (h : frI D) (hy : D'.2.1 = fun x => x == D.1 || D.2.1 x) (h1 : D'.1 = D.1 + 6) (hf : D'.2.2.2.1 = D.2.2.2.1) : frI D' := by
  rcases h with h | ⟨a1, a2, a3⟩
  · exact .inl (by rw [hf]; exact h)
  · refine .inr ⟨by rw [hf]; exact a1, by rw [hf, h1]; omega, fun k hk => ?_⟩
    rw [hf, hy]
    have := a3 k hk
    have e : (D.2.2.2.1 - k == D.1) = false := beq_false_of_ne (by omega)
    simp only [e, this, Bool.or_self]
theorem va_s {f : Nat → Option Nat} {i : Nat} {v : Option Nat} : va_up f i v i = v := by unfold va_up; exact if_pos rfl
theorem va_n {f : Nat → Option Nat} {i j : Nat} {v : Option Nat} (h : j ≠ i) : va_up f i v j = f j := by unfold va_up; exact if_neg h
theorem dI_p (h : dI D) (i : Nat) (hi : D.2.2.2.2.1 i = none) : dI (D_p D i) ∧ pYd (D_p D i) D.1 := by
  obtain ⟨ok, fr, a3, a4, a5, a6, a7⟩ := h
  have new : pYd (D_p D i) D.1 := ⟨ok.1, isY_new ok rfl⟩
  have old : ∀ p, pYd D p → pYd (D_p D i) p := fun p hp => pYd_o ok rfl hp
  have key : ∀ j p, (D_p D i).2.2.2.2.1 j = some p → (j = i ∧ p = D.1) ∨ (j ≠ i ∧ D.2.2.2.2.1 j = some p) := by
    intro j p hj
    have hj : va_up D.2.2.2.2.1 i (some D.1) j = some p := hj
    by_cases e : j = i
    · subst e; rw [va_s] at hj; exact .inl ⟨rfl, (Option.some.inj hj).symm⟩
    · rw [va_n e] at hj; exact .inr ⟨e, hj⟩
  have ne : ∀ j p, D.2.2.2.2.1 j = some p → p ≠ D.1 := fun j p hj e => by have := pYd_lt ok (a3 j p hj); omega
  have ne2 : ∀ j p, D.2.2.2.2.2 j = some p → p ≠ D.1 := fun j p hj e => by have := pYd_lt ok (a4 j p hj); omega
  refine ⟨⟨D_p_ok ok i, frI_o fr rfl rfl rfl, fun j p hj => ?_, fun j p hj => old p (a4 j p hj), fun j k p hj hk => ?_, a6, fun j k p hj hk => ?_⟩, new⟩
  · rcases key j p hj with ⟨_, e⟩ | ⟨_, e⟩
    · rw [e]; exact new
    · exact old p (a3 j p e)
  · rcases key j p hj with ⟨e1, e2⟩ | ⟨e1, e2⟩ <;> rcases key k p hk with ⟨e3, e4⟩ | ⟨e3, e4⟩
    · omega
    · exact absurd e2 (ne k p e4)
    · exact absurd e4 (ne j p e2)
    · exact a5 j k p e2 e4
  · rcases key j p hj with ⟨e1, e2⟩ | ⟨e1, e2⟩
    · exact absurd e2 (ne2 k p hk)
    · exact a7 j k p e2 hk
theorem dI_q (h : dI D) (i : Nat) (hi : D.2.2.2.2.2 i = none) : dI (D_q D i) ∧ pYd (D_q D i) D.1 := by
  obtain ⟨ok, fr, a3, a4, a5, a6, a7⟩ := h
  have new : pYd (D_q D i) D.1 := ⟨ok.1, isY_new ok rfl⟩
  have old : ∀ p, pYd D p → pYd (D_q D i) p := fun p hp => pYd_o ok rfl hp
  have key : ∀ j p, (D_q D i).2.2.2.2.2 j = some p → (j = i ∧ p = D.1) ∨ (j ≠ i ∧ D.2.2.2.2.2 j = some p) := by
    intro j p hj
    have hj : va_up D.2.2.2.2.2 i (some D.1) j = some p := hj
    by_cases e : j = i
    · subst e; rw [va_s] at hj; exact .inl ⟨rfl, (Option.some.inj hj).symm⟩
    · rw [va_n e] at hj; exact .inr ⟨e, hj⟩
  have ne : ∀ j p, D.2.2.2.2.1 j = some p → p ≠ D.1 := fun j p hj e => by have := pYd_lt ok (a3 j p hj); omega
  have ne2 : ∀ j p, D.2.2.2.2.2 j = some p → p ≠ D.1 := fun j p hj e => by have := pYd_lt ok (a4 j p hj); omega
  refine ⟨⟨D_q_ok ok i, frI_o fr rfl rfl rfl, fun j p hj => old p (a3 j p hj), fun j p hj => ?_, a5, fun j k p hj hk => ?_, fun j k p hj hk => ?_⟩, new⟩
  · rcases key j p hj with ⟨_, e⟩ | ⟨_, e⟩
    · rw [e]; exact new
    · exact old p (a4 j p e)
  · rcases key j p hj with ⟨e1, e2⟩ | ⟨e1, e2⟩ <;> rcases key k p hk with ⟨e3, e4⟩ | ⟨e3, e4⟩
    · omega
    · exact absurd e2 (ne2 k p e4)
    · exact absurd e4 (ne2 j p e2)
    · exact a6 j k p e2 e4
  · rcases key k p hk with ⟨e1, e2⟩ | ⟨e1, e2⟩
    · exact absurd e2 (ne j p hj)
    · exact a7 j k p hj e2
theorem dI_t (h : dI D) : dI (D_t D) := by
  obtain ⟨ok, fr, a3, a4, a5, a6, a7⟩ := h
  refine ⟨⟨Nat.le_trans ok.1 (Nat.le_succ _), fun a ha => Nat.le_trans (ok.2 a ha) (Nat.le_succ _)⟩, .inr ⟨ok.1, Nat.lt_succ_self _, fun k hk => ?_⟩, a3, a4, a5, a6, a7⟩
  show D.2.1 (D.1 - k) = false
  cases e : D.2.1 (D.1 - k) with
  | false => rfl
  | true => have := ok.2 _ e; have := ok.1; omega
theorem dI_f (h : dI D) : dI (D_f D) := h
end dyn
def ups (hs : Nat → Yd) (k : Nat) (Y : Yd) : Nat → Yd := fun j => if j = k then Y else hs j
theorem ups_s {hs : Nat → Yd} {k : Nat} {Y : Yd} : ups hs k Y k = Y := if_pos rfl
theorem ups_n {hs : Nat → Yd} {k j : Nat} {Y : Yd} (h : j ≠ k) : ups hs k Y j = hs j := if_neg h
def nhs (u : Nat) (hs : Nat → Yd) (Y : Yd) : Nat → Yd := if u = 40 then ups (fun k => hs (k + 1)) 39 Y else ups hs u Y
def nhu (u : Nat) : Nat := if u = 40 then 40 else u + 1
def cP (D : fl_D) (P np u : Nat) (hs : Nat → Yd) (s : fl_I) : Prop := u ≤ 40 ∧ s 43 0 = nI u ∧ ∃ nn, nn < 40 ∧ s 43 2 = nI nn ∧ ∀ j, j < u → ∃ p, D.2.2.2.2.1 ((nn + 40 - j) % 40) = some p ∧ yC P np (hs (u - 1 - j)) p s
def rP (P np u : Nat) (hs : Nat → Yd) (s : fl_I) : Prop := s 60 58 = nI u ∧ ∀ k, k < u → YF P np (hs k) (fun j => s 99 (141 * k + j))
def cL (D : fl_D) (P np hm : Nat) (hy : Nat → Yd) (s : fl_I) : Prop := hm < 8 ∧ s 0 8 = nI hm ∧ ∀ k, k < 3 → bt hm k = 1 → ∃ p, D.2.2.2.2.2 k = some p ∧ yC P np (hy k) p s
def rL (P np hm : Nat) (hy : Nat → Yd) (s : fl_I) : Prop := ∀ k, k < 3 → s 105 k = nI (bt hm k) ∧ (bt hm k = 1 → YF P np (hy k) (fun j => s 106 (141 * k + j)))
section pas
variable {fu t lv P np nl nw : Nat} {ht sg lo : Nat → Nat} {wd : Nat → List Nat} {wx wy rn sd : Int32} {LW : Lw} {Y : Yd} {s s1 s2 : fl_I} {l : fl_L} {D : fl_D} {a i b c q k n g m u hm : Nat} {x y z v : Int32} {hs hy : Nat → Yd} {Z : Yd}
theorem cP_keep (h : ∀ q, q ≠ 43 → q < 107 ∨ s1 q = s q ∨ True → True) (h43 : s1 43 = s 43) (hk : ∀ p, pYd D p → ∀ k, k ≤ 5 → s1 (p + k) = s (p + k)) (hd : dI D) (r : cP D P np u hs s) : cP D P np u hs s1 := by
  obtain ⟨r1, r2, nn, r3, r4, r5⟩ := r
  refine ⟨r1, by rw [h43]; exact r2, nn, r3, by rw [h43]; exact r4, fun j hj => ?_⟩
  obtain ⟨p, hp, hy⟩ := r5 j hj
  exact ⟨p, hp, yC_keep (hk p (hd.2.2.1 _ p hp)) hy⟩
theorem cL_keep (h0 : s1 0 8 = s 0 8) (hk : ∀ p, pYd D p → ∀ k, k ≤ 5 → s1 (p + k) = s (p + k)) (hd : dI D) (r : cL D P np hm hy s) : cL D P np hm hy s1 := by
  obtain ⟨r1, r2, r3⟩ := r
  refine ⟨r1, by rw [h0]; exact r2, fun k hk2 hb => ?_⟩
  obtain ⟨p, hp, hy⟩ := r3 k hk2 hb
  exact ⟨p, hp, yC_keep (hk p (hd.2.2.2.1 _ p hp)) hy⟩
theorem mod40 {nn j : Nat} (hn : nn < 40) (hj : j < 40) : (nn + 40 - j) % 40 = if j ≤ nn then nn - j else nn + 40 - j := by
  split <;> omega
theorem c_keep (hd : dI D) (hc : cP D P np u hs s) (hl : cL D P np hm hy s) (yc : yC P np Y 31 s) (hP : P ≤ 32) (hn : np ≤ 4) :
    ∃ D' s', f_keep fu D s l = (D', s', l) ∧ p_keep fu D s l ∧ dI D' ∧ D'.2.2.1 = D.2.2.1 ∧ cP D' P np (nhu u) (nhs u hs Y) s' ∧ cL D' P np hm hy s' ∧ ∀ q, q < 107 → q ≠ 43 → s' q = s q := by
  obtain ⟨u40, h430, nn, hnn, h432, hpast⟩ := hc
  have hkn : k_n s = nI ((nn + 1) % 40) := by
    unfold k_n
    rw [h432]
    by_cases e : nn + 1 < 40
    · rw [show nI nn + 1 = nI (nn + 1) from nI_1 nn, if_pos (show nI (nn + 1) < 40 from nI_lt (b := 40) e (by omega)), Nat.mod_eq_of_lt e]
    · rw [show nI nn + 1 = nI (nn + 1) from nI_1 nn, if_neg (show ¬ nI (nn + 1) < 40 from nI_nlt (b := 40) (by omega) (by omega)), show (nn + 1) % 40 = 0 from by omega]; rfl
  generalize hk : (nn + 1) % 40 = k at hkn
  have hk40 : k < 40 := by omega
  have s432 : wi s 43 2 (k_n s) 43 2 = nI k := by rw [wi_s, hkn]
  have hmin : i_min (40 : Int32) (nI u + 1) = nI (nhu u) := by
    rw [show nI u + 1 = nI (u + 1) from nI_1 u]
    have := i_minN (a := 40) (b := u + 1) (by omega) (by omega)
    rw [show i_min (40 : Int32) (nI (u + 1)) = i_min (nI 40) (nI (u + 1)) from rfl, this]
    unfold nhu
    by_cases e : u = 40
    · rw [if_pos e, if_neg (by omega)]
    · rw [if_neg e]
      by_cases e2 : u + 1 < 40
      · rw [if_pos e2]
      · rw [if_neg e2]; congr 1; omega
  have pk : p_keep fu D s l := by unfold p_keep; rw [hkn]; exact vp_in_nI hk40 (by omega)
  -- the copy, wherever the yard is
  have body : ∀ (D' : fl_D) (p : Nat) (s0 : fl_I), dI D' → D'.2.2.1 = D.2.2.1 → D'.2.2.2.2.1 k = some p → (∀ j, j ≠ k → D'.2.2.2.2.1 j = D.2.2.2.2.1 j) → D'.2.2.2.2.2 = D.2.2.2.2.2 → (∀ q, q < 107 → s0 q = (wi s 43 2 (k_n s)) q) → (∀ p', p' ≠ p → pYd D p' → pYd D' p' ∧ ∀ j, j ≤ 5 → s0 (p' + j) = s (p' + j)) →
      ∃ s', k_53 fu p s0 l = (s', l) ∧ cP D' P np (nhu u) (nhs u hs Y) s' ∧ cL D' P np hm hy s' ∧ ∀ q, q < 107 → q ≠ 43 → s' q = s q := by
    intro D' p s0 hd' hD1 hpk hpo hsl hlow hoth
    have hpy := hd'.2.2.1 k p hpk
    have h107 := hpy.1
    obtain ⟨s1, e1, _, y1, r1⟩ := c_copy (fu := fu) (a := p) (b := 31) (l := l) (s := s0) (yC_keep (s := s) (fun j hj => by rw [hlow (31 + j) (by omega), wi_c (by omega)]) yc) hP hn (by omega)
    have h43 : s1 43 0 = nI u := by rw [r1 43 (by omega), hlow 43 (by omega), wi_u, upd_n (by omega)]; exact h430
    have h432' : s1 43 2 = nI k := by rw [r1 43 (by omega), hlow 43 (by omega)]; exact s432
    refine ⟨wi s1 43 0 (nI (nhu u)), ?_, ?_, ?_, fun q h1 h2 => by rw [wi_c h2, r1 q (by omega), hlow q h1, wi_c h2]⟩
    · unfold k_53; rw [e1]; dsimp only; rw [h43, hmin]
    · refine ⟨by unfold nhu; split <;> omega, wi_s, k, hk40, by rw [wi_u, upd_n (by omega)]; exact h432', fun j hj => ?_⟩
      by_cases e0 : j = 0
      · subst e0
        refine ⟨p, by rw [show (k + 40 - 0) % 40 = k from by omega]; exact hpk, ?_⟩
        have e : nhs u hs Y (nhu u - 1 - 0) = Y := by
          unfold nhs nhu
          by_cases e : u = 40
          · rw [if_pos e, if_pos e]; exact ups_s
          · rw [if_neg e, if_neg e, show u + 1 - 1 - 0 = u from by omega]; exact ups_s
        rw [e]
        exact yC_keep (s := s1) (fun j hj => by rw [wi_c (by omega)]) y1
      · have hj39 : j < 40 ∧ j - 1 < u ∧ j ≤ u := by unfold nhu at hj; split at hj <;> omega
        have hix : (k + 40 - j) % 40 = (nn + 40 - (j - 1)) % 40 := by omega
        have hne : (k + 40 - j) % 40 ≠ k := by omega
        obtain ⟨p', hp', hy'⟩ := hpast (j - 1) hj39.2.1
        have hpd := hd.2.2.1 _ p' hp'
        have hp'' : D'.2.2.2.2.1 ((k + 40 - j) % 40) = some p' := by rw [hpo _ hne, hix]; exact hp'
        have hpp : p' ≠ p := fun e => hne (hd'.2.2.2.2.1 _ k p (by rw [← e]; exact hp'') hpk)
        obtain ⟨hpd', hsame⟩ := hoth p' hpp hpd
        have hdj := pYd_dj hpd' hpy hpp
        refine ⟨p', hp'', ?_⟩
        have e : nhs u hs Y (nhu u - 1 - j) = hs (u - 1 - (j - 1)) := by
          unfold nhs nhu
          by_cases e : u = 40
          · rw [if_pos e, if_pos e, ups_n (by omega)]; congr 1; omega
          · rw [if_neg e, if_neg e, ups_n (by omega)]; congr 1; omega
        rw [e]
        exact yC_keep (s := s) (fun j2 hj2 => by rw [wi_c (by have := hpd.1; omega), r1 (p' + j2) (by omega)]; exact hsame j2 hj2) hy'
    · obtain ⟨l1, l2, l3⟩ := hl
      refine ⟨l1, by rw [wi_c (by omega), r1 0 (by omega), hlow 0 (by omega), wi_c (by omega)]; exact l2, fun k2 hk2 hb => ?_⟩
      obtain ⟨p', hp', hy'⟩ := l3 k2 hk2 hb
      have hpd := hd.2.2.2.1 _ p' hp'
      have hpp : p' ≠ p := fun e => hd'.2.2.2.2.2.2 k k2 p hpk (by rw [hsl, ← e]; exact hp')
      obtain ⟨hpd', hsame⟩ := hoth p' hpp hpd
      have hdj := pYd_dj hpd' hpy hpp
      refine ⟨p', by rw [hsl]; exact hp', ?_⟩
      exact yC_keep (s := s) (fun j2 hj2 => by rw [wi_c (by have := hpd.1; omega), r1 (p' + j2) (by omega)]; exact hsame j2 hj2) hy'
  unfold f_keep
  cases hc : D.2.2.2.2.1 k with
  | some p =>
    obtain ⟨s', e, c1, c2, c3⟩ := body D p (wi s 43 2 (k_n s)) hd rfl hc (fun _ _ => rfl) rfl (fun _ _ => rfl) (fun p' _ hp' => ⟨hp', fun j hj => by rw [wi_c (by have := hp'.1; omega)]⟩)
    refine ⟨D, s', ?_, pk, hd, rfl, c1, c2, c3⟩
    unfold k_25
    rw [s432, nI_clamp (by omega), hc]
    dsimp only
    rw [e]
  | none =>
    obtain ⟨hdp, hnew⟩ := dI_p hd k hc
    have hok := hd.1
    obtain ⟨s', e, c1, c2, c3⟩ := body (D_p D k) D.1 (sz (wi s 43 2 (k_n s)) D.1) hdp rfl va_s (fun j hj => va_n hj) rfl (fun q hq => sz_low (by have := hok.1; omega)) (fun p' hne hp' => ⟨pYd_o hok rfl hp', fun j hj => by
      have := pYd_lt hok hp'
      rw [sz_low (by omega), wi_c (by have := hp'.1; omega)]⟩)
    refine ⟨D_p D k, s', ?_, pk, hdp, rfl, c1, c2, c3⟩
    unfold k_25
    rw [s432, nI_clamp (by omega), hc]
    dsimp only
    rw [e]
end pas
