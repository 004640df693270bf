/-! The yard of the class and the row of the reference -/
theorem upd_id {f : Nat → Int32} {i : Nat} : upd f i (f i) = f := by
  funext j; unfold upd; by_cases h : j = i <;> simp [h]
theorem ni_m {x k : Nat} (h : k ≤ x) : nI x + -nI k = nI (x - k) := by rw [← pk_sub h, Int32.sub_eq_add_neg]
theorem nI_rem {a d : Nat} {e : Int32} (ha : a < 2 ^ 31) (h0 : 0 < d) (hd : d < 2 ^ 31) (he : e = nI d) : nI a - nI a / e * e = nI (a % d) := by
  subst he; exact pk_rem ha h0 hd
theorem nI_dv {a d : Nat} {e : Int32} (ha : a < 2 ^ 31) (h0 : 0 < d) (hd : d < 2 ^ 31) (he : e = nI d) : nI a / e = nI (a / d) := by
  subst he; exact pk_div ha h0 hd
/-- a piece: where and lain; across, down, holder, lain -/
def YPc (np : Nat) (w l x y k n : Int32) : Prop := ∃ m : Nat, m ≤ 999 ∧ l = nI m ∧ n = nI m ∧ ((∃ u v : Nat, u < 10 ∧ v < 8 ∧ w = nI (10 * v + u) ∧ x = nI u ∧ y = nI v ∧ k = -2) ∨ ∃ b : Nat, b < np ∧ w = nI (80 + b) ∧ k = nI b ∧ m = 0)
/-- a picker: at and goal; across, down, goal -/
def YPk (a g x y z : Int32) : Prop := (∃ u v : Nat, u < 10 ∧ v < 8 ∧ a = nI (10 * v + u) ∧ x = nI u ∧ y = nI v) ∧ z = g ∧ (g = -2 ∨ ∃ c : Nat, c < 80 ∧ g = nI c)
def hn (W : Nat → Int32) (b P : Nat) : Nat := ct (fun i => W i == nI (80 + b)) P
def YR (P np : Nat) (ht : Nat → Nat) (h : Nat) (W L A G H R : Nat → Int32) : Prop :=
  P ≤ 32 ∧ np ≤ 4 ∧ R 140 = nI h ∧ (∀ i, i < P → YPc np (W i) (L i) (R i) (R (32 + i)) (R (64 + i)) (R (96 + i))) ∧ ∀ b, b < np → YPk (A b) (G b) (R (128 + b)) (R (132 + b)) (R (136 + b)) ∧ H b = nI (hn W b P) ∧ hn W b P ≤ ht b
section yr_up
variable {P np h i b : Nat} {ht : Nat → Nat} {W L A G H R R' : Nat → Int32} {w l a g : Int32}
theorem YR_piece (y : YR P np ht h W L A G H R) (hi : i < P) (hR : ∀ j, j ≠ i → j ≠ 32 + i → j ≠ 64 + i → j ≠ 96 + i → R' j = R j)
    (hp : YPc np w l (R' i) (R' (32 + i)) (R' (64 + i)) (R' (96 + i))) (hc : ∀ b, b < np → ((w == nI (80 + b)) = (W i == nI (80 + b)))) : YR P np ht h (upd W i w) (upd L i l) A G H R' := by
  obtain ⟨hP, hnp, h140, hpc, hpk⟩ := y
  have ehn : ∀ b, b < np → hn (upd W i w) b P = hn W b P := by
    intro b hb
    refine ct_congr (fun j hj => ?_)
    by_cases e : j = i
    · subst e; rw [upd_s]; exact hc b hb
    · rw [upd_n e]
  refine ⟨hP, hnp, ?_, ?_, ?_⟩
  · rw [hR 140 (by omega) (by omega) (by omega) (by omega)]; exact h140
  · intro j hj
    by_cases e : j = i
    · subst e; rw [upd_s, upd_s]; exact hp
    · rw [upd_n e, upd_n e, hR j e (by omega) (by omega) (by omega), hR (32 + j) (by omega) (by omega) (by omega) (by omega), hR (64 + j) (by omega) (by omega) (by omega) (by omega), hR (96 + j) (by omega) (by omega) (by omega) (by omega)]
      exact hpc j hj
  · intro b hb
    rw [ehn b hb, hR (128 + b) (by omega) (by omega) (by omega) (by omega), hR (132 + b) (by omega) (by omega) (by omega) (by omega), hR (136 + b) (by omega) (by omega) (by omega) (by omega)]
    exact hpk b hb
theorem YR_walk (y : YR P np ht h W L A G H R) (hb : b < np) (hR : ∀ j, j ≠ 128 + b → j ≠ 132 + b → j ≠ 136 + b → R' j = R j) (hk : YPk a g (R' (128 + b)) (R' (132 + b)) (R' (136 + b))) : YR P np ht h W L (upd A b a) (upd G b g) H R' := by
  obtain ⟨hP, hnp, h140, hpc, hpk⟩ := y
  refine ⟨hP, hnp, ?_, ?_, ?_⟩
  · rw [hR 140 (by omega) (by omega) (by omega)]; exact h140
  · intro j hj
    rw [hR j (by omega) (by omega) (by omega), hR (32 + j) (by omega) (by omega) (by omega), hR (64 + j) (by omega) (by omega) (by omega), hR (96 + j) (by omega) (by omega) (by omega)]
    exact hpc j hj
  · intro c hc
    by_cases e : c = b
    · subst e; rw [upd_s, upd_s]; exact ⟨hk, (hpk c hc).2⟩
    · rw [upd_n e, upd_n e, hR (128 + c) (by omega) (by omega) (by omega), hR (132 + c) (by omega) (by omega) (by omega), hR (136 + c) (by omega) (by omega) (by omega)]
      exact hpk c hc
theorem hn_up {b' : Nat} (hi : i < P) (hw : W i ≠ nI (80 + b)) (hb : b < 4) (hb' : b' < 4) (hl : ∀ c, c < 4 → W i ≠ nI (80 + c)) : hn (upd W i (nI (80 + b))) b' P = if b' = b then hn W b P + 1 else hn W b' P := by
  by_cases e : b' = b
  · subst e
    rw [if_pos rfl]
    refine ct_up hi (fun j _ hj => ?_) ?_ ?_
    · rw [upd_n hj]
    · simpa using hw
    · rw [upd_s]; simp
  · rw [if_neg e]
    refine ct_congr (fun j hj => ?_)
    by_cases e2 : j = i
    · subst e2
      rw [upd_s]
      have h1 : ¬ nI (80 + b) = nI (80 + b') := fun h => e (by have := (nI_eq (by omega) (by omega)).mp h; omega)
      have h2 := hl b' hb'
      simp [h1, h2]
    · rw [upd_n e2]
theorem lie_ne {u v c : Nat} (hu : u < 10) (hv : v < 8) (hc : c < 4) : nI (10 * v + u) ≠ nI (80 + c) := fun h => by have := (nI_eq (by omega) (by omega)).mp h; omega
theorem YR_pick (y : YR P np ht h W L A G H R) (hi : i < P) (hb : b < np) {u v : Nat} (hu : u < 10) (hv : v < 8) (hw : W i = nI (10 * v + u)) (hroom : hn W b P < ht b) (hR : ∀ j, j ≠ 64 + i → j ≠ 96 + i → R' j = R j) (h1 : R' (64 + i) = nI b) (h2 : R' (96 + i) = 0) : YR P np ht h (upd W i (nI (80 + b))) (upd L i 0) A G (upd H b (H b + 1)) R' := by
  obtain ⟨hP, hnp, h140, hpc, hpk⟩ := y
  have hl : ∀ c, c < 4 → W i ≠ nI (80 + c) := fun c hc => by rw [hw]; exact lie_ne hu hv hc
  have ehn : ∀ b', b' < np → hn (upd W i (nI (80 + b))) b' P = if b' = b then hn W b P + 1 else hn W b' P := fun b' hb' => hn_up hi (hl b (by omega)) (by omega) (by omega) hl
  refine ⟨hP, hnp, ?_, ?_, ?_⟩
  · rw [hR 140 (by omega) (by omega)]; exact h140
  · intro j hj
    by_cases e : j = i
    · subst e; rw [upd_s, upd_s, h1, h2]; exact ⟨0, by omega, rfl, rfl, .inr ⟨b, hb, rfl, rfl, rfl⟩⟩
    · rw [upd_n e, upd_n e, hR j (by omega) (by omega), hR (32 + j) (by omega) (by omega), hR (64 + j) (by omega) (by omega), hR (96 + j) (by omega) (by omega)]
      exact hpc j hj
  · intro c hc
    rw [ehn c hc, hR (128 + c) (by omega) (by omega), hR (132 + c) (by omega) (by omega), hR (136 + c) (by omega) (by omega)]
    obtain ⟨k1, k2, k3⟩ := hpk c hc
    by_cases e : c = b
    · subst e
      rw [upd_s, if_pos rfl, k2, nI_1]
      exact ⟨k1, rfl, hroom⟩
    · rw [upd_n e, if_neg e]
      exact ⟨k1, k2, k3⟩
theorem YR_hour (y : YR P np ht h W L A G H R) (hR : ∀ j, j ≠ 140 → R' j = R j) (h1 : R' 140 = nI (h + 1)) : YR P np ht (h + 1) W L A G H R' := by
  obtain ⟨hP, hnp, h140, hpc, hpk⟩ := y
  refine ⟨hP, hnp, h1, ?_, ?_⟩
  · intro j hj
    rw [hR j (by omega), hR (32 + j) (by omega), hR (64 + j) (by omega), hR (96 + j) (by omega)]
    exact hpc j hj
  · intro c hc
    rw [hR (128 + c) (by omega), hR (132 + c) (by omega), hR (136 + c) (by omega)]
    exact hpk c hc
end yr_up
/-- one step of a picker -/
def wkx (c u : Nat) : Nat := if c % 10 < u then u - 1 else if u < c % 10 then u + 1 else u
def wky (c u v : Nat) : Nat := if c % 10 = u then (if c / 10 < v then v - 1 else if v < c / 10 then v + 1 else v) else v
theorem wk_b {c u v : Nat} (hc : c < 80) (hu : u < 10) (hv : v < 8) : wkx c u < 10 ∧ wky c u v < 8 := by
  unfold wkx wky; constructor
  · split
    · omega
    · split <;> omega
  · split
    · split
      · omega
      · split <;> omega
    · omega
theorem cmp_n {fu a b : Nat} (ha : a < 2 ^ 31) (hb : b < 2 ^ 31) : f_J6_compare_7cf53 fu (nI a) (nI b) = if a < b then -1 else if a = b then 0 else 1 := by
  unfold f_J6_compare_7cf53
  rw [show (nI b ≤ nI a) = (b ≤ a) from propext (nI_leI hb ha), show (nI a = nI b) = (a = b) from propext (nI_eq ha hb)]
  by_cases h : a < b
  · rw [if_neg (by omega), if_pos h]
  · rw [if_pos (by omega), if_neg h]
theorem p_cmp {fu : Nat} (a b : Int32) : p_J6_compare_7cf53 fu a b := ⟨fun _ => ⟨fun _ => trivial, fun _ => trivial⟩, fun _ => trivial⟩
theorem nI_0' : (0 : Int32) = nI 0 := rfl
/-- the class's picker, one step -/
theorem cwalk {fu n b a np u v c : Nat} {s : fl_I} {l : fl_L} (hnp : s a 2 = nI np) (hb : b < np) (h4 : np ≤ 4) (hu : u < 10) (hv : v < 8) (hA : s (a + 3) b = nI (10 * v + u)) (hc : c < 80) (hG : s (a + 4) b = nI c) :
    ∃ s', f_X9_walk_2 fu (n + 1) (nI b) a s l = f_X9_walk_2 fu n (nI (b + 1)) a s' l ∧ (p_X9_walk_2 fu n (nI (b + 1)) a s' l → p_X9_walk_2 fu (n + 1) (nI b) a s l) ∧ (∀ q, q ≠ a + 3 → q ≠ a + 4 → s' q = s q) ∧ s' (a + 3) = upd (s (a + 3)) b (nI (10 * wky c u v + wkx c u)) ∧ s' (a + 4) = upd (s (a + 4)) b (if 10 * wky c u v + wkx c u = c then -2 else nI c) := by
  have e1 : nI c - nI c / 10 * 10 = nI (c % 10) := nI_rem (by omega) (by omega) (by omega) rfl
  have e2 : nI (10 * v + u) - nI (10 * v + u) / 10 * 10 = nI u := by rw [nI_rem (d := 10) (by omega) (by omega) (by omega) rfl]; congr 1; omega
  have e3 : nI c / 10 = nI (c / 10) := nI_dv (by omega) (by omega) (by omega) rfl
  have e4 : nI (10 * v + u) / 10 = nI v := by rw [nI_dv (d := 10) (by omega) (by omega) (by omega) rfl]; congr 1; omega
  have e5 : ¬ nI np ≤ nI b := nI_ge hb (by omega)
  have e6 : ¬ nI c = -2 := fun h => by have := (gn_eq (a := c) (b := 2) (by omega) (by omega)).mp h; omega
  have e7 : vp_in (nI b) 4 := vp_in_nI (by omega) (by omega)
  have e8 : (nI b).toNatClampNeg = b := nI_clamp (by omega)
  have hw := wk_b hc hu hv
  have key : ∀ (w : Int32), w = nI (10 * wky c u v + wkx c u) → (w = nI c ↔ 10 * wky c u v + wkx c u = c) := fun w hw' => by rw [hw']; exact nI_eq (by omega) (by omega)
  have fin : ∀ (w : Int32), w = nI (10 * wky c u v + wkx c u) → (if w = nI c then f_X9_walk_2 fu n (nI (b + 1)) a (wi (wi s (a + 3) b w) (a + 4) b (-2)) l else f_X9_walk_2 fu n (nI (b + 1)) a (wi s (a + 3) b w) l) = f_X9_walk_2 fu n (nI (b + 1)) a (if w = nI c then wi (wi s (a + 3) b w) (a + 4) b (-2) else wi s (a + 3) b w) l := fun w _ => by split <;> rfl
  have o3 : a + 3 ≠ a + 4 := by omega
  have o4 : a + 4 ≠ a + 3 := by omega
  have post : ∀ (w : Int32), w = nI (10 * wky c u v + wkx c u) → (∀ q, q ≠ a + 3 → q ≠ a + 4 → (if w = nI c then wi (wi s (a + 3) b w) (a + 4) b (-2) else wi s (a + 3) b w) q = s q) ∧ (if w = nI c then wi (wi s (a + 3) b w) (a + 4) b (-2) else wi s (a + 3) b w) (a + 3) = upd (s (a + 3)) b (nI (10 * wky c u v + wkx c u)) ∧ (if w = nI c then wi (wi s (a + 3) b w) (a + 4) b (-2) else wi s (a + 3) b w) (a + 4) = upd (s (a + 4)) b (if 10 * wky c u v + wkx c u = c then -2 else nI c) := by
    intro w hw'
    by_cases h : w = nI c
    · have h' := (key w hw').mp h
      rw [if_pos h, if_pos h']
      refine ⟨fun q h1 h2 => ?_, ?_, ?_⟩
      · rw [wi_c h2, wi_c h1]
      · rw [wi_c o3, wi_u, hw']
      · rw [wi_u, wi_c o4]
    · have h' : ¬ 10 * wky c u v + wkx c u = c := fun e => h ((key w hw').mpr e)
      rw [if_neg h, if_neg h']
      refine ⟨fun q h1 h2 => ?_, ?_, ?_⟩
      · rw [wi_c h1]
      · rw [wi_u, hw']
      · rw [wi_c o4, ← hG, upd_id]
  have pp : ∀ (w : Int32), p_X9_walk_2 fu n (nI (b + 1)) a (if w = nI c then wi (wi s (a + 3) b w) (a + 4) b (-2) else wi s (a + 3) b w) l → ((w = nI c → (vp_in (nI b) 4) ∧ p_X9_walk_2 fu n (nI (b + 1)) a (wi (wi s (a + 3) b w) (a + 4) b (-2)) l) ∧ (¬ w = nI c → p_X9_walk_2 fu n (nI (b + 1)) a (wi s (a + 3) b w) l)) := by
    intro w h
    refine ⟨fun e => ⟨e7, ?_⟩, fun e => ?_⟩
    · rwa [if_pos e] at h
    · rwa [if_neg e] at h
  unfold p_X9_walk_2 f_X9_walk_2
  simp only [hnp, e8, hG, hA, e1, e2, e3, e4, wi_s, nI_1]
  rw [if_neg e5, if_neg e6]
  by_cases h0 : c % 10 = u
  · have ec : f_J6_compare_7cf53 fu (nI (c % 10)) (nI u) = 0 := by rw [cmp_n (by omega) (by omega), if_neg (by omega), if_pos h0]
    rw [if_pos ec]
    have hval : nI (10 * v + u) + 10 * f_J6_compare_7cf53 fu (nI (c / 10)) (nI v) = nI (10 * wky c u v + wkx c u) := by
      rw [cmp_n (by omega) (by omega)]
      unfold wky wkx
      rw [if_pos h0, if_neg (by omega), if_neg (by omega)]
      by_cases h1 : c / 10 < v
      · rw [if_pos h1, if_pos h1, show (10 : Int32) * -1 = -nI 10 from by decide, ni_m (by omega)]; congr 1; omega
      · by_cases h2 : v < c / 10
        · rw [if_neg h1, if_neg (by omega), if_neg h1, if_pos h2, show (10 : Int32) * 1 = nI 10 from by decide, nI_add]; congr 1; omega
        · rw [if_neg h1, if_pos (by omega), if_neg h1, if_neg h2, show (10 : Int32) * 0 = nI 0 from by decide, nI_add]; congr 1
    refine ⟨_, fin _ hval, ?_, (post _ hval).1, (post _ hval).2.1, (post _ hval).2.2⟩
    intro hp
    exact ⟨fun h => absurd h e5, fun _ => ⟨e7, e7, fun h => absurd h e6, fun _ => ⟨p_cmp _ _, p_cmp _ _, fun _ => ⟨e7, e7, pp _ hp⟩, fun h => absurd ec h⟩⟩⟩
  · have ec : ¬ f_J6_compare_7cf53 fu (nI (c % 10)) (nI u) = 0 := by
      rw [cmp_n (by omega) (by omega), if_neg h0]
      by_cases h1 : c % 10 < u
      · rw [if_pos h1]; decide
      · rw [if_neg h1]; decide
    rw [if_neg ec]
    have hval : nI (10 * v + u) + f_J6_compare_7cf53 fu (nI (c % 10)) (nI u) = nI (10 * wky c u v + wkx c u) := by
      rw [cmp_n (by omega) (by omega)]
      unfold wky wkx
      rw [if_neg h0, if_neg h0]
      by_cases h1 : c % 10 < u
      · rw [if_pos h1, if_pos h1, show (-1 : Int32) = -nI 1 from by decide, ni_m (by omega)]; congr 1; omega
      · rw [if_neg h1, if_neg h1, if_pos (by omega), show (1 : Int32) = nI 1 from rfl, nI_add]; congr 1; omega
    refine ⟨_, fin _ hval, ?_, (post _ hval).1, (post _ hval).2.1, (post _ hval).2.2⟩
    intro hp
    exact ⟨fun h => absurd h e5, fun _ => ⟨e7, e7, fun h => absurd h e6, fun _ => ⟨p_cmp _ _, p_cmp _ _, fun h => absurd h ec, fun _ => ⟨e7, e7, pp _ hp⟩⟩⟩⟩
