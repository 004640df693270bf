/-! The class begins; both begin to read -/
def L0 : Lt := (0, fun _ => [], fun _ => 0, fun _ => 0)
def W0 : Wt := (0, fun _ => [])
def K0 : Kt := (0, fun _ => [], fun _ => 0, fun _ => 0, fun _ => 0)
def N0 : Nt := (nI 1, nI 0, 0, 0)
def Q0 : Qt := (fun _ => [], fun k => [min k 1])
/-- the side that was live is as it was, while a text is read -/
def rG2 (sd : Nat) (s : fl_I) (l : fl_L) (s' : fl_I) (l' : fl_L) : Prop := (∀ q j, q ≠ 60 → (q < 62 ∨ 65 < q) → q ≠ 91 → (j < sw q * sd ∨ sw q * sd + sw q ≤ j) → s' q j = s q j) ∧ (∀ j, 16 < j → j ≠ 19 → j ≠ 36 → j ≠ 42 → j ≠ 46 → s' 60 j = s 60 j) ∧ ∀ q j, q ≠ 66 → (j < slw q * sd ∨ slw q * sd + slw q ≤ j) → l' q j = l q j
section beg3
variable {B : Nat → Nat} {a b c e i j k m n p q t z f sd y hi o r P np nl lx ly lf lv : Nat} {s s1 s2 s3 : fl_I} {l l1 l2 l3 : fl_L} {fu : Nat} {w : List Nat} {L : Lt} {W : Wt} {K : Kt} {N : Nt} {Q : Qt} {x : Int32} {fc pc ht : Nat → Nat}
theorem rG2_tr (h : rG2 sd s l s1 l1) (g : rG2 sd s1 l1 s2 l2) : rG2 sd s l s2 l2 := ⟨fun q j a b c d => (g.1 q j a b c d).trans (h.1 q j a b c d), fun j a b c d e => (g.2.1 j a b c d e).trans (h.2.1 j a b c d e), fun q j a b => (g.2.2 q j a b).trans (h.2.2 q j a b)⟩
theorem rG2_F (h : rGF sd s l s1 l1) : rG2 sd s l s1 l1 := ⟨fun q j a _ c d => h.1 q j a c d, fun j a b c d e => h.2.1 j (by omega) (by omega) (by omega) (by omega) (by omega) (by omega) c d e, fun q j _ b => h.2.2 q j b⟩
theorem nar_255 : vp_nar .byte x &&& nI 255 = x &&& nI 255 := by
  show x.toInt8.toInt32 &&& nI 255 = x &&& nI 255
  rw [pk_and _ 8 (by decide), pk_and _ 8 (by decide)]
  have : (x.toInt8.toInt32).toBitVec.toNat % 2 ^ 8 = x.toBitVec.toNat % 2 ^ 8 := by
    show ((x.toBitVec.signExtend 8).signExtend 32).toNat % 2 ^ 8 = x.toBitVec.toNat % 2 ^ 8
    have e1 : (((x.toBitVec.signExtend 8).signExtend 32).setWidth 8) = x.toBitVec.setWidth 8 := by
      ext i hi
      rw [BitVec.getElem_setWidth, BitVec.getElem_setWidth, BitVec.getLsbD_signExtend, BitVec.getLsbD_signExtend]
      rw [if_pos hi, if_pos (show i < 32 by omega), decide_eq_true (show i < 32 by omega), decide_eq_true hi, Bool.true_and, Bool.true_and]
    have := congrArg BitVec.toNat e1
    rw [BitVec.toNat_setWidth, BitVec.toNat_setWidth] at this
    exact this
  rw [this]
theorem TJ0 : TJ 0 L0 W0 K0 N0 Q0 := by
  refine ⟨⟨Nat.zero_le _, fun i hi => absurd hi (Nat.not_lt_zero i), fun _ i hi => absurd hi (Nat.not_lt_zero i)⟩, ⟨Nat.zero_le _, fun i hi => absurd hi (Nat.not_lt_zero i)⟩, ⟨Nat.zero_le _, fun i hi => absurd hi (Nat.not_lt_zero i), fun _ i hi => absurd hi (Nat.not_lt_zero i)⟩, ⟨Nat.zero_le _, Nat.zero_le _, fun _ => Nat.zero_le _⟩, fun k hk => ⟨fun h => ?_, Nat.zero_le _⟩⟩
  exact .inl ⟨.inl (by show min k 1 < 20000; omega), by omega, rfl⟩
theorem c_clear (ht : t = 9 ∨ t = 20) : ∃ s', f_X5_clear fu t s l = (s', l) ∧ p_X5_clear fu t s l ∧ (s' t 0 = nI 0 ∧ s' t 1 = nI 0 ∧ s' t 2 = nI 0 ∧ s' t 3 = nI 0 ∧ s' t 14 = nI 4) ∧ (s' t 15 = nI 1 ∧ s' t 16 = nI 0 ∧ s' t 17 = nI 0 ∧ s' t 18 = nI 0) ∧ (s' (t + 9) 0 = nI 0 ∧ s' (t + 9) 1 = -nI 6 ∧ s' (t + 9) 2 = nI 1 ∧ s' (t + 9) 3 = -nI 6) ∧ (s' (t + 10) 0 = nI 0 ∧ s' (t + 10) 1 = nI 2 ∧ s' (t + 10) 2 = nI 2) ∧ ∀ q, q ≠ t → q ≠ t + 9 → q ≠ t + 10 → s' q = s q := by
  have A : ∀ (x : Int32) (m : Nat) (s : fl_I), s t 14 = nI m → m < 408 → f_X5_addCode fu x t s l = (wi (wi s (t + 9) m x) t 14 (nI (m + 1)), l) := by
    intro x m s h hm
    unfold f_X5_addCode
    simp (disch := omega) only [ln_, ltF, leF, nI_clamp, nI_add, ar_t, ar_f, it_t, it_f, true_and, and_true, not_true_eq_false, not_false_eq_true, implies_true, and_self, eq_self, wi_c, wi_u, upd_s, upd_n, su_r, su_c, h]
  have pA := fun x s => eq_true (p_addC (fu := fu) (x := x) (t := t) (s := s) (l := l))
  unfold f_X5_clear p_X5_clear f_X5_clear_60 p_X5_clear_60 f_X5_clear_66 p_X5_clear_66 f_X5_clear_91 p_X5_clear_91 f_X5_clear_97 p_X5_clear_97
  simp (disch := omega) only [ln_, nI_clamp, wi_c, wi_u, upd_s, upd_n, su_r, su_c]
  rw [A (nI 0) 0 _ (by simp (disch := omega) only [wi_c, wi_u, upd_s, upd_n, su_r, su_c]) (by omega)]
  dsimp only
  rw [A (-nI 6) 1 _ (by simp (disch := omega) only [wi_c, wi_u, upd_s, upd_n, su_r, su_c]) (by omega)]
  dsimp only
  simp (disch := omega) only [wi_c, wi_u, upd_s, upd_n, su_r, su_c]
  rw [A (nI 1) 2 _ (by simp (disch := omega) only [wi_c, wi_u, upd_s, upd_n, su_r, su_c]) (by omega)]
  dsimp only
  rw [A (-nI 6) 3 _ (by simp (disch := omega) only [wi_c, wi_u, upd_s, upd_n, su_r, su_c]) (by omega)]
  refine ⟨_, rfl, ?_, ⟨?_, ?_, ?_, ?_, ?_⟩, ⟨?_, ?_, ?_, ?_⟩, ⟨?_, ?_, ?_, ?_⟩, ⟨?_, ?_, ?_⟩, fun q a b c => ?_⟩
  · simp (disch := omega) only [pA, vpT, ar_t, ar_f, it_t, it_f, true_and, and_true, not_true_eq_false, not_false_eq_true, implies_true, and_self, eq_self]
  all_goals simp (disch := omega) only [wi_c, wi_u, upd_s, upd_n, su_r, su_c]
theorem c_begin (ht : t = 9 ∨ t = 20) (h3 : s t 3 = nI P) (h2 : s t 2 = nI np) (hP : P ≤ 32) (hn : np ≤ 4) (h6 : ∀ i, i < P → s (t + 6) i = nI (fc i) ∧ fc i < 80) (h7 : ∀ b, b < np → s (t + 7) b = nI (pc b)) : ∃ s', f_X10_begin fu 31 t s l = (s', l) ∧ yC P np (Y0 fc pc) 31 s' ∧ ∀ q, (q < 31 ∨ 36 < q) → s' q = s q := by
  have c0 : ∀ b, cnt fc P b = 0 := fun b => ct_zero (fun i hi => by have := (h6 i hi).2; exact beq_false_of_ne (by omega))
  have n3 : i_min (nI 32) (nI P) = nI P := by rw [i_minN (by omega) (by omega)]; split <;> congr 1 <;> omega
  have n4 : i_min (nI 4) (nI np) = nI np := by rw [i_minN (by omega) (by omega)]; split <;> congr 1 <;> omega
  refine ⟨_, rfl, ?_, fun q hq => ?_⟩
  · show YC P np (Y0 fc pc) _ _ _ _ _ _
    simp (disch := omega) only [ln_, fl_fill, nI_clamp, wc_c, wc_u, wi_c, wi_u, upd_s, upd_n, su_r, su_c, h3, h2, n3, n4]
    refine ⟨rfl, rfl, rfl, fun i hi => ⟨?_, ?_⟩, fun b hb => ⟨?_, ?_, ?_⟩⟩
    · rw [cpy_in (by omega)]; exact (h6 i hi).1
    · show (if i < 32 then _ else _) = _
      rw [if_pos (by omega)]; rfl
    · rw [cpy_in (by omega)]; exact h7 b hb
    · show (if b < 4 then _ else _) = _
      rw [if_pos (by omega)]; rfl
    · show (if b < 4 then _ else _) = _
      rw [if_pos (by omega)]
      show nI 0 = nI (cnt fc P b)
      rw [c0 b]
  · simp (disch := omega) only [ln_, fl_fill, nI_clamp, wc_c, wi_c, wi_u, upd_s, upd_n, su_r, su_c]
/-- the class stands before the first token -/
theorem c_fill0 (hfu : 20000 ≤ fu) (ht : t = 9 ∨ t = 20) (cb : CB B n s) (hq : ∀ k, k < 21 → l 8 k = lN (p5 (kw k))) : ∃ s1 l1, f_X3_fill fu t s l = f_X3_fill_32 fu fu (nI 1) (nI 0) t s1 l1 ∧ (p_X3_fill_32 fu fu (nI 1) (nI 0) t s1 l1 → p_X3_fill fu t s l) ∧ CJ B n t 0 4 0 0 L0 W0 K0 N0 Q0 s1 l1 := by
  obtain ⟨s2, f1, p1, ⟨a0, a1, a2, a3, a14⟩, ⟨a15, a16, a17, a18⟩, ⟨b0, b1, b2, b3⟩, ⟨c0, c1, c2⟩, fr⟩ := c_clear (fu := fu) (s := s) (l := l) ht
  have k : ∀ q, q ≠ 3 → wi (wi (wi s2 3 2 (nI 0)) 3 3 (nI 0)) 3 4 (nI 0) q = s2 q := fun q hq => by simp (disch := omega) only [wi_c]
  have cb3 : CB B n (wi (wi (wi s2 3 2 (nI 0)) 3 3 (nI 0)) 3 4 (nI 0)) := CB_keep (by rw [k 1 (by omega), fr 1 (by omega) (by omega) (by omega)]) (by rw [k 2 (by omega), fr 2 (by omega) (by omega) (by omega)]) cb
  obtain ⟨s3, l3, f2, p2, cf, ⟨fr1, fr2, fr3⟩⟩ := c_split (fu := fu) (l := l) hfu cb3 hq
  have g3 : ∀ q, q ≠ 3 → q ≠ 4 → q ≠ 5 → q ≠ 6 → s3 q = s2 q := fun q a b c d => by rw [fr1 q b c d, k q a]
  refine ⟨s3, l3, ?_, fun h => ?_, ⟨⟨⟨fun i hi => (cb.2.2 i hi).2, fun k hk => cf k hk.1 hk.2⟩, ⟨Nat.zero_le _, fun i hi => absurd hi (Nat.not_lt_zero i)⟩, ?_, ?_, by rw [g3 t (by omega) (by omega) (by omega) (by omega)]; exact a14⟩, ⟨?_, fun h => absurd rfl h⟩, Nat.zero_le _⟩, Nat.le_refl _, ⟨by rw [g3 t (by omega) (by omega) (by omega) (by omega)]; exact a0, by rw [g3 t (by omega) (by omega) (by omega) (by omega)]; exact a3, fun i hi => absurd hi (Nat.not_lt_zero i), fun i hi => absurd hi (Nat.not_lt_zero i)⟩, ⟨by rw [g3 t (by omega) (by omega) (by omega) (by omega)]; exact a1, fun i hi => absurd hi (Nat.not_lt_zero i)⟩, ⟨by rw [g3 t (by omega) (by omega) (by omega) (by omega)]; exact a2, fun i hi => absurd hi (Nat.not_lt_zero i), fun i hi => absurd hi (Nat.not_lt_zero i)⟩, ⟨by rw [g3 t (by omega) (by omega) (by omega) (by omega)]; exact a15, by rw [g3 t (by omega) (by omega) (by omega) (by omega)]; exact a16, by rw [g3 t (by omega) (by omega) (by omega) (by omega)]; exact a17, by rw [g3 t (by omega) (by omega) (by omega) (by omega)]; exact a18⟩, fun k hk => ?_⟩
  · unfold f_X3_fill
    simp (disch := omega) only [ln_, f1, f2]
  · unfold p_X3_fill
    simp (disch := omega) only [ln_, ar_t, ar_f, it_t, it_f, true_and, and_true, not_true_eq_false, not_false_eq_true, implies_true, and_self, eq_self, f1, f2, p1, p2]; exact h
  · rw [fr1 3 (by omega) (by omega) (by omega)]; simp (disch := omega) only [wi_c, wi_u, upd_s, upd_n, su_r, su_c]
  · rw [fr1 3 (by omega) (by omega) (by omega)]; simp (disch := omega) only [wi_c, wi_u, upd_s, upd_n, su_r, su_c]
  · rw [fr1 3 (by omega) (by omega) (by omega)]; simp (disch := omega) only [wi_c, wi_u, upd_s, upd_n, su_r, su_c]
  · rw [g3 (t + 9) (by omega) (by omega) (by omega) (by omega), g3 (t + 10) (by omega) (by omega) (by omega) (by omega)]
    have : k = 0 ∨ k = 1 ∨ k = 2 := by omega
    have cd : ∀ p x, s2 (t + 9) p = nI x → x < 20000 → cds (s2 (t + 9)) p [x] := fun p x h hx i hi => by
      have : i = 0 := by rw [List.length_singleton] at hi; omega
      subst this
      show s2 (t + 9) p = cI x
      unfold cI; rw [if_pos hx]; exact h
    rcases this with rfl | rfl | rfl
    · exact ⟨0, 2, c0, ⟨cd 0 0 b0 (by omega), b1, rfl⟩, by omega⟩
    · exact ⟨2, 4, c1, ⟨cd 2 1 b2 (by omega), b3, rfl⟩, by omega⟩
    · exact ⟨2, 4, c2, ⟨cd 2 1 b2 (by omega), b3, rfl⟩, by omega⟩
/-- the reference stands before the first token -/
theorem r_start (hfu : 20000 ≤ fu) (hlv : lv ≤ 1) (h18 : s 60 18 = nI lv) (h2 : s 60 2 = nI n) (hn : n ≤ 2000) (hB : ∀ i, i < n → s 61 i &&& nI 255 = nI (B i) ∧ B i < 256) (hq : ∀ k, k < 21 → l 67 k = lN (p27 (kw k).reverse)) : ∃ s1 l1, f_X12_read fu s l = f_X12_read_107 fu fu s1 l1 ∧ (p_X12_read_107 fu fu s1 l1 → p_X12_read fu s l) ∧ RJ B n (1 - lv) 0 (420 * (1 - lv)) (130 * (1 - lv)) 0 0 L0 W0 K0 N0 Q0 s1 l1 ∧ s1 60 2 = nI 0 ∧ rG2 (1 - lv) s l s1 l1 := by
  have e1 : nI 1 - nI lv = nI (1 - lv) := pk_sub (by omega)
  have key := loop_i (fun f i s0 => ∃ s1 l1, f_X12_read_10 fu f (nI i) s0 l = f_X12_read_107 fu fu s1 l1 ∧ (p_X12_read_107 fu fu s1 l1 → p_X12_read_10 fu f (nI i) s0 l) ∧ RJ B n (1 - lv) 0 (420 * (1 - lv)) (130 * (1 - lv)) 0 0 L0 W0 K0 N0 Q0 s1 l1 ∧ s1 60 2 = nI 0 ∧ rG2 (1 - lv) s l s1 l1)
    (fun i s0 => (∀ j, j < i → s0 62 j &&& nI 255 = nI (B j)) ∧ s0 60 4 = nI n ∧ (∀ j, j ≠ 4 → s0 60 j = s 60 j) ∧ ∀ q, q ≠ 60 → q ≠ 62 → s0 q = s q) n ?_ ?_ fu 0 (wi s 60 4 (nI n)) (Nat.zero_le _) (by omega) ⟨fun j hj => absurd hj (Nat.not_lt_zero j), by rw [wi_u, upd_s], fun j hj => by rw [wi_u, upd_n hj], fun q a _ => wi_c a⟩
  · obtain ⟨s1, l1, g1, g2, g3⟩ := key
    refine ⟨s1, l1, ?_, fun h => ?_, g3⟩
    · unfold f_X12_read; rw [h2]; exact g1
    · unfold p_X12_read; rw [h2]; exact g2 h
  · intro f s0 ⟨g1, g2, g3, g4⟩
    have rb : RB B n (wi s0 60 2 (nI 0)) := ⟨hn, by simp (disch := omega) only [wi_c, wi_u, upd_s, upd_n, su_r, su_c]; exact g2, fun i hi => ⟨by simp (disch := omega) only [wi_c, wi_u, upd_s, upd_n, su_r, su_c]; exact g1 i hi, (hB i hi).2⟩⟩
    obtain ⟨s1, l1, c1, c2, c3, ⟨c4, c5, c6⟩⟩ := r_cut (fu := fu) (l := l) hfu rb hq
    have k18 : s1 60 18 = nI lv := by rw [c5 18 (by omega)]; simp (disch := omega) only [wi_c, wi_u, upd_s, upd_n, su_r, su_c]; rw [g3 18 (by omega)]; exact h18
    obtain ⟨s3, d1, d2, d3, d4, d5, d6, d7, d8, d9, d10, d11, d12⟩ := r_plain (fu := fu) (sd := 1 - lv) (s := wi (wi (wi (wi (wi s1 60 11 (nI 0)) 60 12 (nI 0)) 60 13 (nI 0)) 60 15 (nI 0)) 60 19 (nI (1 - lv))) (l := l1) hfu (by omega)
    have j19 : s3 60 19 = nI (1 - lv) := by rw [d12]; simp (disch := omega) only [wi_c, wi_u, upd_s, upd_n, su_r, su_c]
    have m130 : nI 130 * nI (1 - lv) = nI (130 * (1 - lv)) := by rw [pk_mul]
    have m420 : nI 420 * nI (1 - lv) = nI (420 * (1 - lv)) := by rw [pk_mul]
    have fin : ∀ q, q ≠ 60 → (wi (wi s3 60 36 (nI (130 * (1 - lv)))) 60 42 (nI (420 * (1 - lv)))) q = s3 q := fun q hq => by rw [wi_c hq, wi_c hq]
    have w60 : ∀ j, j ≠ 11 → j ≠ 12 → j ≠ 13 → j ≠ 15 → j ≠ 19 → s3 60 j = s1 60 j := fun j a b c d e => by rw [d12]; simp (disch := omega) only [wi_c, wi_u, upd_s, upd_n, su_r, su_c]
    have o63 : ∀ q, sw q = 0 → q ≠ 60 → q ≠ 91 → s3 q = s1 q := fun q h a b => funext fun j => by
      rw [d11.1 q j a b (by rw [h]; omega)]; simp (disch := omega) only [wi_c]
    have l66 : l1 66 = l1 66 := rfl
    refine ⟨wi (wi s3 60 36 (nI (130 * (1 - lv)))) 60 42 (nI (420 * (1 - lv))), l1, ?_, fun h => ?_, ⟨⟨⟨⟨⟨fun i hi => (hB i hi).2, fun k hk => ?_⟩, ⟨Nat.zero_le _, fun i hi => absurd hi (Nat.not_lt_zero i)⟩, ?_, ?_⟩, ?_, ?_, ?_, ?_⟩, ⟨?_, fun h => absurd rfl h⟩, Nat.zero_le _, fun h => absurd rfl h, hn⟩, ⟨?_, fun i hi => absurd hi (Nat.not_lt_zero i)⟩, ⟨?_, fun i hi => absurd hi (Nat.not_lt_zero i)⟩, ⟨?_, fun i hi => absurd hi (Nat.not_lt_zero i)⟩, ⟨?_, ?_, ?_, ?_⟩, fun k hk => .inl ⟨?_, ?_, rfl, rfl⟩, Nat.le_refl _, Nat.le_refl _, Nat.le_refl _, by omega⟩, ?_, ?_⟩
    · unfold f_X12_read_10 f_X12_read_45 f_X12_read_83
      simp (disch := omega) only [ln_, leT, ar_t, ar_f, it_t, it_f, true_and, and_true, not_true_eq_false, not_false_eq_true, implies_true, and_self, eq_self, g2, c1, wi_c, wi_u, upd_s, upd_n, su_r, su_c, k18, e1, d1, j19, m130, m420]
    · unfold p_X12_read_10 p_X12_read_45 p_X12_read_83
      simp (disch := omega) only [ln_, leT, ar_t, ar_f, it_t, it_f, true_and, and_true, not_true_eq_false, not_false_eq_true, implies_true, and_self, eq_self, g2, c1, c2, wi_c, wi_u, upd_s, upd_n, su_r, su_c, k18, e1, d1, d2, j19, m130, m420]
      exact h
    · have := c3 k hk.1 (fun j hj => by have := hk.2 j hj; omega)
      unfold RF at this ⊢
      rw [fin 63 (by omega), fin 64 (by omega), fin 65 (by omega), o63 63 rfl (by omega) (by omega), o63 64 rfl (by omega) (by omega), o63 65 rfl (by omega) (by omega)]; exact this
    · simp (disch := omega) only [wi_c, wi_u, upd_s, upd_n, su_r, su_c]; rw [d12]; simp (disch := omega) only [wi_c, wi_u, upd_s, upd_n, su_r, su_c]
    · simp (disch := omega) only [wi_c, wi_u, upd_s, upd_n, su_r, su_c]; rw [d12]; simp (disch := omega) only [wi_c, wi_u, upd_s, upd_n, su_r, su_c]
    · simp (disch := omega) only [wi_c, wi_u, upd_s, upd_n, su_r, su_c]
    · simp (disch := omega) only [wi_c, wi_u, upd_s, upd_n, su_r, su_c]; rw [d12]; simp (disch := omega) only [wi_c, wi_u, upd_s, upd_n, su_r, su_c]
    · simp (disch := omega) only [wi_c, wi_u, upd_s, upd_n, su_r, su_c]
    · simp (disch := omega) only [wi_c, wi_u, upd_s, upd_n, su_r, su_c]; exact j19
    · simp (disch := omega) only [wi_c, wi_u, upd_s, upd_n, su_r, su_c]; rw [d12]; simp (disch := omega) only [wi_c, wi_u, upd_s, upd_n, su_r, su_c]
    · rw [fin 68 (by omega)]; exact d3
    · rw [fin 72 (by omega)]; exact d4
    · rw [fin 74 (by omega)]; exact d5
    · rw [fin 79 (by omega)]; exact d6
    · rw [fin 79 (by omega)]; exact d7
    · rw [fin 80 (by omega)]; exact d8
    · rw [fin 81 (by omega)]; exact d9
    · rw [fin 82 (by omega)]; exact (d10 k hk).1
    · rw [fin 83 (by omega)]; exact (d10 k hk).2
    · simp (disch := omega) only [wi_c, wi_u, upd_s, upd_n, su_r, su_c]; rw [w60 2 (by omega) (by omega) (by omega) (by omega) (by omega), c5 2 (by omega)]; simp (disch := omega) only [wi_c, wi_u, upd_s, upd_n, su_r, su_c]
    · refine ⟨fun q j a b c d => ?_, fun j a b c d e => ?_, fun q j a b => ?_⟩
      · rw [fin q a, d11.1 q j a c d]
        simp (disch := omega) only [wi_c]
        rw [c4 q (by omega) (by omega) (by omega) (by omega), wi_c a, g4 q (by omega) (by omega)]
      · simp (disch := omega) only [wi_c, wi_u, upd_s, upd_n, su_r, su_c]
        rw [w60 j (by omega) (by omega) (by omega) (by omega) (by omega), c5 j (by omega)]
        simp (disch := omega) only [wi_c, wi_u, upd_s, upd_n, su_r, su_c]
        exact g3 j (by omega)
      · rw [c6 q a]
  · intro f i s0 hi ⟨g1, g2, g3, g4⟩ ih
    have k61 : s0 61 i = s 61 i := by rw [g4 61 (by omega) (by omega)]
    unfold f_X12_read_10 p_X12_read_10
    simp (disch := omega) only [ln_, nI_clamp, leF, vpT, nI_add, ar_t, ar_f, it_t, it_f, true_and, and_true, not_true_eq_false, not_false_eq_true, implies_true, and_self, eq_self, g2]
    refine ih _ ⟨fun j hj => ?_, by rw [wi_c (by omega)]; exact g2, fun j hj => by rw [wi_c (by omega)]; exact g3 j hj, fun q a b => by rw [wi_c b]; exact g4 q a b⟩
    rw [wi_u]
    by_cases e : j = i
    · rw [e, upd_s, nar_255, k61]; exact (hB i hi).1
    · rw [upd_n e]; exact g1 j (by omega)
end beg3
