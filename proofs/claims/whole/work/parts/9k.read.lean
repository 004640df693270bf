/-! read, by both: the end of it -/
section rea3
variable {fu t lv P np nl nw : Nat} {ht sg lo : Nat → Nat} {wd : Nat → List Nat} {wx wy rn sd : Int32} {LW : Lw} {Y : Yd} {s s1 s2 : fl_I} {l : fl_L} {D : fl_D} {u hm nt nb : Nat} {hs hy : Nat → Yd} {tl : Nat → Nat} {th : Nat → Bool} {D1 : fl_D} {B : Nat → Nat} {a b c e i j k m n p q z f o r nn br M ts sx lj : Nat} {L : Lt} {W : Wt} {K : Kt} {N : Nt} {Q : Qt} {v : Int32} {l1 l2 : fl_L}
theorem sw_out (h : q < 68 ∨ 90 < q) : j < sw q * sx ∨ sw q * sx + sw q ≤ j := by rw [sw_a h]; omega
theorem slw_out (h1 : q ≠ 69) (h2 : q ≠ 73) (h3 : q ≠ 75) : j < slw q * sx ∨ slw q * sx + slw q ≤ j := by
  have : slw q = 0 := by unfold slw; rw [if_neg (by omega), if_neg (by omega)]
  rw [this]; omega
/-- the live side lies outside the other -/
theorem rG3_RV (hlv : lv ≤ 1) (h : ∀ q j, 65 < q → q ≠ 91 → (j < sw q * (1 - lv) ∨ sw q * (1 - lv) + sw q ≤ j) → s1 q j = s q j) (h18 : s1 60 18 = s 60 18) (h54 : s1 60 54 = s 60 54) (h73 : ∀ j, (j < 8 * (1 - lv) ∨ 8 * (1 - lv) + 8 ≤ j) → l1 73 j = l 73 j) (r : RV fu lv P np nl nw ht sg lo wd wx wy rn sd LW Y s l) : RV fu lv P np nl nw ht sg lo wd wx wy rn sd LW Y s1 l1 := by
  obtain ⟨⟨a1, a2, a3, a4, a5, a6, a7, a8, a9, a10⟩, ⟨x1, x2, x3, x4⟩, lr, r4, r5, r6, r7⟩ := r
  have np4 := r6.2.1
  have nw8 := r7.2.2.2.1
  have sel : ∀ q j, (68 ≤ q ∧ q ≤ 90) → sw q * lv ≤ j → j < sw q * lv + sw q → s1 q j = s q j := fun q j hq h1 h2 => by
    refine h q j (by omega) (by omega) ?_
    have : lv = 0 ∨ lv = 1 := by omega
    rcases this with rfl | rfl
    · left; show j < sw q * 1; omega
    · right; show sw q * 0 + sw q ≤ j; omega
  have oq : ∀ q, 90 < q → q ≠ 91 → s1 q = s q := fun q a c => funext fun j => h q j (by omega) c (sw_out (by omega))
  refine ⟨⟨a1, by rw [h18]; exact a2, by rw [h54]; exact a3, ?_, fun b hb => ?_, by rw [oq 96 (by omega) (by omega)]; exact a6, ?_, ?_, ?_, ?_⟩, ⟨?_, ?_, by rw [oq 97 (by omega) (by omega)]; exact x3, fun w hw => ?_⟩, ?_, r4, by rw [oq 94 (by omega) (by omega)]; exact r5, r6, r7⟩
  · rw [sel 74 lv (by omega) (by show 1 * lv ≤ lv; omega) (by show lv < 1 * lv + 1; omega)]; exact a4
  · rw [sel 78 (4 * lv + b) (by omega) (by show 4 * lv ≤ _; omega) (by show _ < 4 * lv + 4; omega)]; exact a5 b hb
  · rw [sel 79 (2 * lv) (by omega) (by show 2 * lv ≤ _; omega) (by show _ < 2 * lv + 2; omega)]; exact a7
  · rw [sel 79 (2 * lv + 1) (by omega) (by show 2 * lv ≤ _; omega) (by show _ < 2 * lv + 2; omega)]; exact a8
  · rw [sel 80 lv (by omega) (by show 1 * lv ≤ lv; omega) (by show lv < 1 * lv + 1; omega)]; exact a9
  · rw [sel 81 lv (by omega) (by show 1 * lv ≤ lv; omega) (by show lv < 1 * lv + 1; omega)]; exact a10
  · rw [sel 68 lv (by omega) (by show 1 * lv ≤ lv; omega) (by show lv < 1 * lv + 1; omega)]; exact x1
  · rw [sel 72 lv (by omega) (by show 1 * lv ≤ lv; omega) (by show lv < 1 * lv + 1; omega)]; exact x2
  · rw [h73 (8 * lv + w) (by
      have : lv = 0 ∨ lv = 1 := by omega
      rcases this with rfl | rfl
      · left; show 8 * 0 + w < 8 * 1; omega
      · right; show 8 * 0 + 8 ≤ 8 * 1 + w; omega)]
    exact x4 w hw
  · refine LR_side lr (fun q h1 h2 lv' j e hl hin => ?_) h18
    have : lv' = lv := (nI_eq (by omega) (by omega)).mp (e.symm.trans a2)
    subst this
    refine sel q j (by omega) ?_ ?_
    · rcases hin with ⟨g1, g2, g3⟩ | ⟨g1, g2, g3, g4⟩ | ⟨g1, g2, g3⟩
      · have : sw q = 3 := by have : q = 82 ∨ q = 83 := by omega
                              rcases this with rfl | rfl <;> rfl
        rw [this]; exact g2
      · have : sw q = 130 := by unfold sw; rw [if_neg (by omega), if_neg (by omega), if_neg (by omega), if_neg (by omega), if_pos (by omega)]
        rw [this]; exact g3
      · have : sw q = 420 := by have : q = 89 ∨ q = 90 := by omega
                                rcases this with rfl | rfl <;> rfl
        rw [this]; exact g2
    · rcases hin with ⟨g1, g2, g3⟩ | ⟨g1, g2, g3, g4⟩ | ⟨g1, g2, g3⟩
      · have : sw q = 3 := by have : q = 82 ∨ q = 83 := by omega
                              rcases this with rfl | rfl <;> rfl
        rw [this]; exact g3
      · have : sw q = 130 := by unfold sw; rw [if_neg (by omega), if_neg (by omega), if_neg (by omega), if_neg (by omega), if_pos (by omega)]
        rw [this]; exact g4
      · have : sw q = 420 := by have : q = 89 ∨ q = 90 := by omega
                                rcases this with rfl | rfl <;> rfl
        rw [this]; exact g3
theorem s_readB (hfu : 20000 ≤ fu) (hD : (if D.2.2.1 then 20 else 9) = t) (cv : CV fu t P np nl nw ht sg lo wd wx wy rn sd LW Y s l) (rv : RV fu lv P np nl nw ht sg lo wd wx wy rn sd LW Y s l) (mi : MI D P np ht u hs hm hy nt tl th nb s l) : Both fu (f_read fu D s l) (p_X3_fill fu (if D.2.2.1 then 9 else 20) s l) (f_X12_read fu) (p_X12_read fu) := by
  have hts : ∃ ts, (if D.2.2.1 then 9 else 20) = ts ∧ (ts = 9 ∧ t = 20 ∨ ts = 20 ∧ t = 9) ∧ (if (D_f D).2.2.1 then 20 else 9) = ts := by
    have e : (D_f D).2.2.1 = !D.2.2.1 := rfl
    rw [e]
    cases h : D.2.2.1 <;> rw [h] at hD
    · exact ⟨20, rfl, .inr ⟨rfl, hD.symm⟩, rfl⟩
    · exact ⟨9, rfl, .inl ⟨rfl, hD.symm⟩, rfl⟩
  obtain ⟨ts, e1, e2, e3⟩ := hts
  have htt : ts = 9 ∨ ts = 20 := by omega
  obtain ⟨n2, t1, t2, t3⟩ := mi.2.2.2.2.1
  have ky := mi.2.2.2.2.2.2
  have hlv := rv.1.1
  have h18 := rv.1.2.1
  have cb := CB_of n2 t1
  have fA := fun q (h : 60 ≤ q) => read_60 (fu := fu) (D := D) (s := s) (l := l) h
  obtain ⟨s1, l1, F1, P1, cj⟩ := c_fill0 (fu := fu) hfu htt cb (fun k hk => (ky k hk).1)
  obtain ⟨sR, lR, R1, R2, rj, k2, rg⟩ := r_start (fu := fu) (s := (f_read fu D s l).2.2.1) (l := (f_read fu D s l).2.2.2) (n := nb) hfu hlv (by rw [(fA 60 (by omega)).1]; exact h18) (by rw [(fA 60 (by omega)).1]; exact t2) n2 (fun i hi => by rw [(fA 61 (by omega)).1, t3 i hi]; exact cb.2.2 i hi) (fun k hk => by rw [(fA 67 (by omega)).2]; exact (ky k hk).2)
  obtain ⟨pF, v, sC', lC', sR', lR', j2, j3, j4, j5, fin⟩ := tl_all hfu htt (by omega) 401 0 0 fu fu 4 0 0 _ _ L0 W0 K0 N0 Q0 s1 l1 sR lR (by omega) (Nat.zero_le _) (by omega) (by omega) cj rj TJ0
  have FF : f_X3_fill fu ts s l = (v, sC', lC') := F1.trans j2
  have frS : ∀ q, (q < 3 ∨ 6 < q) → (q < ts ∨ ts + 10 < q) → sC' q = s q := fun q a b => by
    have := fill_s (fu := fu) (s := s) (l := l) (q := q) htt a b
    rw [FF] at this; exact this
  have frL : ∀ q, q ≠ 3 → q ≠ 7 → (q < ts + 1 ∨ ts + 3 < q) → lC' q = l q := fun q a b c => by
    have := fill_l (fu := fu) (s := s) (l := l) (q := q) htt a b c
    rw [FF] at this; exact this
  have rg' : rG2 (1 - lv) (f_read fu D s l).2.2.1 (f_read fu D s l).2.2.2 sR' lR' := rG2_tr rg (rG2_F j5)
  -- what the class has, behind the reference's reading
  have oq : ∀ q, (q < 62 ∨ 90 < q) → q ≠ 60 → q ≠ 91 → sR' q = (f_read fu D s l).2.2.1 q := fun q a b c => funext fun j => rg'.1 q j b (by omega) c (sw_out (by omega))
  have ol : ∀ q, q ≠ 66 → q ≠ 69 → q ≠ 73 → q ≠ 75 → lR' q = (f_read fu D s l).2.2.2 q := fun q a b c d => funext fun j => rg'.2.2 q j a (slw_out b c d)
  have k2' : sR' 60 2 = nI 0 := by rw [j5.2.1 2 (by omega) (by omega) (by omega) (by omega) (by omega) (by omega) (by omega) (by omega) (by omega)]; exact k2
  obtain ⟨hd, ⟨c1, c2, c3⟩, ⟨m1, m2, m3⟩, ⟨u1, u2, u3⟩, _, pl, _⟩ := mi
  rcases fin with ⟨rfl, k, m, lj, M, br, L, W, K, N, Q, C, R, T⟩ | ⟨e, a, he, he9, rfl, h30, hb⟩
  · have eA : f_read fu D s l = (nI 0, D_f D, r_46 fu (D_f D) (wi (wi sC' 1 1 (nI 0)) 0 14 (-nI 1)) lC') := by
      unfold f_read
      rw [e1, FF]
      exact if_pos rfl
    have C' := C
    obtain ⟨_, _, cL, cW, cK, cN, cQ⟩ := C'
    have o8 := off_le (L := L) (j := L.1) (fun i hi => (T.1.2.1 i hi).1)
    have l4 := T.1.1
    have fs2 : ∀ q, q ≠ 0 → q ≠ 1 → (wi (wi sC' 1 1 (nI 0)) 0 14 (-nI 1)) q = sC' q := fun q a b => by rw [wi_c a, wi_c b]
    obtain ⟨sB, b1, b2, b3⟩ := c_begin (fu := fu) (l := lC') (s := wi (wi sC' 1 1 (nI 0)) 0 14 (-nI 1)) (P := off L.2.1 L.1) (np := K.1) (fc := fun i => (sC' (ts + 6) i).toNatClampNeg) (pc := fun b => 10 * K.2.2.2.1 b + K.2.2.1 b) htt (by rw [fs2 ts (by omega) (by omega)]; exact cL.2.1) (by rw [fs2 ts (by omega) (by omega)]; exact cK.1) (by omega) T.2.2.1.1 (fun i hi => by
      obtain ⟨j, hj, i', hi', rfl⟩ := off_find hi
      have e6 := (cL.2.2.2 j hj i' hi').2.2
      have xy := T.1.2.2 rfl j hj
      rw [fs2 (ts + 6) (by omega) (by omega)]
      rw [e6, nI_clamp (by omega)]
      exact ⟨rfl, by omega⟩) (fun b hb => by rw [fs2 (ts + 7) (by omega) (by omega)]; exact (cK.2.2 b hb).1)
    have eR : r_46 fu (D_f D) (wi (wi sC' 1 1 (nI 0)) 0 14 (-nI 1)) lC' = (wi (wi (wi sB 43 0 (nI 0)) 57 0 (nI 0)) 0 8 (nI 0), lC') := by
      unfold r_46
      rw [e3, b1]; rfl
    rw [eR] at eA
    rw [eA] at oq ol rg' R1 R2
    dsimp only at oq ol rg' R1 R2
    obtain ⟨sZ, z1, z2, ⟨s0, s3, z3, z4, z5, z6, z7⟩, z8, z9, z10, z11, z12, z13, z14⟩ := r_129g (fu := fu) hfu (by omega) R T
    -- cells of the class, at the end
    have ez : ∀ q, (q < 62 ∨ 105 < q) → q ≠ 60 → sZ q = wi (wi (wi sB 43 0 (nI 0)) 57 0 (nI 0)) 0 8 (nI 0) q := fun q a b => by rw [z13 q b (by omega) (by omega) (by omega) (by omega) (by omega), oq q (by omega) b (by omega)]
    have ec : ∀ q, (q < 62 ∨ 105 < q) → q ≠ 60 → q ≠ 43 → q ≠ 57 → q ≠ 0 → q ≠ 1 → (q < 31 ∨ 36 < q) → sZ q = sC' q := fun q a b c d e f g => by rw [ez q a b, wi_c e, wi_c d, wi_c c, b3 q g, fs2 q e f]
    have CVz := read_CV (s1 := sZ) (l1 := lR') hfu htt C T (fun q a b => ec q (by omega) (by omega) (by omega) (by omega) (by omega) (by omega) (by omega)) (fun w => by rw [ol (ts + 2) (by omega) (by omega) (by omega) (by omega)]) (yC_keep (s := sB) (fun k hk => by rw [ez (31 + k) (by omega) (by omega), wi_c (by omega), wi_c (by omega), wi_c (by omega)]) b2)
    have RVz := read_RV (s2 := sZ) hfu (by omega) C R T z9 z3 z4 z5 z6 z7 z13 (YW' := CVz.2.2.2.2.2.1) (TB' := CVz.2.2.2.2.2.2)
    refine ⟨nI 0, D_f D, _, _, sZ, lR', eA, by rw [e1]; exact P1 pF, (R1.trans j3).trans z1, R2 (j4 z2), ts, 1 - lv, off L.2.1 L.1, K.1, L.1, W.1, K.2.2.2.2, _, _, W.2, N.1, N.2.1, nI N.2.2.1, nI N.2.2.2, _, _, 0, fun _ => Y0 (fun _ => 0) (fun _ => 0), 0, fun _ => Y0 (fun _ => 0) (fun _ => 0), 0, fun _ => 0, fun _ => false, 0, e3, CVz, RVz, dI_f hd, ⟨⟨Nat.zero_le _, ?_, ?_⟩, ⟨z10, fun k hk => absurd hk (Nat.not_lt_zero k)⟩, fun k hk => absurd hk (Nat.not_lt_zero k)⟩, ⟨⟨by omega, ?_, fun k _ hb => ?_⟩, fun k hk => ⟨?_, fun hb => ?_⟩, fun k _ hb => ?_⟩, ⟨⟨?_, fun k hk => absurd hk (Nat.not_lt_zero k)⟩, ⟨z11, fun k hk => absurd hk (Nat.not_lt_zero k)⟩, ⟨Nat.zero_le _, fun k hk => absurd hk (Nat.not_lt_zero k)⟩⟩, ⟨Nat.zero_le _, ?_, ?_, fun i hi => absurd hi (Nat.not_lt_zero i)⟩, ?_, fun k hk => ?_⟩
    · rw [ez 43 (by omega) (by omega)]; simp (disch := omega) only [wi_c, wi_u, upd_s, upd_n, su_r, su_c]
    · obtain ⟨_, _, nn, n1, n2, _⟩ := c1
      refine ⟨nn, n1, ?_, fun j hj => absurd hj (Nat.not_lt_zero j)⟩
      rw [ez 43 (by omega) (by omega)]; simp (disch := omega) only [wi_c, wi_u, upd_s, upd_n, su_r, su_c]
      rw [b3 43 (by omega), fs2 43 (by omega) (by omega), frS 43 (by omega) (by omega)]; exact n2
    · rw [ez 0 (by omega) (by omega)]; simp (disch := omega) only [wi_c, wi_u, upd_s, upd_n, su_r, su_c]
    · unfold bt at hb; rw [Nat.zero_div] at hb; exact absurd hb (by omega)
    · rw [z12 k hk]; unfold bt; rw [Nat.zero_div]
    · unfold bt at hb; rw [Nat.zero_div] at hb; exact absurd hb (by omega)
    · unfold bt at hb; rw [Nat.zero_div] at hb; exact absurd hb (by omega)
    · rw [ez 57 (by omega) (by omega)]; simp (disch := omega) only [wi_c, wi_u, upd_s, upd_n, su_r, su_c]
    · rw [ez 1 (by omega) (by omega)]; simp (disch := omega) only [wi_c, wi_u, upd_s, upd_n, su_r, su_c]
      rw [b3 1 (by omega)]; simp (disch := omega) only [wi_c, wi_u, upd_s, upd_n, su_r, su_c]
    · rw [z14 2 (by omega)]; exact k2'
    · rw [z8, ez 0 (by omega) (by omega)]; simp (disch := omega) only [wi_c, wi_u, upd_s, upd_n, su_r, su_c]
      rw [b3 0 (by omega)]; simp (disch := omega) only [wi_c, wi_u, upd_s, upd_n, su_r, su_c]
    · rw [ol 8 (by omega) (by omega) (by omega) (by omega), ol 67 (by omega) (by omega) (by omega) (by omega), frL 8 (by omega) (by omega) (by omega), frL 67 (by omega) (by omega) (by omega)]; exact ky k hk
  · have e9 : ¬ nI e = (0 : Int32) := fun h => by
      have := (nI_eq (a := e) (b := 0) (by omega) (by omega)).mp h
      omega
    have eA : f_read fu D s l = (nI e, D, wi (wi (wi sC' 1 1 (nI 0)) 0 14 (-nI 1)) 0 14 (nI (tP (fun i => (s 2 i).toBitVec.toNat % 256) nb a)), lC') := by
      unfold f_read
      rw [e1, FF]
      dsimp only
      rw [if_neg e9]
      have : wi (wi sC' 1 1 (0 : Int32)) 0 14 (-1 : Int32) 3 0 = nI (tP (fun i => (s 2 i).toBitVec.toNat % 256) nb a) := by
        rw [wi_c (by omega), wi_c (by omega)]; exact h30
      rw [this]; rfl
    rw [eA] at oq ol rg' R1 R2
    dsimp only at oq ol rg' R1 R2
    obtain ⟨z1, z2⟩ := r_129b (fu := fu) (l := lR') he he9 hb
    have ec : ∀ q, q ≠ 0 → q ≠ 1 → (wi (wi (wi sC' 1 1 (nI 0)) 0 14 (-nI 1)) 0 14 (nI (tP (fun i => (s 2 i).toBitVec.toNat % 256) nb a))) q = sC' q := fun q a b => by rw [wi_c a, wi_c a, wi_c b]
    have ez : ∀ q, (q < 62 ∨ 90 < q) → q ≠ 60 → q ≠ 91 → wi sR' 60 17 (nI (tP (fun i => (s 2 i).toBitVec.toNat % 256) nb a)) q = (wi (wi (wi sC' 1 1 (nI 0)) 0 14 (-nI 1)) 0 14 (nI (tP (fun i => (s 2 i).toBitVec.toNat % 256) nb a))) q := fun q a b c => by rw [wi_c b, oq q a b c]
    have eo : ∀ q, (q < 3 ∨ 6 < q) → (q < ts ∨ ts + 10 < q) → (q < 62 ∨ 90 < q) → q ≠ 60 → q ≠ 91 → q ≠ 0 → q ≠ 1 → wi sR' 60 17 (nI (tP (fun i => (s 2 i).toBitVec.toNat % 256) nb a)) q = s q := fun q a b c d e f g => by rw [ez q c d e, ec q f g, frS q a b]
    -- the class's part
    have CVz : CV fu t P np nl nw ht sg lo wd wx wy rn sd LW Y (wi sR' 60 17 (nI (tP (fun i => (s 2 i).toBitVec.toNat % 256) nb a))) lR' := by
      obtain ⟨r0, ⟨y1, y2, y3, y4, y5⟩, y6, y7, y8, y9, y10⟩ := cv
      have g : ∀ q, t ≤ q → q ≤ t + 10 → wi sR' 60 17 (nI (tP (fun i => (s 2 i).toBitVec.toNat % 256) nb a)) q = s q := fun q a b => eo q (by omega) (by omega) (by omega) (by omega) (by omega) (by omega) (by omega)
      refine ⟨r0, ⟨?_, ?_, ?_, ?_, fun w hw => ?_⟩, LC_keep (g (t + 9) (by omega) (by omega)) (g (t + 10) (by omega) (by omega)) y6, y7, yC_keep (fun k hk => eo (31 + k) (by omega) (by omega) (by omega) (by omega) (by omega) (by omega) (by omega)) y8, y9, y10⟩
      · rw [g t (by omega) (by omega)]; exact y1
      · rw [g (t + 4) (by omega) (by omega), g (t + 5) (by omega) (by omega)]; exact y2
      · rw [g (t + 8) (by omega) (by omega)]; exact y3
      · rw [g t (by omega) (by omega)]; exact y4
      · rw [ol (t + 2) (by omega) (by omega) (by omega) (by omega), frL (t + 2) (by omega) (by omega) (by omega)]; exact y5 w hw
    have hsq : ∀ q, 60 ≤ q → (wi (wi (wi sC' 1 1 (nI 0)) 0 14 (-nI 1)) 0 14 (nI (tP (fun i => (s 2 i).toBitVec.toNat % 256) nb a))) q = s q := fun q h => by rw [ec q (by omega) (by omega), frS q (by omega) (by omega)]
    have z60 : ∀ j, 17 < j → j ≠ 19 → j ≠ 36 → j ≠ 42 → j ≠ 46 → wi sR' 60 17 (nI (tP (fun i => (s 2 i).toBitVec.toNat % 256) nb a)) 60 j = s 60 j := fun j a b c d e => by rw [wi_u, upd_n (by omega), rg'.2.1 j (by omega) b c d e, hsq 60 (by omega)]
    have RVz : RV fu lv P np nl nw ht sg lo wd wx wy rn sd LW Y (wi sR' 60 17 (nI (tP (fun i => (s 2 i).toBitVec.toNat % 256) nb a))) lR' := by
      refine rG3_RV hlv (fun q j a b c => ?_) (z60 18 (by omega) (by omega) (by omega) (by omega) (by omega)) (z60 54 (by omega) (by omega) (by omega) (by omega) (by omega)) (fun j c => ?_) rv
      · rw [wi_c (by omega), rg'.1 q j (by omega) (by omega) b c, hsq q (by omega)]
      · rw [rg'.2.2 73 j (by omega) c, frL 73 (by omega) (by omega) (by omega)]
    have hyq : ∀ p, pYd D p → ∀ k, k ≤ 5 → wi sR' 60 17 (nI (tP (fun i => (s 2 i).toBitVec.toNat % 256) nb a)) (p + k) = s (p + k) := fun p hp k hk => by
      have := hp.1
      exact eo (p + k) (by omega) (by omega) (by omega) (by omega) (by omega) (by omega) (by omega)
    refine ⟨nI e, D, _, _, _, lR', eA, by rw [e1]; exact P1 pF, (R1.trans j3).trans z1, R2 (j4 z2), t, lv, P, np, nl, nw, ht, sg, lo, wd, wx, wy, rn, sd, LW, Y, u, hs, hm, hy, nt, tl, th, 0, hD, CVz, RVz, hd, ⟨cP_keep (fun _ _ _ => trivial) (eo 43 (by omega) (by omega) (by omega) (by omega) (by omega) (by omega) (by omega)) hyq hd c1, ⟨by rw [z60 58 (by omega) (by omega) (by omega) (by omega) (by omega)]; exact c2.1, by rw [eo 99 (by omega) (by omega) (by omega) (by omega) (by omega) (by omega) (by omega)]; exact c2.2⟩, c3⟩, ⟨cL_keep ?_ hyq hd m1, fun k hk => ?_, m3⟩, ⟨⟨by rw [eo 57 (by omega) (by omega) (by omega) (by omega) (by omega) (by omega) (by omega)]; exact u1.1, by rw [eo 58 (by omega) (by omega) (by omega) (by omega) (by omega) (by omega) (by omega)]; exact u1.2⟩, ⟨by rw [z60 65 (by omega) (by omega) (by omega) (by omega) (by omega)]; exact u2.1, by rw [eo 103 (by omega) (by omega) (by omega) (by omega) (by omega) (by omega) (by omega), eo 104 (by omega) (by omega) (by omega) (by omega) (by omega) (by omega) (by omega)]; exact u2.2⟩, u3⟩, ⟨Nat.zero_le _, ?_, ?_, fun i hi => absurd hi (Nat.not_lt_zero i)⟩, ?_, fun k hk => ?_⟩
    · rw [ez 0 (by omega) (by omega) (by omega)]; simp (disch := omega) only [wi_c, wi_u, upd_s, upd_n, su_r, su_c]; rw [frS 0 (by omega) (by omega)]
    · rw [eo 105 (by omega) (by omega) (by omega) (by omega) (by omega) (by omega) (by omega), eo 106 (by omega) (by omega) (by omega) (by omega) (by omega) (by omega) (by omega)]; exact m2 k hk
    · rw [ez 1 (by omega) (by omega) (by omega)]; simp (disch := omega) only [wi_c, wi_u, upd_s, upd_n, su_r, su_c]
    · simp (disch := omega) only [wi_c, wi_u, upd_s, upd_n, su_r, su_c]; exact k2'
    · rw [ez 0 (by omega) (by omega) (by omega)]; simp (disch := omega) only [wi_c, wi_u, upd_s, upd_n, su_r, su_c]
    · rw [ol 8 (by omega) (by omega) (by omega) (by omega), ol 67 (by omega) (by omega) (by omega) (by omega), frL 8 (by omega) (by omega) (by omega), frL 67 (by omega) (by omega) (by omega)]; exact ky k hk
end rea3
