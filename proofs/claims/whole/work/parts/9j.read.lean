/-! read, by both -/
section rea2
variable {fu t lv P np nl nw : Nat} {ht sg lo : Nat → Nat} {wd : Nat → List Nat} {wx wy rn sd : Int32} {LW : Lw} {Y : Yd} {s s1 s2 : fl_I} {l : fl_L} {D : fl_D} {u hm nt nb : Nat} {hs hy : Nat → Yd} {tl : Nat → Nat} {th : Nat → Bool} {D1 : fl_D} {B : Nat → Nat} {a b c e i j k m n p q z f o r nn br M ts sx lj : Nat} {L : Lt} {W : Wt} {K : Kt} {N : Nt} {Q : Qt} {v : Int32} {l1 l2 : fl_L}
theorem fill_s (ht : ts = 9 ∨ ts = 20) (h : q < 3 ∨ 6 < q) (h2 : q < ts ∨ ts + 10 < q) : (f_X3_fill fu ts s l).2.1 q = s q := funext fun j => fr_X3_fill (by omega) (by omega) (by omega) (by omega) (by omega) (by omega) (by omega) (by omega) (by omega) (by omega) (by omega) (by omega) (by omega) (by omega) (by omega) (by omega) (by omega) (by omega) (by omega) (by omega) (by omega) (by omega) (by omega) (by omega) (by omega)
theorem fill_l (ht : ts = 9 ∨ ts = 20) (h : q ≠ 3) (h7 : q ≠ 7) (h2 : q < ts + 1 ∨ ts + 3 < q) : (f_X3_fill fu ts s l).2.2 q = l q := funext fun j => ll_X3_fill (by omega) (by omega) (by omega) (by omega) (by omega)
theorem beg_s {a : Nat} (h : q < a ∨ a + 5 < q) : (f_X10_begin fu a ts s l).1 q = s q := funext fun j => fr_X10_begin (by omega) (by omega) (by omega) (by omega) (by omega) (by omega) (by omega) (by omega)
theorem beg_l {a : Nat} : (f_X10_begin fu a ts s l).2 = l := rfl
/-- what the class leaves of the reference -/
theorem read_60 (h : 60 ≤ q) : (f_read fu D s l).2.2.1 q = s q ∧ (f_read fu D s l).2.2.2 q = l q := by
  have ht : (if D.2.2.1 then 9 else 20) = 9 ∨ (if D.2.2.1 then 9 else 20) = 20 := by cases D.2.2.1 <;> simp
  generalize hts : (if D.2.2.1 = true then 9 else 20) = ts at ht
  have g1 := fill_s (fu := fu) (s := s) (l := l) (q := q) ht (by omega) (by omega)
  have g2 := fill_l (fu := fu) (s := s) (l := l) (q := q) ht (by omega) (by omega) (by omega)
  unfold f_read
  dsimp only
  rw [hts]
  by_cases e : (f_X3_fill fu ts s l).1 = 0
  · rw [if_pos e]
    unfold r_46
    dsimp only
    rw [wi_c (by omega), wi_c (by omega), wi_c (by omega), beg_s (by omega), beg_l, wi_c (by omega), wi_c (by omega)]
    exact ⟨g1, g2⟩
  · rw [if_neg e]
    dsimp only
    rw [wi_c (by omega), wi_c (by omega), wi_c (by omega)]
    exact ⟨g1, g2⟩
/-- read well: the class's side -/
theorem read_CV (hfu : 20000 ≤ fu) (ht : ts = 9 ∨ ts = 20) (c : CJ B n ts k m 0 lj L W K N Q s l) (T : TJ 0 L W K N Q) (fs : ∀ q, ts ≤ q → q ≤ ts + 10 → s1 q = s q) (fl : ∀ w, l1 (ts + 2) w = l (ts + 2) w) (yc : yC (off L.2.1 L.1) K.1 (Y0 (fun i => (s (ts + 6) i).toNatClampNeg) (fun b => 10 * K.2.2.2.1 b + K.2.2.1 b)) 31 s1) :
    CV fu ts (off L.2.1 L.1) K.1 L.1 W.1 K.2.2.2.2 (fun i => (s (ts + 4) i).toNatClampNeg) (fun i => (s (ts + 5) i).toNatClampNeg) W.2 N.1 N.2.1 (nI N.2.2.1) (nI N.2.2.2) (fun k v => if k < 3 then evP (Q.1 k) (Q.2 k) v else nI 0) (Y0 (fun i => (s (ts + 6) i).toNatClampNeg) (fun b => 10 * K.2.2.2.1 b + K.2.2.1 b)) s1 l1 := by
  obtain ⟨c1, cm, cL, cW, cK, cN, cQ⟩ := c
  obtain ⟨tl, tw, tk, tn, tq⟩ := T
  have hk := c1.1.2.1.1
  have o8 := off_le (L := L) (j := L.1) (fun i hi => (tl.2.1 i hi).1)
  have l4 := tl.1
  have k4 := tk.1
  have pcs : ∀ i, i < off L.2.1 L.1 → ∃ g r c', s (ts + 4) i = nI g ∧ s (ts + 5) i = nI r ∧ s (ts + 6) i = nI c' ∧ 1 ≤ g ∧ g ≤ 26 ∧ r < L.1 ∧ c' < 80 := by
    intro i hi
    obtain ⟨j, hj, i', hi', rfl⟩ := off_find hi
    obtain ⟨e1, e2, e3⟩ := cL.2.2.2 j hj i' hi'
    have ok := (tl.2.1 j hj).1
    have g26 := ok.2.2 _ (sgn_in hi')
    have xy := tl.2.2 rfl j hj
    exact ⟨_, _, _, e1, e2, e3, g26.1, g26.2, hj, by omega⟩
  have c0 : ∀ b, cnt (fun i => (s (ts + 6) i).toNatClampNeg) (off L.2.1 L.1) b = 0 := fun b => ct_zero (fun i hi => by
    obtain ⟨g, r, c', e1, e2, e3, h1, h2, h3, h4⟩ := pcs i hi
    refine beq_false_of_ne ?_
    dsimp only
    rw [e3, nI_clamp (by omega)]; omega)
  refine ⟨ht, ⟨⟨?_, ?_, ?_, ?_⟩, fun i hi => ?_, fun b hb => ?_, ⟨?_, ?_, ?_, ?_⟩, fun w hw => ?_⟩, ?_, LW_c (fun k hk => (tq k hk).1), yc, ⟨by omega, k4, fun i hi => ?_, fun b hb => ?_⟩, ⟨by omega, k4, l4, tw.1, fun i hi => ?_, fun b hb => (tk.2.2 rfl b hb).2.2, tw.2, ⟨_, tn.2.2 rfl, rfl⟩, _, tn.2.1, rfl⟩⟩
  · rw [fs ts (by omega) (by omega)]; exact cL.1
  · rw [fs ts (by omega) (by omega)]; exact cW.1
  · rw [fs ts (by omega) (by omega)]; exact cK.1
  · rw [fs ts (by omega) (by omega)]; exact cL.2.1
  · obtain ⟨g, r, c', e1, e2, e3, h1, h2, h3, h4⟩ := pcs i hi
    rw [fs (ts + 4) (by omega) (by omega), fs (ts + 5) (by omega) (by omega)]
    dsimp only
    rw [e1, e2, nI_clamp (by omega), nI_clamp (by omega)]; exact ⟨rfl, rfl⟩
  · rw [fs (ts + 8) (by omega) (by omega)]; exact (cK.2.2 b hb).2
  · rw [fs ts (by omega) (by omega)]; exact cN.1
  · rw [fs ts (by omega) (by omega)]; exact cN.2.1
  · rw [fs ts (by omega) (by omega)]; exact cN.2.2.1
  · rw [fs ts (by omega) (by omega)]; exact cN.2.2.2
  · rw [fl w]; exact cW.2 w hw
  · refine c_LC hfu ht (fun k hk => (tq k hk).1) (fun k hk => ?_)
    obtain ⟨p, q, h1, h2, h3⟩ := cQ k hk
    exact ⟨p, q, by rw [fs (ts + 10) (by omega) (by omega)]; exact h1, by rw [fs (ts + 9) (by omega) (by omega)]; exact h2, by omega⟩
  · obtain ⟨g, r, c', e1, e2, e3, h1, h2, h3, h4⟩ := pcs i hi
    show (s (ts + 6) i).toNatClampNeg < 80 + K.1 ∧ 0 ≤ 999 ∧ (80 ≤ (s (ts + 6) i).toNatClampNeg → 0 = 0)
    rw [e3, nI_clamp (by omega)]
    exact ⟨by omega, by omega, fun _ => rfl⟩
  · have xy := tk.2.2 rfl b hb
    exact ⟨by show 10 * K.2.2.2.1 b + K.2.2.1 b < 80; omega, Nat.le_refl _, by show cnt (fun i => (s (ts + 6) i).toNatClampNeg) (off L.2.1 L.1) b ≤ _; rw [c0 b]; exact Nat.zero_le _, xy.2.2.2⟩
  · obtain ⟨g, r, c', e1, e2, e3, h1, h2, h3, h4⟩ := pcs i hi
    dsimp only
    rw [e1, e2, nI_clamp (by omega), nI_clamp (by omega)]; exact ⟨h1, h2, h3⟩
/-- read well: the reference's side -/
theorem read_RV (hfu : 20000 ≤ fu) (hsd : sx ≤ 1) (c : CJ B n ts k m 0 lj L W K N Q s l) (r : RJ B n sx k M br 0 lj L W K N Q s1 l1) (T : TJ 0 L W K N Q) (h18 : s2 60 18 = nI sx) {s0 s3 : fl_I} (bg : rBeg sx L K N s0 s3) (h94 : ∀ r, r < 141 → s2 94 r = s3 95 r) (h96 : s2 96 = s3 96) (h97 : s2 97 = s3 97) (h54 : s2 60 54 = s3 60 54) (fq : ∀ q, q ≠ 60 → q ≠ 94 → q ≠ 95 → q ≠ 96 → q ≠ 97 → q ≠ 105 → s2 q = s1 q) {YW' : YW (off L.2.1 L.1) K.1 K.2.2.2.2 (Y0 (fun i => (s (ts + 6) i).toNatClampNeg) (fun b => 10 * K.2.2.2.1 b + K.2.2.1 b))} {TB' : TB (off L.2.1 L.1) K.1 L.1 W.1 K.2.2.2.2 (fun i => (s (ts + 4) i).toNatClampNeg) (fun i => (s (ts + 5) i).toNatClampNeg) W.2 (nI N.2.2.1) (nI N.2.2.2)} :
    RV fu sx (off L.2.1 L.1) K.1 L.1 W.1 K.2.2.2.2 (fun i => (s (ts + 4) i).toNatClampNeg) (fun i => (s (ts + 5) i).toNatClampNeg) W.2 N.1 N.2.1 (nI N.2.2.1) (nI N.2.2.2) (fun k v => if k < 3 then evP (Q.1 k) (Q.2 k) v else nI 0) (Y0 (fun i => (s (ts + 6) i).toNatClampNeg) (fun b => 10 * K.2.2.2.1 b + K.2.2.1 b)) s2 l1 := by
  obtain ⟨c1, cm, cL, cW, cK, cN, cQ⟩ := c
  obtain ⟨r1, rL, rW, rK, rN', rQ', rM1, rM2, rb1, rb2⟩ := r
  obtain ⟨tl, tw, tk, tn, tq⟩ := T
  obtain ⟨b1, b2, b3, b4, b5, b6, _, _⟩ := bg
  have hk := c1.1.2.1.1
  have o8 := off_le (L := L) (j := L.1) (fun i hi => (tl.2.1 i hi).1)
  have l4 := tl.1
  have k4 := tk.1
  have pcs : ∀ i, i < off L.2.1 L.1 → ∃ g r x y, s (ts + 4) i = nI g ∧ s (ts + 5) i = nI r ∧ s (ts + 6) i = nI (10 * y + x) ∧ g ≤ 26 ∧ r < 4 ∧ x < 10 ∧ y < 8 ∧ s3 96 i = nI g ∧ s3 97 i = nI r ∧ s3 95 i = nI x ∧ s3 95 (32 + i) = nI y ∧ s3 95 (64 + i) = -nI 2 := by
    intro i hi
    obtain ⟨j, hj, i', hi', rfl⟩ := off_find hi
    obtain ⟨e1, e2, e3⟩ := cL.2.2.2 j hj i' hi'
    obtain ⟨d1, d2, d3, d4, d5⟩ := b2 j hj i' hi'
    have ok := (tl.2.1 j hj).1
    have g26 := ok.2.2 _ (sgn_in hi')
    have xy := tl.2.2 rfl j hj
    exact ⟨_, _, _, _, e1, e2, e3, g26.2, by omega, by omega, by omega, d1, d2, d3, d4, d5⟩
  refine ⟨⟨hsd, h18, by rw [h54]; exact b1, ?_, fun b hb => ?_, fun i hi => ?_, ?_, ?_, ?_, ?_⟩, ⟨?_, ?_, fun i hi => ?_, rW.2⟩, ?_, LW_c (fun k hk => (tq k hk).1), ⟨?_, fun i hi => ?_, fun b hb => ?_⟩, YW', TB'⟩
  · rw [fq 74 (by omega) (by omega) (by omega) (by omega) (by omega) (by omega)]; exact rK.1
  · rw [fq 78 (by omega) (by omega) (by omega) (by omega) (by omega) (by omega)]; exact (rK.2 b hb).2.2.2
  · obtain ⟨g, r, x, y, e1, e2, e3, h1, h2, h3, h4, d1, d2, d3, d4, d5⟩ := pcs i hi
    rw [h96, d1]
    dsimp only
    rw [e1, nI_clamp (by omega)]
  · rw [fq 79 (by omega) (by omega) (by omega) (by omega) (by omega) (by omega)]; exact rN'.1
  · rw [fq 79 (by omega) (by omega) (by omega) (by omega) (by omega) (by omega)]; exact rN'.2.1
  · rw [fq 80 (by omega) (by omega) (by omega) (by omega) (by omega) (by omega)]; exact rN'.2.2.1
  · rw [fq 81 (by omega) (by omega) (by omega) (by omega) (by omega) (by omega)]; exact rN'.2.2.2
  · rw [fq 68 (by omega) (by omega) (by omega) (by omega) (by omega) (by omega)]; exact rL.1
  · rw [fq 72 (by omega) (by omega) (by omega) (by omega) (by omega) (by omega)]; exact rW.1
  · obtain ⟨g, r, x, y, e1, e2, e3, h1, h2, h3, h4, d1, d2, d3, d4, d5⟩ := pcs i hi
    rw [h97, d2]
    dsimp only
    rw [e2, nI_clamp (by omega)]
  · exact r_LR (M := M) (br := br) hfu hsd (fun k hk => ⟨(tq k hk).1, by have := (tq k hk).2; omega⟩) (rLw_k (fun q a b => fq q (by omega) (by omega) (by omega) (by omega) (by omega) (by omega)) rQ') (by omega) (by omega) h18
  · rw [h94 140 (by omega), b3 140 (by omega) (by omega)]; rfl
  · obtain ⟨g, r, x, y, e1, e2, e3, h1, h2, h3, h4, d1, d2, d3, d4, d5⟩ := pcs i hi
    show ((s (ts + 6) i).toNatClampNeg < 80 → s2 94 i = nI ((s (ts + 6) i).toNatClampNeg % 10) ∧ s2 94 (32 + i) = nI ((s (ts + 6) i).toNatClampNeg / 10) ∧ s2 94 (64 + i) = -nI 2) ∧ (80 ≤ (s (ts + 6) i).toNatClampNeg → s2 94 (64 + i) = nI ((s (ts + 6) i).toNatClampNeg - 80)) ∧ s2 94 (96 + i) = nI 0
    rw [e3, nI_clamp (by omega), h94 i (by omega), h94 (32 + i) (by omega), h94 (64 + i) (by omega), h94 (96 + i) (by omega), d3, d4, d5, b3 (96 + i) (by omega) (by omega)]
    refine ⟨fun _ => ⟨?_, ?_, rfl⟩, fun h => by omega, rfl⟩
    · congr 1; omega
    · congr 1; omega
  · have xy := tk.2.2 rfl b hb
    obtain ⟨d1, d2, d3⟩ := b4 b hb
    show s2 94 (128 + b) = nI ((10 * K.2.2.2.1 b + K.2.2.1 b) % 10) ∧ s2 94 (132 + b) = nI ((10 * K.2.2.2.1 b + K.2.2.1 b) / 10) ∧ s2 94 (136 + b) = gI 80
    rw [h94 (128 + b) (by omega), h94 (132 + b) (by omega), h94 (136 + b) (by omega), d1, d2, d3]
    refine ⟨?_, ?_, rfl⟩
    · congr 1; omega
    · congr 1; omega
end rea2
