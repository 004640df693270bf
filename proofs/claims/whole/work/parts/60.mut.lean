/-! The tape, what is told, the slots -/
section mu2
variable {fu t lv P np nl nw : Nat} {ht sg lo : Nat → Nat} {wd : Nat → List Nat} {wx wy rn sd : Int32} {LW : Lw} {Y : Yd} {s s1 s2 : fl_I} {l : fl_L} {D : fl_D} {u hm nt nb : Nat} {hs hy : Nat → Yd} {tl : Nat → Nat} {th : Nat → Bool} {D1 : fl_D} {a i b c q k n g m : Nat} {x y z v w x0 x1 x2 x3 x4 : Int32} {Z : Yd}
def byI (x : Int32) (k : Nat) : Int32 := vp_nar .byte (x >>> (nI k &&& nI 31)).toInt8.toInt32
theorem by_eq (hk : k = 0 ∨ k = 8 ∨ k = 16 ∨ k = 24) : vp_nar .byte (i_ushr x (nI k)).toInt8.toInt32 = byI x k := by
  unfold byI
  have : (i_ushr x (nI k)).toInt8 = (x >>> (nI k &&& nI 31)).toInt8 := by
    rw [← Int8.toBitVec_inj]
    rcases hk with rfl | rfl | rfl | rfl
    · show (x.toBitVec >>> 0).signExtend 8 = (x.toBitVec.sshiftRight 0).signExtend 8
      ext i hi; simp [BitVec.getLsbD_signExtend, BitVec.getLsbD_sshiftRight]
    · show (x.toBitVec >>> 8).signExtend 8 = (x.toBitVec.sshiftRight 8).signExtend 8
      ext i hi
      simp [BitVec.getElem_signExtend, BitVec.getElem_sshiftRight]
      rw [if_pos (by omega), dif_pos (by omega), decide_eq_true (by omega), Bool.true_and]; exact BitVec.getLsbD_eq_getElem _
    · show (x.toBitVec >>> 16).signExtend 8 = (x.toBitVec.sshiftRight 16).signExtend 8
      ext i hi
      simp [BitVec.getElem_signExtend, BitVec.getElem_sshiftRight]
      rw [if_pos (by omega), dif_pos (by omega), decide_eq_true (by omega), Bool.true_and]; exact BitVec.getLsbD_eq_getElem _
    · show (x.toBitVec >>> 24).signExtend 8 = (x.toBitVec.sshiftRight 24).signExtend 8
      ext i hi
      simp [BitVec.getElem_signExtend, BitVec.getElem_sshiftRight]
      rw [if_pos (by omega), dif_pos (by omega), decide_eq_true (by omega), Bool.true_and]; exact BitVec.getLsbD_eq_getElem _
  rw [this]
/-- a call that changes the tape and what is told -/
theorem st_T {fA : Int32 × fl_D × fl_I × fl_L} {pA : Prop} {fB : fl_I → fl_L → Int32 × fl_I × fl_L} {pB : fl_I → fl_L → Prop} {nt' nb' : Nat} {tl' : Nat → Nat} {th' : Nat → Bool} (hD : (if D.2.2.1 then 20 else 9) = t) (cv : CV fu t P np nl nw ht sg lo wd wx wy rn sd LW Y s l) (rv : RV fu lv P np nl nw ht sg lo wd wx wy rn sd LW Y s l) (mi : MI D P np ht u hs hm hy nt tl th nb s l)
    (hA : fA = (v, D, s1, l)) (pA1 : pA) (hB : fB s1 l = (v, s2, l)) (pB1 : pB s1 l) (c4 : ∀ q, q ≠ 1 → q ≠ 2 → q ≠ 57 → q ≠ 58 → s1 q = s q) (b3 : ∀ j, j ≠ 2 → j ≠ 65 → s2 60 j = s1 60 j) (b4 : ∀ q, q ≠ 60 → q ≠ 61 → q ≠ 103 → q ≠ 104 → s2 q = s1 q) (tt : cTo nt' tl' th' s2 ∧ rTo nt' tl' th' s2 ∧ bTo nt' tl') (tp : TP nb' s2) : Both fu fA pA fB pB := by
  obtain ⟨r0, ⟨q1, q2, q3, q4, q5⟩, q6, q7, q8, q9, q10⟩ := cv
  obtain ⟨⟨a1, a2, a3, a4, a5, a6, a7, a8, a9, a10⟩, ⟨z1, z2, z3, z4⟩, lr, _, yf, _, _⟩ := rv
  obtain ⟨hd, ⟨k1, k2, k3⟩, ⟨l1, l2, l3⟩, _, _, pl, ky⟩ := mi
  have g : ∀ q, q ≠ 1 → q ≠ 2 → q ≠ 57 → q ≠ 58 → q ≠ 60 → q ≠ 61 → q ≠ 103 → q ≠ 104 → s2 q = s q := fun q h1 h2 h3 h4 h5 h6 h7 h8 => by rw [b4 q h5 h6 h7 h8]; exact c4 q h1 h2 h3 h4
  have g60 : ∀ j, j ≠ 2 → j ≠ 65 → s2 60 j = s 60 j := fun j h1 h2 => by rw [b3 j h1 h2, c4 60 (by omega) (by omega) (by omega) (by omega)]
  have gt : ∀ q, t ≤ q → q ≤ t + 10 → s2 q = s q := fun q h1 h2 => g q (by omega) (by omega) (by omega) (by omega) (by omega) (by omega) (by omega) (by omega)
  have cv2 : CV fu t P np nl nw ht sg lo wd wx wy rn sd LW Y s2 l := by
    refine ⟨r0, ⟨?_, ?_, ?_, ?_, q5⟩, LC_keep (gt (t + 9) (by omega) (by omega)) (gt (t + 10) (by omega) (by omega)) q6, q7, yC_keep (fun k hk => g (31 + k) (by omega) (by omega) (by omega) (by omega) (by omega) (by omega) (by omega) (by omega)) q8, q9, q10⟩
    · rw [gt t (by omega) (by omega)]; exact q1
    · rw [gt (t + 4) (by omega) (by omega), gt (t + 5) (by omega) (by omega)]; exact q2
    · rw [gt (t + 8) (by omega) (by omega)]; exact q3
    · rw [gt t (by omega) (by omega)]; exact q4
  have rv2 : RV fu lv P np nl nw ht sg lo wd wx wy rn sd LW Y s2 l := by
    refine ⟨⟨a1, by rw [g60 18 (by omega) (by omega)]; exact a2, by rw [g60 54 (by omega) (by omega)]; exact a3, ?_, ?_, ?_, ?_, ?_, ?_, ?_⟩, ⟨?_, ?_, ?_, z4⟩, ?_, q7, by rw [g 94 (by omega) (by omega) (by omega) (by omega) (by omega) (by omega) (by omega) (by omega)]; exact yf, q9, q10⟩
    · rw [g 74 (by omega) (by omega) (by omega) (by omega) (by omega) (by omega) (by omega) (by omega)]; exact a4
    · rw [g 78 (by omega) (by omega) (by omega) (by omega) (by omega) (by omega) (by omega) (by omega)]; exact a5
    · rw [g 96 (by omega) (by omega) (by omega) (by omega) (by omega) (by omega) (by omega) (by omega)]; exact a6
    · rw [g 79 (by omega) (by omega) (by omega) (by omega) (by omega) (by omega) (by omega) (by omega)]; exact a7
    · rw [g 79 (by omega) (by omega) (by omega) (by omega) (by omega) (by omega) (by omega) (by omega)]; exact a8
    · rw [g 80 (by omega) (by omega) (by omega) (by omega) (by omega) (by omega) (by omega) (by omega)]; exact a9
    · rw [g 81 (by omega) (by omega) (by omega) (by omega) (by omega) (by omega) (by omega) (by omega)]; exact a10
    · rw [g 68 (by omega) (by omega) (by omega) (by omega) (by omega) (by omega) (by omega) (by omega)]; exact z1
    · rw [g 72 (by omega) (by omega) (by omega) (by omega) (by omega) (by omega) (by omega) (by omega)]; exact z2
    · rw [g 97 (by omega) (by omega) (by omega) (by omega) (by omega) (by omega) (by omega) (by omega)]; exact z3
    · exact LR_keep lr (fun q h1 h2 => g q (by omega) (by omega) (by omega) (by omega) (by omega) (by omega) (by omega) (by omega)) (g60 18 (by omega) (by omega))
  have hk : ∀ p, pYd D p → ∀ k, k ≤ 5 → s2 (p + k) = s (p + k) := fun p hp k hk => by have := hp.1; exact g (p + k) (by omega) (by omega) (by omega) (by omega) (by omega) (by omega) (by omega) (by omega)
  have mi2 : MI D P np ht u hs hm hy nt' tl' th' nb' s2 l := by
    refine ⟨hd, ⟨cP_keep (fun _ _ _ => trivial) (g 43 (by omega) (by omega) (by omega) (by omega) (by omega) (by omega) (by omega) (by omega)) hk hd k1, ⟨by rw [g60 58 (by omega) (by omega)]; exact k2.1, by rw [g 99 (by omega) (by omega) (by omega) (by omega) (by omega) (by omega) (by omega) (by omega)]; exact k2.2⟩, k3⟩, ⟨cL_keep (by rw [g 0 (by omega) (by omega) (by omega) (by omega) (by omega) (by omega) (by omega) (by omega)]) hk hd l1, fun k hk => ?_, l3⟩, tt, tp, by rw [g 0 (by omega) (by omega) (by omega) (by omega) (by omega) (by omega) (by omega) (by omega), g60 17 (by omega) (by omega)]; exact pl, ky⟩
    rw [g 105 (by omega) (by omega) (by omega) (by omega) (by omega) (by omega) (by omega) (by omega), g 106 (by omega) (by omega) (by omega) (by omega) (by omega) (by omega) (by omega) (by omega)]; exact l2 k hk
  exact ⟨v, D, s1, l, s2, l, hA, pA1, hB, pB1, t, lv, P, np, nl, nw, ht, sg, lo, wd, wx, wy, rn, sd, LW, Y, u, hs, hm, hy, nt', tl', th', nb', hD, cv2, rv2, mi2⟩
def tp4 (f : Nat → Int32) (n : Nat) (x : Int32) : Nat → Int32 := upd (upd (upd (upd f n (byI x 24)) (n + 1) (byI x 16)) (n + 2) (byI x 8)) (n + 3) (byI x 0)
theorem tp4_eq {f h : Nat → Int32} (e : ∀ i, i < n → f i = h i) : ∀ i, i < n + 4 → tp4 f n x i = tp4 h n x i := by
  intro i hi
  unfold tp4 upd
  by_cases e3 : i = n + 3
  · rw [if_pos e3, if_pos e3]
  · rw [if_neg e3, if_neg e3]
    by_cases e2 : i = n + 2
    · rw [if_pos e2, if_pos e2]
    · rw [if_neg e2, if_neg e2]
      by_cases e1 : i = n + 1
      · rw [if_pos e1, if_pos e1]
      · rw [if_neg e1, if_neg e1]
        by_cases e0 : i = n
        · rw [if_pos e0, if_pos e0]
        · rw [if_neg e0, if_neg e0]; exact e i (by omega)
theorem am8 (h1 : b ≤ a) (h : a < 2 ^ 31) : nI a + -nI b = nI (a - b) := by
  rw [← Int32.sub_eq_add_neg]; exact pk_sub h1
theorem am0 : nI 0 + -nI b = -nI b := Int32.zero_add _
theorem by24 : vp_nar .byte (i_ushr x (nI 24)).toInt8.toInt32 = byI x 24 := by_eq (by omega)
theorem by16 : vp_nar .byte (i_ushr x (nI 16)).toInt8.toInt32 = byI x 16 := by_eq (by omega)
theorem by8 : vp_nar .byte (i_ushr x (nI 8)).toInt8.toInt32 = byI x 8 := by_eq (by omega)
theorem by0 : vp_nar .byte (i_ushr x (nI 0)).toInt8.toInt32 = byI x 0 := by_eq (by omega)
theorem by24' : vp_nar .byte (x >>> (nI 24 &&& nI 31)).toInt8.toInt32 = byI x 24 := rfl
theorem by16' : vp_nar .byte (x >>> (nI 16 &&& nI 31)).toInt8.toInt32 = byI x 16 := rfl
theorem by8' : vp_nar .byte (x >>> (nI 8 &&& nI 31)).toInt8.toInt32 = byI x 8 := rfl
theorem by0' : vp_nar .byte (x >>> (nI 0 &&& nI 31)).toInt8.toInt32 = byI x 0 := rfl
theorem c_addb (hfu : 20000 ≤ fu) (h : s 1 1 = nI n) (hn : n + 4 ≤ 2000) : ∃ s', f_X4_add fu x s l = (s', l) ∧ p_X4_add fu x s l ∧ s' 1 1 = nI (n + 4) ∧ s' 2 = tp4 (s 2) n x ∧ ∀ q, q ≠ 1 → q ≠ 2 → s' q = s q := by
  obtain ⟨f, rfl⟩ : ∃ f, fu = f + 1 + 1 + 1 + 1 + 1 := ⟨fu - 5, by omega⟩
  refine ⟨wi (wi (wi (wi (wi (wi (wi (wi s 2 n (byI x 24)) 1 1 (nI (n + 1))) 2 (n + 1) (byI x 16)) 1 1 (nI (n + 1 + 1))) 2 (n + 1 + 1) (byI x 8)) 1 1 (nI (n + 1 + 1 + 1))) 2 (n + 1 + 1 + 1) (byI x 0)) 1 1 (nI (n + 1 + 1 + 1 + 1)), ?_, ?_, ?_, ?_, fun q h1 h2 => by simp (disch := omega) only [wi_c, wi_u, upd_s, upd_n, su_r, su_c]⟩
  · unfold f_X4_add
    simp (disch := omega) only [f_X4_add_3, ln_, leT, leF, ltT, ltF, eqT, eqF, vpT, nlT, nleT, lnF, lenF, eqnF, neqF, nnF, nI_add, pk_mul, pk_div, pk_sub, ni_m, nI_clamp, md10, dm10, gI_l, gI_n, ar_t, ar_f, it_t, it_f, true_and, and_true, not_true_eq_false, not_false_eq_true, implies_true, and_self, eq_self, wi_c, wi_u, upd_s, upd_n, su_r, su_c, h, by24, by16, by8, by0, am8, am0, Nat.reduceSub]
  · unfold p_X4_add
    simp (disch := omega) only [p_X4_add_3, ln_, leT, leF, ltT, ltF, eqT, eqF, vpT, nlT, nleT, lnF, lenF, eqnF, neqF, nnF, nI_add, pk_mul, pk_div, pk_sub, ni_m, nI_clamp, md10, dm10, gI_l, gI_n, ar_t, ar_f, it_t, it_f, true_and, and_true, not_true_eq_false, not_false_eq_true, implies_true, and_self, eq_self, wi_c, wi_u, upd_s, upd_n, su_r, su_c, h, by24, by16, by8, by0, am8, am0, Nat.reduceSub]
  · simp (disch := omega) only [wi_c, wi_u, upd_s, upd_n, su_r, su_c]
  · simp (disch := omega) only [wi_c, wi_u, upd_s, upd_n, su_r, su_c]; rfl
theorem r_put (hfu : 20000 ≤ fu) (h : s 60 2 = nI n) (hn : n + 4 ≤ 2000) : ∃ s', f_X12_put fu x s l = (s', l) ∧ p_X12_put fu x s l ∧ s' 60 2 = nI (n + 4) ∧ s' 61 = tp4 (s 61) n x ∧ (∀ j, j ≠ 2 → s' 60 j = s 60 j) ∧ ∀ q, q ≠ 60 → q ≠ 61 → s' q = s q := by
  obtain ⟨f, rfl⟩ : ∃ f, fu = f + 1 + 1 + 1 + 1 + 1 := ⟨fu - 5, by omega⟩
  refine ⟨wi (wi (wi (wi (wi (wi (wi (wi s 61 n (byI x 24)) 60 2 (nI (n + 1))) 61 (n + 1) (byI x 16)) 60 2 (nI (n + 1 + 1))) 61 (n + 1 + 1) (byI x 8)) 60 2 (nI (n + 1 + 1 + 1))) 61 (n + 1 + 1 + 1) (byI x 0)) 60 2 (nI (n + 1 + 1 + 1 + 1)), ?_, ?_, ?_, ?_, fun j h1 => by simp (disch := omega) only [wi_c, wi_u, upd_s, upd_n, su_r, su_c], fun q h1 h2 => by simp (disch := omega) only [wi_c, wi_u, upd_s, upd_n, su_r, su_c]⟩
  · unfold f_X12_put
    simp (disch := omega) only [f_X12_put_3, ln_, leT, leF, ltT, ltF, eqT, eqF, vpT, nlT, nleT, lnF, lenF, eqnF, neqF, nnF, nI_add, pk_mul, pk_div, pk_sub, ni_m, nI_clamp, md10, dm10, gI_l, gI_n, ar_t, ar_f, it_t, it_f, true_and, and_true, not_true_eq_false, not_false_eq_true, implies_true, and_self, eq_self, wi_c, wi_u, upd_s, upd_n, su_r, su_c, h, by24', by16', by8', by0', am8, am0, Nat.reduceSub]
  · unfold p_X12_put
    simp (disch := omega) only [p_X12_put_3, ln_, leT, leF, ltT, ltF, eqT, eqF, vpT, nlT, nleT, lnF, lenF, eqnF, neqF, nnF, nI_add, pk_mul, pk_div, pk_sub, ni_m, nI_clamp, md10, dm10, gI_l, gI_n, ar_t, ar_f, it_t, it_f, true_and, and_true, not_true_eq_false, not_false_eq_true, implies_true, and_self, eq_self, wi_c, wi_u, upd_s, upd_n, su_r, su_c, h, by24', by16', by8', by0', am8, am0, Nat.reduceSub]
  · simp (disch := omega) only [wi_c, wi_u, upd_s, upd_n, su_r, su_c]
  · simp (disch := omega) only [wi_c, wi_u, upd_s, upd_n, su_r, su_c]; rfl
theorem tl_keep (h57 : s1 57 = s 57) (h58 : s1 58 = s 58) (h65 : s1 60 65 = s 60 65) (h103 : s1 103 = s 103) (h104 : s1 104 = s 104) (r : cTo nt tl th s ∧ rTo nt tl th s ∧ bTo nt tl) : cTo nt tl th s1 ∧ rTo nt tl th s1 ∧ bTo nt tl := by
  obtain ⟨⟨c1, c2⟩, ⟨r1, r2⟩, b⟩ := r
  exact ⟨⟨by rw [h57]; exact c1, by rw [h58]; exact c2⟩, ⟨by rw [h65]; exact r1, by rw [h103, h104]; exact r2⟩, b⟩
theorem s_feed (hfu : 20000 ≤ fu) (hD : (if D.2.2.1 then 20 else 9) = t) (cv : CV fu t P np nl nw ht sg lo wd wx wy rn sd LW Y s l) (rv : RV fu lv P np nl nw ht sg lo wd wx wy rn sd LW Y s l) (mi : MI D P np ht u hs hm hy nt tl th nb s l) : Both fu ((f_X11_feed fu x0 x1 x2 x3 x4 s l).1, D, (f_X11_feed fu x0 x1 x2 x3 x4 s l).2.1, (f_X11_feed fu x0 x1 x2 x3 x4 s l).2.2) (p_X11_feed fu x0 x1 x2 x3 x4 s l) (f_X12_feed fu x0 x1 x2 x3 x4) (p_X12_feed fu x0 x1 x2 x3 x4) := by
  obtain ⟨n2, h1, h2, h3⟩ := mi.2.2.2.2.1
  unfold f_X11_feed p_X11_feed f_X12_feed p_X12_feed
  by_cases e : nb + 20 ≤ 2000
  · obtain ⟨a1, ea1, pa1, ua1, va1, wa1⟩ := c_addb (x := x0) (l := l) hfu h1 (by omega)
    obtain ⟨a2, ea2, pa2, ua2, va2, wa2⟩ := c_addb (x := x1) (l := l) hfu ua1 (by omega)
    obtain ⟨a3, ea3, pa3, ua3, va3, wa3⟩ := c_addb (x := x2) (l := l) hfu ua2 (by omega)
    obtain ⟨a4, ea4, pa4, ua4, va4, wa4⟩ := c_addb (x := x3) (l := l) hfu ua3 (by omega)
    obtain ⟨a5, ea5, pa5, ua5, va5, wa5⟩ := c_addb (x := x4) (l := l) hfu ua4 (by omega)
    have wa : ∀ q, q ≠ 1 → q ≠ 2 → a5 q = s q := fun q i j => by rw [wa5 q i j, wa4 q i j, wa3 q i j, wa2 q i j, wa1 q i j]
    have h2' : a5 60 2 = nI nb := by rw [wa 60 (by omega) (by omega)]; exact h2
    obtain ⟨b1, eb1, pb1, ub1, vb1, jb1, wb1⟩ := r_put (x := x0) (l := l) hfu h2' (by omega)
    obtain ⟨b2, eb2, pb2, ub2, vb2, jb2, wb2⟩ := r_put (x := x1) (l := l) hfu ub1 (by omega)
    obtain ⟨b3, eb3, pb3, ub3, vb3, jb3, wb3⟩ := r_put (x := x2) (l := l) hfu ub2 (by omega)
    obtain ⟨b4, eb4, pb4, ub4, vb4, jb4, wb4⟩ := r_put (x := x3) (l := l) hfu ub3 (by omega)
    obtain ⟨b5, eb5, pb5, ub5, vb5, jb5, wb5⟩ := r_put (x := x4) (l := l) hfu ub4 (by omega)
    have jb : ∀ j, j ≠ 2 → b5 60 j = a5 60 j := fun j i => by rw [jb5 j i, jb4 j i, jb3 j i, jb2 j i, jb1 j i]
    have wb : ∀ q, q ≠ 60 → q ≠ 61 → b5 q = a5 q := fun q i j => by rw [wb5 q i j, wb4 q i j, wb3 q i j, wb2 q i j, wb1 q i j]
    have w61 : a5 61 = s 61 := wa 61 (by omega) (by omega)
    have tp : TP (nb + 4 + 4 + 4 + 4 + 4) b5 := by
      refine ⟨by omega, by rw [wb 1 (by omega) (by omega)]; exact ua5, ub5, ?_⟩
      rw [wb 2 (by omega) (by omega), va5, va4, va3, va2, va1, vb5, vb4, vb3, vb2, vb1, w61]
      exact tp4_eq (tp4_eq (tp4_eq (tp4_eq (tp4_eq h3))))
    refine st_T (v := nI (nb + 4 + 4 + 4 + 4 + 4)) (s1 := a5) (s2 := b5) hD cv rv mi ?_ ?_ ?_ ?_ (fun q i j _ _ => wa q i j) (fun j i _ => jb j i) (fun q i j _ _ => wb q i j) (tl_keep (by rw [wb 57 (by omega) (by omega), wa 57 (by omega) (by omega)]) (by rw [wb 58 (by omega) (by omega), wa 58 (by omega) (by omega)]) (by rw [jb 65 (by omega), wa 60 (by omega) (by omega)]) (by rw [wb 103 (by omega) (by omega), wa 103 (by omega) (by omega)]) (by rw [wb 104 (by omega) (by omega), wa 104 (by omega) (by omega)]) mi.2.2.2.1) tp
    · simp (disch := omega) only [ln_, leT, leF, ltT, ltF, eqT, eqF, vpT, nlT, nleT, lnF, lenF, eqnF, neqF, nnF, nI_add, pk_mul, pk_div, pk_sub, ni_m, nI_clamp, md10, dm10, gI_l, gI_n, ar_t, ar_f, it_t, it_f, true_and, and_true, not_true_eq_false, not_false_eq_true, implies_true, and_self, eq_self, h1, ea1, ea2, ea3, ea4, ea5, ua5]
    · simp (disch := omega) only [ln_, leT, leF, ltT, ltF, eqT, eqF, vpT, nlT, nleT, lnF, lenF, eqnF, neqF, nnF, nI_add, pk_mul, pk_div, pk_sub, ni_m, nI_clamp, md10, dm10, gI_l, gI_n, ar_t, ar_f, it_t, it_f, true_and, and_true, not_true_eq_false, not_false_eq_true, implies_true, and_self, eq_self, h1, ea1, ea2, ea3, ea4, ea5, pa1, pa2, pa3, pa4, pa5]
    · simp (disch := omega) only [ln_, leT, leF, ltT, ltF, eqT, eqF, vpT, nlT, nleT, lnF, lenF, eqnF, neqF, nnF, nI_add, pk_mul, pk_div, pk_sub, ni_m, nI_clamp, md10, dm10, gI_l, gI_n, ar_t, ar_f, it_t, it_f, true_and, and_true, not_true_eq_false, not_false_eq_true, implies_true, and_self, eq_self, h2', eb1, eb2, eb3, eb4, eb5, ub5]
    · simp (disch := omega) only [ln_, leT, leF, ltT, ltF, eqT, eqF, vpT, nlT, nleT, lnF, lenF, eqnF, neqF, nnF, nI_add, pk_mul, pk_div, pk_sub, ni_m, nI_clamp, md10, dm10, gI_l, gI_n, ar_t, ar_f, it_t, it_f, true_and, and_true, not_true_eq_false, not_false_eq_true, implies_true, and_self, eq_self, h2', eb1, eb2, eb3, eb4, eb5, pb1, pb2, pb3, pb4, pb5]
  · refine st_N (v := -nI 1) hD cv rv mi ?_ ?_ ?_ ?_ <;> simp (disch := omega) only [ln_, leT, leF, ltT, ltF, eqT, eqF, vpT, nlT, nleT, lnF, lenF, eqnF, neqF, nnF, nI_add, pk_mul, pk_div, pk_sub, ni_m, nI_clamp, md10, dm10, gI_l, gI_n, ar_t, ar_f, it_t, it_f, true_and, and_true, not_true_eq_false, not_false_eq_true, implies_true, and_self, eq_self, h1, h2]
theorem s_back (hfu : 20000 ≤ fu) (hD : (if D.2.2.1 then 20 else 9) = t) (cv : CV fu t P np nl nw ht sg lo wd wx wy rn sd LW Y s l) (rv : RV fu lv P np nl nw ht sg lo wd wx wy rn sd LW Y s l) (mi : MI D P np ht u hs hm hy nt tl th nb s l) : Both fu ((f_X11_back fu v s l).1, D, (f_X11_back fu v s l).2.1, (f_X11_back fu v s l).2.2) (p_X11_back fu v s l) (f_X12_back fu v) (p_X12_back fu v) := by
  obtain ⟨n2, h1, h2, h3⟩ := mi.2.2.2.2.1
  unfold f_X11_back p_X11_back f_X12_back p_X12_back
  rcases ag3 v 0 nb (by omega) (by omega) with h | ⟨g1, g2, g3⟩ | ⟨n, _, hn4, rfl⟩
  · refine st_N (v := -nI 1) hD cv rv mi ?_ ?_ ?_ ?_ <;> simp (disch := omega) only [ln_, leT, leF, ltT, ltF, eqT, eqF, vpT, nlT, nleT, lnF, lenF, eqnF, neqF, nnF, nI_add, pk_mul, pk_div, pk_sub, ni_m, nI_clamp, md10, dm10, gI_l, gI_n, ar_t, ar_f, it_t, it_f, true_and, and_true, not_true_eq_false, not_false_eq_true, implies_true, and_self, eq_self, h]
  · refine st_N (v := -nI 1) hD cv rv mi ?_ ?_ ?_ ?_ <;> simp (disch := omega) only [ln_, leT, leF, ltT, ltF, eqT, eqF, vpT, nlT, nleT, lnF, lenF, eqnF, neqF, nnF, nI_add, pk_mul, pk_div, pk_sub, ni_m, nI_clamp, md10, dm10, gI_l, gI_n, ar_t, ar_f, it_t, it_f, true_and, and_true, not_true_eq_false, not_false_eq_true, implies_true, and_self, eq_self, g1, g3, h1, h2]
  · refine st_T (v := nI (nb - n)) (s1 := wi s 1 1 (nI (nb - n))) (s2 := wi (wi s 1 1 (nI (nb - n))) 60 2 (nI (nb - n))) (nb' := nb - n) hD cv rv mi ?_ ?_ ?_ ?_ (fun q i j _ _ => wi_c i) (fun j i _ => by simp (disch := omega) only [wi_c, wi_u, upd_s, upd_n, su_r, su_c]) (fun q i j _ _ => wi_c i) (tl_keep (by simp (disch := omega) only [wi_c, wi_u, upd_s, upd_n, su_r, su_c]) (by simp (disch := omega) only [wi_c, wi_u, upd_s, upd_n, su_r, su_c]) (by simp (disch := omega) only [wi_c, wi_u, upd_s, upd_n, su_r, su_c]) (by simp (disch := omega) only [wi_c, wi_u, upd_s, upd_n, su_r, su_c]) (by simp (disch := omega) only [wi_c, wi_u, upd_s, upd_n, su_r, su_c]) mi.2.2.2.1) ⟨by omega, by simp (disch := omega) only [wi_c, wi_u, upd_s, upd_n, su_r, su_c], by simp (disch := omega) only [wi_c, wi_u, upd_s, upd_n, su_r, su_c], fun i hi => by simp (disch := omega) only [wi_c, wi_u, upd_s, upd_n, su_r, su_c]; exact h3 i (by omega)⟩
    · simp (disch := omega) only [ln_, leT, leF, ltT, ltF, eqT, eqF, vpT, nlT, nleT, lnF, lenF, eqnF, neqF, nnF, nI_add, pk_mul, pk_div, pk_sub, ni_m, nI_clamp, md10, dm10, gI_l, gI_n, ar_t, ar_f, it_t, it_f, true_and, and_true, not_true_eq_false, not_false_eq_true, implies_true, and_self, eq_self, wi_c, wi_u, upd_s, upd_n, su_r, su_c, h1]
    · simp (disch := omega) only [ln_, leT, leF, ltT, ltF, eqT, eqF, vpT, nlT, nleT, lnF, lenF, eqnF, neqF, nnF, nI_add, pk_mul, pk_div, pk_sub, ni_m, nI_clamp, md10, dm10, gI_l, gI_n, ar_t, ar_f, it_t, it_f, true_and, and_true, not_true_eq_false, not_false_eq_true, implies_true, and_self, eq_self, wi_c, wi_u, upd_s, upd_n, su_r, su_c, h1]
    · simp (disch := omega) only [ln_, leT, leF, ltT, ltF, eqT, eqF, vpT, nlT, nleT, lnF, lenF, eqnF, neqF, nnF, nI_add, pk_mul, pk_div, pk_sub, ni_m, nI_clamp, md10, dm10, gI_l, gI_n, ar_t, ar_f, it_t, it_f, true_and, and_true, not_true_eq_false, not_false_eq_true, implies_true, and_self, eq_self, wi_c, wi_u, upd_s, upd_n, su_r, su_c, h2]
    · simp (disch := omega) only [ln_, leT, leF, ltT, ltF, eqT, eqF, vpT, nlT, nleT, lnF, lenF, eqnF, neqF, nnF, nI_add, pk_mul, pk_div, pk_sub, ni_m, nI_clamp, md10, dm10, gI_l, gI_n, ar_t, ar_f, it_t, it_f, true_and, and_true, not_true_eq_false, not_false_eq_true, implies_true, and_self, eq_self, wi_c, wi_u, upd_s, upd_n, su_r, su_c, h2]
theorem s_place (hD : (if D.2.2.1 then 20 else 9) = t) (cv : CV fu t P np nl nw ht sg lo wd wx wy rn sd LW Y s l) (rv : RV fu lv P np nl nw ht sg lo wd wx wy rn sd LW Y s l) (mi : MI D P np ht u hs hm hy nt tl th nb s l) : Both fu (f_X11_place fu s l, D, s, l) (p_X11_place fu s l) (fun s l => (f_X12_place fu s l, s, l)) (p_X12_place fu) :=
  st_N (v := s 0 14) hD cv rv mi rfl trivial (by show (s 60 17, s, l) = _; rw [mi.2.2.2.2.2.1]) trivial
theorem s_forget (hD : (if D.2.2.1 then 20 else 9) = t) (cv : CV fu t P np nl nw ht sg lo wd wx wy rn sd LW Y s l) (rv : RV fu lv P np nl nw ht sg lo wd wx wy rn sd LW Y s l) (mi : MI D P np ht u hs hm hy nt tl th nb s l) : Both fu ((f_X11_forget fu s l).1, D, (f_X11_forget fu s l).2.1, (f_X11_forget fu s l).2.2) (p_X11_forget fu s l) (f_X12_forget fu) (p_X12_forget fu) := by
  obtain ⟨n2, h1, h2, h3⟩ := mi.2.2.2.2.1
  obtain ⟨⟨c1, c2⟩, ⟨r1, r2⟩, b1, b2⟩ := mi.2.2.2.1
  unfold f_X11_forget p_X11_forget f_X12_forget p_X12_forget
  refine st_T (v := nI nt) (s1 := wi s 57 0 (nI 0)) (s2 := wi (wi s 57 0 (nI 0)) 60 65 (nI 0)) (nt' := 0) (tl' := tl) (th' := th) hD cv rv mi ?_ trivial ?_ trivial (fun q _ _ i _ => wi_c i) (fun j _ i => by simp (disch := omega) only [wi_c, wi_u, upd_s, upd_n, su_r, su_c]) (fun q i _ _ _ => wi_c i) ⟨⟨by simp (disch := omega) only [wi_c, wi_u, upd_s, upd_n, su_r, su_c], fun k hk => absurd hk (Nat.not_lt_zero k)⟩, ⟨by simp (disch := omega) only [wi_c, wi_u, upd_s, upd_n, su_r, su_c], fun k hk => absurd hk (Nat.not_lt_zero k)⟩, by omega, fun k hk => absurd hk (Nat.not_lt_zero k)⟩ ⟨n2, by simp (disch := omega) only [wi_c, wi_u, upd_s, upd_n, su_r, su_c]; exact h1, by simp (disch := omega) only [wi_c, wi_u, upd_s, upd_n, su_r, su_c]; exact h2, fun i hi => by simp (disch := omega) only [wi_c, wi_u, upd_s, upd_n, su_r, su_c]; exact h3 i hi⟩
  · simp (disch := omega) only [ln_, leT, leF, ltT, ltF, eqT, eqF, vpT, nlT, nleT, lnF, lenF, eqnF, neqF, nnF, nI_add, pk_mul, pk_div, pk_sub, ni_m, nI_clamp, md10, dm10, gI_l, gI_n, wi_c, wi_u, upd_s, upd_n, su_r, su_c, c1]
  · simp (disch := omega) only [ln_, leT, leF, ltT, ltF, eqT, eqF, vpT, nlT, nleT, lnF, lenF, eqnF, neqF, nnF, nI_add, pk_mul, pk_div, pk_sub, ni_m, nI_clamp, md10, dm10, gI_l, gI_n, wi_c, wi_u, upd_s, upd_n, su_r, su_c, r1]
theorem s_tell (hw : w = nI 0 ∨ w = nI 1) (hD : (if D.2.2.1 then 20 else 9) = t) (cv : CV fu t P np nl nw ht sg lo wd wx wy rn sd LW Y s l) (rv : RV fu lv P np nl nw ht sg lo wd wx wy rn sd LW Y s l) (mi : MI D P np ht u hs hm hy nt tl th nb s l) : Both fu ((f_X11_tell fu v w s l).1, D, (f_X11_tell fu v w s l).2.1, (f_X11_tell fu v w s l).2.2) (p_X11_tell fu v w s l) (f_X12_tell fu v w) (p_X12_tell fu v w) := by
  obtain ⟨n2, h1, h2, h3⟩ := mi.2.2.2.2.1
  obtain ⟨⟨c1, c2⟩, ⟨r1, r2⟩, b1, b2⟩ := mi.2.2.2.1
  unfold f_X11_tell p_X11_tell f_X12_tell p_X12_tell f_X12_in p_X12_in
  rcases ag3 v 1 26 (by omega) (by omega) with h | ⟨g1, g2, g3⟩ | ⟨n, hn1, hn26, rfl⟩
  · by_cases e : nt = 20 <;> refine st_N (v := -nI 1) hD cv rv mi ?_ ?_ ?_ ?_ <;> simp (disch := omega) only [ln_, leT, leF, ltT, ltF, eqT, eqF, vpT, nlT, nleT, lnF, lenF, eqnF, neqF, nnF, nI_add, pk_mul, pk_div, pk_sub, ni_m, nI_clamp, md10, dm10, gI_l, gI_n, ar_t, ar_f, it_t, it_f, true_and, and_true, not_true_eq_false, not_false_eq_true, implies_true, and_self, eq_self, h, c1, r1]
  · by_cases e : nt = 20 <;> refine st_N (v := -nI 1) hD cv rv mi ?_ ?_ ?_ ?_ <;> simp (disch := omega) only [ln_, leT, leF, ltT, ltF, eqT, eqF, vpT, nlT, nleT, lnF, lenF, eqnF, neqF, nnF, nI_add, pk_mul, pk_div, pk_sub, ni_m, nI_clamp, md10, dm10, gI_l, gI_n, ar_t, ar_f, it_t, it_f, true_and, and_true, not_true_eq_false, not_false_eq_true, implies_true, and_self, eq_self, g1, g2, g3, c1, r1]
  · by_cases e : nt = 20
    · refine st_N (v := -nI 1) hD cv rv mi ?_ ?_ ?_ ?_ <;> simp (disch := omega) only [ln_, leT, leF, ltT, ltF, eqT, eqF, vpT, nlT, nleT, lnF, lenF, eqnF, neqF, nnF, nI_add, pk_mul, pk_div, pk_sub, ni_m, nI_clamp, md10, dm10, gI_l, gI_n, ar_t, ar_f, it_t, it_f, true_and, and_true, not_true_eq_false, not_false_eq_true, implies_true, and_self, eq_self, c1, r1]
    · have tt : ∀ (wb : Bool) (v1 v2 : Int32) (s9 : fl_I), v1 = (if wb = true then nI n else -nI n) → v2 = (if wb = true then nI 1 else nI 0) → s9 = wi (wi (wi (wi (wi s 58 nt v1) 57 0 (nI (nt + 1))) 103 nt (nI n)) 104 nt v2) 60 65 (nI (nt + 1)) → cTo (nt + 1) (fun k => if k = nt then n else tl k) (fun k => if k = nt then wb else th k) s9 ∧ rTo (nt + 1) (fun k => if k = nt then n else tl k) (fun k => if k = nt then wb else th k) s9 ∧ bTo (nt + 1) (fun k => if k = nt then n else tl k) := by
        intro wb v1 v2 s9 e1 e2 e3
        subst e3
        refine ⟨⟨by simp (disch := omega) only [wi_c, wi_u, upd_s, upd_n, su_r, su_c], fun k hk => ?_⟩, ⟨by simp (disch := omega) only [wi_c, wi_u, upd_s, upd_n, su_r, su_c], fun k hk => ?_⟩, by omega, fun k hk => ?_⟩ <;> dsimp only
        · by_cases ek : k = nt
          · subst ek; simp (disch := omega) only [wi_c, wi_u, upd_s, upd_n, su_r, su_c, eq_self, it_t]; exact e1
          · simp (disch := omega) only [wi_c, wi_u, upd_s, upd_n, su_r, su_c, if_neg ek]; exact c2 k (by omega)
        · by_cases ek : k = nt
          · subst ek; simp (disch := omega) only [wi_c, wi_u, upd_s, upd_n, su_r, su_c, eq_self, it_t]; exact ⟨trivial, e2⟩
          · simp (disch := omega) only [wi_c, wi_u, upd_s, upd_n, su_r, su_c, if_neg ek]; exact r2 k (by omega)
        · by_cases ek : k = nt
          · rw [if_pos ek]; omega
          · rw [if_neg ek]; exact b2 k (by omega)
      rcases hw with rfl | rfl
      · refine st_T (v := nI nt) (s1 := wi (wi s 58 nt (-nI n)) 57 0 (nI (nt + 1))) (s2 := wi (wi (wi (wi (wi s 58 nt (-nI n)) 57 0 (nI (nt + 1))) 103 nt (nI n)) 104 nt (nI 0)) 60 65 (nI (nt + 1))) hD cv rv mi ?_ ?_ ?_ ?_ (fun q _ _ i j => by simp (disch := omega) only [wi_c, wi_u, upd_s, upd_n, su_r, su_c]) (fun j _ i => by simp (disch := omega) only [wi_c, wi_u, upd_s, upd_n, su_r, su_c]) (fun q i _ _ _ => by simp (disch := omega) only [wi_c, wi_u, upd_s, upd_n, su_r, su_c]) (tt false _ _ _ rfl rfl rfl) ⟨n2, by simp (disch := omega) only [wi_c, wi_u, upd_s, upd_n, su_r, su_c]; exact h1, by simp (disch := omega) only [wi_c, wi_u, upd_s, upd_n, su_r, su_c]; exact h2, fun i hi => by simp (disch := omega) only [wi_c, wi_u, upd_s, upd_n, su_r, su_c]; exact h3 i hi⟩
        · unfold f_X7_add; simp (disch := omega) only [ln_, leT, leF, ltT, ltF, eqT, eqF, vpT, nlT, nleT, lnF, lenF, eqnF, neqF, nnF, nI_add, pk_mul, pk_div, pk_sub, ni_m, nI_clamp, md10, dm10, gI_l, gI_n, ar_t, ar_f, it_t, it_f, true_and, and_true, not_true_eq_false, not_false_eq_true, implies_true, and_self, eq_self, wi_c, wi_u, upd_s, upd_n, su_r, su_c, c1, Nat.add_sub_cancel]
        · unfold p_X7_add; simp (disch := omega) only [ln_, leT, leF, ltT, ltF, eqT, eqF, vpT, nlT, nleT, lnF, lenF, eqnF, neqF, nnF, nI_add, pk_mul, pk_div, pk_sub, ni_m, nI_clamp, md10, dm10, gI_l, gI_n, ar_t, ar_f, it_t, it_f, true_and, and_true, not_true_eq_false, not_false_eq_true, implies_true, and_self, eq_self, wi_c, wi_u, upd_s, upd_n, su_r, su_c, c1]
        · simp (disch := omega) only [ln_, leT, leF, ltT, ltF, eqT, eqF, vpT, nlT, nleT, lnF, lenF, eqnF, neqF, nnF, nI_add, pk_mul, pk_div, pk_sub, ni_m, nI_clamp, md10, dm10, gI_l, gI_n, ar_t, ar_f, it_t, it_f, true_and, and_true, not_true_eq_false, not_false_eq_true, implies_true, and_self, eq_self, wi_c, wi_u, upd_s, upd_n, su_r, su_c, r1, nar0, Nat.add_sub_cancel]
        · simp (disch := omega) only [ln_, leT, leF, ltT, ltF, eqT, eqF, vpT, nlT, nleT, lnF, lenF, eqnF, neqF, nnF, nI_add, pk_mul, pk_div, pk_sub, ni_m, nI_clamp, md10, dm10, gI_l, gI_n, ar_t, ar_f, it_t, it_f, true_and, and_true, not_true_eq_false, not_false_eq_true, implies_true, and_self, eq_self, wi_c, wi_u, upd_s, upd_n, su_r, su_c, r1]
      · refine st_T (v := nI nt) (s1 := wi (wi s 58 nt (nI n)) 57 0 (nI (nt + 1))) (s2 := wi (wi (wi (wi (wi s 58 nt (nI n)) 57 0 (nI (nt + 1))) 103 nt (nI n)) 104 nt (nI 1)) 60 65 (nI (nt + 1))) hD cv rv mi ?_ ?_ ?_ ?_ (fun q _ _ i j => by simp (disch := omega) only [wi_c, wi_u, upd_s, upd_n, su_r, su_c]) (fun j _ i => by simp (disch := omega) only [wi_c, wi_u, upd_s, upd_n, su_r, su_c]) (fun q i _ _ _ => by simp (disch := omega) only [wi_c, wi_u, upd_s, upd_n, su_r, su_c]) (tt true _ _ _ rfl rfl rfl) ⟨n2, by simp (disch := omega) only [wi_c, wi_u, upd_s, upd_n, su_r, su_c]; exact h1, by simp (disch := omega) only [wi_c, wi_u, upd_s, upd_n, su_r, su_c]; exact h2, fun i hi => by simp (disch := omega) only [wi_c, wi_u, upd_s, upd_n, su_r, su_c]; exact h3 i hi⟩
        · unfold f_X7_add; simp (disch := omega) only [ln_, leT, leF, ltT, ltF, eqT, eqF, vpT, nlT, nleT, lnF, lenF, eqnF, neqF, nnF, nI_add, pk_mul, pk_div, pk_sub, ni_m, nI_clamp, md10, dm10, gI_l, gI_n, ar_t, ar_f, it_t, it_f, true_and, and_true, not_true_eq_false, not_false_eq_true, implies_true, and_self, eq_self, wi_c, wi_u, upd_s, upd_n, su_r, su_c, c1, Nat.add_sub_cancel]
        · unfold p_X7_add; simp (disch := omega) only [ln_, leT, leF, ltT, ltF, eqT, eqF, vpT, nlT, nleT, lnF, lenF, eqnF, neqF, nnF, nI_add, pk_mul, pk_div, pk_sub, ni_m, nI_clamp, md10, dm10, gI_l, gI_n, ar_t, ar_f, it_t, it_f, true_and, and_true, not_true_eq_false, not_false_eq_true, implies_true, and_self, eq_self, wi_c, wi_u, upd_s, upd_n, su_r, su_c, c1]
        · simp (disch := omega) only [ln_, leT, leF, ltT, ltF, eqT, eqF, vpT, nlT, nleT, lnF, lenF, eqnF, neqF, nnF, nI_add, pk_mul, pk_div, pk_sub, ni_m, nI_clamp, md10, dm10, gI_l, gI_n, ar_t, ar_f, it_t, it_f, true_and, and_true, not_true_eq_false, not_false_eq_true, implies_true, and_self, eq_self, wi_c, wi_u, upd_s, upd_n, su_r, su_c, r1, nar1, Nat.add_sub_cancel]
        · simp (disch := omega) only [ln_, leT, leF, ltT, ltF, eqT, eqF, vpT, nlT, nleT, lnF, lenF, eqnF, neqF, nnF, nI_add, pk_mul, pk_div, pk_sub, ni_m, nI_clamp, md10, dm10, gI_l, gI_n, ar_t, ar_f, it_t, it_f, true_and, and_true, not_true_eq_false, not_false_eq_true, implies_true, and_self, eq_self, wi_c, wi_u, upd_s, upd_n, su_r, su_c, r1]
end mu2
