/-! All of it: what holds between the two before each call -/
def kw (k : Nat) : List Nat := match k with
  | 0 => [12, 5, 20, 20, 5, 18] | 1 => [23, 15, 18, 4] | 2 => [16, 9, 3, 11, 5, 18] | 3 => [2, 12, 15, 23, 19] | 4 => [20, 1, 11, 5, 19] | 5 => [16, 1, 25, 19] | 6 => [23, 9, 14, 4] | 7 => [18, 1, 9, 14] | 8 => [19, 5, 5, 4] | 9 => [9, 6] | 10 => [20, 8, 5, 14] | 11 => [5, 12, 19, 5] | 12 => [19, 9, 7, 14] | 13 => [1, 3, 18, 15, 19, 19] | 14 => [4, 15, 23, 14] | 15 => [8, 15, 21, 18] | 16 => [12, 1, 9, 14] | 17 => [8, 1, 20] | 18 => [8, 1, 19] | 19 => [8, 5, 18, 5] | _ => [23, 8, 9, 3, 8]
def KY (l : fl_L) : Prop := ∀ k, k < 21 → l 8 k = lN (p5 (kw k)) ∧ l 67 k = lN (p27 (kw k).reverse)
def TP (n : Nat) (s : fl_I) : Prop := n ≤ 2000 ∧ s 1 1 = nI n ∧ s 60 2 = nI n ∧ ∀ i, i < n → s 61 i = s 2 i
def MI (D : fl_D) (P np : Nat) (ht : Nat → Nat) (u : Nat) (hs : Nat → Yd) (hm : Nat) (hy : Nat → Yd) (nt : Nat) (tl : Nat → Nat) (th : Nat → Bool) (nb : Nat) (s : fl_I) (l : fl_L) : Prop :=
  dI D ∧ (cP D P np u hs s ∧ rP P np u hs s ∧ ∀ k, k < u → YW P np ht (hs k)) ∧ (cL D P np hm hy s ∧ rL P np hm hy s ∧ ∀ k, k < 3 → bt hm k = 1 → YW P np ht (hy k)) ∧ (cTo nt tl th s ∧ rTo nt tl th s ∧ bTo nt tl) ∧ TP nb s ∧ s 0 14 = s 60 17 ∧ KY l
def INV (fu : Nat) (D : fl_D) (s : fl_I) (l : fl_L) : Prop := ∃ (t lv P np nl nw : Nat) (ht sg lo : Nat → Nat) (wd : Nat → List Nat) (wx wy rn sd : Int32) (LW : Lw) (Y : Yd) (u : Nat) (hs : Nat → Yd) (hm : Nat) (hy : Nat → Yd) (nt : Nat) (tl : Nat → Nat) (th : Nat → Bool) (nb : Nat),
  (if D.2.2.1 then 20 else 9) = t ∧ CV fu t P np nl nw ht sg lo wd wx wy rn sd LW Y s l ∧ RV fu lv P np nl nw ht sg lo wd wx wy rn sd LW Y s l ∧ MI D P np ht u hs hm hy nt tl th nb s l
/-- a call of both: they answer alike, and all holds again -/
def Both (fu : Nat) (fA : Int32 × fl_D × fl_I × fl_L) (pA : Prop) (fB : fl_I → fl_L → Int32 × fl_I × fl_L) (pB : fl_I → fl_L → Prop) : Prop :=
  ∃ v D1 s1 l1 s2 l2, fA = (v, D1, s1, l1) ∧ pA ∧ fB s1 l1 = (v, s2, l2) ∧ pB s1 l1 ∧ INV fu D1 s2 l2
section all
variable {fu t lv P np nl nw : Nat} {ht sg lo : Nat → Nat} {wd : Nat → List Nat} {wx wy rn sd : Int32} {LW : Lw} {Y : Yd} {s s1 s2 : fl_I} {l : fl_L} {D : fl_D} {u hm nt nb : Nat} {hs hy : Nat → Yd} {tl : Nat → Nat} {th : Nat → Bool} {D1 : fl_D} {a i b c q k n g m : Nat} {x y z v : Int32} {Z : Yd}
/-- the class's cells among those that count are as they were -/
theorem MI_c (h : ∀ q, q < 60 → (q = 0 ∨ q = 1 ∨ q = 2 ∨ q = 43 ∨ q = 57 ∨ q = 58) → s1 q = s q) (h2 : ∀ q, 60 ≤ q → q < 107 → s1 q = s q) (h3 : ∀ q, 107 ≤ q → q ≠ D.2.2.2.1 → s1 q = s q) (r : MI D P np ht u hs hm hy nt tl th nb s l) : MI D P np ht u hs hm hy nt tl th nb s1 l := by
  obtain ⟨hd, ⟨c1, c2, c3⟩, ⟨l1, l2, l3⟩, ⟨t1, t2, t3⟩, ⟨p1, p2, p3, p4⟩, pl, ky⟩ := r
  have hk : ∀ p, pYd D p → ∀ k, k ≤ 5 → s1 (p + k) = s (p + k) := fun p hp k hk => by
    have := frI_dj hd.2.1 hp
    exact h3 (p + k) (by have := hp.1; omega) (by omega)
  refine ⟨hd, ⟨cP_keep (fun _ _ _ => trivial) (h 43 (by omega) (by omega)) hk hd c1, ⟨by rw [h2 60 (by omega) (by omega)]; exact c2.1, by rw [h2 99 (by omega) (by omega)]; exact c2.2⟩, c3⟩, ⟨cL_keep (by rw [h 0 (by omega) (by omega)]) hk hd l1, fun k hk => ?_, l3⟩, ⟨⟨by rw [h 57 (by omega) (by omega)]; exact t1.1, by rw [h 58 (by omega) (by omega)]; exact t1.2⟩, ⟨by rw [h2 60 (by omega) (by omega)]; exact t2.1, by rw [h2 103 (by omega) (by omega), h2 104 (by omega) (by omega)]; exact t2.2⟩, t3⟩, ⟨p1, by rw [h 1 (by omega) (by omega)]; exact p2, by rw [h2 60 (by omega) (by omega)]; exact p3, by rw [h2 61 (by omega) (by omega), h 2 (by omega) (by omega)]; exact p4⟩, by rw [h 0 (by omega) (by omega), h2 60 (by omega) (by omega)]; exact pl, ky⟩
  rw [h2 105 (by omega) (by omega), h2 106 (by omega) (by omega)]; exact l2 k hk
theorem MI_r (h : rS s s1) (r : MI D P np ht u hs hm hy nt tl th nb s l) : MI D P np ht u hs hm hy nt tl th nb s1 l := by
  obtain ⟨hd, ⟨c1, c2, c3⟩, ⟨l1, l2, l3⟩, ⟨t1, t2, t3⟩, ⟨p1, p2, p3, p4⟩, pl, ky⟩ := r
  have g : ∀ q, q ≠ 60 → q ≠ 92 → q ≠ 93 → q ≠ 95 → q ≠ 98 → q ≠ 100 → q ≠ 101 → q ≠ 102 → s1 q = s q := h.1
  have hk : ∀ p, pYd D p → ∀ k, k ≤ 5 → s1 (p + k) = s (p + k) := fun p hp k hk => g (p + k) (by have := hp.1; omega) (by have := hp.1; omega) (by have := hp.1; omega) (by have := hp.1; omega) (by have := hp.1; omega) (by have := hp.1; omega) (by have := hp.1; omega) (by have := hp.1; omega)
  refine ⟨hd, ⟨cP_keep (fun _ _ _ => trivial) (g 43 (by omega) (by omega) (by omega) (by omega) (by omega) (by omega) (by omega) (by omega)) hk hd c1, ⟨by rw [h.2 58 (by omega) (by omega) (by omega) (by omega) (by omega)]; exact c2.1, by rw [g 99 (by omega) (by omega) (by omega) (by omega) (by omega) (by omega) (by omega) (by omega)]; exact c2.2⟩, c3⟩, ⟨cL_keep (by rw [g 0 (by omega) (by omega) (by omega) (by omega) (by omega) (by omega) (by omega) (by omega)]) hk hd l1, fun k hk => ?_, l3⟩, ⟨⟨by rw [g 57 (by omega) (by omega) (by omega) (by omega) (by omega) (by omega) (by omega) (by omega)]; exact t1.1, by rw [g 58 (by omega) (by omega) (by omega) (by omega) (by omega) (by omega) (by omega) (by omega)]; exact t1.2⟩, ⟨by rw [h.2 65 (by omega) (by omega) (by omega) (by omega) (by omega)]; exact t2.1, by rw [g 103 (by omega) (by omega) (by omega) (by omega) (by omega) (by omega) (by omega) (by omega), g 104 (by omega) (by omega) (by omega) (by omega) (by omega) (by omega) (by omega) (by omega)]; exact t2.2⟩, t3⟩, ⟨p1, by rw [g 1 (by omega) (by omega) (by omega) (by omega) (by omega) (by omega) (by omega) (by omega)]; exact p2, by rw [h.2 2 (by omega) (by omega) (by omega) (by omega) (by omega)]; exact p3, by rw [g 61 (by omega) (by omega) (by omega) (by omega) (by omega) (by omega) (by omega) (by omega), g 2 (by omega) (by omega) (by omega) (by omega) (by omega) (by omega) (by omega) (by omega)]; exact p4⟩, by rw [g 0 (by omega) (by omega) (by omega) (by omega) (by omega) (by omega) (by omega) (by omega), h.2 17 (by omega) (by omega) (by omega) (by omega) (by omega)]; exact pl, ky⟩
  rw [g 105 (by omega) (by omega) (by omega) (by omega) (by omega) (by omega) (by omega) (by omega), g 106 (by omega) (by omega) (by omega) (by omega) (by omega) (by omega) (by omega) (by omega)]; exact l2 k hk
theorem MI_cS (h : cS s s1) (h3 : ∀ q, 107 ≤ q → q ≠ D.2.2.2.1 → s1 q = s q) (r : MI D P np ht u hs hm hy nt tl th nb s l) : MI D P np ht u hs hm hy nt tl th nb s1 l := MI_c (fun q a b => h q (by omega) (by omega) (by omega) (by omega) (by omega) (by omega) (by omega) (by omega)) (fun q a b => h q (by omega) (by omega) (by omega) (by omega) (by omega) (by omega) (by omega) (by omega)) h3 r
/-- the class's part lies as it did -/
theorem CV_rS (h : rS s s1) (r : CV fu t P np nl nw ht sg lo wd wx wy rn sd LW Y s l) : CV fu t P np nl nw ht sg lo wd wx wy rn sd LW Y s1 l := by
  obtain ⟨r0, ⟨r1, r2, r3, r4, r5⟩, r6, r7, r8, r9, r10⟩ := r
  have g : ∀ q, q < 60 → s1 q = s q := fun q hq => h.1 q (by omega) (by omega) (by omega) (by omega) (by omega) (by omega) (by omega) (by omega)
  refine ⟨r0, ⟨?_, ?_, ?_, ?_, r5⟩, LC_keep (g (t + 9) (by omega)) (g (t + 10) (by omega)) r6, r7, yC_keep (fun k hk => g (31 + k) (by omega)) r8, r9, r10⟩
  · rw [g t (by omega)]; exact r1
  · rw [g (t + 4) (by omega), g (t + 5) (by omega)]; exact r2
  · rw [g (t + 8) (by omega)]; exact r3
  · rw [g t (by omega)]; exact r4
theorem st_Q {fA : Int32 × fl_I × fl_L} {pA : Prop} {fB : fl_I → fl_L → Int32 × fl_I × fl_L} {pB : fl_I → fl_L → Prop} (hD : (if D.2.2.1 then 20 else 9) = t) (cv : CV fu t P np nl nw ht sg lo wd wx wy rn sd LW Y s l) (rv : RV fu lv P np nl nw ht sg lo wd wx wy rn sd LW Y s l) (mi : MI D P np ht u hs hm hy nt tl th nb s l) (Q : Qy s l fA pA fB pB) : Both fu (fA.1, D, fA.2.1, fA.2.2) pA fB pB := by
  obtain ⟨v, s1, s2, e1, p1, cs, ck, e2, p2, rs⟩ := Q
  subst e1
  have cv2 : CV fu t P np nl nw ht sg lo wd wx wy rn sd LW Y s2 l := CV_rS rs (CV_S cs cv)
  have rv2 : RV fu lv P np nl nw ht sg lo wd wx wy rn sd LW Y s2 l := RV_S (rS_V rs) (RV_S (cS_V cs) rv)
  have mi2 : MI D P np ht u hs hm hy nt tl th nb s2 l := MI_r rs (MI_cS cs (fun q a _ => ck q a) mi)
  exact ⟨v, D, s1, l, s2, l, rfl, p1, e2, p2, t, lv, P, np, nl, nw, ht, sg, lo, wd, wx, wy, rn, sd, LW, Y, u, hs, hm, hy, nt, tl, th, nb, hD, cv2, rv2, mi2⟩
theorem dI_D1 (h : dI D) (hD : D1 = D ∨ (D.2.2.2.1 = 54 ∧ D1 = D_t D ∧ frok D1)) : dI D1 ∧ D1.2.2.1 = D.2.2.1 ∧ D1.2.2.2.2.1 = D.2.2.2.2.1 ∧ D1.2.2.2.2.2 = D.2.2.2.2.2 := by
  rcases hD with e | ⟨_, e, _⟩
  · rw [e]; exact ⟨h, rfl, rfl, rfl⟩
  · rw [e]; exact ⟨dI_t h, rfl, rfl, rfl⟩
theorem st_D {fA : Int32 × fl_D × fl_I × fl_L} {pA : Prop} {fB : fl_I → fl_L → Int32 × fl_I × fl_L} {pB : fl_I → fl_L → Prop} (hD : (if D.2.2.1 then 20 else 9) = t) (cv : CV fu t P np nl nw ht sg lo wd wx wy rn sd LW Y s l) (rv : RV fu lv P np nl nw ht sg lo wd wx wy rn sd LW Y s l) (mi : MI D P np ht u hs hm hy nt tl th nb s l) (Q : Qd D s l fA pA fB pB) : Both fu fA pA fB pB := by
  obtain ⟨v, D1, s1, s2, e1, p1, cs, hD1, ck, e2, p2, rs⟩ := Q
  subst e1
  obtain ⟨d1, d2, d3, d4⟩ := dI_D1 mi.1 hD1
  have mi1 : MI D1 P np ht u hs hm hy nt tl th nb s l := by
    obtain ⟨hd, ⟨c1, c2, c3⟩, ⟨l1, l2, l3⟩, r⟩ := mi
    refine ⟨d1, ⟨?_, c2, c3⟩, ⟨?_, l2, l3⟩, r⟩
    · unfold cP at c1 ⊢; rw [d3]; exact c1
    · unfold cL at l1 ⊢; rw [d4]; exact l1
  have cv2 : CV fu t P np nl nw ht sg lo wd wx wy rn sd LW Y s2 l := CV_rS rs (CV_S cs cv)
  have rv2 : RV fu lv P np nl nw ht sg lo wd wx wy rn sd LW Y s2 l := RV_S (rS_V rs) (RV_S (cS_V cs) rv)
  have mi2 : MI D1 P np ht u hs hm hy nt tl th nb s2 l := MI_r rs (MI_cS cs ck mi1)
  exact ⟨v, D1, s1, l, s2, l, rfl, p1, e2, p2, t, lv, P, np, nl, nw, ht, sg, lo, wd, wx, wy, rn, sd, LW, Y, u, hs, hm, hy, nt, tl, th, nb, by rw [d2]; exact hD, cv2, rv2, mi2⟩
/-- a call that changes the yard: what the class did, what the reference did -/
theorem st_M {fA : Int32 × fl_D × fl_I × fl_L} {pA : Prop} {fB : fl_I → fl_L → Int32 × fl_I × fl_L} {pB : fl_I → fl_L → Prop} {u' : Nat} {hs' : Nat → Yd} (hD : (if D.2.2.1 then 20 else 9) = t) (cv : CV fu t P np nl nw ht sg lo wd wx wy rn sd LW Y s l) (rv : RV fu lv P np nl nw ht sg lo wd wx wy rn sd LW Y s l) (mi : MI D P np ht u hs hm hy nt tl th nb s l) (zw : YW P np ht Z) (hw : ∀ k, k < u' → YW P np ht (hs' k))
    (hA : fA = (v, D1, s1, l)) (pA1 : pA) (d1 : dI D1) (d2 : D1.2.2.1 = D.2.2.1) (c1 : cP D1 P np u' hs' s1) (c2 : cL D1 P np hm hy s1) (c3 : yC P np Z 31 s1) (c4 : ∀ q, q < 107 → (q < 31 ∨ 36 < q) → q ≠ 43 → q ≠ 48 → q ≠ 49 → q ≠ 50 → s1 q = s q)
    (hB : fB s1 l = (v, s2, l)) (pB1 : pB s1 l) (b1 : rP P np u' hs' s2) (b2 : YF P np Z (s2 94)) (b3 : ∀ j, j ≠ 49 → j ≠ 52 → j ≠ 53 → j ≠ 58 → s2 60 j = s1 60 j) (b4 : ∀ q, q ≠ 60 → q ≠ 92 → q ≠ 93 → q ≠ 94 → q ≠ 95 → q ≠ 98 → q ≠ 99 → s2 q = s1 q) : Both fu fA pA fB pB := by
  obtain ⟨r0, ⟨q1, q2, q3, q4, q5⟩, q6, q7, q8, q9, q10⟩ := cv
  obtain ⟨⟨a1, a2, a3, a4, a5, a6, a7, a8, a9, a10⟩, ⟨x1, x2, x3, x4⟩, lr, _, yf, _, _⟩ := rv
  obtain ⟨hd, ⟨_, _, _⟩, ⟨l1, l2, l3⟩, ⟨t1, t2, t3⟩, ⟨p1, p2, p3, p4⟩, pl, ky⟩ := mi
  have g : ∀ q, q < 107 → (q < 31 ∨ 36 < q) → q ≠ 43 → q ≠ 48 → q ≠ 49 → q ≠ 50 → q ≠ 60 → q ≠ 92 → q ≠ 93 → q ≠ 94 → q ≠ 95 → q ≠ 98 → q ≠ 99 → s2 q = s q := fun q h1 h2 h3 h4 h5 h6 h7 h8 h9 h10 h11 h12 h13 => by rw [b4 q h7 h8 h9 h10 h11 h12 h13]; exact c4 q h1 h2 h3 h4 h5 h6
  have g60 : ∀ j, j ≠ 49 → j ≠ 52 → j ≠ 53 → j ≠ 58 → s2 60 j = s 60 j := fun j h1 h2 h3 h4 => by rw [b3 j h1 h2 h3 h4, c4 60 (by omega) (by omega) (by omega) (by omega) (by omega) (by omega)]
  have gt : ∀ q, t ≤ q → q ≤ t + 10 → s2 q = s q := fun q h1 h2 => g q (by omega) (by omega) (by omega) (by omega) (by omega) (by omega) (by omega) (by omega) (by omega) (by omega) (by omega) (by omega) (by omega)
  have g' : ∀ q, q < 107 → (q < 31 ∨ 50 < q) → q ≠ 60 → q ≠ 92 → q ≠ 93 → q ≠ 94 → q ≠ 95 → q ≠ 98 → q ≠ 99 → s2 q = s q := fun q h1 h2 h7 h8 h9 h10 h11 h12 h13 => g q h1 (by omega) (by omega) (by omega) (by omega) (by omega) h7 h8 h9 h10 h11 h12 h13
  have cv2 : CV fu t P np nl nw ht sg lo wd wx wy rn sd LW Z s2 l := by
    refine ⟨r0, ⟨?_, ?_, ?_, ?_, q5⟩, LC_keep (gt (t + 9) (by omega) (by omega)) (gt (t + 10) (by omega) (by omega)) q6, q7, ?_, zw, q10⟩
    · rw [gt t (by omega) (by omega)]; exact q1
    · rw [gt (t + 4) (by omega) (by omega), gt (t + 5) (by omega) (by omega)]; exact q2
    · rw [gt (t + 8) (by omega) (by omega)]; exact q3
    · rw [gt t (by omega) (by omega)]; exact q4
    · exact yC_keep (fun k hk => b4 (31 + k) (by omega) (by omega) (by omega) (by omega) (by omega) (by omega) (by omega)) c3
  have rv2 : RV fu lv P np nl nw ht sg lo wd wx wy rn sd LW Z s2 l := by
    refine ⟨⟨a1, by rw [g60 18 (by omega) (by omega) (by omega) (by omega)]; exact a2, by rw [g60 54 (by omega) (by omega) (by omega) (by omega)]; exact a3, ?_, ?_, ?_, ?_, ?_, ?_, ?_⟩, ⟨?_, ?_, ?_, x4⟩, ?_, q7, b2, zw, q10⟩
    · rw [g' 74 (by omega) (by omega) (by omega) (by omega) (by omega) (by omega) (by omega) (by omega) (by omega)]; exact a4
    · rw [g' 78 (by omega) (by omega) (by omega) (by omega) (by omega) (by omega) (by omega) (by omega) (by omega)]; exact a5
    · rw [g' 96 (by omega) (by omega) (by omega) (by omega) (by omega) (by omega) (by omega) (by omega) (by omega)]; exact a6
    · rw [g' 79 (by omega) (by omega) (by omega) (by omega) (by omega) (by omega) (by omega) (by omega) (by omega)]; exact a7
    · rw [g' 79 (by omega) (by omega) (by omega) (by omega) (by omega) (by omega) (by omega) (by omega) (by omega)]; exact a8
    · rw [g' 80 (by omega) (by omega) (by omega) (by omega) (by omega) (by omega) (by omega) (by omega) (by omega)]; exact a9
    · rw [g' 81 (by omega) (by omega) (by omega) (by omega) (by omega) (by omega) (by omega) (by omega) (by omega)]; exact a10
    · rw [g' 68 (by omega) (by omega) (by omega) (by omega) (by omega) (by omega) (by omega) (by omega) (by omega)]; exact x1
    · rw [g' 72 (by omega) (by omega) (by omega) (by omega) (by omega) (by omega) (by omega) (by omega) (by omega)]; exact x2
    · rw [g' 97 (by omega) (by omega) (by omega) (by omega) (by omega) (by omega) (by omega) (by omega) (by omega)]; exact x3
    · exact LR_keep lr (fun q h1 h2 => g' q (by omega) (by omega) (by omega) (by omega) (by omega) (by omega) (by omega) (by omega) (by omega)) (g60 18 (by omega) (by omega) (by omega) (by omega))
  have c1' : cP D1 P np u' hs' s2 := cP_keep (fun _ _ _ => trivial) (b4 43 (by omega) (by omega) (by omega) (by omega) (by omega) (by omega) (by omega)) (fun p hp k hk => b4 (p + k) (by have := hp.1; omega) (by have := hp.1; omega) (by have := hp.1; omega) (by have := hp.1; omega) (by have := hp.1; omega) (by have := hp.1; omega) (by have := hp.1; omega)) d1 c1
  have c2' : cL D1 P np hm hy s2 := cL_keep (by rw [b4 0 (by omega) (by omega) (by omega) (by omega) (by omega) (by omega) (by omega)]) (fun p hp k hk => b4 (p + k) (by have := hp.1; omega) (by have := hp.1; omega) (by have := hp.1; omega) (by have := hp.1; omega) (by have := hp.1; omega) (by have := hp.1; omega) (by have := hp.1; omega)) d1 c2
  have mi2 : MI D1 P np ht u' hs' hm hy nt tl th nb s2 l := by
    refine ⟨d1, ⟨c1', b1, hw⟩, ⟨c2', fun k hk => ?_, l3⟩, ⟨⟨by rw [g' 57 (by omega) (by omega) (by omega) (by omega) (by omega) (by omega) (by omega) (by omega) (by omega)]; exact t1.1, by rw [g' 58 (by omega) (by omega) (by omega) (by omega) (by omega) (by omega) (by omega) (by omega) (by omega)]; exact t1.2⟩, ⟨by rw [g60 65 (by omega) (by omega) (by omega) (by omega)]; exact t2.1, by rw [g' 103 (by omega) (by omega) (by omega) (by omega) (by omega) (by omega) (by omega) (by omega) (by omega), g' 104 (by omega) (by omega) (by omega) (by omega) (by omega) (by omega) (by omega) (by omega) (by omega)]; exact t2.2⟩, t3⟩, ⟨p1, by rw [g' 1 (by omega) (by omega) (by omega) (by omega) (by omega) (by omega) (by omega) (by omega) (by omega)]; exact p2, by rw [g60 2 (by omega) (by omega) (by omega) (by omega)]; exact p3, by rw [g' 61 (by omega) (by omega) (by omega) (by omega) (by omega) (by omega) (by omega) (by omega) (by omega), g' 2 (by omega) (by omega) (by omega) (by omega) (by omega) (by omega) (by omega) (by omega) (by omega)]; exact p4⟩, by rw [g' 0 (by omega) (by omega) (by omega) (by omega) (by omega) (by omega) (by omega) (by omega) (by omega), g60 17 (by omega) (by omega) (by omega) (by omega)]; exact pl, ky⟩
    rw [g' 105 (by omega) (by omega) (by omega) (by omega) (by omega) (by omega) (by omega) (by omega) (by omega), g' 106 (by omega) (by omega) (by omega) (by omega) (by omega) (by omega) (by omega) (by omega) (by omega)]; exact l2 k hk
  exact ⟨v, D1, s1, l, s2, l, hA, pA1, hB, pB1, t, lv, P, np, nl, nw, ht, sg, lo, wd, wx, wy, rn, sd, LW, Z, u', hs', hm, hy, nt, tl, th, nb, by rw [d2]; exact hD, cv2, rv2, mi2⟩
theorem nhs_W (yw : YW P np ht Y) (hw : ∀ k, k < u → YW P np ht (hs k)) : ∀ k, k < nhu u → YW P np ht (nhs u hs Y k) := by
  intro k hk
  unfold nhs nhu at *
  by_cases e : u = 40
  · rw [if_pos e] at hk ⊢
    by_cases e2 : k = 39
    · rw [e2, ups_s]; exact yw
    · rw [ups_n e2]; exact hw (k + 1) (by omega)
  · rw [if_neg e] at hk ⊢
    by_cases e2 : k = u
    · rw [e2, ups_s]; exact yw
    · rw [ups_n e2]; exact hw k (by omega)
/-- nothing done: both answer v -/
theorem st_N {fA : Int32 × fl_D × fl_I × fl_L} {pA : Prop} {fB : fl_I → fl_L → Int32 × fl_I × fl_L} {pB : fl_I → fl_L → Prop} (hD : (if D.2.2.1 then 20 else 9) = t) (cv : CV fu t P np nl nw ht sg lo wd wx wy rn sd LW Y s l) (rv : RV fu lv P np nl nw ht sg lo wd wx wy rn sd LW Y s l) (mi : MI D P np ht u hs hm hy nt tl th nb s l) (hA : fA = (v, D, s, l)) (pA1 : pA) (hB : fB s l = (v, s, l)) (pB1 : pB s l) : Both fu fA pA fB pB :=
  ⟨v, D, s, l, s, l, hA, pA1, hB, pB1, t, lv, P, np, nl, nw, ht, sg, lo, wd, wx, wy, rn, sd, LW, Y, u, hs, hm, hy, nt, tl, th, nb, hD, cv, rv, mi⟩
end all
