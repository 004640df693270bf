/-! The law's calls, both sides -/
def Call2 (G : ab_G) (fu d : Nat) (MA MB : ab_M) (As : List Value) (D : fl_D) (s : fl_I) (l : fl_L) : Prop := ∃ v D1 s1 l1 s2 l2, ab_C G (d + 36) 6 10240 MA 0 (ab_ent (.ref 0 :: As)) [] (hp D s l) (rt (some (.int v)) (hp D1 s1 l1)) ∧ ab_C G (d + 36) 0 0 MB 0 (ab_ent (.ref 60 :: As)) [] (hp D1 s1 l1) (rt (some (.int v)) (hp D1 s2 l2)) ∧ INV fu D1 s2 l2
theorem k2D {G : ab_G} {fu d : Nat} {MA MB : ab_M} {As : List Value} {D : fl_D} {s : fl_I} {l : fl_L} {fA : Int32 × fl_D × fl_I × fl_L} {pA : Prop} {fB : fl_I → fl_L → Int32 × fl_I × fl_L} {pB : fl_I → fl_L → Prop} (B : Both fu fA pA fB pB) (cA : pA → ab_C G (d + 36) 6 10240 MA 0 (ab_ent (.ref 0 :: As)) [] (hp D s l) (rt (some (.int fA.1)) (hp fA.2.1 fA.2.2.1 fA.2.2.2))) (cB : ∀ D s l, pB s l → ab_C G (d + 36) 0 0 MB 0 (ab_ent (.ref 60 :: As)) [] (hp D s l) (rt (some (.int (fB s l).1)) (hp D (fB s l).2.1 (fB s l).2.2))) : Call2 G fu d MA MB As D s l := by
  obtain ⟨v, D1, s1, l1, s2, l2, eA, pA, eB, pB, inv⟩ := B
  have hA := cA pA
  have hB := cB D1 s1 l1 pB
  rw [eA] at hA
  rw [eB] at hB
  exact ⟨v, D1, s1, l1, s2, l2, hA, hB, inv⟩
theorem k_feed {G : ab_G} {fu d : Nat} {D : fl_D} {s : fl_I} {l : fl_L} {x0 x1 x2 x3 x4 : Int32} (hfu : 20000 ≤ fu) (hI : INV fu D s l) : Call2 G fu d M_X11_feed M_X12_feed [.int x0, .int x1, .int x2, .int x3, .int x4] D s l := by
  obtain ⟨t, lv, P, np, nl, nw, ht, sg, lo, wd, wx, wy, rn, sd, LW, Y, u, hs, hm, hy, nt, tl, th, nb, hD, cv, rv, mi⟩ := hI
  exact k2D (s_feed (x0 := x0) (x1 := x1) (x2 := x2) (x3 := x3) (x4 := x4) hfu hD cv rv mi) (fun p9 => r_room (r_deep (s_X11_feed (fu := fu) (d := d) (v0 := x0) (v1 := x1) (v2 := x2) (v3 := x3) (v4 := x4) p9) (by omega)) (by omega) (by omega)) (fun D s l p9 => r_deep (s_X12_feed (fu := fu) (d := d) p9) (by omega))
theorem k_back {G : ab_G} {fu d : Nat} {D : fl_D} {s : fl_I} {l : fl_L} {x0 : Int32} (hfu : 20000 ≤ fu) (hI : INV fu D s l) : Call2 G fu d M_X11_back M_X12_back [.int x0] D s l := by
  obtain ⟨t, lv, P, np, nl, nw, ht, sg, lo, wd, wx, wy, rn, sd, LW, Y, u, hs, hm, hy, nt, tl, th, nb, hD, cv, rv, mi⟩ := hI
  exact k2D (s_back (v := x0) hfu hD cv rv mi) (fun p9 => r_room (r_deep (s_X11_back (fu := fu) (d := d) (v0 := x0) p9) (by omega)) (by omega) (by omega)) (fun D s l p9 => r_deep (s_X12_back (fu := fu) (d := d) p9) (by omega))
theorem k_read {G : ab_G} {fu d : Nat} {D : fl_D} {s : fl_I} {l : fl_L} (hfu : 20000 ≤ fu) (hI : INV fu D s l) : Call2 G fu d M_X11_read M_X12_read [] D s l := by
  obtain ⟨t, lv, P, np, nl, nw, ht, sg, lo, wd, wx, wy, rn, sd, LW, Y, u, hs, hm, hy, nt, tl, th, nb, hD, cv, rv, mi⟩ := hI
  exact k2D (s_readB hfu hD cv rv mi) (fun p9 => r_room (r_deep (s_read (fu := fu) (d := d)  p9) (by omega)) (by omega) (by omega)) (fun D s l p9 => r_deep (s_X12_read (fu := fu) (d := d) p9) (by omega))
theorem k_place {G : ab_G} {fu d : Nat} {D : fl_D} {s : fl_I} {l : fl_L} (hfu : 20000 ≤ fu) (hI : INV fu D s l) : Call2 G fu d M_X11_place M_X12_place [] D s l := by
  obtain ⟨t, lv, P, np, nl, nw, ht, sg, lo, wd, wx, wy, rn, sd, LW, Y, u, hs, hm, hy, nt, tl, th, nb, hD, cv, rv, mi⟩ := hI
  exact k2D (s_place hD cv rv mi) (fun p9 => r_room (r_deep (s_X11_place (fu := fu) (d := d)  p9) (by omega)) (by omega) (by omega)) (fun D s l p9 => r_deep (s_X12_place (fu := fu) (d := d) p9) (by omega))
theorem k_piece {G : ab_G} {fu d : Nat} {D : fl_D} {s : fl_I} {l : fl_L} {x0 x1 : Int32} (hfu : 20000 ≤ fu) (hI : INV fu D s l) : Call2 G fu d M_X11_piece M_X12_piece [.int x0, .int x1] D s l := by
  obtain ⟨t, lv, P, np, nl, nw, ht, sg, lo, wd, wx, wy, rn, sd, LW, Y, u, hs, hm, hy, nt, tl, th, nb, hD, cv, rv, mi⟩ := hI
  exact k2D (st_Q hD cv rv mi (m_piece (v := x0) (x := x1) hfu hD cv rv)) (fun p9 => r_room (r_deep (s_X11_piece (fu := fu) (d := d) (v0 := x0) (v1 := x1) p9) (by omega)) (by omega) (by omega)) (fun D s l p9 => r_deep (s_X12_piece (fu := fu) (d := d) p9) (by omega))
theorem k_picker {G : ab_G} {fu d : Nat} {D : fl_D} {s : fl_I} {l : fl_L} {x0 x1 : Int32} (hfu : 20000 ≤ fu) (hI : INV fu D s l) : Call2 G fu d M_X11_picker M_X12_picker [.int x0, .int x1] D s l := by
  obtain ⟨t, lv, P, np, nl, nw, ht, sg, lo, wd, wx, wy, rn, sd, LW, Y, u, hs, hm, hy, nt, tl, th, nb, hD, cv, rv, mi⟩ := hI
  exact k2D (st_Q hD cv rv mi (m_picker (v := x0) (x := x1) hfu hD cv rv)) (fun p9 => r_room (r_deep (s_X11_picker (fu := fu) (d := d) (v0 := x0) (v1 := x1) p9) (by omega)) (by omega) (by omega)) (fun D s l p9 => r_deep (s_X12_picker (fu := fu) (d := d) p9) (by omega))
theorem k_lies {G : ab_G} {fu d : Nat} {D : fl_D} {s : fl_I} {l : fl_L} {x0 x1 : Int32} (hfu : 20000 ≤ fu) (hI : INV fu D s l) : Call2 G fu d M_X11_lies M_X12_lies [.int x0, .int x1] D s l := by
  obtain ⟨t, lv, P, np, nl, nw, ht, sg, lo, wd, wx, wy, rn, sd, LW, Y, u, hs, hm, hy, nt, tl, th, nb, hD, cv, rv, mi⟩ := hI
  exact k2D (st_Q hD cv rv mi (m_lies (x := x0) (y := x1) hfu cv rv)) (fun p9 => r_room (r_deep (s_X11_lies (fu := fu) (d := d) (v0 := x0) (v1 := x1) p9) (by omega)) (by omega) (by omega)) (fun D s l p9 => r_deep (s_X12_lies (fu := fu) (d := d) p9) (by omega))
theorem k_send {G : ab_G} {fu d : Nat} {D : fl_D} {s : fl_I} {l : fl_L} {x0 x1 x2 : Int32} (hfu : 20000 ≤ fu) (hI : INV fu D s l) : Call2 G fu d M_X11_send M_X12_send [.int x0, .int x1, .int x2] D s l := by
  obtain ⟨t, lv, P, np, nl, nw, ht, sg, lo, wd, wx, wy, rn, sd, LW, Y, u, hs, hm, hy, nt, tl, th, nb, hD, cv, rv, mi⟩ := hI
  exact k2D (s_send (v := x0) (x := x1) (y := x2) hfu hD cv rv mi) (fun p9 => r_room (r_deep (s_X11_send (fu := fu) (d := d) (v0 := x0) (v1 := x1) (v2 := x2) mi.1.1 (fun i p h => (mi.1.2.2.1 i p h).2) p9) (by omega)) (by omega) (by omega)) (fun D s l p9 => r_deep (s_X12_send (fu := fu) (d := d) p9) (by omega))
theorem k_drop {G : ab_G} {fu d : Nat} {D : fl_D} {s : fl_I} {l : fl_L} {x0 : Int32} (hfu : 20000 ≤ fu) (hI : INV fu D s l) : Call2 G fu d M_X11_drop M_X12_drop [.int x0] D s l := by
  obtain ⟨t, lv, P, np, nl, nw, ht, sg, lo, wd, wx, wy, rn, sd, LW, Y, u, hs, hm, hy, nt, tl, th, nb, hD, cv, rv, mi⟩ := hI
  exact k2D (s_drop (v := x0) hfu hD cv rv mi) (fun p9 => r_room (r_deep (s_X11_drop (fu := fu) (d := d) (v0 := x0) mi.1.1 (fun i p h => (mi.1.2.2.1 i p h).2) p9) (by omega)) (by omega) (by omega)) (fun D s l p9 => r_deep (s_X12_drop (fu := fu) (d := d) p9) (by omega))
theorem k_give {G : ab_G} {fu d : Nat} {D : fl_D} {s : fl_I} {l : fl_L} {x0 x1 : Int32} (hfu : 20000 ≤ fu) (hI : INV fu D s l) : Call2 G fu d M_X11_give M_X12_give [.int x0, .int x1] D s l := by
  obtain ⟨t, lv, P, np, nl, nw, ht, sg, lo, wd, wx, wy, rn, sd, LW, Y, u, hs, hm, hy, nt, tl, th, nb, hD, cv, rv, mi⟩ := hI
  exact k2D (s_give (v := x0) (x := x1) hfu hD cv rv mi) (fun p9 => r_room (r_deep (s_X11_give (fu := fu) (d := d) (v0 := x0) (v1 := x1) mi.1.1 (fun i p h => (mi.1.2.2.1 i p h).2) p9) (by omega)) (by omega) (by omega)) (fun D s l p9 => r_deep (s_X12_give (fu := fu) (d := d) p9) (by omega))
theorem k_hours {G : ab_G} {fu d : Nat} {D : fl_D} {s : fl_I} {l : fl_L} {x0 : Int32} (hfu : 20000 ≤ fu) (hI : INV fu D s l) : Call2 G fu d M_X11_hours M_X12_hours [.int x0] D s l := by
  obtain ⟨t, lv, P, np, nl, nw, ht, sg, lo, wd, wx, wy, rn, sd, LW, Y, u, hs, hm, hy, nt, tl, th, nb, hD, cv, rv, mi⟩ := hI
  exact k2D (s_hours (v := x0) hfu hD cv rv mi) (fun p9 => r_room (r_deep (s_X11_hours (fu := fu) (d := d) (v0 := x0) mi.1.1 (fun i p h => (mi.1.2.2.1 i p h).2) p9) (by omega)) (by omega) (by omega)) (fun D s l p9 => r_deep (s_X12_hours (fu := fu) (d := d) p9) (by omega))
theorem k_undo {G : ab_G} {fu d : Nat} {D : fl_D} {s : fl_I} {l : fl_L} (hfu : 20000 ≤ fu) (hI : INV fu D s l) : Call2 G fu d M_X11_undo M_X12_undo [] D s l := by
  obtain ⟨t, lv, P, np, nl, nw, ht, sg, lo, wd, wx, wy, rn, sd, LW, Y, u, hs, hm, hy, nt, tl, th, nb, hD, cv, rv, mi⟩ := hI
  exact k2D (s_undo hfu hD cv rv mi) (fun p9 => r_room (r_deep (s_X11_undo (fu := fu) (d := d)  (fun i p h => (mi.1.2.2.1 i p h).2) p9) (by omega)) (by omega) (by omega)) (fun D s l p9 => r_deep (s_X12_undo (fu := fu) (d := d) p9) (by omega))
theorem k_steps {G : ab_G} {fu d : Nat} {D : fl_D} {s : fl_I} {l : fl_L} {x0 x1 x2 : Int32} (hfu : 20000 ≤ fu) (hI : INV fu D s l) : Call2 G fu d M_X11_steps M_X12_steps [.int x0, .int x1, .int x2] D s l := by
  obtain ⟨t, lv, P, np, nl, nw, ht, sg, lo, wd, wx, wy, rn, sd, LW, Y, u, hs, hm, hy, nt, tl, th, nb, hD, cv, rv, mi⟩ := hI
  exact k2D (st_Q hD cv rv mi (m_steps (v := x0) (x := x1) (y := x2) hfu cv rv)) (fun p9 => r_room (r_deep (s_X11_steps (fu := fu) (d := d) (v0 := x0) (v1 := x1) (v2 := x2) p9) (by omega)) (by omega) (by omega)) (fun D s l p9 => r_deep (s_X12_steps (fu := fu) (d := d) p9) (by omega))
theorem k_round {G : ab_G} {fu d : Nat} {D : fl_D} {s : fl_I} {l : fl_L} {x0 x1 : Int32} (hfu : 20000 ≤ fu) (hI : INV fu D s l) : Call2 G fu d M_X11_round M_X12_round [.int x0, .int x1] D s l := by
  obtain ⟨t, lv, P, np, nl, nw, ht, sg, lo, wd, wx, wy, rn, sd, LW, Y, u, hs, hm, hy, nt, tl, th, nb, hD, cv, rv, mi⟩ := hI
  exact k2D (st_D hD cv rv mi (m_round (v := x0) (x := x1) hfu mi.1.1 (dI_hfr mi.1) cv rv)) (fun p9 => r_room (r_deep (s_X11_round (fu := fu) (d := d) (v0 := x0) (v1 := x1) mi.1.1 (by rcases dI_hfr mi.1 with h | h; exact .inl h; exact .inr h.2) p9) (by omega)) (by omega) (by omega)) (fun D s l p9 => r_deep (s_X12_round (fu := fu) (d := d) p9) (by omega))
theorem k_share {G : ab_G} {fu d : Nat} {D : fl_D} {s : fl_I} {l : fl_L} {x0 x1 : Int32} (hfu : 20000 ≤ fu) (hI : INV fu D s l) : Call2 G fu d M_X11_share M_X12_share [.int x0, .int x1] D s l := by
  obtain ⟨t, lv, P, np, nl, nw, ht, sg, lo, wd, wx, wy, rn, sd, LW, Y, u, hs, hm, hy, nt, tl, th, nb, hD, cv, rv, mi⟩ := hI
  exact k2D (st_D hD cv rv mi (m_share (v := x0) (x := x1) hfu mi.1.1 (dI_hfr mi.1) cv rv)) (fun p9 => r_room (r_deep (s_X11_share (fu := fu) (d := d) (v0 := x0) (v1 := x1) mi.1.1 (by rcases dI_hfr mi.1 with h | h; exact .inl h; exact .inr h.2) p9) (by omega)) (by omega) (by omega)) (fun D s l p9 => r_deep (s_X12_share (fu := fu) (d := d) p9) (by omega))
theorem k_closest {G : ab_G} {fu d : Nat} {D : fl_D} {s : fl_I} {l : fl_L} {x0 x1 : Int32} (hfu : 20000 ≤ fu) (hI : INV fu D s l) : Call2 G fu d M_X11_closest M_X12_closest [.int x0, .int x1] D s l := by
  obtain ⟨t, lv, P, np, nl, nw, ht, sg, lo, wd, wx, wy, rn, sd, LW, Y, u, hs, hm, hy, nt, tl, th, nb, hD, cv, rv, mi⟩ := hI
  exact k2D (st_Q hD cv rv mi (m_closest (x := x0) (y := x1) hfu cv rv)) (fun p9 => r_room (r_deep (s_X11_closest (fu := fu) (d := d) (v0 := x0) (v1 := x1) p9) (by omega)) (by omega) (by omega)) (fun D s l p9 => r_deep (s_X12_closest (fu := fu) (d := d) p9) (by omega))
theorem k_richest {G : ab_G} {fu d : Nat} {D : fl_D} {s : fl_I} {l : fl_L} {x0 : Int32} (hfu : 20000 ≤ fu) (hI : INV fu D s l) : Call2 G fu d M_X11_richest M_X12_richest [.int x0] D s l := by
  obtain ⟨t, lv, P, np, nl, nw, ht, sg, lo, wd, wx, wy, rn, sd, LW, Y, u, hs, hm, hy, nt, tl, th, nb, hD, cv, rv, mi⟩ := hI
  exact k2D (st_Q hD cv rv mi (m_richest (x := x0) hfu cv rv)) (fun p9 => r_room (r_deep (s_X11_richest (fu := fu) (d := d) (v0 := x0) p9) (by omega)) (by omega) (by omega)) (fun D s l p9 => r_deep (s_X12_richest (fu := fu) (d := d) p9) (by omega))
theorem k_made {G : ab_G} {fu d : Nat} {D : fl_D} {s : fl_I} {l : fl_L} {x0 : Int32} (hfu : 20000 ≤ fu) (hI : INV fu D s l) : Call2 G fu d M_X11_made M_X12_made [.int x0] D s l := by
  obtain ⟨t, lv, P, np, nl, nw, ht, sg, lo, wd, wx, wy, rn, sd, LW, Y, u, hs, hm, hy, nt, tl, th, nb, hD, cv, rv, mi⟩ := hI
  exact k2D (st_Q hD cv rv mi (m_made (v := x0) hfu hD cv rv)) (fun p9 => r_room (r_deep (s_X11_made (fu := fu) (d := d) (v0 := x0) p9) (by omega)) (by omega) (by omega)) (fun D s l p9 => r_deep (s_X12_made (fu := fu) (d := d) p9) (by omega))
theorem k_together {G : ab_G} {fu d : Nat} {D : fl_D} {s : fl_I} {l : fl_L} {x0 : Int32} (hfu : 20000 ≤ fu) (hI : INV fu D s l) : Call2 G fu d M_X11_together M_X12_together [.int x0] D s l := by
  obtain ⟨t, lv, P, np, nl, nw, ht, sg, lo, wd, wx, wy, rn, sd, LW, Y, u, hs, hm, hy, nt, tl, th, nb, hD, cv, rv, mi⟩ := hI
  exact k2D (st_Q hD cv rv mi (m_together (x := x0) hfu hD cv rv)) (fun p9 => r_room (r_deep (s_X11_together (fu := fu) (d := d) (v0 := x0) p9) (by omega)) (by omega) (by omega)) (fun D s l p9 => r_deep (s_X12_together (fu := fu) (d := d) p9) (by omega))
theorem k_missing {G : ab_G} {fu d : Nat} {D : fl_D} {s : fl_I} {l : fl_L} {x0 x1 : Int32} (hfu : 20000 ≤ fu) (hI : INV fu D s l) : Call2 G fu d M_X11_missing M_X12_missing [.int x0, .int x1] D s l := by
  obtain ⟨t, lv, P, np, nl, nw, ht, sg, lo, wd, wx, wy, rn, sd, LW, Y, u, hs, hm, hy, nt, tl, th, nb, hD, cv, rv, mi⟩ := hI
  exact k2D (st_Q hD cv rv mi (m_missing (x := x0) (v := x1) hfu hD cv rv)) (fun p9 => r_room (r_deep (s_X11_missing (fu := fu) (d := d) (v0 := x0) (v1 := x1) p9) (by omega)) (by omega) (by omega)) (fun D s l p9 => r_deep (s_X12_missing (fu := fu) (d := d) p9) (by omega))
theorem k_longest {G : ab_G} {fu d : Nat} {D : fl_D} {s : fl_I} {l : fl_L} {x0 : Int32} (hfu : 20000 ≤ fu) (hI : INV fu D s l) : Call2 G fu d M_X11_longest M_X12_longest [.int x0] D s l := by
  obtain ⟨t, lv, P, np, nl, nw, ht, sg, lo, wd, wx, wy, rn, sd, LW, Y, u, hs, hm, hy, nt, tl, th, nb, hD, cv, rv, mi⟩ := hI
  exact k2D (st_Q hD cv rv mi (m_longest (v := x0) hfu hD cv rv)) (fun p9 => r_room (r_deep (s_X11_longest (fu := fu) (d := d) (v0 := x0) p9) (by omega)) (by omega) (by omega)) (fun D s l p9 => r_deep (s_X12_longest (fu := fu) (d := d) p9) (by omega))
theorem k_whole {G : ab_G} {fu d : Nat} {D : fl_D} {s : fl_I} {l : fl_L} (hfu : 20000 ≤ fu) (hI : INV fu D s l) : Call2 G fu d M_X11_whole M_X12_whole [] D s l := by
  obtain ⟨t, lv, P, np, nl, nw, ht, sg, lo, wd, wx, wy, rn, sd, LW, Y, u, hs, hm, hy, nt, tl, th, nb, hD, cv, rv, mi⟩ := hI
  exact k2D (st_Q hD cv rv mi (m_whole hfu hD cv rv)) (fun p9 => r_room (r_deep (s_X11_whole (fu := fu) (d := d)  p9) (by omega)) (by omega) (by omega)) (fun D s l p9 => r_deep (s_X12_whole (fu := fu) (d := d) p9) (by omega))
theorem k_loss {G : ab_G} {fu d : Nat} {D : fl_D} {s : fl_I} {l : fl_L} {x0 : Int32} (hfu : 20000 ≤ fu) (hI : INV fu D s l) : Call2 G fu d M_X11_loss M_X12_loss [.int x0] D s l := by
  obtain ⟨t, lv, P, np, nl, nw, ht, sg, lo, wd, wx, wy, rn, sd, LW, Y, u, hs, hm, hy, nt, tl, th, nb, hD, cv, rv, mi⟩ := hI
  exact k2D (st_Q hD cv rv mi (m_loss (x := x0) hfu hD cv rv)) (fun p9 => r_room (r_deep (s_X11_loss (fu := fu) (d := d) (v0 := x0) p9) (by omega)) (by omega) (by omega)) (fun D s l p9 => r_deep (s_X12_loss (fu := fu) (d := d) p9) (by omega))
theorem k_stand {G : ab_G} {fu d : Nat} {D : fl_D} {s : fl_I} {l : fl_L} {x0 x1 x2 : Int32} (hfu : 20000 ≤ fu) (hI : INV fu D s l) : Call2 G fu d M_X11_stand M_X12_stand [.int x0, .int x1, .int x2] D s l := by
  obtain ⟨t, lv, P, np, nl, nw, ht, sg, lo, wd, wx, wy, rn, sd, LW, Y, u, hs, hm, hy, nt, tl, th, nb, hD, cv, rv, mi⟩ := hI
  exact k2D (st_Q hD cv rv mi (m_stand (v := x0) (x := x1) (y := x2) hfu hD cv rv)) (fun p9 => r_room (r_deep (s_X11_stand (fu := fu) (d := d) (v0 := x0) (v1 := x1) (v2 := x2) p9) (by omega)) (by omega) (by omega)) (fun D s l p9 => r_deep (s_X12_stand (fu := fu) (d := d) p9) (by omega))
theorem k_late {G : ab_G} {fu d : Nat} {D : fl_D} {s : fl_I} {l : fl_L} (hfu : 20000 ≤ fu) (hI : INV fu D s l) : Call2 G fu d M_X11_late M_X12_late [] D s l := by
  obtain ⟨t, lv, P, np, nl, nw, ht, sg, lo, wd, wx, wy, rn, sd, LW, Y, u, hs, hm, hy, nt, tl, th, nb, hD, cv, rv, mi⟩ := hI
  exact k2D (st_Q hD cv rv mi (m_late hfu hD cv rv)) (fun p9 => r_room (r_deep (s_X11_late (fu := fu) (d := d)  p9) (by omega)) (by omega) (by omega)) (fun D s l p9 => r_deep (s_X12_late (fu := fu) (d := d) p9) (by omega))
theorem k_pieceIn {G : ab_G} {fu d : Nat} {D : fl_D} {s : fl_I} {l : fl_L} {x0 x1 x2 : Int32} (hfu : 20000 ≤ fu) (hI : INV fu D s l) : Call2 G fu d M_X11_pieceIn M_X12_pieceIn [.int x0, .int x1, .int x2] D s l := by
  obtain ⟨t, lv, P, np, nl, nw, ht, sg, lo, wd, wx, wy, rn, sd, LW, Y, u, hs, hm, hy, nt, tl, th, nb, hD, cv, rv, mi⟩ := hI
  exact k2D (st_Q hD cv rv mi (m_pieceIn (v := x0) (x := x1) (y := x2) hfu hD cv rv)) (fun p9 => r_room (r_deep (s_X11_pieceIn (fu := fu) (d := d) (v0 := x0) (v1 := x1) (v2 := x2) p9) (by omega)) (by omega) (by omega)) (fun D s l p9 => r_deep (s_X12_pieceIn (fu := fu) (d := d) p9) (by omega))
theorem k_pickerIn {G : ab_G} {fu d : Nat} {D : fl_D} {s : fl_I} {l : fl_L} {x0 x1 x2 : Int32} (hfu : 20000 ≤ fu) (hI : INV fu D s l) : Call2 G fu d M_X11_pickerIn M_X12_pickerIn [.int x0, .int x1, .int x2] D s l := by
  obtain ⟨t, lv, P, np, nl, nw, ht, sg, lo, wd, wx, wy, rn, sd, LW, Y, u, hs, hm, hy, nt, tl, th, nb, hD, cv, rv, mi⟩ := hI
  exact k2D (st_Q hD cv rv mi (m_pickerIn (v := x0) (x := x1) (y := x2) hfu hD cv rv)) (fun p9 => r_room (r_deep (s_X11_pickerIn (fu := fu) (d := d) (v0 := x0) (v1 := x1) (v2 := x2) p9) (by omega)) (by omega) (by omega)) (fun D s l p9 => r_deep (s_X12_pickerIn (fu := fu) (d := d) p9) (by omega))
theorem k_year {G : ab_G} {fu d : Nat} {D : fl_D} {s : fl_I} {l : fl_L} {x0 x1 : Int32} (hfu : 20000 ≤ fu) (hI : INV fu D s l) : Call2 G fu d M_X11_year M_X12_year [.int x0, .int x1] D s l := by
  obtain ⟨t, lv, P, np, nl, nw, ht, sg, lo, wd, wx, wy, rn, sd, LW, Y, u, hs, hm, hy, nt, tl, th, nb, hD, cv, rv, mi⟩ := hI
  exact k2D (st_Q hD cv rv mi (m_year (x := x0) (y := x1) hfu hD cv rv)) (fun p9 => r_room (r_deep (s_X11_year (fu := fu) (d := d) (v0 := x0) (v1 := x1) p9) (by omega)) (by omega) (by omega)) (fun D s l p9 => r_deep (s_X12_year (fu := fu) (d := d) p9) (by omega))
theorem k_tell {G : ab_G} {fu d : Nat} {D : fl_D} {s : fl_I} {l : fl_L} {x0 x1 : Int32} (hfu : 20000 ≤ fu) (hw : x1 = nI 0 ∨ x1 = nI 1) (hI : INV fu D s l) : Call2 G fu d M_X11_tell M_X12_tell [.int x0, .int x1] D s l := by
  obtain ⟨t, lv, P, np, nl, nw, ht, sg, lo, wd, wx, wy, rn, sd, LW, Y, u, hs, hm, hy, nt, tl, th, nb, hD, cv, rv, mi⟩ := hI
  exact k2D (s_tell (v := x0) (w := x1) hw hD cv rv mi) (fun p9 => r_room (r_deep (s_X11_tell (fu := fu) (d := d) (v0 := x0) (v1 := x1) p9) (by omega)) (by omega) (by omega)) (fun D s l p9 => r_deep (s_X12_tell (fu := fu) (d := d) p9) (by omega))
theorem k_forget {G : ab_G} {fu d : Nat} {D : fl_D} {s : fl_I} {l : fl_L} (hfu : 20000 ≤ fu) (hI : INV fu D s l) : Call2 G fu d M_X11_forget M_X12_forget [] D s l := by
  obtain ⟨t, lv, P, np, nl, nw, ht, sg, lo, wd, wx, wy, rn, sd, LW, Y, u, hs, hm, hy, nt, tl, th, nb, hD, cv, rv, mi⟩ := hI
  exact k2D (s_forget hD cv rv mi) (fun p9 => r_room (r_deep (s_X11_forget (fu := fu) (d := d)  p9) (by omega)) (by omega) (by omega)) (fun D s l p9 => r_deep (s_X12_forget (fu := fu) (d := d) p9) (by omega))
theorem k_written {G : ab_G} {fu d : Nat} {D : fl_D} {s : fl_I} {l : fl_L} {x0 x1 : Int32} (hfu : 20000 ≤ fu) (hI : INV fu D s l) : Call2 G fu d M_X11_written M_X12_written [.int x0, .int x1] D s l := by
  obtain ⟨t, lv, P, np, nl, nw, ht, sg, lo, wd, wx, wy, rn, sd, LW, Y, u, hs, hm, hy, nt, tl, th, nb, hD, cv, rv, mi⟩ := hI
  exact k2D (st_Q hD cv rv mi (m_written (x := x0) (y := x1) hfu hD cv rv mi.2.2.2.1.1 mi.2.2.2.1.2.1 mi.2.2.2.1.2.2)) (fun p9 => r_room (r_deep (s_X11_written (fu := fu) (d := d) (v0 := x0) (v1 := x1) p9) (by omega)) (by omega) (by omega)) (fun D s l p9 => r_deep (s_X12_written (fu := fu) (d := d) p9) (by omega))
theorem k_ask {G : ab_G} {fu d : Nat} {D : fl_D} {s : fl_I} {l : fl_L} {x0 : Int32} (hfu : 20000 ≤ fu) (hI : INV fu D s l) : Call2 G fu d M_X11_ask M_X12_ask [.int x0] D s l := by
  obtain ⟨t, lv, P, np, nl, nw, ht, sg, lo, wd, wx, wy, rn, sd, LW, Y, u, hs, hm, hy, nt, tl, th, nb, hD, cv, rv, mi⟩ := hI
  exact k2D (st_Q hD cv rv mi (m_ask (x := x0) hfu hD cv rv mi.2.2.2.1.1 mi.2.2.2.1.2.1 mi.2.2.2.1.2.2)) (fun p9 => r_room (r_deep (s_X11_ask (fu := fu) (d := d) (v0 := x0) p9) (by omega)) (by omega) (by omega)) (fun D s l p9 => r_deep (s_X12_ask (fu := fu) (d := d) p9) (by omega))
theorem k_hold {G : ab_G} {fu d : Nat} {D : fl_D} {s : fl_I} {l : fl_L} {x0 : Int32} (hfu : 20000 ≤ fu) (hI : INV fu D s l) : Call2 G fu d M_X11_hold M_X12_hold [.int x0] D s l := by
  obtain ⟨t, lv, P, np, nl, nw, ht, sg, lo, wd, wx, wy, rn, sd, LW, Y, u, hs, hm, hy, nt, tl, th, nb, hD, cv, rv, mi⟩ := hI
  exact k2D (s_hold' (v := x0) hfu hD cv rv mi) (fun p9 => r_room (r_deep (s_hold (fu := fu) (d := d) (v := x0) mi.1.1 (fun i p h => (mi.1.2.2.2.1 i p h).2)) (by omega)) (by omega) (by omega)) (fun D s l p9 => r_deep (s_X12_hold (fu := fu) (d := d) p9) (by omega))
theorem k_restore {G : ab_G} {fu d : Nat} {D : fl_D} {s : fl_I} {l : fl_L} {x0 : Int32} (hfu : 20000 ≤ fu) (hI : INV fu D s l) : Call2 G fu d M_X11_restore M_X12_restore [.int x0] D s l := by
  obtain ⟨t, lv, P, np, nl, nw, ht, sg, lo, wd, wx, wy, rn, sd, LW, Y, u, hs, hm, hy, nt, tl, th, nb, hD, cv, rv, mi⟩ := hI
  exact k2D (s_restore' (v := x0) hfu hD cv rv mi) (fun p9 => r_room (r_deep (s_restore (fu := fu) (d := d) (v := x0) (fun i p h => (mi.1.2.2.2.1 i p h).2)) (by omega)) (by omega) (by omega)) (fun D s l p9 => r_deep (s_X12_restore (fu := fu) (d := d) p9) (by omega))
theorem k_count {G : ab_G} {fu d : Nat} {D : fl_D} {s : fl_I} {l : fl_L} {x0 : Int32} (hfu : 20000 ≤ fu) (hI : INV fu D s l) : Call2 G fu d M_X11_count M_X12_count [.int x0] D s l := by
  obtain ⟨t, lv, P, np, nl, nw, ht, sg, lo, wd, wx, wy, rn, sd, LW, Y, u, hs, hm, hy, nt, tl, th, nb, hD, cv, rv, mi⟩ := hI
  exact k2D (st_Q hD cv rv mi (m_count (v := x0) hfu hD cv rv mi)) (fun p9 => r_room (r_deep (s_X11_count (fu := fu) (d := d) (v0 := x0) p9) (by omega)) (by omega) (by omega)) (fun D s l p9 => r_deep (s_X12_count (fu := fu) (d := d) p9) (by omega))
