/-! The law's cases -/
theorem lw_in {i k n : Nat} (hi : i + 6 ≤ n) (hn : n ≤ 3072) (hk : k ≤ 5) : vp_in (nI i + nI k) n := by
  rw [nI_add]; exact vp_in_nI (by omega) (by omega)
set_option maxRecDepth 100000 in
theorem w_feed {G : ab_G} {fu d kc ks i : Nat} {D : fl_D} {s : fl_I} {l : fl_L} {Q : Option Value → ab_H → Prop} (hfu : 20000 ≤ fu) (hI : INV fu D s l) (hi : i + 6 ≤ G.2.2.2.2.2.1) (hL : G.2.2.2.2.2.1 ≤ 3072) (next : ∀ D s l, INV fu D s l → ab_C G (d + 36 + 1) kc ks M_L_law 1199 [some (.retAddr 0), some (.ref 0), some (.ref 60), some (.int (nI i))] [] (hp D s l) Q) : ab_C G (d + 36 + 1) (kc + 6) (ks + 10240) M_L_law 188 [some (.retAddr 0), some (.ref 0), some (.ref 60), some (.int (nI i))] [] (hp D s l) Q := by
  obtain ⟨v, D1, s1, l1, s2, l2, cA, cB, inv⟩ := k_feed (G := G) (d := d) (x0 := G.2.2.2.2.2.2.1 (nI i + nI 1).toNatClampNeg) (x1 := G.2.2.2.2.2.2.1 (nI i + nI 2).toNatClampNeg) (x2 := G.2.2.2.2.2.2.1 (nI i + nI 3).toNatClampNeg) (x3 := G.2.2.2.2.2.2.1 (nI i + nI 4).toNatClampNeg) (x4 := G.2.2.2.2.2.2.1 (nI i + nI 5).toNatClampNeg) hfu hI
  refine r_aload_n rfl rfl ?_
  refine r_xload_n (t := 0) (by omega) rfl rfl ?_
  refine r_iload_n rfl rfl ?_
  refine r_iconst_ (a := nI 1) rfl (by decide) ?_
  refine r_iadd rfl ?_
  refine r_sld rfl (lw_in (k := 1) hi hL (by omega)) ?_
  refine r_xload_n (t := 0) (by omega) rfl rfl ?_
  refine r_iload_n rfl rfl ?_
  refine r_iconst_ (a := nI 2) rfl (by decide) ?_
  refine r_iadd rfl ?_
  refine r_sld rfl (lw_in (k := 2) hi hL (by omega)) ?_
  refine r_xload_n (t := 0) (by omega) rfl rfl ?_
  refine r_iload_n rfl rfl ?_
  refine r_iconst_ (a := nI 3) rfl (by decide) ?_
  refine r_iadd rfl ?_
  refine r_sld rfl (lw_in (k := 3) hi hL (by omega)) ?_
  refine r_xload_n (t := 0) (by omega) rfl rfl ?_
  refine r_iload_n rfl rfl ?_
  refine r_iconst_ (a := nI 4) rfl (by decide) ?_
  refine r_iadd rfl ?_
  refine r_sld rfl (lw_in (k := 4) hi hL (by omega)) ?_
  refine r_xload_n (t := 0) (by omega) rfl rfl ?_
  refine r_iload_n rfl rfl ?_
  refine r_iconst_ (a := nI 5) rfl (by decide) ?_
  refine r_iadd rfl ?_
  refine r_sld rfl (lw_in (k := 5) hi hL (by omega)) ?_
  refine r_callV (kc1 := 6) (ks1 := 10240) [.int (G.2.2.2.2.2.2.1 (nI i + nI 1).toNatClampNeg), .int (G.2.2.2.2.2.2.1 (nI i + nI 2).toNatClampNeg), .int (G.2.2.2.2.2.2.1 (nI i + nI 3).toNatClampNeg), .int (G.2.2.2.2.2.2.1 (nI i + nI 4).toNatClampNeg), .int (G.2.2.2.2.2.2.1 (nI i + nI 5).toNatClampNeg)] [] rfl kY_X11_feed kT_X11_feed rfl rfl (Nat.le_of_ble_eq_true rfl) (Nat.le_of_ble_eq_true rfl) (cc_0 D (s 0) (l 0)) cA (fun r h q9 => ?_)
  obtain ⟨rfl, rfl⟩ := q9
  refine r_aload_n rfl rfl ?_
  refine r_xload_n (t := 0) (by omega) rfl rfl ?_
  refine r_iload_n rfl rfl ?_
  refine r_iconst_ (a := nI 1) rfl (by decide) ?_
  refine r_iadd rfl ?_
  refine r_sld rfl (lw_in (k := 1) hi hL (by omega)) ?_
  refine r_xload_n (t := 0) (by omega) rfl rfl ?_
  refine r_iload_n rfl rfl ?_
  refine r_iconst_ (a := nI 2) rfl (by decide) ?_
  refine r_iadd rfl ?_
  refine r_sld rfl (lw_in (k := 2) hi hL (by omega)) ?_
  refine r_xload_n (t := 0) (by omega) rfl rfl ?_
  refine r_iload_n rfl rfl ?_
  refine r_iconst_ (a := nI 3) rfl (by decide) ?_
  refine r_iadd rfl ?_
  refine r_sld rfl (lw_in (k := 3) hi hL (by omega)) ?_
  refine r_xload_n (t := 0) (by omega) rfl rfl ?_
  refine r_iload_n rfl rfl ?_
  refine r_iconst_ (a := nI 4) rfl (by decide) ?_
  refine r_iadd rfl ?_
  refine r_sld rfl (lw_in (k := 4) hi hL (by omega)) ?_
  refine r_xload_n (t := 0) (by omega) rfl rfl ?_
  refine r_iload_n rfl rfl ?_
  refine r_iconst_ (a := nI 5) rfl (by decide) ?_
  refine r_iadd rfl ?_
  refine r_sld rfl (lw_in (k := 5) hi hL (by omega)) ?_
  refine q_callV0 [.int (G.2.2.2.2.2.2.1 (nI i + nI 1).toNatClampNeg), .int (G.2.2.2.2.2.2.1 (nI i + nI 2).toNatClampNeg), .int (G.2.2.2.2.2.2.1 (nI i + nI 3).toNatClampNeg), .int (G.2.2.2.2.2.2.1 (nI i + nI 4).toNatClampNeg), .int (G.2.2.2.2.2.2.1 (nI i + nI 5).toNatClampNeg)] [.int v] rfl kY_X12_feed kT_X12_feed rfl rfl (Nat.le_of_ble_eq_true rfl) (Nat.le_of_ble_eq_true rfl) (cc_60 D1) cB (fun r h q9 => ?_)
  obtain ⟨rfl, rfl⟩ := q9
  refine r_icmp_eq rfl (fun _ => ?_) (fun h => absurd rfl h)
  exact next _ _ _ inv
set_option maxRecDepth 100000 in
theorem w_back {G : ab_G} {fu d kc ks i : Nat} {D : fl_D} {s : fl_I} {l : fl_L} {Q : Option Value → ab_H → Prop} (hfu : 20000 ≤ fu) (hI : INV fu D s l) (hi : i + 6 ≤ G.2.2.2.2.2.1) (hL : G.2.2.2.2.2.1 ≤ 3072) (next : ∀ D s l, INV fu D s l → ab_C G (d + 36 + 1) kc ks M_L_law 1199 [some (.retAddr 0), some (.ref 0), some (.ref 60), some (.int (nI i))] [] (hp D s l) Q) : ab_C G (d + 36 + 1) (kc + 6) (ks + 10240) M_L_law 251 [some (.retAddr 0), some (.ref 0), some (.ref 60), some (.int (nI i))] [] (hp D s l) Q := by
  obtain ⟨v, D1, s1, l1, s2, l2, cA, cB, inv⟩ := k_back (G := G) (d := d) (x0 := G.2.2.2.2.2.2.1 (nI i + nI 1).toNatClampNeg) hfu hI
  refine r_aload_n rfl rfl ?_
  refine r_xload_n (t := 0) (by omega) rfl rfl ?_
  refine r_iload_n rfl rfl ?_
  refine r_iconst_ (a := nI 1) rfl (by decide) ?_
  refine r_iadd rfl ?_
  refine r_sld rfl (lw_in (k := 1) hi hL (by omega)) ?_
  refine r_callV (kc1 := 6) (ks1 := 10240) [.int (G.2.2.2.2.2.2.1 (nI i + nI 1).toNatClampNeg)] [] rfl kY_X11_back kT_X11_back rfl rfl (Nat.le_of_ble_eq_true rfl) (Nat.le_of_ble_eq_true rfl) (cc_0 D (s 0) (l 0)) cA (fun r h q9 => ?_)
  obtain ⟨rfl, rfl⟩ := q9
  refine r_aload_n rfl rfl ?_
  refine r_xload_n (t := 0) (by omega) rfl rfl ?_
  refine r_iload_n rfl rfl ?_
  refine r_iconst_ (a := nI 1) rfl (by decide) ?_
  refine r_iadd rfl ?_
  refine r_sld rfl (lw_in (k := 1) hi hL (by omega)) ?_
  refine q_callV0 [.int (G.2.2.2.2.2.2.1 (nI i + nI 1).toNatClampNeg)] [.int v] rfl kY_X12_back kT_X12_back rfl rfl (Nat.le_of_ble_eq_true rfl) (Nat.le_of_ble_eq_true rfl) (cc_60 D1) cB (fun r h q9 => ?_)
  obtain ⟨rfl, rfl⟩ := q9
  refine r_icmp_eq rfl (fun _ => ?_) (fun h => absurd rfl h)
  exact next _ _ _ inv
set_option maxRecDepth 100000 in
theorem w_read {G : ab_G} {fu d kc ks i : Nat} {D : fl_D} {s : fl_I} {l : fl_L} {Q : Option Value → ab_H → Prop} (hfu : 20000 ≤ fu) (hI : INV fu D s l) (hi : i + 6 ≤ G.2.2.2.2.2.1) (hL : G.2.2.2.2.2.1 ≤ 3072) (next : ∀ D s l, INV fu D s l → ab_C G (d + 36 + 1) kc ks M_L_law 1199 [some (.retAddr 0), some (.ref 0), some (.ref 60), some (.int (nI i))] [] (hp D s l) Q) : ab_C G (d + 36 + 1) (kc + 6) (ks + 10240) M_L_law 274 [some (.retAddr 0), some (.ref 0), some (.ref 60), some (.int (nI i))] [] (hp D s l) Q := by
  obtain ⟨v, D1, s1, l1, s2, l2, cA, cB, inv⟩ := k_read (G := G) (d := d)  hfu hI
  refine r_aload_n rfl rfl ?_
  refine r_callV (kc1 := 6) (ks1 := 10240) [] [] rfl kY_X11_read kT_X11_read rfl rfl (Nat.le_of_ble_eq_true rfl) (Nat.le_of_ble_eq_true rfl) (cc_0 D (s 0) (l 0)) cA (fun r h q9 => ?_)
  obtain ⟨rfl, rfl⟩ := q9
  refine r_aload_n rfl rfl ?_
  refine q_callV0 [] [.int v] rfl kY_X12_read kT_X12_read rfl rfl (Nat.le_of_ble_eq_true rfl) (Nat.le_of_ble_eq_true rfl) (cc_60 D1) cB (fun r h q9 => ?_)
  obtain ⟨rfl, rfl⟩ := q9
  refine r_icmp_eq rfl (fun _ => ?_) (fun h => absurd rfl h)
  exact next _ _ _ inv
set_option maxRecDepth 100000 in
theorem w_place {G : ab_G} {fu d kc ks i : Nat} {D : fl_D} {s : fl_I} {l : fl_L} {Q : Option Value → ab_H → Prop} (hfu : 20000 ≤ fu) (hI : INV fu D s l) (hi : i + 6 ≤ G.2.2.2.2.2.1) (hL : G.2.2.2.2.2.1 ≤ 3072) (next : ∀ D s l, INV fu D s l → ab_C G (d + 36 + 1) kc ks M_L_law 1199 [some (.retAddr 0), some (.ref 0), some (.ref 60), some (.int (nI i))] [] (hp D s l) Q) : ab_C G (d + 36 + 1) (kc + 6) (ks + 10240) M_L_law 287 [some (.retAddr 0), some (.ref 0), some (.ref 60), some (.int (nI i))] [] (hp D s l) Q := by
  obtain ⟨v, D1, s1, l1, s2, l2, cA, cB, inv⟩ := k_place (G := G) (d := d)  hfu hI
  refine r_aload_n rfl rfl ?_
  refine r_callV (kc1 := 6) (ks1 := 10240) [] [] rfl kY_X11_place kT_X11_place rfl rfl (Nat.le_of_ble_eq_true rfl) (Nat.le_of_ble_eq_true rfl) (cc_0 D (s 0) (l 0)) cA (fun r h q9 => ?_)
  obtain ⟨rfl, rfl⟩ := q9
  refine r_aload_n rfl rfl ?_
  refine q_callV0 [] [.int v] rfl kY_X12_place kT_X12_place rfl rfl (Nat.le_of_ble_eq_true rfl) (Nat.le_of_ble_eq_true rfl) (cc_60 D1) cB (fun r h q9 => ?_)
  obtain ⟨rfl, rfl⟩ := q9
  refine r_icmp_eq rfl (fun _ => ?_) (fun h => absurd rfl h)
  exact next _ _ _ inv
set_option maxRecDepth 100000 in
theorem w_piece {G : ab_G} {fu d kc ks i : Nat} {D : fl_D} {s : fl_I} {l : fl_L} {Q : Option Value → ab_H → Prop} (hfu : 20000 ≤ fu) (hI : INV fu D s l) (hi : i + 6 ≤ G.2.2.2.2.2.1) (hL : G.2.2.2.2.2.1 ≤ 3072) (next : ∀ D s l, INV fu D s l → ab_C G (d + 36 + 1) kc ks M_L_law 1199 [some (.retAddr 0), some (.ref 0), some (.ref 60), some (.int (nI i))] [] (hp D s l) Q) : ab_C G (d + 36 + 1) (kc + 6) (ks + 10240) M_L_law 300 [some (.retAddr 0), some (.ref 0), some (.ref 60), some (.int (nI i))] [] (hp D s l) Q := by
  obtain ⟨v, D1, s1, l1, s2, l2, cA, cB, inv⟩ := k_piece (G := G) (d := d) (x0 := G.2.2.2.2.2.2.1 (nI i + nI 1).toNatClampNeg) (x1 := G.2.2.2.2.2.2.1 (nI i + nI 2).toNatClampNeg) hfu hI
  refine r_aload_n rfl rfl ?_
  refine r_xload_n (t := 0) (by omega) rfl rfl ?_
  refine r_iload_n rfl rfl ?_
  refine r_iconst_ (a := nI 1) rfl (by decide) ?_
  refine r_iadd rfl ?_
  refine r_sld rfl (lw_in (k := 1) hi hL (by omega)) ?_
  refine r_xload_n (t := 0) (by omega) rfl rfl ?_
  refine r_iload_n rfl rfl ?_
  refine r_iconst_ (a := nI 2) rfl (by decide) ?_
  refine r_iadd rfl ?_
  refine r_sld rfl (lw_in (k := 2) hi hL (by omega)) ?_
  refine r_callV (kc1 := 6) (ks1 := 10240) [.int (G.2.2.2.2.2.2.1 (nI i + nI 1).toNatClampNeg), .int (G.2.2.2.2.2.2.1 (nI i + nI 2).toNatClampNeg)] [] rfl kY_X11_piece kT_X11_piece rfl rfl (Nat.le_of_ble_eq_true rfl) (Nat.le_of_ble_eq_true rfl) (cc_0 D (s 0) (l 0)) cA (fun r h q9 => ?_)
  obtain ⟨rfl, rfl⟩ := q9
  refine r_aload_n rfl rfl ?_
  refine r_xload_n (t := 0) (by omega) rfl rfl ?_
  refine r_iload_n rfl rfl ?_
  refine r_iconst_ (a := nI 1) rfl (by decide) ?_
  refine r_iadd rfl ?_
  refine r_sld rfl (lw_in (k := 1) hi hL (by omega)) ?_
  refine r_xload_n (t := 0) (by omega) rfl rfl ?_
  refine r_iload_n rfl rfl ?_
  refine r_iconst_ (a := nI 2) rfl (by decide) ?_
  refine r_iadd rfl ?_
  refine r_sld rfl (lw_in (k := 2) hi hL (by omega)) ?_
  refine q_callV0 [.int (G.2.2.2.2.2.2.1 (nI i + nI 1).toNatClampNeg), .int (G.2.2.2.2.2.2.1 (nI i + nI 2).toNatClampNeg)] [.int v] rfl kY_X12_piece kT_X12_piece rfl rfl (Nat.le_of_ble_eq_true rfl) (Nat.le_of_ble_eq_true rfl) (cc_60 D1) cB (fun r h q9 => ?_)
  obtain ⟨rfl, rfl⟩ := q9
  refine r_icmp_eq rfl (fun _ => ?_) (fun h => absurd rfl h)
  exact next _ _ _ inv
set_option maxRecDepth 100000 in
theorem w_picker {G : ab_G} {fu d kc ks i : Nat} {D : fl_D} {s : fl_I} {l : fl_L} {Q : Option Value → ab_H → Prop} (hfu : 20000 ≤ fu) (hI : INV fu D s l) (hi : i + 6 ≤ G.2.2.2.2.2.1) (hL : G.2.2.2.2.2.1 ≤ 3072) (next : ∀ D s l, INV fu D s l → ab_C G (d + 36 + 1) kc ks M_L_law 1199 [some (.retAddr 0), some (.ref 0), some (.ref 60), some (.int (nI i))] [] (hp D s l) Q) : ab_C G (d + 36 + 1) (kc + 6) (ks + 10240) M_L_law 333 [some (.retAddr 0), some (.ref 0), some (.ref 60), some (.int (nI i))] [] (hp D s l) Q := by
  obtain ⟨v, D1, s1, l1, s2, l2, cA, cB, inv⟩ := k_picker (G := G) (d := d) (x0 := G.2.2.2.2.2.2.1 (nI i + nI 1).toNatClampNeg) (x1 := G.2.2.2.2.2.2.1 (nI i + nI 2).toNatClampNeg) hfu hI
  refine r_aload_n rfl rfl ?_
  refine r_xload_n (t := 0) (by omega) rfl rfl ?_
  refine r_iload_n rfl rfl ?_
  refine r_iconst_ (a := nI 1) rfl (by decide) ?_
  refine r_iadd rfl ?_
  refine r_sld rfl (lw_in (k := 1) hi hL (by omega)) ?_
  refine r_xload_n (t := 0) (by omega) rfl rfl ?_
  refine r_iload_n rfl rfl ?_
  refine r_iconst_ (a := nI 2) rfl (by decide) ?_
  refine r_iadd rfl ?_
  refine r_sld rfl (lw_in (k := 2) hi hL (by omega)) ?_
  refine r_callV (kc1 := 6) (ks1 := 10240) [.int (G.2.2.2.2.2.2.1 (nI i + nI 1).toNatClampNeg), .int (G.2.2.2.2.2.2.1 (nI i + nI 2).toNatClampNeg)] [] rfl kY_X11_picker kT_X11_picker rfl rfl (Nat.le_of_ble_eq_true rfl) (Nat.le_of_ble_eq_true rfl) (cc_0 D (s 0) (l 0)) cA (fun r h q9 => ?_)
  obtain ⟨rfl, rfl⟩ := q9
  refine r_aload_n rfl rfl ?_
  refine r_xload_n (t := 0) (by omega) rfl rfl ?_
  refine r_iload_n rfl rfl ?_
  refine r_iconst_ (a := nI 1) rfl (by decide) ?_
  refine r_iadd rfl ?_
  refine r_sld rfl (lw_in (k := 1) hi hL (by omega)) ?_
  refine r_xload_n (t := 0) (by omega) rfl rfl ?_
  refine r_iload_n rfl rfl ?_
  refine r_iconst_ (a := nI 2) rfl (by decide) ?_
  refine r_iadd rfl ?_
  refine r_sld rfl (lw_in (k := 2) hi hL (by omega)) ?_
  refine q_callV0 [.int (G.2.2.2.2.2.2.1 (nI i + nI 1).toNatClampNeg), .int (G.2.2.2.2.2.2.1 (nI i + nI 2).toNatClampNeg)] [.int v] rfl kY_X12_picker kT_X12_picker rfl rfl (Nat.le_of_ble_eq_true rfl) (Nat.le_of_ble_eq_true rfl) (cc_60 D1) cB (fun r h q9 => ?_)
  obtain ⟨rfl, rfl⟩ := q9
  refine r_icmp_eq rfl (fun _ => ?_) (fun h => absurd rfl h)
  exact next _ _ _ inv
set_option maxRecDepth 100000 in
theorem w_lies {G : ab_G} {fu d kc ks i : Nat} {D : fl_D} {s : fl_I} {l : fl_L} {Q : Option Value → ab_H → Prop} (hfu : 20000 ≤ fu) (hI : INV fu D s l) (hi : i + 6 ≤ G.2.2.2.2.2.1) (hL : G.2.2.2.2.2.1 ≤ 3072) (next : ∀ D s l, INV fu D s l → ab_C G (d + 36 + 1) kc ks M_L_law 1199 [some (.retAddr 0), some (.ref 0), some (.ref 60), some (.int (nI i))] [] (hp D s l) Q) : ab_C G (d + 36 + 1) (kc + 6) (ks + 10240) M_L_law 366 [some (.retAddr 0), some (.ref 0), some (.ref 60), some (.int (nI i))] [] (hp D s l) Q := by
  obtain ⟨v, D1, s1, l1, s2, l2, cA, cB, inv⟩ := k_lies (G := G) (d := d) (x0 := G.2.2.2.2.2.2.1 (nI i + nI 1).toNatClampNeg) (x1 := G.2.2.2.2.2.2.1 (nI i + nI 2).toNatClampNeg) hfu hI
  refine r_aload_n rfl rfl ?_
  refine r_xload_n (t := 0) (by omega) rfl rfl ?_
  refine r_iload_n rfl rfl ?_
  refine r_iconst_ (a := nI 1) rfl (by decide) ?_
  refine r_iadd rfl ?_
  refine r_sld rfl (lw_in (k := 1) hi hL (by omega)) ?_
  refine r_xload_n (t := 0) (by omega) rfl rfl ?_
  refine r_iload_n rfl rfl ?_
  refine r_iconst_ (a := nI 2) rfl (by decide) ?_
  refine r_iadd rfl ?_
  refine r_sld rfl (lw_in (k := 2) hi hL (by omega)) ?_
  refine r_callV (kc1 := 6) (ks1 := 10240) [.int (G.2.2.2.2.2.2.1 (nI i + nI 1).toNatClampNeg), .int (G.2.2.2.2.2.2.1 (nI i + nI 2).toNatClampNeg)] [] rfl kY_X11_lies kT_X11_lies rfl rfl (Nat.le_of_ble_eq_true rfl) (Nat.le_of_ble_eq_true rfl) (cc_0 D (s 0) (l 0)) cA (fun r h q9 => ?_)
  obtain ⟨rfl, rfl⟩ := q9
  refine r_aload_n rfl rfl ?_
  refine r_xload_n (t := 0) (by omega) rfl rfl ?_
  refine r_iload_n rfl rfl ?_
  refine r_iconst_ (a := nI 1) rfl (by decide) ?_
  refine r_iadd rfl ?_
  refine r_sld rfl (lw_in (k := 1) hi hL (by omega)) ?_
  refine r_xload_n (t := 0) (by omega) rfl rfl ?_
  refine r_iload_n rfl rfl ?_
  refine r_iconst_ (a := nI 2) rfl (by decide) ?_
  refine r_iadd rfl ?_
  refine r_sld rfl (lw_in (k := 2) hi hL (by omega)) ?_
  refine q_callV0 [.int (G.2.2.2.2.2.2.1 (nI i + nI 1).toNatClampNeg), .int (G.2.2.2.2.2.2.1 (nI i + nI 2).toNatClampNeg)] [.int v] rfl kY_X12_lies kT_X12_lies rfl rfl (Nat.le_of_ble_eq_true rfl) (Nat.le_of_ble_eq_true rfl) (cc_60 D1) cB (fun r h q9 => ?_)
  obtain ⟨rfl, rfl⟩ := q9
  refine r_icmp_eq rfl (fun _ => ?_) (fun h => absurd rfl h)
  exact next _ _ _ inv
set_option maxRecDepth 100000 in
theorem w_send {G : ab_G} {fu d kc ks i : Nat} {D : fl_D} {s : fl_I} {l : fl_L} {Q : Option Value → ab_H → Prop} (hfu : 20000 ≤ fu) (hI : INV fu D s l) (hi : i + 6 ≤ G.2.2.2.2.2.1) (hL : G.2.2.2.2.2.1 ≤ 3072) (next : ∀ D s l, INV fu D s l → ab_C G (d + 36 + 1) kc ks M_L_law 1199 [some (.retAddr 0), some (.ref 0), some (.ref 60), some (.int (nI i))] [] (hp D s l) Q) : ab_C G (d + 36 + 1) (kc + 6) (ks + 10240) M_L_law 399 [some (.retAddr 0), some (.ref 0), some (.ref 60), some (.int (nI i))] [] (hp D s l) Q := by
  obtain ⟨v, D1, s1, l1, s2, l2, cA, cB, inv⟩ := k_send (G := G) (d := d) (x0 := G.2.2.2.2.2.2.1 (nI i + nI 1).toNatClampNeg) (x1 := G.2.2.2.2.2.2.1 (nI i + nI 2).toNatClampNeg) (x2 := G.2.2.2.2.2.2.1 (nI i + nI 3).toNatClampNeg) hfu hI
  refine r_aload_n rfl rfl ?_
  refine r_xload_n (t := 0) (by omega) rfl rfl ?_
  refine r_iload_n rfl rfl ?_
  refine r_iconst_ (a := nI 1) rfl (by decide) ?_
  refine r_iadd rfl ?_
  refine r_sld rfl (lw_in (k := 1) hi hL (by omega)) ?_
  refine r_xload_n (t := 0) (by omega) rfl rfl ?_
  refine r_iload_n rfl rfl ?_
  refine r_iconst_ (a := nI 2) rfl (by decide) ?_
  refine r_iadd rfl ?_
  refine r_sld rfl (lw_in (k := 2) hi hL (by omega)) ?_
  refine r_xload_n (t := 0) (by omega) rfl rfl ?_
  refine r_iload_n rfl rfl ?_
  refine r_iconst_ (a := nI 3) rfl (by decide) ?_
  refine r_iadd rfl ?_
  refine r_sld rfl (lw_in (k := 3) hi hL (by omega)) ?_
  refine r_callV (kc1 := 6) (ks1 := 10240) [.int (G.2.2.2.2.2.2.1 (nI i + nI 1).toNatClampNeg), .int (G.2.2.2.2.2.2.1 (nI i + nI 2).toNatClampNeg), .int (G.2.2.2.2.2.2.1 (nI i + nI 3).toNatClampNeg)] [] rfl kY_X11_send kT_X11_send rfl rfl (Nat.le_of_ble_eq_true rfl) (Nat.le_of_ble_eq_true rfl) (cc_0 D (s 0) (l 0)) cA (fun r h q9 => ?_)
  obtain ⟨rfl, rfl⟩ := q9
  refine r_aload_n rfl rfl ?_
  refine r_xload_n (t := 0) (by omega) rfl rfl ?_
  refine r_iload_n rfl rfl ?_
  refine r_iconst_ (a := nI 1) rfl (by decide) ?_
  refine r_iadd rfl ?_
  refine r_sld rfl (lw_in (k := 1) hi hL (by omega)) ?_
  refine r_xload_n (t := 0) (by omega) rfl rfl ?_
  refine r_iload_n rfl rfl ?_
  refine r_iconst_ (a := nI 2) rfl (by decide) ?_
  refine r_iadd rfl ?_
  refine r_sld rfl (lw_in (k := 2) hi hL (by omega)) ?_
  refine r_xload_n (t := 0) (by omega) rfl rfl ?_
  refine r_iload_n rfl rfl ?_
  refine r_iconst_ (a := nI 3) rfl (by decide) ?_
  refine r_iadd rfl ?_
  refine r_sld rfl (lw_in (k := 3) hi hL (by omega)) ?_
  refine q_callV0 [.int (G.2.2.2.2.2.2.1 (nI i + nI 1).toNatClampNeg), .int (G.2.2.2.2.2.2.1 (nI i + nI 2).toNatClampNeg), .int (G.2.2.2.2.2.2.1 (nI i + nI 3).toNatClampNeg)] [.int v] rfl kY_X12_send kT_X12_send rfl rfl (Nat.le_of_ble_eq_true rfl) (Nat.le_of_ble_eq_true rfl) (cc_60 D1) cB (fun r h q9 => ?_)
  obtain ⟨rfl, rfl⟩ := q9
  refine r_icmp_eq rfl (fun _ => ?_) (fun h => absurd rfl h)
  exact next _ _ _ inv
set_option maxRecDepth 100000 in
theorem w_drop {G : ab_G} {fu d kc ks i : Nat} {D : fl_D} {s : fl_I} {l : fl_L} {Q : Option Value → ab_H → Prop} (hfu : 20000 ≤ fu) (hI : INV fu D s l) (hi : i + 6 ≤ G.2.2.2.2.2.1) (hL : G.2.2.2.2.2.1 ≤ 3072) (next : ∀ D s l, INV fu D s l → ab_C G (d + 36 + 1) kc ks M_L_law 1199 [some (.retAddr 0), some (.ref 0), some (.ref 60), some (.int (nI i))] [] (hp D s l) Q) : ab_C G (d + 36 + 1) (kc + 6) (ks + 10240) M_L_law 442 [some (.retAddr 0), some (.ref 0), some (.ref 60), some (.int (nI i))] [] (hp D s l) Q := by
  obtain ⟨v, D1, s1, l1, s2, l2, cA, cB, inv⟩ := k_drop (G := G) (d := d) (x0 := G.2.2.2.2.2.2.1 (nI i + nI 1).toNatClampNeg) hfu hI
  refine r_aload_n rfl rfl ?_
  refine r_xload_n (t := 0) (by omega) rfl rfl ?_
  refine r_iload_n rfl rfl ?_
  refine r_iconst_ (a := nI 1) rfl (by decide) ?_
  refine r_iadd rfl ?_
  refine r_sld rfl (lw_in (k := 1) hi hL (by omega)) ?_
  refine r_callV (kc1 := 6) (ks1 := 10240) [.int (G.2.2.2.2.2.2.1 (nI i + nI 1).toNatClampNeg)] [] rfl kY_X11_drop kT_X11_drop rfl rfl (Nat.le_of_ble_eq_true rfl) (Nat.le_of_ble_eq_true rfl) (cc_0 D (s 0) (l 0)) cA (fun r h q9 => ?_)
  obtain ⟨rfl, rfl⟩ := q9
  refine r_aload_n rfl rfl ?_
  refine r_xload_n (t := 0) (by omega) rfl rfl ?_
  refine r_iload_n rfl rfl ?_
  refine r_iconst_ (a := nI 1) rfl (by decide) ?_
  refine r_iadd rfl ?_
  refine r_sld rfl (lw_in (k := 1) hi hL (by omega)) ?_
  refine q_callV0 [.int (G.2.2.2.2.2.2.1 (nI i + nI 1).toNatClampNeg)] [.int v] rfl kY_X12_drop kT_X12_drop rfl rfl (Nat.le_of_ble_eq_true rfl) (Nat.le_of_ble_eq_true rfl) (cc_60 D1) cB (fun r h q9 => ?_)
  obtain ⟨rfl, rfl⟩ := q9
  refine r_icmp_eq rfl (fun _ => ?_) (fun h => absurd rfl h)
  exact next _ _ _ inv
set_option maxRecDepth 100000 in
theorem w_give {G : ab_G} {fu d kc ks i : Nat} {D : fl_D} {s : fl_I} {l : fl_L} {Q : Option Value → ab_H → Prop} (hfu : 20000 ≤ fu) (hI : INV fu D s l) (hi : i + 6 ≤ G.2.2.2.2.2.1) (hL : G.2.2.2.2.2.1 ≤ 3072) (next : ∀ D s l, INV fu D s l → ab_C G (d + 36 + 1) kc ks M_L_law 1199 [some (.retAddr 0), some (.ref 0), some (.ref 60), some (.int (nI i))] [] (hp D s l) Q) : ab_C G (d + 36 + 1) (kc + 6) (ks + 10240) M_L_law 465 [some (.retAddr 0), some (.ref 0), some (.ref 60), some (.int (nI i))] [] (hp D s l) Q := by
  obtain ⟨v, D1, s1, l1, s2, l2, cA, cB, inv⟩ := k_give (G := G) (d := d) (x0 := G.2.2.2.2.2.2.1 (nI i + nI 1).toNatClampNeg) (x1 := G.2.2.2.2.2.2.1 (nI i + nI 2).toNatClampNeg) hfu hI
  refine r_aload_n rfl rfl ?_
  refine r_xload_n (t := 0) (by omega) rfl rfl ?_
  refine r_iload_n rfl rfl ?_
  refine r_iconst_ (a := nI 1) rfl (by decide) ?_
  refine r_iadd rfl ?_
  refine r_sld rfl (lw_in (k := 1) hi hL (by omega)) ?_
  refine r_xload_n (t := 0) (by omega) rfl rfl ?_
  refine r_iload_n rfl rfl ?_
  refine r_iconst_ (a := nI 2) rfl (by decide) ?_
  refine r_iadd rfl ?_
  refine r_sld rfl (lw_in (k := 2) hi hL (by omega)) ?_
  refine r_callV (kc1 := 6) (ks1 := 10240) [.int (G.2.2.2.2.2.2.1 (nI i + nI 1).toNatClampNeg), .int (G.2.2.2.2.2.2.1 (nI i + nI 2).toNatClampNeg)] [] rfl kY_X11_give kT_X11_give rfl rfl (Nat.le_of_ble_eq_true rfl) (Nat.le_of_ble_eq_true rfl) (cc_0 D (s 0) (l 0)) cA (fun r h q9 => ?_)
  obtain ⟨rfl, rfl⟩ := q9
  refine r_aload_n rfl rfl ?_
  refine r_xload_n (t := 0) (by omega) rfl rfl ?_
  refine r_iload_n rfl rfl ?_
  refine r_iconst_ (a := nI 1) rfl (by decide) ?_
  refine r_iadd rfl ?_
  refine r_sld rfl (lw_in (k := 1) hi hL (by omega)) ?_
  refine r_xload_n (t := 0) (by omega) rfl rfl ?_
  refine r_iload_n rfl rfl ?_
  refine r_iconst_ (a := nI 2) rfl (by decide) ?_
  refine r_iadd rfl ?_
  refine r_sld rfl (lw_in (k := 2) hi hL (by omega)) ?_
  refine q_callV0 [.int (G.2.2.2.2.2.2.1 (nI i + nI 1).toNatClampNeg), .int (G.2.2.2.2.2.2.1 (nI i + nI 2).toNatClampNeg)] [.int v] rfl kY_X12_give kT_X12_give rfl rfl (Nat.le_of_ble_eq_true rfl) (Nat.le_of_ble_eq_true rfl) (cc_60 D1) cB (fun r h q9 => ?_)
  obtain ⟨rfl, rfl⟩ := q9
  refine r_icmp_eq rfl (fun _ => ?_) (fun h => absurd rfl h)
  exact next _ _ _ inv
set_option maxRecDepth 100000 in
theorem w_hours {G : ab_G} {fu d kc ks i : Nat} {D : fl_D} {s : fl_I} {l : fl_L} {Q : Option Value → ab_H → Prop} (hfu : 20000 ≤ fu) (hI : INV fu D s l) (hi : i + 6 ≤ G.2.2.2.2.2.1) (hL : G.2.2.2.2.2.1 ≤ 3072) (next : ∀ D s l, INV fu D s l → ab_C G (d + 36 + 1) kc ks M_L_law 1199 [some (.retAddr 0), some (.ref 0), some (.ref 60), some (.int (nI i))] [] (hp D s l) Q) : ab_C G (d + 36 + 1) (kc + 6) (ks + 10240) M_L_law 498 [some (.retAddr 0), some (.ref 0), some (.ref 60), some (.int (nI i))] [] (hp D s l) Q := by
  obtain ⟨v, D1, s1, l1, s2, l2, cA, cB, inv⟩ := k_hours (G := G) (d := d) (x0 := G.2.2.2.2.2.2.1 (nI i + nI 1).toNatClampNeg) hfu hI
  refine r_aload_n rfl rfl ?_
  refine r_xload_n (t := 0) (by omega) rfl rfl ?_
  refine r_iload_n rfl rfl ?_
  refine r_iconst_ (a := nI 1) rfl (by decide) ?_
  refine r_iadd rfl ?_
  refine r_sld rfl (lw_in (k := 1) hi hL (by omega)) ?_
  refine r_callV (kc1 := 6) (ks1 := 10240) [.int (G.2.2.2.2.2.2.1 (nI i + nI 1).toNatClampNeg)] [] rfl kY_X11_hours kT_X11_hours rfl rfl (Nat.le_of_ble_eq_true rfl) (Nat.le_of_ble_eq_true rfl) (cc_0 D (s 0) (l 0)) cA (fun r h q9 => ?_)
  obtain ⟨rfl, rfl⟩ := q9
  refine r_aload_n rfl rfl ?_
  refine r_xload_n (t := 0) (by omega) rfl rfl ?_
  refine r_iload_n rfl rfl ?_
  refine r_iconst_ (a := nI 1) rfl (by decide) ?_
  refine r_iadd rfl ?_
  refine r_sld rfl (lw_in (k := 1) hi hL (by omega)) ?_
  refine q_callV0 [.int (G.2.2.2.2.2.2.1 (nI i + nI 1).toNatClampNeg)] [.int v] rfl kY_X12_hours kT_X12_hours rfl rfl (Nat.le_of_ble_eq_true rfl) (Nat.le_of_ble_eq_true rfl) (cc_60 D1) cB (fun r h q9 => ?_)
  obtain ⟨rfl, rfl⟩ := q9
  refine r_icmp_eq rfl (fun _ => ?_) (fun h => absurd rfl h)
  exact next _ _ _ inv
set_option maxRecDepth 100000 in
theorem w_undo {G : ab_G} {fu d kc ks i : Nat} {D : fl_D} {s : fl_I} {l : fl_L} {Q : Option Value → ab_H → Prop} (hfu : 20000 ≤ fu) (hI : INV fu D s l) (hi : i + 6 ≤ G.2.2.2.2.2.1) (hL : G.2.2.2.2.2.1 ≤ 3072) (next : ∀ D s l, INV fu D s l → ab_C G (d + 36 + 1) kc ks M_L_law 1199 [some (.retAddr 0), some (.ref 0), some (.ref 60), some (.int (nI i))] [] (hp D s l) Q) : ab_C G (d + 36 + 1) (kc + 6) (ks + 10240) M_L_law 521 [some (.retAddr 0), some (.ref 0), some (.ref 60), some (.int (nI i))] [] (hp D s l) Q := by
  obtain ⟨v, D1, s1, l1, s2, l2, cA, cB, inv⟩ := k_undo (G := G) (d := d)  hfu hI
  refine r_aload_n rfl rfl ?_
  refine r_callV (kc1 := 6) (ks1 := 10240) [] [] rfl kY_X11_undo kT_X11_undo rfl rfl (Nat.le_of_ble_eq_true rfl) (Nat.le_of_ble_eq_true rfl) (cc_0 D (s 0) (l 0)) cA (fun r h q9 => ?_)
  obtain ⟨rfl, rfl⟩ := q9
  refine r_aload_n rfl rfl ?_
  refine q_callV0 [] [.int v] rfl kY_X12_undo kT_X12_undo rfl rfl (Nat.le_of_ble_eq_true rfl) (Nat.le_of_ble_eq_true rfl) (cc_60 D1) cB (fun r h q9 => ?_)
  obtain ⟨rfl, rfl⟩ := q9
  refine r_icmp_eq rfl (fun _ => ?_) (fun h => absurd rfl h)
  exact next _ _ _ inv
set_option maxRecDepth 100000 in
theorem w_steps {G : ab_G} {fu d kc ks i : Nat} {D : fl_D} {s : fl_I} {l : fl_L} {Q : Option Value → ab_H → Prop} (hfu : 20000 ≤ fu) (hI : INV fu D s l) (hi : i + 6 ≤ G.2.2.2.2.2.1) (hL : G.2.2.2.2.2.1 ≤ 3072) (next : ∀ D s l, INV fu D s l → ab_C G (d + 36 + 1) kc ks M_L_law 1199 [some (.retAddr 0), some (.ref 0), some (.ref 60), some (.int (nI i))] [] (hp D s l) Q) : ab_C G (d + 36 + 1) (kc + 6) (ks + 10240) M_L_law 534 [some (.retAddr 0), some (.ref 0), some (.ref 60), some (.int (nI i))] [] (hp D s l) Q := by
  obtain ⟨v, D1, s1, l1, s2, l2, cA, cB, inv⟩ := k_steps (G := G) (d := d) (x0 := G.2.2.2.2.2.2.1 (nI i + nI 1).toNatClampNeg) (x1 := G.2.2.2.2.2.2.1 (nI i + nI 2).toNatClampNeg) (x2 := G.2.2.2.2.2.2.1 (nI i + nI 3).toNatClampNeg) hfu hI
  refine r_aload_n rfl rfl ?_
  refine r_xload_n (t := 0) (by omega) rfl rfl ?_
  refine r_iload_n rfl rfl ?_
  refine r_iconst_ (a := nI 1) rfl (by decide) ?_
  refine r_iadd rfl ?_
  refine r_sld rfl (lw_in (k := 1) hi hL (by omega)) ?_
  refine r_xload_n (t := 0) (by omega) rfl rfl ?_
  refine r_iload_n rfl rfl ?_
  refine r_iconst_ (a := nI 2) rfl (by decide) ?_
  refine r_iadd rfl ?_
  refine r_sld rfl (lw_in (k := 2) hi hL (by omega)) ?_
  refine r_xload_n (t := 0) (by omega) rfl rfl ?_
  refine r_iload_n rfl rfl ?_
  refine r_iconst_ (a := nI 3) rfl (by decide) ?_
  refine r_iadd rfl ?_
  refine r_sld rfl (lw_in (k := 3) hi hL (by omega)) ?_
  refine r_callV (kc1 := 6) (ks1 := 10240) [.int (G.2.2.2.2.2.2.1 (nI i + nI 1).toNatClampNeg), .int (G.2.2.2.2.2.2.1 (nI i + nI 2).toNatClampNeg), .int (G.2.2.2.2.2.2.1 (nI i + nI 3).toNatClampNeg)] [] rfl kY_X11_steps kT_X11_steps rfl rfl (Nat.le_of_ble_eq_true rfl) (Nat.le_of_ble_eq_true rfl) (cc_0 D (s 0) (l 0)) cA (fun r h q9 => ?_)
  obtain ⟨rfl, rfl⟩ := q9
  refine r_aload_n rfl rfl ?_
  refine r_xload_n (t := 0) (by omega) rfl rfl ?_
  refine r_iload_n rfl rfl ?_
  refine r_iconst_ (a := nI 1) rfl (by decide) ?_
  refine r_iadd rfl ?_
  refine r_sld rfl (lw_in (k := 1) hi hL (by omega)) ?_
  refine r_xload_n (t := 0) (by omega) rfl rfl ?_
  refine r_iload_n rfl rfl ?_
  refine r_iconst_ (a := nI 2) rfl (by decide) ?_
  refine r_iadd rfl ?_
  refine r_sld rfl (lw_in (k := 2) hi hL (by omega)) ?_
  refine r_xload_n (t := 0) (by omega) rfl rfl ?_
  refine r_iload_n rfl rfl ?_
  refine r_iconst_ (a := nI 3) rfl (by decide) ?_
  refine r_iadd rfl ?_
  refine r_sld rfl (lw_in (k := 3) hi hL (by omega)) ?_
  refine q_callV0 [.int (G.2.2.2.2.2.2.1 (nI i + nI 1).toNatClampNeg), .int (G.2.2.2.2.2.2.1 (nI i + nI 2).toNatClampNeg), .int (G.2.2.2.2.2.2.1 (nI i + nI 3).toNatClampNeg)] [.int v] rfl kY_X12_steps kT_X12_steps rfl rfl (Nat.le_of_ble_eq_true rfl) (Nat.le_of_ble_eq_true rfl) (cc_60 D1) cB (fun r h q9 => ?_)
  obtain ⟨rfl, rfl⟩ := q9
  refine r_icmp_eq rfl (fun _ => ?_) (fun h => absurd rfl h)
  exact next _ _ _ inv
set_option maxRecDepth 100000 in
theorem w_round {G : ab_G} {fu d kc ks i : Nat} {D : fl_D} {s : fl_I} {l : fl_L} {Q : Option Value → ab_H → Prop} (hfu : 20000 ≤ fu) (hI : INV fu D s l) (hi : i + 6 ≤ G.2.2.2.2.2.1) (hL : G.2.2.2.2.2.1 ≤ 3072) (next : ∀ D s l, INV fu D s l → ab_C G (d + 36 + 1) kc ks M_L_law 1199 [some (.retAddr 0), some (.ref 0), some (.ref 60), some (.int (nI i))] [] (hp D s l) Q) : ab_C G (d + 36 + 1) (kc + 6) (ks + 10240) M_L_law 577 [some (.retAddr 0), some (.ref 0), some (.ref 60), some (.int (nI i))] [] (hp D s l) Q := by
  obtain ⟨v, D1, s1, l1, s2, l2, cA, cB, inv⟩ := k_round (G := G) (d := d) (x0 := G.2.2.2.2.2.2.1 (nI i + nI 1).toNatClampNeg) (x1 := G.2.2.2.2.2.2.1 (nI i + nI 2).toNatClampNeg) hfu hI
  refine r_aload_n rfl rfl ?_
  refine r_xload_n (t := 0) (by omega) rfl rfl ?_
  refine r_iload_n rfl rfl ?_
  refine r_iconst_ (a := nI 1) rfl (by decide) ?_
  refine r_iadd rfl ?_
  refine r_sld rfl (lw_in (k := 1) hi hL (by omega)) ?_
  refine r_xload_n (t := 0) (by omega) rfl rfl ?_
  refine r_iload_n rfl rfl ?_
  refine r_iconst_ (a := nI 2) rfl (by decide) ?_
  refine r_iadd rfl ?_
  refine r_sld rfl (lw_in (k := 2) hi hL (by omega)) ?_
  refine r_callV (kc1 := 6) (ks1 := 10240) [.int (G.2.2.2.2.2.2.1 (nI i + nI 1).toNatClampNeg), .int (G.2.2.2.2.2.2.1 (nI i + nI 2).toNatClampNeg)] [] rfl kY_X11_round kT_X11_round rfl rfl (Nat.le_of_ble_eq_true rfl) (Nat.le_of_ble_eq_true rfl) (cc_0 D (s 0) (l 0)) cA (fun r h q9 => ?_)
  obtain ⟨rfl, rfl⟩ := q9
  refine r_aload_n rfl rfl ?_
  refine r_xload_n (t := 0) (by omega) rfl rfl ?_
  refine r_iload_n rfl rfl ?_
  refine r_iconst_ (a := nI 1) rfl (by decide) ?_
  refine r_iadd rfl ?_
  refine r_sld rfl (lw_in (k := 1) hi hL (by omega)) ?_
  refine r_xload_n (t := 0) (by omega) rfl rfl ?_
  refine r_iload_n rfl rfl ?_
  refine r_iconst_ (a := nI 2) rfl (by decide) ?_
  refine r_iadd rfl ?_
  refine r_sld rfl (lw_in (k := 2) hi hL (by omega)) ?_
  refine q_callV0 [.int (G.2.2.2.2.2.2.1 (nI i + nI 1).toNatClampNeg), .int (G.2.2.2.2.2.2.1 (nI i + nI 2).toNatClampNeg)] [.int v] rfl kY_X12_round kT_X12_round rfl rfl (Nat.le_of_ble_eq_true rfl) (Nat.le_of_ble_eq_true rfl) (cc_60 D1) cB (fun r h q9 => ?_)
  obtain ⟨rfl, rfl⟩ := q9
  refine r_icmp_eq rfl (fun _ => ?_) (fun h => absurd rfl h)
  exact next _ _ _ inv
set_option maxRecDepth 100000 in
theorem w_share {G : ab_G} {fu d kc ks i : Nat} {D : fl_D} {s : fl_I} {l : fl_L} {Q : Option Value → ab_H → Prop} (hfu : 20000 ≤ fu) (hI : INV fu D s l) (hi : i + 6 ≤ G.2.2.2.2.2.1) (hL : G.2.2.2.2.2.1 ≤ 3072) (next : ∀ D s l, INV fu D s l → ab_C G (d + 36 + 1) kc ks M_L_law 1199 [some (.retAddr 0), some (.ref 0), some (.ref 60), some (.int (nI i))] [] (hp D s l) Q) : ab_C G (d + 36 + 1) (kc + 6) (ks + 10240) M_L_law 610 [some (.retAddr 0), some (.ref 0), some (.ref 60), some (.int (nI i))] [] (hp D s l) Q := by
  obtain ⟨v, D1, s1, l1, s2, l2, cA, cB, inv⟩ := k_share (G := G) (d := d) (x0 := G.2.2.2.2.2.2.1 (nI i + nI 1).toNatClampNeg) (x1 := G.2.2.2.2.2.2.1 (nI i + nI 2).toNatClampNeg) hfu hI
  refine r_aload_n rfl rfl ?_
  refine r_xload_n (t := 0) (by omega) rfl rfl ?_
  refine r_iload_n rfl rfl ?_
  refine r_iconst_ (a := nI 1) rfl (by decide) ?_
  refine r_iadd rfl ?_
  refine r_sld rfl (lw_in (k := 1) hi hL (by omega)) ?_
  refine r_xload_n (t := 0) (by omega) rfl rfl ?_
  refine r_iload_n rfl rfl ?_
  refine r_iconst_ (a := nI 2) rfl (by decide) ?_
  refine r_iadd rfl ?_
  refine r_sld rfl (lw_in (k := 2) hi hL (by omega)) ?_
  refine r_callV (kc1 := 6) (ks1 := 10240) [.int (G.2.2.2.2.2.2.1 (nI i + nI 1).toNatClampNeg), .int (G.2.2.2.2.2.2.1 (nI i + nI 2).toNatClampNeg)] [] rfl kY_X11_share kT_X11_share rfl rfl (Nat.le_of_ble_eq_true rfl) (Nat.le_of_ble_eq_true rfl) (cc_0 D (s 0) (l 0)) cA (fun r h q9 => ?_)
  obtain ⟨rfl, rfl⟩ := q9
  refine r_aload_n rfl rfl ?_
  refine r_xload_n (t := 0) (by omega) rfl rfl ?_
  refine r_iload_n rfl rfl ?_
  refine r_iconst_ (a := nI 1) rfl (by decide) ?_
  refine r_iadd rfl ?_
  refine r_sld rfl (lw_in (k := 1) hi hL (by omega)) ?_
  refine r_xload_n (t := 0) (by omega) rfl rfl ?_
  refine r_iload_n rfl rfl ?_
  refine r_iconst_ (a := nI 2) rfl (by decide) ?_
  refine r_iadd rfl ?_
  refine r_sld rfl (lw_in (k := 2) hi hL (by omega)) ?_
  refine q_callV0 [.int (G.2.2.2.2.2.2.1 (nI i + nI 1).toNatClampNeg), .int (G.2.2.2.2.2.2.1 (nI i + nI 2).toNatClampNeg)] [.int v] rfl kY_X12_share kT_X12_share rfl rfl (Nat.le_of_ble_eq_true rfl) (Nat.le_of_ble_eq_true rfl) (cc_60 D1) cB (fun r h q9 => ?_)
  obtain ⟨rfl, rfl⟩ := q9
  refine r_icmp_eq rfl (fun _ => ?_) (fun h => absurd rfl h)
  exact next _ _ _ inv
set_option maxRecDepth 100000 in
theorem w_closest {G : ab_G} {fu d kc ks i : Nat} {D : fl_D} {s : fl_I} {l : fl_L} {Q : Option Value → ab_H → Prop} (hfu : 20000 ≤ fu) (hI : INV fu D s l) (hi : i + 6 ≤ G.2.2.2.2.2.1) (hL : G.2.2.2.2.2.1 ≤ 3072) (next : ∀ D s l, INV fu D s l → ab_C G (d + 36 + 1) kc ks M_L_law 1199 [some (.retAddr 0), some (.ref 0), some (.ref 60), some (.int (nI i))] [] (hp D s l) Q) : ab_C G (d + 36 + 1) (kc + 6) (ks + 10240) M_L_law 643 [some (.retAddr 0), some (.ref 0), some (.ref 60), some (.int (nI i))] [] (hp D s l) Q := by
  obtain ⟨v, D1, s1, l1, s2, l2, cA, cB, inv⟩ := k_closest (G := G) (d := d) (x0 := G.2.2.2.2.2.2.1 (nI i + nI 1).toNatClampNeg) (x1 := G.2.2.2.2.2.2.1 (nI i + nI 2).toNatClampNeg) hfu hI
  refine r_aload_n rfl rfl ?_
  refine r_xload_n (t := 0) (by omega) rfl rfl ?_
  refine r_iload_n rfl rfl ?_
  refine r_iconst_ (a := nI 1) rfl (by decide) ?_
  refine r_iadd rfl ?_
  refine r_sld rfl (lw_in (k := 1) hi hL (by omega)) ?_
  refine r_xload_n (t := 0) (by omega) rfl rfl ?_
  refine r_iload_n rfl rfl ?_
  refine r_iconst_ (a := nI 2) rfl (by decide) ?_
  refine r_iadd rfl ?_
  refine r_sld rfl (lw_in (k := 2) hi hL (by omega)) ?_
  refine r_callV (kc1 := 6) (ks1 := 10240) [.int (G.2.2.2.2.2.2.1 (nI i + nI 1).toNatClampNeg), .int (G.2.2.2.2.2.2.1 (nI i + nI 2).toNatClampNeg)] [] rfl kY_X11_closest kT_X11_closest rfl rfl (Nat.le_of_ble_eq_true rfl) (Nat.le_of_ble_eq_true rfl) (cc_0 D (s 0) (l 0)) cA (fun r h q9 => ?_)
  obtain ⟨rfl, rfl⟩ := q9
  refine r_aload_n rfl rfl ?_
  refine r_xload_n (t := 0) (by omega) rfl rfl ?_
  refine r_iload_n rfl rfl ?_
  refine r_iconst_ (a := nI 1) rfl (by decide) ?_
  refine r_iadd rfl ?_
  refine r_sld rfl (lw_in (k := 1) hi hL (by omega)) ?_
  refine r_xload_n (t := 0) (by omega) rfl rfl ?_
  refine r_iload_n rfl rfl ?_
  refine r_iconst_ (a := nI 2) rfl (by decide) ?_
  refine r_iadd rfl ?_
  refine r_sld rfl (lw_in (k := 2) hi hL (by omega)) ?_
  refine q_callV0 [.int (G.2.2.2.2.2.2.1 (nI i + nI 1).toNatClampNeg), .int (G.2.2.2.2.2.2.1 (nI i + nI 2).toNatClampNeg)] [.int v] rfl kY_X12_closest kT_X12_closest rfl rfl (Nat.le_of_ble_eq_true rfl) (Nat.le_of_ble_eq_true rfl) (cc_60 D1) cB (fun r h q9 => ?_)
  obtain ⟨rfl, rfl⟩ := q9
  refine r_icmp_eq rfl (fun _ => ?_) (fun h => absurd rfl h)
  exact next _ _ _ inv
set_option maxRecDepth 100000 in
theorem w_richest {G : ab_G} {fu d kc ks i : Nat} {D : fl_D} {s : fl_I} {l : fl_L} {Q : Option Value → ab_H → Prop} (hfu : 20000 ≤ fu) (hI : INV fu D s l) (hi : i + 6 ≤ G.2.2.2.2.2.1) (hL : G.2.2.2.2.2.1 ≤ 3072) (next : ∀ D s l, INV fu D s l → ab_C G (d + 36 + 1) kc ks M_L_law 1199 [some (.retAddr 0), some (.ref 0), some (.ref 60), some (.int (nI i))] [] (hp D s l) Q) : ab_C G (d + 36 + 1) (kc + 6) (ks + 10240) M_L_law 676 [some (.retAddr 0), some (.ref 0), some (.ref 60), some (.int (nI i))] [] (hp D s l) Q := by
  obtain ⟨v, D1, s1, l1, s2, l2, cA, cB, inv⟩ := k_richest (G := G) (d := d) (x0 := G.2.2.2.2.2.2.1 (nI i + nI 1).toNatClampNeg) hfu hI
  refine r_aload_n rfl rfl ?_
  refine r_xload_n (t := 0) (by omega) rfl rfl ?_
  refine r_iload_n rfl rfl ?_
  refine r_iconst_ (a := nI 1) rfl (by decide) ?_
  refine r_iadd rfl ?_
  refine r_sld rfl (lw_in (k := 1) hi hL (by omega)) ?_
  refine r_callV (kc1 := 6) (ks1 := 10240) [.int (G.2.2.2.2.2.2.1 (nI i + nI 1).toNatClampNeg)] [] rfl kY_X11_richest kT_X11_richest rfl rfl (Nat.le_of_ble_eq_true rfl) (Nat.le_of_ble_eq_true rfl) (cc_0 D (s 0) (l 0)) cA (fun r h q9 => ?_)
  obtain ⟨rfl, rfl⟩ := q9
  refine r_aload_n rfl rfl ?_
  refine r_xload_n (t := 0) (by omega) rfl rfl ?_
  refine r_iload_n rfl rfl ?_
  refine r_iconst_ (a := nI 1) rfl (by decide) ?_
  refine r_iadd rfl ?_
  refine r_sld rfl (lw_in (k := 1) hi hL (by omega)) ?_
  refine q_callV0 [.int (G.2.2.2.2.2.2.1 (nI i + nI 1).toNatClampNeg)] [.int v] rfl kY_X12_richest kT_X12_richest rfl rfl (Nat.le_of_ble_eq_true rfl) (Nat.le_of_ble_eq_true rfl) (cc_60 D1) cB (fun r h q9 => ?_)
  obtain ⟨rfl, rfl⟩ := q9
  refine r_icmp_eq rfl (fun _ => ?_) (fun h => absurd rfl h)
  exact next _ _ _ inv
set_option maxRecDepth 100000 in
theorem w_made {G : ab_G} {fu d kc ks i : Nat} {D : fl_D} {s : fl_I} {l : fl_L} {Q : Option Value → ab_H → Prop} (hfu : 20000 ≤ fu) (hI : INV fu D s l) (hi : i + 6 ≤ G.2.2.2.2.2.1) (hL : G.2.2.2.2.2.1 ≤ 3072) (next : ∀ D s l, INV fu D s l → ab_C G (d + 36 + 1) kc ks M_L_law 1199 [some (.retAddr 0), some (.ref 0), some (.ref 60), some (.int (nI i))] [] (hp D s l) Q) : ab_C G (d + 36 + 1) (kc + 6) (ks + 10240) M_L_law 699 [some (.retAddr 0), some (.ref 0), some (.ref 60), some (.int (nI i))] [] (hp D s l) Q := by
  obtain ⟨v, D1, s1, l1, s2, l2, cA, cB, inv⟩ := k_made (G := G) (d := d) (x0 := G.2.2.2.2.2.2.1 (nI i + nI 1).toNatClampNeg) hfu hI
  refine r_aload_n rfl rfl ?_
  refine r_xload_n (t := 0) (by omega) rfl rfl ?_
  refine r_iload_n rfl rfl ?_
  refine r_iconst_ (a := nI 1) rfl (by decide) ?_
  refine r_iadd rfl ?_
  refine r_sld rfl (lw_in (k := 1) hi hL (by omega)) ?_
  refine r_callV (kc1 := 6) (ks1 := 10240) [.int (G.2.2.2.2.2.2.1 (nI i + nI 1).toNatClampNeg)] [] rfl kY_X11_made kT_X11_made rfl rfl (Nat.le_of_ble_eq_true rfl) (Nat.le_of_ble_eq_true rfl) (cc_0 D (s 0) (l 0)) cA (fun r h q9 => ?_)
  obtain ⟨rfl, rfl⟩ := q9
  refine r_aload_n rfl rfl ?_
  refine r_xload_n (t := 0) (by omega) rfl rfl ?_
  refine r_iload_n rfl rfl ?_
  refine r_iconst_ (a := nI 1) rfl (by decide) ?_
  refine r_iadd rfl ?_
  refine r_sld rfl (lw_in (k := 1) hi hL (by omega)) ?_
  refine q_callV0 [.int (G.2.2.2.2.2.2.1 (nI i + nI 1).toNatClampNeg)] [.int v] rfl kY_X12_made kT_X12_made rfl rfl (Nat.le_of_ble_eq_true rfl) (Nat.le_of_ble_eq_true rfl) (cc_60 D1) cB (fun r h q9 => ?_)
  obtain ⟨rfl, rfl⟩ := q9
  refine r_icmp_eq rfl (fun _ => ?_) (fun h => absurd rfl h)
  exact next _ _ _ inv
set_option maxRecDepth 100000 in
theorem w_together {G : ab_G} {fu d kc ks i : Nat} {D : fl_D} {s : fl_I} {l : fl_L} {Q : Option Value → ab_H → Prop} (hfu : 20000 ≤ fu) (hI : INV fu D s l) (hi : i + 6 ≤ G.2.2.2.2.2.1) (hL : G.2.2.2.2.2.1 ≤ 3072) (next : ∀ D s l, INV fu D s l → ab_C G (d + 36 + 1) kc ks M_L_law 1199 [some (.retAddr 0), some (.ref 0), some (.ref 60), some (.int (nI i))] [] (hp D s l) Q) : ab_C G (d + 36 + 1) (kc + 6) (ks + 10240) M_L_law 722 [some (.retAddr 0), some (.ref 0), some (.ref 60), some (.int (nI i))] [] (hp D s l) Q := by
  obtain ⟨v, D1, s1, l1, s2, l2, cA, cB, inv⟩ := k_together (G := G) (d := d) (x0 := G.2.2.2.2.2.2.1 (nI i + nI 1).toNatClampNeg) hfu hI
  refine r_aload_n rfl rfl ?_
  refine r_xload_n (t := 0) (by omega) rfl rfl ?_
  refine r_iload_n rfl rfl ?_
  refine r_iconst_ (a := nI 1) rfl (by decide) ?_
  refine r_iadd rfl ?_
  refine r_sld rfl (lw_in (k := 1) hi hL (by omega)) ?_
  refine r_callV (kc1 := 6) (ks1 := 10240) [.int (G.2.2.2.2.2.2.1 (nI i + nI 1).toNatClampNeg)] [] rfl kY_X11_together kT_X11_together rfl rfl (Nat.le_of_ble_eq_true rfl) (Nat.le_of_ble_eq_true rfl) (cc_0 D (s 0) (l 0)) cA (fun r h q9 => ?_)
  obtain ⟨rfl, rfl⟩ := q9
  refine r_aload_n rfl rfl ?_
  refine r_xload_n (t := 0) (by omega) rfl rfl ?_
  refine r_iload_n rfl rfl ?_
  refine r_iconst_ (a := nI 1) rfl (by decide) ?_
  refine r_iadd rfl ?_
  refine r_sld rfl (lw_in (k := 1) hi hL (by omega)) ?_
  refine q_callV0 [.int (G.2.2.2.2.2.2.1 (nI i + nI 1).toNatClampNeg)] [.int v] rfl kY_X12_together kT_X12_together rfl rfl (Nat.le_of_ble_eq_true rfl) (Nat.le_of_ble_eq_true rfl) (cc_60 D1) cB (fun r h q9 => ?_)
  obtain ⟨rfl, rfl⟩ := q9
  refine r_icmp_eq rfl (fun _ => ?_) (fun h => absurd rfl h)
  exact next _ _ _ inv
set_option maxRecDepth 100000 in
theorem w_missing {G : ab_G} {fu d kc ks i : Nat} {D : fl_D} {s : fl_I} {l : fl_L} {Q : Option Value → ab_H → Prop} (hfu : 20000 ≤ fu) (hI : INV fu D s l) (hi : i + 6 ≤ G.2.2.2.2.2.1) (hL : G.2.2.2.2.2.1 ≤ 3072) (next : ∀ D s l, INV fu D s l → ab_C G (d + 36 + 1) kc ks M_L_law 1199 [some (.retAddr 0), some (.ref 0), some (.ref 60), some (.int (nI i))] [] (hp D s l) Q) : ab_C G (d + 36 + 1) (kc + 6) (ks + 10240) M_L_law 745 [some (.retAddr 0), some (.ref 0), some (.ref 60), some (.int (nI i))] [] (hp D s l) Q := by
  obtain ⟨v, D1, s1, l1, s2, l2, cA, cB, inv⟩ := k_missing (G := G) (d := d) (x0 := G.2.2.2.2.2.2.1 (nI i + nI 1).toNatClampNeg) (x1 := G.2.2.2.2.2.2.1 (nI i + nI 2).toNatClampNeg) hfu hI
  refine r_aload_n rfl rfl ?_
  refine r_xload_n (t := 0) (by omega) rfl rfl ?_
  refine r_iload_n rfl rfl ?_
  refine r_iconst_ (a := nI 1) rfl (by decide) ?_
  refine r_iadd rfl ?_
  refine r_sld rfl (lw_in (k := 1) hi hL (by omega)) ?_
  refine r_xload_n (t := 0) (by omega) rfl rfl ?_
  refine r_iload_n rfl rfl ?_
  refine r_iconst_ (a := nI 2) rfl (by decide) ?_
  refine r_iadd rfl ?_
  refine r_sld rfl (lw_in (k := 2) hi hL (by omega)) ?_
  refine r_callV (kc1 := 6) (ks1 := 10240) [.int (G.2.2.2.2.2.2.1 (nI i + nI 1).toNatClampNeg), .int (G.2.2.2.2.2.2.1 (nI i + nI 2).toNatClampNeg)] [] rfl kY_X11_missing kT_X11_missing rfl rfl (Nat.le_of_ble_eq_true rfl) (Nat.le_of_ble_eq_true rfl) (cc_0 D (s 0) (l 0)) cA (fun r h q9 => ?_)
  obtain ⟨rfl, rfl⟩ := q9
  refine r_aload_n rfl rfl ?_
  refine r_xload_n (t := 0) (by omega) rfl rfl ?_
  refine r_iload_n rfl rfl ?_
  refine r_iconst_ (a := nI 1) rfl (by decide) ?_
  refine r_iadd rfl ?_
  refine r_sld rfl (lw_in (k := 1) hi hL (by omega)) ?_
  refine r_xload_n (t := 0) (by omega) rfl rfl ?_
  refine r_iload_n rfl rfl ?_
  refine r_iconst_ (a := nI 2) rfl (by decide) ?_
  refine r_iadd rfl ?_
  refine r_sld rfl (lw_in (k := 2) hi hL (by omega)) ?_
  refine q_callV0 [.int (G.2.2.2.2.2.2.1 (nI i + nI 1).toNatClampNeg), .int (G.2.2.2.2.2.2.1 (nI i + nI 2).toNatClampNeg)] [.int v] rfl kY_X12_missing kT_X12_missing rfl rfl (Nat.le_of_ble_eq_true rfl) (Nat.le_of_ble_eq_true rfl) (cc_60 D1) cB (fun r h q9 => ?_)
  obtain ⟨rfl, rfl⟩ := q9
  refine r_icmp_eq rfl (fun _ => ?_) (fun h => absurd rfl h)
  exact next _ _ _ inv
set_option maxRecDepth 100000 in
theorem w_longest {G : ab_G} {fu d kc ks i : Nat} {D : fl_D} {s : fl_I} {l : fl_L} {Q : Option Value → ab_H → Prop} (hfu : 20000 ≤ fu) (hI : INV fu D s l) (hi : i + 6 ≤ G.2.2.2.2.2.1) (hL : G.2.2.2.2.2.1 ≤ 3072) (next : ∀ D s l, INV fu D s l → ab_C G (d + 36 + 1) kc ks M_L_law 1199 [some (.retAddr 0), some (.ref 0), some (.ref 60), some (.int (nI i))] [] (hp D s l) Q) : ab_C G (d + 36 + 1) (kc + 6) (ks + 10240) M_L_law 778 [some (.retAddr 0), some (.ref 0), some (.ref 60), some (.int (nI i))] [] (hp D s l) Q := by
  obtain ⟨v, D1, s1, l1, s2, l2, cA, cB, inv⟩ := k_longest (G := G) (d := d) (x0 := G.2.2.2.2.2.2.1 (nI i + nI 1).toNatClampNeg) hfu hI
  refine r_aload_n rfl rfl ?_
  refine r_xload_n (t := 0) (by omega) rfl rfl ?_
  refine r_iload_n rfl rfl ?_
  refine r_iconst_ (a := nI 1) rfl (by decide) ?_
  refine r_iadd rfl ?_
  refine r_sld rfl (lw_in (k := 1) hi hL (by omega)) ?_
  refine r_callV (kc1 := 6) (ks1 := 10240) [.int (G.2.2.2.2.2.2.1 (nI i + nI 1).toNatClampNeg)] [] rfl kY_X11_longest kT_X11_longest rfl rfl (Nat.le_of_ble_eq_true rfl) (Nat.le_of_ble_eq_true rfl) (cc_0 D (s 0) (l 0)) cA (fun r h q9 => ?_)
  obtain ⟨rfl, rfl⟩ := q9
  refine r_aload_n rfl rfl ?_
  refine r_xload_n (t := 0) (by omega) rfl rfl ?_
  refine r_iload_n rfl rfl ?_
  refine r_iconst_ (a := nI 1) rfl (by decide) ?_
  refine r_iadd rfl ?_
  refine r_sld rfl (lw_in (k := 1) hi hL (by omega)) ?_
  refine q_callV0 [.int (G.2.2.2.2.2.2.1 (nI i + nI 1).toNatClampNeg)] [.int v] rfl kY_X12_longest kT_X12_longest rfl rfl (Nat.le_of_ble_eq_true rfl) (Nat.le_of_ble_eq_true rfl) (cc_60 D1) cB (fun r h q9 => ?_)
  obtain ⟨rfl, rfl⟩ := q9
  refine r_icmp_eq rfl (fun _ => ?_) (fun h => absurd rfl h)
  exact next _ _ _ inv
set_option maxRecDepth 100000 in
theorem w_whole {G : ab_G} {fu d kc ks i : Nat} {D : fl_D} {s : fl_I} {l : fl_L} {Q : Option Value → ab_H → Prop} (hfu : 20000 ≤ fu) (hI : INV fu D s l) (hi : i + 6 ≤ G.2.2.2.2.2.1) (hL : G.2.2.2.2.2.1 ≤ 3072) (next : ∀ D s l, INV fu D s l → ab_C G (d + 36 + 1) kc ks M_L_law 1199 [some (.retAddr 0), some (.ref 0), some (.ref 60), some (.int (nI i))] [] (hp D s l) Q) : ab_C G (d + 36 + 1) (kc + 6) (ks + 10240) M_L_law 801 [some (.retAddr 0), some (.ref 0), some (.ref 60), some (.int (nI i))] [] (hp D s l) Q := by
  obtain ⟨v, D1, s1, l1, s2, l2, cA, cB, inv⟩ := k_whole (G := G) (d := d)  hfu hI
  refine r_aload_n rfl rfl ?_
  refine r_callV (kc1 := 6) (ks1 := 10240) [] [] rfl kY_X11_whole kT_X11_whole rfl rfl (Nat.le_of_ble_eq_true rfl) (Nat.le_of_ble_eq_true rfl) (cc_0 D (s 0) (l 0)) cA (fun r h q9 => ?_)
  obtain ⟨rfl, rfl⟩ := q9
  refine r_aload_n rfl rfl ?_
  refine q_callV0 [] [.int v] rfl kY_X12_whole kT_X12_whole rfl rfl (Nat.le_of_ble_eq_true rfl) (Nat.le_of_ble_eq_true rfl) (cc_60 D1) cB (fun r h q9 => ?_)
  obtain ⟨rfl, rfl⟩ := q9
  refine r_icmp_eq rfl (fun _ => ?_) (fun h => absurd rfl h)
  exact next _ _ _ inv
set_option maxRecDepth 100000 in
theorem w_loss {G : ab_G} {fu d kc ks i : Nat} {D : fl_D} {s : fl_I} {l : fl_L} {Q : Option Value → ab_H → Prop} (hfu : 20000 ≤ fu) (hI : INV fu D s l) (hi : i + 6 ≤ G.2.2.2.2.2.1) (hL : G.2.2.2.2.2.1 ≤ 3072) (next : ∀ D s l, INV fu D s l → ab_C G (d + 36 + 1) kc ks M_L_law 1199 [some (.retAddr 0), some (.ref 0), some (.ref 60), some (.int (nI i))] [] (hp D s l) Q) : ab_C G (d + 36 + 1) (kc + 6) (ks + 10240) M_L_law 814 [some (.retAddr 0), some (.ref 0), some (.ref 60), some (.int (nI i))] [] (hp D s l) Q := by
  obtain ⟨v, D1, s1, l1, s2, l2, cA, cB, inv⟩ := k_loss (G := G) (d := d) (x0 := G.2.2.2.2.2.2.1 (nI i + nI 1).toNatClampNeg) hfu hI
  refine r_aload_n rfl rfl ?_
  refine r_xload_n (t := 0) (by omega) rfl rfl ?_
  refine r_iload_n rfl rfl ?_
  refine r_iconst_ (a := nI 1) rfl (by decide) ?_
  refine r_iadd rfl ?_
  refine r_sld rfl (lw_in (k := 1) hi hL (by omega)) ?_
  refine r_callV (kc1 := 6) (ks1 := 10240) [.int (G.2.2.2.2.2.2.1 (nI i + nI 1).toNatClampNeg)] [] rfl kY_X11_loss kT_X11_loss rfl rfl (Nat.le_of_ble_eq_true rfl) (Nat.le_of_ble_eq_true rfl) (cc_0 D (s 0) (l 0)) cA (fun r h q9 => ?_)
  obtain ⟨rfl, rfl⟩ := q9
  refine r_aload_n rfl rfl ?_
  refine r_xload_n (t := 0) (by omega) rfl rfl ?_
  refine r_iload_n rfl rfl ?_
  refine r_iconst_ (a := nI 1) rfl (by decide) ?_
  refine r_iadd rfl ?_
  refine r_sld rfl (lw_in (k := 1) hi hL (by omega)) ?_
  refine q_callV0 [.int (G.2.2.2.2.2.2.1 (nI i + nI 1).toNatClampNeg)] [.int v] rfl kY_X12_loss kT_X12_loss rfl rfl (Nat.le_of_ble_eq_true rfl) (Nat.le_of_ble_eq_true rfl) (cc_60 D1) cB (fun r h q9 => ?_)
  obtain ⟨rfl, rfl⟩ := q9
  refine r_icmp_eq rfl (fun _ => ?_) (fun h => absurd rfl h)
  exact next _ _ _ inv
set_option maxRecDepth 100000 in
theorem w_stand {G : ab_G} {fu d kc ks i : Nat} {D : fl_D} {s : fl_I} {l : fl_L} {Q : Option Value → ab_H → Prop} (hfu : 20000 ≤ fu) (hI : INV fu D s l) (hi : i + 6 ≤ G.2.2.2.2.2.1) (hL : G.2.2.2.2.2.1 ≤ 3072) (next : ∀ D s l, INV fu D s l → ab_C G (d + 36 + 1) kc ks M_L_law 1199 [some (.retAddr 0), some (.ref 0), some (.ref 60), some (.int (nI i))] [] (hp D s l) Q) : ab_C G (d + 36 + 1) (kc + 6) (ks + 10240) M_L_law 837 [some (.retAddr 0), some (.ref 0), some (.ref 60), some (.int (nI i))] [] (hp D s l) Q := by
  obtain ⟨v, D1, s1, l1, s2, l2, cA, cB, inv⟩ := k_stand (G := G) (d := d) (x0 := G.2.2.2.2.2.2.1 (nI i + nI 1).toNatClampNeg) (x1 := G.2.2.2.2.2.2.1 (nI i + nI 2).toNatClampNeg) (x2 := G.2.2.2.2.2.2.1 (nI i + nI 3).toNatClampNeg) hfu hI
  refine r_aload_n rfl rfl ?_
  refine r_xload_n (t := 0) (by omega) rfl rfl ?_
  refine r_iload_n rfl rfl ?_
  refine r_iconst_ (a := nI 1) rfl (by decide) ?_
  refine r_iadd rfl ?_
  refine r_sld rfl (lw_in (k := 1) hi hL (by omega)) ?_
  refine r_xload_n (t := 0) (by omega) rfl rfl ?_
  refine r_iload_n rfl rfl ?_
  refine r_iconst_ (a := nI 2) rfl (by decide) ?_
  refine r_iadd rfl ?_
  refine r_sld rfl (lw_in (k := 2) hi hL (by omega)) ?_
  refine r_xload_n (t := 0) (by omega) rfl rfl ?_
  refine r_iload_n rfl rfl ?_
  refine r_iconst_ (a := nI 3) rfl (by decide) ?_
  refine r_iadd rfl ?_
  refine r_sld rfl (lw_in (k := 3) hi hL (by omega)) ?_
  refine r_callV (kc1 := 6) (ks1 := 10240) [.int (G.2.2.2.2.2.2.1 (nI i + nI 1).toNatClampNeg), .int (G.2.2.2.2.2.2.1 (nI i + nI 2).toNatClampNeg), .int (G.2.2.2.2.2.2.1 (nI i + nI 3).toNatClampNeg)] [] rfl kY_X11_stand kT_X11_stand rfl rfl (Nat.le_of_ble_eq_true rfl) (Nat.le_of_ble_eq_true rfl) (cc_0 D (s 0) (l 0)) cA (fun r h q9 => ?_)
  obtain ⟨rfl, rfl⟩ := q9
  refine r_aload_n rfl rfl ?_
  refine r_xload_n (t := 0) (by omega) rfl rfl ?_
  refine r_iload_n rfl rfl ?_
  refine r_iconst_ (a := nI 1) rfl (by decide) ?_
  refine r_iadd rfl ?_
  refine r_sld rfl (lw_in (k := 1) hi hL (by omega)) ?_
  refine r_xload_n (t := 0) (by omega) rfl rfl ?_
  refine r_iload_n rfl rfl ?_
  refine r_iconst_ (a := nI 2) rfl (by decide) ?_
  refine r_iadd rfl ?_
  refine r_sld rfl (lw_in (k := 2) hi hL (by omega)) ?_
  refine r_xload_n (t := 0) (by omega) rfl rfl ?_
  refine r_iload_n rfl rfl ?_
  refine r_iconst_ (a := nI 3) rfl (by decide) ?_
  refine r_iadd rfl ?_
  refine r_sld rfl (lw_in (k := 3) hi hL (by omega)) ?_
  refine q_callV0 [.int (G.2.2.2.2.2.2.1 (nI i + nI 1).toNatClampNeg), .int (G.2.2.2.2.2.2.1 (nI i + nI 2).toNatClampNeg), .int (G.2.2.2.2.2.2.1 (nI i + nI 3).toNatClampNeg)] [.int v] rfl kY_X12_stand kT_X12_stand rfl rfl (Nat.le_of_ble_eq_true rfl) (Nat.le_of_ble_eq_true rfl) (cc_60 D1) cB (fun r h q9 => ?_)
  obtain ⟨rfl, rfl⟩ := q9
  refine r_icmp_eq rfl (fun _ => ?_) (fun h => absurd rfl h)
  exact next _ _ _ inv
set_option maxRecDepth 100000 in
theorem w_late {G : ab_G} {fu d kc ks i : Nat} {D : fl_D} {s : fl_I} {l : fl_L} {Q : Option Value → ab_H → Prop} (hfu : 20000 ≤ fu) (hI : INV fu D s l) (hi : i + 6 ≤ G.2.2.2.2.2.1) (hL : G.2.2.2.2.2.1 ≤ 3072) (next : ∀ D s l, INV fu D s l → ab_C G (d + 36 + 1) kc ks M_L_law 1199 [some (.retAddr 0), some (.ref 0), some (.ref 60), some (.int (nI i))] [] (hp D s l) Q) : ab_C G (d + 36 + 1) (kc + 6) (ks + 10240) M_L_law 880 [some (.retAddr 0), some (.ref 0), some (.ref 60), some (.int (nI i))] [] (hp D s l) Q := by
  obtain ⟨v, D1, s1, l1, s2, l2, cA, cB, inv⟩ := k_late (G := G) (d := d)  hfu hI
  refine r_aload_n rfl rfl ?_
  refine r_callV (kc1 := 6) (ks1 := 10240) [] [] rfl kY_X11_late kT_X11_late rfl rfl (Nat.le_of_ble_eq_true rfl) (Nat.le_of_ble_eq_true rfl) (cc_0 D (s 0) (l 0)) cA (fun r h q9 => ?_)
  obtain ⟨rfl, rfl⟩ := q9
  refine r_aload_n rfl rfl ?_
  refine q_callV0 [] [.int v] rfl kY_X12_late kT_X12_late rfl rfl (Nat.le_of_ble_eq_true rfl) (Nat.le_of_ble_eq_true rfl) (cc_60 D1) cB (fun r h q9 => ?_)
  obtain ⟨rfl, rfl⟩ := q9
  refine r_icmp_eq rfl (fun _ => ?_) (fun h => absurd rfl h)
  exact next _ _ _ inv
set_option maxRecDepth 100000 in
theorem w_pieceIn {G : ab_G} {fu d kc ks i : Nat} {D : fl_D} {s : fl_I} {l : fl_L} {Q : Option Value → ab_H → Prop} (hfu : 20000 ≤ fu) (hI : INV fu D s l) (hi : i + 6 ≤ G.2.2.2.2.2.1) (hL : G.2.2.2.2.2.1 ≤ 3072) (next : ∀ D s l, INV fu D s l → ab_C G (d + 36 + 1) kc ks M_L_law 1199 [some (.retAddr 0), some (.ref 0), some (.ref 60), some (.int (nI i))] [] (hp D s l) Q) : ab_C G (d + 36 + 1) (kc + 6) (ks + 10240) M_L_law 893 [some (.retAddr 0), some (.ref 0), some (.ref 60), some (.int (nI i))] [] (hp D s l) Q := by
  obtain ⟨v, D1, s1, l1, s2, l2, cA, cB, inv⟩ := k_pieceIn (G := G) (d := d) (x0 := G.2.2.2.2.2.2.1 (nI i + nI 1).toNatClampNeg) (x1 := G.2.2.2.2.2.2.1 (nI i + nI 2).toNatClampNeg) (x2 := G.2.2.2.2.2.2.1 (nI i + nI 3).toNatClampNeg) hfu hI
  refine r_aload_n rfl rfl ?_
  refine r_xload_n (t := 0) (by omega) rfl rfl ?_
  refine r_iload_n rfl rfl ?_
  refine r_iconst_ (a := nI 1) rfl (by decide) ?_
  refine r_iadd rfl ?_
  refine r_sld rfl (lw_in (k := 1) hi hL (by omega)) ?_
  refine r_xload_n (t := 0) (by omega) rfl rfl ?_
  refine r_iload_n rfl rfl ?_
  refine r_iconst_ (a := nI 2) rfl (by decide) ?_
  refine r_iadd rfl ?_
  refine r_sld rfl (lw_in (k := 2) hi hL (by omega)) ?_
  refine r_xload_n (t := 0) (by omega) rfl rfl ?_
  refine r_iload_n rfl rfl ?_
  refine r_iconst_ (a := nI 3) rfl (by decide) ?_
  refine r_iadd rfl ?_
  refine r_sld rfl (lw_in (k := 3) hi hL (by omega)) ?_
  refine r_callV (kc1 := 6) (ks1 := 10240) [.int (G.2.2.2.2.2.2.1 (nI i + nI 1).toNatClampNeg), .int (G.2.2.2.2.2.2.1 (nI i + nI 2).toNatClampNeg), .int (G.2.2.2.2.2.2.1 (nI i + nI 3).toNatClampNeg)] [] rfl kY_X11_pieceIn kT_X11_pieceIn rfl rfl (Nat.le_of_ble_eq_true rfl) (Nat.le_of_ble_eq_true rfl) (cc_0 D (s 0) (l 0)) cA (fun r h q9 => ?_)
  obtain ⟨rfl, rfl⟩ := q9
  refine r_aload_n rfl rfl ?_
  refine r_xload_n (t := 0) (by omega) rfl rfl ?_
  refine r_iload_n rfl rfl ?_
  refine r_iconst_ (a := nI 1) rfl (by decide) ?_
  refine r_iadd rfl ?_
  refine r_sld rfl (lw_in (k := 1) hi hL (by omega)) ?_
  refine r_xload_n (t := 0) (by omega) rfl rfl ?_
  refine r_iload_n rfl rfl ?_
  refine r_iconst_ (a := nI 2) rfl (by decide) ?_
  refine r_iadd rfl ?_
  refine r_sld rfl (lw_in (k := 2) hi hL (by omega)) ?_
  refine r_xload_n (t := 0) (by omega) rfl rfl ?_
  refine r_iload_n rfl rfl ?_
  refine r_iconst_ (a := nI 3) rfl (by decide) ?_
  refine r_iadd rfl ?_
  refine r_sld rfl (lw_in (k := 3) hi hL (by omega)) ?_
  refine q_callV0 [.int (G.2.2.2.2.2.2.1 (nI i + nI 1).toNatClampNeg), .int (G.2.2.2.2.2.2.1 (nI i + nI 2).toNatClampNeg), .int (G.2.2.2.2.2.2.1 (nI i + nI 3).toNatClampNeg)] [.int v] rfl kY_X12_pieceIn kT_X12_pieceIn rfl rfl (Nat.le_of_ble_eq_true rfl) (Nat.le_of_ble_eq_true rfl) (cc_60 D1) cB (fun r h q9 => ?_)
  obtain ⟨rfl, rfl⟩ := q9
  refine r_icmp_eq rfl (fun _ => ?_) (fun h => absurd rfl h)
  exact next _ _ _ inv
set_option maxRecDepth 100000 in
theorem w_pickerIn {G : ab_G} {fu d kc ks i : Nat} {D : fl_D} {s : fl_I} {l : fl_L} {Q : Option Value → ab_H → Prop} (hfu : 20000 ≤ fu) (hI : INV fu D s l) (hi : i + 6 ≤ G.2.2.2.2.2.1) (hL : G.2.2.2.2.2.1 ≤ 3072) (next : ∀ D s l, INV fu D s l → ab_C G (d + 36 + 1) kc ks M_L_law 1199 [some (.retAddr 0), some (.ref 0), some (.ref 60), some (.int (nI i))] [] (hp D s l) Q) : ab_C G (d + 36 + 1) (kc + 6) (ks + 10240) M_L_law 936 [some (.retAddr 0), some (.ref 0), some (.ref 60), some (.int (nI i))] [] (hp D s l) Q := by
  obtain ⟨v, D1, s1, l1, s2, l2, cA, cB, inv⟩ := k_pickerIn (G := G) (d := d) (x0 := G.2.2.2.2.2.2.1 (nI i + nI 1).toNatClampNeg) (x1 := G.2.2.2.2.2.2.1 (nI i + nI 2).toNatClampNeg) (x2 := G.2.2.2.2.2.2.1 (nI i + nI 3).toNatClampNeg) hfu hI
  refine r_aload_n rfl rfl ?_
  refine r_xload_n (t := 0) (by omega) rfl rfl ?_
  refine r_iload_n rfl rfl ?_
  refine r_iconst_ (a := nI 1) rfl (by decide) ?_
  refine r_iadd rfl ?_
  refine r_sld rfl (lw_in (k := 1) hi hL (by omega)) ?_
  refine r_xload_n (t := 0) (by omega) rfl rfl ?_
  refine r_iload_n rfl rfl ?_
  refine r_iconst_ (a := nI 2) rfl (by decide) ?_
  refine r_iadd rfl ?_
  refine r_sld rfl (lw_in (k := 2) hi hL (by omega)) ?_
  refine r_xload_n (t := 0) (by omega) rfl rfl ?_
  refine r_iload_n rfl rfl ?_
  refine r_iconst_ (a := nI 3) rfl (by decide) ?_
  refine r_iadd rfl ?_
  refine r_sld rfl (lw_in (k := 3) hi hL (by omega)) ?_
  refine r_callV (kc1 := 6) (ks1 := 10240) [.int (G.2.2.2.2.2.2.1 (nI i + nI 1).toNatClampNeg), .int (G.2.2.2.2.2.2.1 (nI i + nI 2).toNatClampNeg), .int (G.2.2.2.2.2.2.1 (nI i + nI 3).toNatClampNeg)] [] rfl kY_X11_pickerIn kT_X11_pickerIn rfl rfl (Nat.le_of_ble_eq_true rfl) (Nat.le_of_ble_eq_true rfl) (cc_0 D (s 0) (l 0)) cA (fun r h q9 => ?_)
  obtain ⟨rfl, rfl⟩ := q9
  refine r_aload_n rfl rfl ?_
  refine r_xload_n (t := 0) (by omega) rfl rfl ?_
  refine r_iload_n rfl rfl ?_
  refine r_iconst_ (a := nI 1) rfl (by decide) ?_
  refine r_iadd rfl ?_
  refine r_sld rfl (lw_in (k := 1) hi hL (by omega)) ?_
  refine r_xload_n (t := 0) (by omega) rfl rfl ?_
  refine r_iload_n rfl rfl ?_
  refine r_iconst_ (a := nI 2) rfl (by decide) ?_
  refine r_iadd rfl ?_
  refine r_sld rfl (lw_in (k := 2) hi hL (by omega)) ?_
  refine r_xload_n (t := 0) (by omega) rfl rfl ?_
  refine r_iload_n rfl rfl ?_
  refine r_iconst_ (a := nI 3) rfl (by decide) ?_
  refine r_iadd rfl ?_
  refine r_sld rfl (lw_in (k := 3) hi hL (by omega)) ?_
  refine q_callV0 [.int (G.2.2.2.2.2.2.1 (nI i + nI 1).toNatClampNeg), .int (G.2.2.2.2.2.2.1 (nI i + nI 2).toNatClampNeg), .int (G.2.2.2.2.2.2.1 (nI i + nI 3).toNatClampNeg)] [.int v] rfl kY_X12_pickerIn kT_X12_pickerIn rfl rfl (Nat.le_of_ble_eq_true rfl) (Nat.le_of_ble_eq_true rfl) (cc_60 D1) cB (fun r h q9 => ?_)
  obtain ⟨rfl, rfl⟩ := q9
  refine r_icmp_eq rfl (fun _ => ?_) (fun h => absurd rfl h)
  exact next _ _ _ inv
set_option maxRecDepth 100000 in
theorem w_year {G : ab_G} {fu d kc ks i : Nat} {D : fl_D} {s : fl_I} {l : fl_L} {Q : Option Value → ab_H → Prop} (hfu : 20000 ≤ fu) (hI : INV fu D s l) (hi : i + 6 ≤ G.2.2.2.2.2.1) (hL : G.2.2.2.2.2.1 ≤ 3072) (next : ∀ D s l, INV fu D s l → ab_C G (d + 36 + 1) kc ks M_L_law 1199 [some (.retAddr 0), some (.ref 0), some (.ref 60), some (.int (nI i))] [] (hp D s l) Q) : ab_C G (d + 36 + 1) (kc + 6) (ks + 10240) M_L_law 979 [some (.retAddr 0), some (.ref 0), some (.ref 60), some (.int (nI i))] [] (hp D s l) Q := by
  obtain ⟨v, D1, s1, l1, s2, l2, cA, cB, inv⟩ := k_year (G := G) (d := d) (x0 := G.2.2.2.2.2.2.1 (nI i + nI 1).toNatClampNeg) (x1 := G.2.2.2.2.2.2.1 (nI i + nI 2).toNatClampNeg) hfu hI
  refine r_aload_n rfl rfl ?_
  refine r_xload_n (t := 0) (by omega) rfl rfl ?_
  refine r_iload_n rfl rfl ?_
  refine r_iconst_ (a := nI 1) rfl (by decide) ?_
  refine r_iadd rfl ?_
  refine r_sld rfl (lw_in (k := 1) hi hL (by omega)) ?_
  refine r_xload_n (t := 0) (by omega) rfl rfl ?_
  refine r_iload_n rfl rfl ?_
  refine r_iconst_ (a := nI 2) rfl (by decide) ?_
  refine r_iadd rfl ?_
  refine r_sld rfl (lw_in (k := 2) hi hL (by omega)) ?_
  refine r_callV (kc1 := 6) (ks1 := 10240) [.int (G.2.2.2.2.2.2.1 (nI i + nI 1).toNatClampNeg), .int (G.2.2.2.2.2.2.1 (nI i + nI 2).toNatClampNeg)] [] rfl kY_X11_year kT_X11_year rfl rfl (Nat.le_of_ble_eq_true rfl) (Nat.le_of_ble_eq_true rfl) (cc_0 D (s 0) (l 0)) cA (fun r h q9 => ?_)
  obtain ⟨rfl, rfl⟩ := q9
  refine r_aload_n rfl rfl ?_
  refine r_xload_n (t := 0) (by omega) rfl rfl ?_
  refine r_iload_n rfl rfl ?_
  refine r_iconst_ (a := nI 1) rfl (by decide) ?_
  refine r_iadd rfl ?_
  refine r_sld rfl (lw_in (k := 1) hi hL (by omega)) ?_
  refine r_xload_n (t := 0) (by omega) rfl rfl ?_
  refine r_iload_n rfl rfl ?_
  refine r_iconst_ (a := nI 2) rfl (by decide) ?_
  refine r_iadd rfl ?_
  refine r_sld rfl (lw_in (k := 2) hi hL (by omega)) ?_
  refine q_callV0 [.int (G.2.2.2.2.2.2.1 (nI i + nI 1).toNatClampNeg), .int (G.2.2.2.2.2.2.1 (nI i + nI 2).toNatClampNeg)] [.int v] rfl kY_X12_year kT_X12_year rfl rfl (Nat.le_of_ble_eq_true rfl) (Nat.le_of_ble_eq_true rfl) (cc_60 D1) cB (fun r h q9 => ?_)
  obtain ⟨rfl, rfl⟩ := q9
  refine r_icmp_eq rfl (fun _ => ?_) (fun h => absurd rfl h)
  exact next _ _ _ inv
set_option maxRecDepth 100000 in
theorem w_tell {G : ab_G} {fu d kc ks i : Nat} {D : fl_D} {s : fl_I} {l : fl_L} {Q : Option Value → ab_H → Prop} (hfu : 20000 ≤ fu) (hI : INV fu D s l) (hi : i + 6 ≤ G.2.2.2.2.2.1) (hL : G.2.2.2.2.2.1 ≤ 3072) (next : ∀ D s l, INV fu D s l → ab_C G (d + 36 + 1) kc ks M_L_law 1199 [some (.retAddr 0), some (.ref 0), some (.ref 60), some (.int (nI i))] [] (hp D s l) Q) : ab_C G (d + 36 + 1) (kc + 6) (ks + 10240) M_L_law 1012 [some (.retAddr 0), some (.ref 0), some (.ref 60), some (.int (nI i))] [] (hp D s l) Q := by
  by_cases c9 : G.2.2.2.2.2.2.1 (nI i + nI 2).toNatClampNeg = 0
  · obtain ⟨v, D1, s1, l1, s2, l2, cA, cB, inv⟩ := k_tell (G := G) (d := d) (x0 := G.2.2.2.2.2.2.1 (nI i + nI 1).toNatClampNeg) (x1 := nI 0) hfu (.inl rfl) hI
    refine r_aload_n rfl rfl ?_
    refine r_xload_n (t := 0) (by omega) rfl rfl ?_
    refine r_iload_n rfl rfl ?_
    refine r_iconst_ (a := nI 1) rfl (by decide) ?_
    refine r_iadd rfl ?_
    refine r_sld rfl (lw_in (k := 1) hi hL (by omega)) ?_
    refine r_xload_n (t := 0) (by omega) rfl rfl ?_
    refine r_iload_n rfl rfl ?_
    refine r_iconst_ (a := nI 2) rfl (by decide) ?_
    refine r_iadd rfl ?_
    refine r_sld rfl (lw_in (k := 2) hi hL (by omega)) ?_
    refine r_if_eq rfl (fun _ => ?_) (fun h => absurd c9 h)
    refine r_iconst_ (a := nI 0) rfl (by decide) ?_
    refine r_callV (kc1 := 6) (ks1 := 10240) [.int (G.2.2.2.2.2.2.1 (nI i + nI 1).toNatClampNeg), .int (nI 0)] [] rfl kY_X11_tell kT_X11_tell rfl rfl (Nat.le_of_ble_eq_true rfl) (Nat.le_of_ble_eq_true rfl) (cc_0 D (s 0) (l 0)) cA (fun r h q9 => ?_)
    obtain ⟨rfl, rfl⟩ := q9
    refine r_aload_n rfl rfl ?_
    refine r_xload_n (t := 0) (by omega) rfl rfl ?_
    refine r_iload_n rfl rfl ?_
    refine r_iconst_ (a := nI 1) rfl (by decide) ?_
    refine r_iadd rfl ?_
    refine r_sld rfl (lw_in (k := 1) hi hL (by omega)) ?_
    refine r_xload_n (t := 0) (by omega) rfl rfl ?_
    refine r_iload_n rfl rfl ?_
    refine r_iconst_ (a := nI 2) rfl (by decide) ?_
    refine r_iadd rfl ?_
    refine r_sld rfl (lw_in (k := 2) hi hL (by omega)) ?_
    refine r_if_eq rfl (fun _ => ?_) (fun h => absurd c9 h)
    refine r_iconst_ (a := nI 0) rfl (by decide) ?_
    refine q_callV0 [.int (G.2.2.2.2.2.2.1 (nI i + nI 1).toNatClampNeg), .int (nI 0)] [.int v] rfl kY_X12_tell kT_X12_tell rfl rfl (Nat.le_of_ble_eq_true rfl) (Nat.le_of_ble_eq_true rfl) (cc_60 D1) cB (fun r h q9 => ?_)
    obtain ⟨rfl, rfl⟩ := q9
    refine r_icmp_eq rfl (fun _ => ?_) (fun h => absurd rfl h)
    exact next _ _ _ inv
  · obtain ⟨v, D1, s1, l1, s2, l2, cA, cB, inv⟩ := k_tell (G := G) (d := d) (x0 := G.2.2.2.2.2.2.1 (nI i + nI 1).toNatClampNeg) (x1 := nI 1) hfu (.inr rfl) hI
    refine r_aload_n rfl rfl ?_
    refine r_xload_n (t := 0) (by omega) rfl rfl ?_
    refine r_iload_n rfl rfl ?_
    refine r_iconst_ (a := nI 1) rfl (by decide) ?_
    refine r_iadd rfl ?_
    refine r_sld rfl (lw_in (k := 1) hi hL (by omega)) ?_
    refine r_xload_n (t := 0) (by omega) rfl rfl ?_
    refine r_iload_n rfl rfl ?_
    refine r_iconst_ (a := nI 2) rfl (by decide) ?_
    refine r_iadd rfl ?_
    refine r_sld rfl (lw_in (k := 2) hi hL (by omega)) ?_
    refine r_if_eq rfl (fun h => absurd h c9) (fun _ => ?_)
    refine r_iconst_ (a := nI 1) rfl (by decide) ?_
    refine r_goto rfl ?_
    refine r_callV (kc1 := 6) (ks1 := 10240) [.int (G.2.2.2.2.2.2.1 (nI i + nI 1).toNatClampNeg), .int (nI 1)] [] rfl kY_X11_tell kT_X11_tell rfl rfl (Nat.le_of_ble_eq_true rfl) (Nat.le_of_ble_eq_true rfl) (cc_0 D (s 0) (l 0)) cA (fun r h q9 => ?_)
    obtain ⟨rfl, rfl⟩ := q9
    refine r_aload_n rfl rfl ?_
    refine r_xload_n (t := 0) (by omega) rfl rfl ?_
    refine r_iload_n rfl rfl ?_
    refine r_iconst_ (a := nI 1) rfl (by decide) ?_
    refine r_iadd rfl ?_
    refine r_sld rfl (lw_in (k := 1) hi hL (by omega)) ?_
    refine r_xload_n (t := 0) (by omega) rfl rfl ?_
    refine r_iload_n rfl rfl ?_
    refine r_iconst_ (a := nI 2) rfl (by decide) ?_
    refine r_iadd rfl ?_
    refine r_sld rfl (lw_in (k := 2) hi hL (by omega)) ?_
    refine r_if_eq rfl (fun h => absurd h c9) (fun _ => ?_)
    refine r_iconst_ (a := nI 1) rfl (by decide) ?_
    refine r_goto rfl ?_
    refine q_callV0 [.int (G.2.2.2.2.2.2.1 (nI i + nI 1).toNatClampNeg), .int (nI 1)] [.int v] rfl kY_X12_tell kT_X12_tell rfl rfl (Nat.le_of_ble_eq_true rfl) (Nat.le_of_ble_eq_true rfl) (cc_60 D1) cB (fun r h q9 => ?_)
    obtain ⟨rfl, rfl⟩ := q9
    refine r_icmp_eq rfl (fun _ => ?_) (fun h => absurd rfl h)
    exact next _ _ _ inv
set_option maxRecDepth 100000 in
theorem w_forget {G : ab_G} {fu d kc ks i : Nat} {D : fl_D} {s : fl_I} {l : fl_L} {Q : Option Value → ab_H → Prop} (hfu : 20000 ≤ fu) (hI : INV fu D s l) (hi : i + 6 ≤ G.2.2.2.2.2.1) (hL : G.2.2.2.2.2.1 ≤ 3072) (next : ∀ D s l, INV fu D s l → ab_C G (d + 36 + 1) kc ks M_L_law 1199 [some (.retAddr 0), some (.ref 0), some (.ref 60), some (.int (nI i))] [] (hp D s l) Q) : ab_C G (d + 36 + 1) (kc + 6) (ks + 10240) M_L_law 1061 [some (.retAddr 0), some (.ref 0), some (.ref 60), some (.int (nI i))] [] (hp D s l) Q := by
  obtain ⟨v, D1, s1, l1, s2, l2, cA, cB, inv⟩ := k_forget (G := G) (d := d)  hfu hI
  refine r_aload_n rfl rfl ?_
  refine r_callV (kc1 := 6) (ks1 := 10240) [] [] rfl kY_X11_forget kT_X11_forget rfl rfl (Nat.le_of_ble_eq_true rfl) (Nat.le_of_ble_eq_true rfl) (cc_0 D (s 0) (l 0)) cA (fun r h q9 => ?_)
  obtain ⟨rfl, rfl⟩ := q9
  refine r_aload_n rfl rfl ?_
  refine q_callV0 [] [.int v] rfl kY_X12_forget kT_X12_forget rfl rfl (Nat.le_of_ble_eq_true rfl) (Nat.le_of_ble_eq_true rfl) (cc_60 D1) cB (fun r h q9 => ?_)
  obtain ⟨rfl, rfl⟩ := q9
  refine r_icmp_eq rfl (fun _ => ?_) (fun h => absurd rfl h)
  exact next _ _ _ inv
set_option maxRecDepth 100000 in
theorem w_written {G : ab_G} {fu d kc ks i : Nat} {D : fl_D} {s : fl_I} {l : fl_L} {Q : Option Value → ab_H → Prop} (hfu : 20000 ≤ fu) (hI : INV fu D s l) (hi : i + 6 ≤ G.2.2.2.2.2.1) (hL : G.2.2.2.2.2.1 ≤ 3072) (next : ∀ D s l, INV fu D s l → ab_C G (d + 36 + 1) kc ks M_L_law 1199 [some (.retAddr 0), some (.ref 0), some (.ref 60), some (.int (nI i))] [] (hp D s l) Q) : ab_C G (d + 36 + 1) (kc + 6) (ks + 10240) M_L_law 1074 [some (.retAddr 0), some (.ref 0), some (.ref 60), some (.int (nI i))] [] (hp D s l) Q := by
  obtain ⟨v, D1, s1, l1, s2, l2, cA, cB, inv⟩ := k_written (G := G) (d := d) (x0 := G.2.2.2.2.2.2.1 (nI i + nI 1).toNatClampNeg) (x1 := G.2.2.2.2.2.2.1 (nI i + nI 2).toNatClampNeg) hfu hI
  refine r_aload_n rfl rfl ?_
  refine r_xload_n (t := 0) (by omega) rfl rfl ?_
  refine r_iload_n rfl rfl ?_
  refine r_iconst_ (a := nI 1) rfl (by decide) ?_
  refine r_iadd rfl ?_
  refine r_sld rfl (lw_in (k := 1) hi hL (by omega)) ?_
  refine r_xload_n (t := 0) (by omega) rfl rfl ?_
  refine r_iload_n rfl rfl ?_
  refine r_iconst_ (a := nI 2) rfl (by decide) ?_
  refine r_iadd rfl ?_
  refine r_sld rfl (lw_in (k := 2) hi hL (by omega)) ?_
  refine r_callV (kc1 := 6) (ks1 := 10240) [.int (G.2.2.2.2.2.2.1 (nI i + nI 1).toNatClampNeg), .int (G.2.2.2.2.2.2.1 (nI i + nI 2).toNatClampNeg)] [] rfl kY_X11_written kT_X11_written rfl rfl (Nat.le_of_ble_eq_true rfl) (Nat.le_of_ble_eq_true rfl) (cc_0 D (s 0) (l 0)) cA (fun r h q9 => ?_)
  obtain ⟨rfl, rfl⟩ := q9
  refine r_aload_n rfl rfl ?_
  refine r_xload_n (t := 0) (by omega) rfl rfl ?_
  refine r_iload_n rfl rfl ?_
  refine r_iconst_ (a := nI 1) rfl (by decide) ?_
  refine r_iadd rfl ?_
  refine r_sld rfl (lw_in (k := 1) hi hL (by omega)) ?_
  refine r_xload_n (t := 0) (by omega) rfl rfl ?_
  refine r_iload_n rfl rfl ?_
  refine r_iconst_ (a := nI 2) rfl (by decide) ?_
  refine r_iadd rfl ?_
  refine r_sld rfl (lw_in (k := 2) hi hL (by omega)) ?_
  refine q_callV0 [.int (G.2.2.2.2.2.2.1 (nI i + nI 1).toNatClampNeg), .int (G.2.2.2.2.2.2.1 (nI i + nI 2).toNatClampNeg)] [.int v] rfl kY_X12_written kT_X12_written rfl rfl (Nat.le_of_ble_eq_true rfl) (Nat.le_of_ble_eq_true rfl) (cc_60 D1) cB (fun r h q9 => ?_)
  obtain ⟨rfl, rfl⟩ := q9
  refine r_icmp_eq rfl (fun _ => ?_) (fun h => absurd rfl h)
  exact next _ _ _ inv
set_option maxRecDepth 100000 in
theorem w_ask {G : ab_G} {fu d kc ks i : Nat} {D : fl_D} {s : fl_I} {l : fl_L} {Q : Option Value → ab_H → Prop} (hfu : 20000 ≤ fu) (hI : INV fu D s l) (hi : i + 6 ≤ G.2.2.2.2.2.1) (hL : G.2.2.2.2.2.1 ≤ 3072) (next : ∀ D s l, INV fu D s l → ab_C G (d + 36 + 1) kc ks M_L_law 1199 [some (.retAddr 0), some (.ref 0), some (.ref 60), some (.int (nI i))] [] (hp D s l) Q) : ab_C G (d + 36 + 1) (kc + 6) (ks + 10240) M_L_law 1107 [some (.retAddr 0), some (.ref 0), some (.ref 60), some (.int (nI i))] [] (hp D s l) Q := by
  obtain ⟨v, D1, s1, l1, s2, l2, cA, cB, inv⟩ := k_ask (G := G) (d := d) (x0 := G.2.2.2.2.2.2.1 (nI i + nI 1).toNatClampNeg) hfu hI
  refine r_aload_n rfl rfl ?_
  refine r_xload_n (t := 0) (by omega) rfl rfl ?_
  refine r_iload_n rfl rfl ?_
  refine r_iconst_ (a := nI 1) rfl (by decide) ?_
  refine r_iadd rfl ?_
  refine r_sld rfl (lw_in (k := 1) hi hL (by omega)) ?_
  refine r_callV (kc1 := 6) (ks1 := 10240) [.int (G.2.2.2.2.2.2.1 (nI i + nI 1).toNatClampNeg)] [] rfl kY_X11_ask kT_X11_ask rfl rfl (Nat.le_of_ble_eq_true rfl) (Nat.le_of_ble_eq_true rfl) (cc_0 D (s 0) (l 0)) cA (fun r h q9 => ?_)
  obtain ⟨rfl, rfl⟩ := q9
  refine r_aload_n rfl rfl ?_
  refine r_xload_n (t := 0) (by omega) rfl rfl ?_
  refine r_iload_n rfl rfl ?_
  refine r_iconst_ (a := nI 1) rfl (by decide) ?_
  refine r_iadd rfl ?_
  refine r_sld rfl (lw_in (k := 1) hi hL (by omega)) ?_
  refine q_callV0 [.int (G.2.2.2.2.2.2.1 (nI i + nI 1).toNatClampNeg)] [.int v] rfl kY_X12_ask kT_X12_ask rfl rfl (Nat.le_of_ble_eq_true rfl) (Nat.le_of_ble_eq_true rfl) (cc_60 D1) cB (fun r h q9 => ?_)
  obtain ⟨rfl, rfl⟩ := q9
  refine r_icmp_eq rfl (fun _ => ?_) (fun h => absurd rfl h)
  exact next _ _ _ inv
set_option maxRecDepth 100000 in
theorem w_hold {G : ab_G} {fu d kc ks i : Nat} {D : fl_D} {s : fl_I} {l : fl_L} {Q : Option Value → ab_H → Prop} (hfu : 20000 ≤ fu) (hI : INV fu D s l) (hi : i + 6 ≤ G.2.2.2.2.2.1) (hL : G.2.2.2.2.2.1 ≤ 3072) (next : ∀ D s l, INV fu D s l → ab_C G (d + 36 + 1) kc ks M_L_law 1199 [some (.retAddr 0), some (.ref 0), some (.ref 60), some (.int (nI i))] [] (hp D s l) Q) : ab_C G (d + 36 + 1) (kc + 6) (ks + 10240) M_L_law 1130 [some (.retAddr 0), some (.ref 0), some (.ref 60), some (.int (nI i))] [] (hp D s l) Q := by
  obtain ⟨v, D1, s1, l1, s2, l2, cA, cB, inv⟩ := k_hold (G := G) (d := d) (x0 := G.2.2.2.2.2.2.1 (nI i + nI 1).toNatClampNeg) hfu hI
  refine r_aload_n rfl rfl ?_
  refine r_xload_n (t := 0) (by omega) rfl rfl ?_
  refine r_iload_n rfl rfl ?_
  refine r_iconst_ (a := nI 1) rfl (by decide) ?_
  refine r_iadd rfl ?_
  refine r_sld rfl (lw_in (k := 1) hi hL (by omega)) ?_
  refine r_callV (kc1 := 6) (ks1 := 10240) [.int (G.2.2.2.2.2.2.1 (nI i + nI 1).toNatClampNeg)] [] rfl kY_X11_hold kT_X11_hold rfl rfl (Nat.le_of_ble_eq_true rfl) (Nat.le_of_ble_eq_true rfl) (cc_0 D (s 0) (l 0)) cA (fun r h q9 => ?_)
  obtain ⟨rfl, rfl⟩ := q9
  refine r_aload_n rfl rfl ?_
  refine r_xload_n (t := 0) (by omega) rfl rfl ?_
  refine r_iload_n rfl rfl ?_
  refine r_iconst_ (a := nI 1) rfl (by decide) ?_
  refine r_iadd rfl ?_
  refine r_sld rfl (lw_in (k := 1) hi hL (by omega)) ?_
  refine q_callV0 [.int (G.2.2.2.2.2.2.1 (nI i + nI 1).toNatClampNeg)] [.int v] rfl kY_X12_hold kT_X12_hold rfl rfl (Nat.le_of_ble_eq_true rfl) (Nat.le_of_ble_eq_true rfl) (cc_60 D1) cB (fun r h q9 => ?_)
  obtain ⟨rfl, rfl⟩ := q9
  refine r_icmp_eq rfl (fun _ => ?_) (fun h => absurd rfl h)
  exact next _ _ _ inv
set_option maxRecDepth 100000 in
theorem w_restore {G : ab_G} {fu d kc ks i : Nat} {D : fl_D} {s : fl_I} {l : fl_L} {Q : Option Value → ab_H → Prop} (hfu : 20000 ≤ fu) (hI : INV fu D s l) (hi : i + 6 ≤ G.2.2.2.2.2.1) (hL : G.2.2.2.2.2.1 ≤ 3072) (next : ∀ D s l, INV fu D s l → ab_C G (d + 36 + 1) kc ks M_L_law 1199 [some (.retAddr 0), some (.ref 0), some (.ref 60), some (.int (nI i))] [] (hp D s l) Q) : ab_C G (d + 36 + 1) (kc + 6) (ks + 10240) M_L_law 1153 [some (.retAddr 0), some (.ref 0), some (.ref 60), some (.int (nI i))] [] (hp D s l) Q := by
  obtain ⟨v, D1, s1, l1, s2, l2, cA, cB, inv⟩ := k_restore (G := G) (d := d) (x0 := G.2.2.2.2.2.2.1 (nI i + nI 1).toNatClampNeg) hfu hI
  refine r_aload_n rfl rfl ?_
  refine r_xload_n (t := 0) (by omega) rfl rfl ?_
  refine r_iload_n rfl rfl ?_
  refine r_iconst_ (a := nI 1) rfl (by decide) ?_
  refine r_iadd rfl ?_
  refine r_sld rfl (lw_in (k := 1) hi hL (by omega)) ?_
  refine r_callV (kc1 := 6) (ks1 := 10240) [.int (G.2.2.2.2.2.2.1 (nI i + nI 1).toNatClampNeg)] [] rfl kY_X11_restore kT_X11_restore rfl rfl (Nat.le_of_ble_eq_true rfl) (Nat.le_of_ble_eq_true rfl) (cc_0 D (s 0) (l 0)) cA (fun r h q9 => ?_)
  obtain ⟨rfl, rfl⟩ := q9
  refine r_aload_n rfl rfl ?_
  refine r_xload_n (t := 0) (by omega) rfl rfl ?_
  refine r_iload_n rfl rfl ?_
  refine r_iconst_ (a := nI 1) rfl (by decide) ?_
  refine r_iadd rfl ?_
  refine r_sld rfl (lw_in (k := 1) hi hL (by omega)) ?_
  refine q_callV0 [.int (G.2.2.2.2.2.2.1 (nI i + nI 1).toNatClampNeg)] [.int v] rfl kY_X12_restore kT_X12_restore rfl rfl (Nat.le_of_ble_eq_true rfl) (Nat.le_of_ble_eq_true rfl) (cc_60 D1) cB (fun r h q9 => ?_)
  obtain ⟨rfl, rfl⟩ := q9
  refine r_icmp_eq rfl (fun _ => ?_) (fun h => absurd rfl h)
  exact next _ _ _ inv
set_option maxRecDepth 100000 in
theorem w_count {G : ab_G} {fu d kc ks i : Nat} {D : fl_D} {s : fl_I} {l : fl_L} {Q : Option Value → ab_H → Prop} (hfu : 20000 ≤ fu) (hI : INV fu D s l) (hi : i + 6 ≤ G.2.2.2.2.2.1) (hL : G.2.2.2.2.2.1 ≤ 3072) (next : ∀ D s l, INV fu D s l → ab_C G (d + 36 + 1) kc ks M_L_law 1199 [some (.retAddr 0), some (.ref 0), some (.ref 60), some (.int (nI i))] [] (hp D s l) Q) : ab_C G (d + 36 + 1) (kc + 6) (ks + 10240) M_L_law 1176 [some (.retAddr 0), some (.ref 0), some (.ref 60), some (.int (nI i))] [] (hp D s l) Q := by
  obtain ⟨v, D1, s1, l1, s2, l2, cA, cB, inv⟩ := k_count (G := G) (d := d) (x0 := G.2.2.2.2.2.2.1 (nI i + nI 1).toNatClampNeg) hfu hI
  refine r_aload_n rfl rfl ?_
  refine r_xload_n (t := 0) (by omega) rfl rfl ?_
  refine r_iload_n rfl rfl ?_
  refine r_iconst_ (a := nI 1) rfl (by decide) ?_
  refine r_iadd rfl ?_
  refine r_sld rfl (lw_in (k := 1) hi hL (by omega)) ?_
  refine r_callV (kc1 := 6) (ks1 := 10240) [.int (G.2.2.2.2.2.2.1 (nI i + nI 1).toNatClampNeg)] [] rfl kY_X11_count kT_X11_count rfl rfl (Nat.le_of_ble_eq_true rfl) (Nat.le_of_ble_eq_true rfl) (cc_0 D (s 0) (l 0)) cA (fun r h q9 => ?_)
  obtain ⟨rfl, rfl⟩ := q9
  refine r_aload_n rfl rfl ?_
  refine r_xload_n (t := 0) (by omega) rfl rfl ?_
  refine r_iload_n rfl rfl ?_
  refine r_iconst_ (a := nI 1) rfl (by decide) ?_
  refine r_iadd rfl ?_
  refine r_sld rfl (lw_in (k := 1) hi hL (by omega)) ?_
  refine q_callV0 [.int (G.2.2.2.2.2.2.1 (nI i + nI 1).toNatClampNeg)] [.int v] rfl kY_X12_count kT_X12_count rfl rfl (Nat.le_of_ble_eq_true rfl) (Nat.le_of_ble_eq_true rfl) (cc_60 D1) cB (fun r h q9 => ?_)
  obtain ⟨rfl, rfl⟩ := q9
  refine r_icmp_eq rfl (fun _ => ?_) (fun h => absurd rfl h)
  exact next _ _ _ inv
