/-! The law's loop, and its start -/
theorem i_X12 {G : ab_G} {fu d : Nat} (hfu : 20000 ≤ fu) : ab_C G (d + 3) 46 26015 M_X12_init 0 (ab_ent [.ref 60]) [] (hl (L60 (S11 fu) (L11 fu) ++ [.inr (12, [.int 0, .null, .int 0, .null, .int 0, .null, .null, .null, .null, .null, .int 0, .int 0, .int 0, .int 0, .int 0, .int 0, .int 0, .int 0, .int 0, .int 0, .null, .null, .null, .null, .null, .null, .null, .null, .null, .null, .null, .null, .null, .null, .null, .null, .int 0, .null, .null, .null, .null, .null, .int 0, .null, .null, .null, .int 0, .null, .null, .int 0, .null, .null, .int 0, .int 0, .int 0, .null, .null, .null, .int 0, .null, .int 0, .null, .null, .int 0, .null, .int 0, .null, .null, .null, .null])])) (rt none (hp D0 (f_X12_init fu (s12 (S11 fu)) (l12 (L11 fu))).1 (f_X12_init fu (s12 (S11 fu)) (l12 (L11 fu))).2)) := by
  refine i_X12a rfl ?_
  rw [hl_107]
  exact s_X12_init (start_INV hfu).1
set_option maxRecDepth 100000 in
theorem law_out {G : ab_G} {d kc ks : Nat} {L : List (Option Value)} {h : ab_H} : ab_C G d kc ks M_L_law 1205 L [] h (fun r _ => r = some (.int 1)) := by
  refine r_iconst_ (a := 1) rfl (by decide) ?_
  exact r_iret rfl (ty := .boolean) rfl (by decide +kernel) rfl
set_option maxRecDepth 100000 in
theorem law_go {G : ab_G} {fu d kc ks i : Nat} {D : fl_D} {s : fl_I} {l : fl_L} (hfu : 20000 ≤ fu) (hI : INV fu D s l) (hi : i + 6 ≤ G.2.2.2.2.2.1) (hL : G.2.2.2.2.2.1 ≤ 3072) (next : ∀ D s l, INV fu D s l → ab_C G (d + 36 + 1) kc ks M_L_law 1199 [some (.retAddr 0), some (.ref 0), some (.ref 60), some (.int (nI i))] [] (hp D s l) (fun r _ => r = some (.int 1))) : ab_C G (d + 36 + 1) (kc + 6) (ks + 10240) M_L_law 27 [some (.retAddr 0), some (.ref 0), some (.ref 60), some (.int (nI i))] [] (hp D s l) (fun r _ => r = some (.int 1)) := by
  refine r_xload_n (t := 0) (by omega) rfl rfl ?_
  refine r_iload_n rfl rfl ?_
  refine r_sld rfl (vp_in_nI (by omega) (by omega)) ?_
  refine r_bipush_ (a := nI 63) rfl (by decide) ?_
  refine r_iand rfl ?_
  obtain ⟨j, hj, e⟩ := pk_andE (G.2.2.2.2.2.2.1 (nI i).toNatClampNeg) (m := nI 63) 6 (by decide)
  rw [e]
  by_cases hj2 : j ≤ 34
  · have : j = 0 ∨ j = 1 ∨ j = 2 ∨ j = 3 ∨ j = 4 ∨ j = 5 ∨ j = 6 ∨ j = 7 ∨ j = 8 ∨ j = 9 ∨ j = 10 ∨ j = 11 ∨ j = 12 ∨ j = 13 ∨ j = 14 ∨ j = 15 ∨ j = 16 ∨ j = 17 ∨ j = 18 ∨ j = 19 ∨ j = 20 ∨ j = 21 ∨ j = 22 ∨ j = 23 ∨ j = 24 ∨ j = 25 ∨ j = 26 ∨ j = 27 ∨ j = 28 ∨ j = 29 ∨ j = 30 ∨ j = 31 ∨ j = 32 ∨ j = 33 ∨ j = 34 := by omega
    rcases this with rfl | rfl | rfl | rfl | rfl | rfl | rfl | rfl | rfl | rfl | rfl | rfl | rfl | rfl | rfl | rfl | rfl | rfl | rfl | rfl | rfl | rfl | rfl | rfl | rfl | rfl | rfl | rfl | rfl | rfl | rfl | rfl | rfl | rfl | rfl
    · exact r_tableIn (off := 155) (tgt := 188) rfl (by decide) (by decide) (by decide) (by decide) (w_feed hfu hI hi hL next)
    · exact r_tableIn (off := 218) (tgt := 251) rfl (by decide) (by decide) (by decide) (by decide) (w_back hfu hI hi hL next)
    · exact r_tableIn (off := 241) (tgt := 274) rfl (by decide) (by decide) (by decide) (by decide) (w_read hfu hI hi hL next)
    · exact r_tableIn (off := 254) (tgt := 287) rfl (by decide) (by decide) (by decide) (by decide) (w_place hfu hI hi hL next)
    · exact r_tableIn (off := 267) (tgt := 300) rfl (by decide) (by decide) (by decide) (by decide) (w_piece hfu hI hi hL next)
    · exact r_tableIn (off := 300) (tgt := 333) rfl (by decide) (by decide) (by decide) (by decide) (w_picker hfu hI hi hL next)
    · exact r_tableIn (off := 333) (tgt := 366) rfl (by decide) (by decide) (by decide) (by decide) (w_lies hfu hI hi hL next)
    · exact r_tableIn (off := 366) (tgt := 399) rfl (by decide) (by decide) (by decide) (by decide) (w_send hfu hI hi hL next)
    · exact r_tableIn (off := 409) (tgt := 442) rfl (by decide) (by decide) (by decide) (by decide) (w_drop hfu hI hi hL next)
    · exact r_tableIn (off := 432) (tgt := 465) rfl (by decide) (by decide) (by decide) (by decide) (w_give hfu hI hi hL next)
    · exact r_tableIn (off := 465) (tgt := 498) rfl (by decide) (by decide) (by decide) (by decide) (w_hours hfu hI hi hL next)
    · exact r_tableIn (off := 488) (tgt := 521) rfl (by decide) (by decide) (by decide) (by decide) (w_undo hfu hI hi hL next)
    · exact r_tableIn (off := 501) (tgt := 534) rfl (by decide) (by decide) (by decide) (by decide) (w_steps hfu hI hi hL next)
    · exact r_tableIn (off := 544) (tgt := 577) rfl (by decide) (by decide) (by decide) (by decide) (w_round hfu hI hi hL next)
    · exact r_tableIn (off := 577) (tgt := 610) rfl (by decide) (by decide) (by decide) (by decide) (w_share hfu hI hi hL next)
    · exact r_tableIn (off := 610) (tgt := 643) rfl (by decide) (by decide) (by decide) (by decide) (w_closest hfu hI hi hL next)
    · exact r_tableIn (off := 643) (tgt := 676) rfl (by decide) (by decide) (by decide) (by decide) (w_richest hfu hI hi hL next)
    · exact r_tableIn (off := 666) (tgt := 699) rfl (by decide) (by decide) (by decide) (by decide) (w_made hfu hI hi hL next)
    · exact r_tableIn (off := 689) (tgt := 722) rfl (by decide) (by decide) (by decide) (by decide) (w_together hfu hI hi hL next)
    · exact r_tableIn (off := 712) (tgt := 745) rfl (by decide) (by decide) (by decide) (by decide) (w_missing hfu hI hi hL next)
    · exact r_tableIn (off := 745) (tgt := 778) rfl (by decide) (by decide) (by decide) (by decide) (w_longest hfu hI hi hL next)
    · exact r_tableIn (off := 768) (tgt := 801) rfl (by decide) (by decide) (by decide) (by decide) (w_whole hfu hI hi hL next)
    · exact r_tableIn (off := 781) (tgt := 814) rfl (by decide) (by decide) (by decide) (by decide) (w_loss hfu hI hi hL next)
    · exact r_tableIn (off := 804) (tgt := 837) rfl (by decide) (by decide) (by decide) (by decide) (w_stand hfu hI hi hL next)
    · exact r_tableIn (off := 847) (tgt := 880) rfl (by decide) (by decide) (by decide) (by decide) (w_late hfu hI hi hL next)
    · exact r_tableIn (off := 860) (tgt := 893) rfl (by decide) (by decide) (by decide) (by decide) (w_pieceIn hfu hI hi hL next)
    · exact r_tableIn (off := 903) (tgt := 936) rfl (by decide) (by decide) (by decide) (by decide) (w_pickerIn hfu hI hi hL next)
    · exact r_tableIn (off := 946) (tgt := 979) rfl (by decide) (by decide) (by decide) (by decide) (w_year hfu hI hi hL next)
    · exact r_tableIn (off := 979) (tgt := 1012) rfl (by decide) (by decide) (by decide) (by decide) (w_tell hfu hI hi hL next)
    · exact r_tableIn (off := 1028) (tgt := 1061) rfl (by decide) (by decide) (by decide) (by decide) (w_forget hfu hI hi hL next)
    · exact r_tableIn (off := 1041) (tgt := 1074) rfl (by decide) (by decide) (by decide) (by decide) (w_written hfu hI hi hL next)
    · exact r_tableIn (off := 1074) (tgt := 1107) rfl (by decide) (by decide) (by decide) (by decide) (w_ask hfu hI hi hL next)
    · exact r_tableIn (off := 1097) (tgt := 1130) rfl (by decide) (by decide) (by decide) (by decide) (w_hold hfu hI hi hL next)
    · exact r_tableIn (off := 1120) (tgt := 1153) rfl (by decide) (by decide) (by decide) (by decide) (w_restore hfu hI hi hL next)
    · exact r_tableIn (off := 1143) (tgt := 1176) rfl (by decide) (by decide) (by decide) (by decide) (w_count hfu hI hi hL next)
  · refine r_tableOut (tgt := 1199) rfl (.inr ?_) (by decide) (r_room (next D s l hI) (by omega) (by omega))
    rw [nI_toInt (by omega)]; omega
set_option maxRecDepth 100000 in
theorem law_loop {G : ab_G} {fu d : Nat} (hfu : 20000 ≤ fu) (hL : G.2.2.2.2.2.1 ≤ 3072) : ∀ n i D s l, G.2.2.2.2.2.1 < i + 6 * n → i ≤ 3078 → INV fu D s l → ab_C G (d + 36 + 1) (6 * n) (10240 * n) M_L_law 18 [some (.retAddr 0), some (.ref 0), some (.ref 60), some (.int (nI i))] [] (hp D s l) (fun r _ => r = some (.int 1)) := by
  intro n
  induction n with
  | zero =>
    intro i D s l h1 h2 hI
    refine r_iload_n rfl rfl ?_
    refine r_xload_n (t := 0) (by omega) rfl rfl ?_
    refine r_slen rfl ?_
    refine r_bipush_ (a := nI 6) rfl (by decide) ?_
    refine r_isub rfl ?_
    refine r_icmp_gt rfl (fun _ => law_out) (fun c => absurd ?_ c)
    rw [Int32.lt_iff_toInt_lt, nI_toInt (by omega)]
    show (nI G.2.2.2.2.2.1 - nI 6).toInt < _
    rw [pk_sub_toInt (by omega) (by omega)]; omega
  | succ n ih =>
    intro i D s l h1 h2 hI
    refine r_iload_n rfl rfl ?_
    refine r_xload_n (t := 0) (by omega) rfl rfl ?_
    refine r_slen rfl ?_
    refine r_bipush_ (a := nI 6) rfl (by decide) ?_
    refine r_isub rfl ?_
    refine r_icmp_gt rfl (fun _ => law_out) (fun c => ?_)
    have hi : i + 6 ≤ G.2.2.2.2.2.1 := by
      have c : ¬ (nI G.2.2.2.2.2.1 - nI 6) < nI i := c
      rw [Int32.lt_iff_toInt_lt, nI_toInt (by omega), pk_sub_toInt (by omega) (by omega)] at c
      omega
    refine law_go (kc := 6 * n) (ks := 10240 * n) hfu hI hi hL (fun D s l hI => ?_)
    refine r_iinc (b := nI (i + 6)) (L1 := [some (.retAddr 0), some (.ref 0), some (.ref 60), some (.int (nI (i + 6)))]) rfl rfl (by rw [← nI_add]; rfl) (Nat.le_of_ble_eq_true rfl) rfl ?_
    refine r_goto rfl ?_
    exact ih (i + 6) D s l (by omega) (by omega) hI
set_option maxRecDepth 100000 in
set_option maxHeartbeats 1000000 in
/-- the law, from its entry -/
theorem law_C {G : ab_G} {fu d : Nat} (hfu : 20000 ≤ fu) (hL : G.2.2.2.2.2.1 ≤ 3072) : ab_C G (d + 36 + 1) 3185 5284127 M_L_law 0 [some (.retAddr 0), none, none, none] [] (hl []) (fun r _ => r = some (.int 1)) := by
  refine r_new (kc := 3184) (ks := 5284112) (N := 15) rfl df_11 rfl ?_
  refine h_new (A := []) (A' := [.inr (11, [.null, .null, .null, .null, .null, .null, .null, .null, .int 0, .null, .null, .null, .null, .null, .int 0])]) (n := 0) rfl rfl ?_
  refine r_dup rfl rfl ?_
  refine r_callI (kc := 3125) (ks := 5279205) (kc1 := 59) (ks1 := 4907) [] [.ref 0] rfl kY_X11_init kT_X11_init rfl rfl rfl rfl (Nat.le_of_ble_eq_true rfl) (Nat.le_of_ble_eq_true rfl) (r_deep (i_X11 (fu := fu) (d := d)) (by omega)) (fun r h q9 => ?_)
  obtain ⟨rfl, rfl⟩ := q9
  refine r_astore_n (L1 := [some (.retAddr 0), some (.ref 0), none, none]) rfl (Nat.le_of_ble_eq_true rfl) rfl ?_
  refine r_new (kc := 3124) (ks := 5279135) (N := 70) rfl df_12 rfl ?_
  rw [← hl_60]
  refine h_new (A' := L60 (S11 fu) (L11 fu) ++ [.inr (12, [.int 0, .null, .int 0, .null, .int 0, .null, .null, .null, .null, .null, .int 0, .int 0, .int 0, .int 0, .int 0, .int 0, .int 0, .int 0, .int 0, .int 0, .null, .null, .null, .null, .null, .null, .null, .null, .null, .null, .null, .null, .null, .null, .null, .null, .int 0, .null, .null, .null, .null, .null, .int 0, .null, .null, .null, .int 0, .null, .null, .int 0, .null, .null, .int 0, .int 0, .int 0, .null, .null, .null, .int 0, .null, .int 0, .null, .null, .int 0, .null, .int 0, .null, .null, .null, .null])]) (n := 60) rfl rfl ?_
  refine r_dup rfl rfl ?_
  refine r_callI (kc := 3078) (ks := 5253120) (kc1 := 46) (ks1 := 26015) [] [.ref 60] rfl kY_X12_init kT_X12_init rfl rfl rfl rfl (Nat.le_of_ble_eq_true rfl) (Nat.le_of_ble_eq_true rfl) (r_deep (i_X12 (d := d) hfu) (by omega)) (fun r h q9 => ?_)
  obtain ⟨rfl, rfl⟩ := q9
  refine r_astore_n (L1 := [some (.retAddr 0), some (.ref 0), some (.ref 60), none]) rfl (Nat.le_of_ble_eq_true rfl) rfl ?_
  refine r_iconst_ (a := nI 0) rfl (by decide) ?_
  refine r_istore_n (L1 := [some (.retAddr 0), some (.ref 0), some (.ref 60), some (.int (nI 0))]) rfl (Nat.le_of_ble_eq_true rfl) rfl ?_
  exact law_loop hfu hL 513 0 D0 _ _ (by omega) (by omega) (start_INV hfu).2
