def rt (v : Option Value) (h : ab_H) : Option Value → ab_H → Prop := fun r h' => r = v ∧ h' = h
theorem isT_l (D : fl_D) : isT (if D.2.2.1 then 20 else 9) := by
  unfold isT
  cases D.2.2.1 <;> simp
theorem isT_s (D : fl_D) : isT (if D.2.2.1 then 9 else 20) := by
  unfold isT
  cases D.2.2.1 <;> simp
theorem nI_lt_of {n z : Nat} (c : ¬ nI z ≤ nI n) (hn : n < 2 ^ 31 := by omega) (hz : z < 2 ^ 31 := by omega) : n < z := by
  rcases Nat.lt_or_ge n z with h | h
  · exact h
  · exact absurd (nI_le h hn) c
theorem nI_le_of {n z : Nat} (c : nI z ≤ nI n) (hn : n < 2 ^ 31 := by omega) (hz : z < 2 ^ 31 := by omega) : z ≤ n := (nI_leI hz hn).mp c
theorem fin_i {D : fl_D} {v : Int32} {s : fl_I} {l : fl_L} {res : Int32 × fl_I × fl_L} (he : (v, s, l) = res) : rt (some (.int res.1)) (hp D res.2.1 res.2.2) (some (.int v)) (hp D s l) := by subst he; exact ⟨rfl, rfl⟩
theorem fin_l {D : fl_D} {v : Int64} {s : fl_I} {l : fl_L} {res : Int64 × fl_I × fl_L} (he : (v, s, l) = res) : rt (some (.long res.1)) (hp D res.2.1 res.2.2) (some (.long v)) (hp D s l) := by subst he; exact ⟨rfl, rfl⟩
theorem fin_v {D : fl_D} {s : fl_I} {l : fl_L} {res : fl_I × fl_L} (he : (s, l) = res) : rt none (hp D res.1 res.2) none (hp D s l) := by subst he; exact ⟨rfl, rfl⟩
theorem fin_ri {v res : Int32} {h : ab_H} (he : v = res) : rt (some (.int res)) h (some (.int v)) h := by subst he; exact ⟨rfl, rfl⟩
theorem fin_rl {v res : Int64} {h : ab_H} (he : v = res) : rt (some (.long res)) h (some (.long v)) h := by subst he; exact ⟨rfl, rfl⟩
theorem fin_rv {res : Unit} {h : ab_H} (_ : () = res) : rt none h none h := ⟨rfl, rfl⟩
section bs_calls
variable {G : ab_G} {d kc ks : Nat} {M : ab_M} {pc n x y : Nat} {cv : Value} {nm : MethodName} {L : List (Option Value)} {st : List Value} {h : ab_H} {Q : Option Value → ab_H → Prop}
theorem r_callV0 {M1 : ab_M} {i b : Nat} {fs : List Value} {Q1 : Option Value → ab_H → Prop} (As rest : List Value) (ho : ab_op M pc = some (.invokevirtual i, n, x, y, cv, M1.1)) (okY : ab_okY M1) (okT : ab_okT M1) (hst : st = As.reverse ++ .ref b :: rest) (hn : As.length = M1.2.2.2.2.2.1) (hAs : (lg_sl (.ref b :: As)).length ≤ M1.2.2.1) (hrs : (rest.map fun v => v.category).sum ≤ 8)
    (hb : h.1 b = some (.inr (M1.2.2.2.2.1, fs))) (hC : ab_C G d 0 0 M1 0 (ab_ent (.ref b :: As)) [] h Q1) (kk : ∀ r h', Q1 r h' → ab_C G (d + 1) kc ks M n L (r.toList ++ rest) h' Q) : ab_C G (d + 1) kc ks M pc L st h Q :=
  r_callV (kc1 := 0) (ks1 := 0) As rest ho okY okT hst hn hAs hrs hb hC kk
theorem r_callS0 {M1 : ab_M} {i : Nat} {Q1 : Option Value → ab_H → Prop} (As rest : List Value) (ho : ab_op M pc = some (.invokestatic i, n, 0, y, cv, M1.1)) (okY : ab_okY M1) (okT : ab_okT M1) (hst : st = As.reverse ++ rest) (hn : As.length = M1.2.2.2.2.2.1) (hAs : (lg_sl As).length ≤ M1.2.2.1) (hrs : (rest.map fun v => v.category).sum ≤ 8)
    (hC : ab_C G d 0 0 M1 0 (ab_ent As) [] h Q1) (kk : ∀ r h', Q1 r h' → ab_C G (d + 1) kc ks M n L (r.toList ++ rest) h' Q) : ab_C G (d + 1) kc ks M pc L st h Q :=
  r_callS (kc1 := 0) (ks1 := 0) As rest ho okY okT hst hn hAs hrs hC kk
theorem r_callSN0 {M1 : ab_M} {i : Nat} {Q1 : Option Value → ab_H → Prop} (As rest : List Value) (ho : ab_op M pc = some (.invokestatic i, n, 1, y, cv, M1.1)) (okY : ab_okY M1) (okT : ab_okT M1) (hst : st = As.reverse ++ rest) (hn : As.length = M1.2.2.2.2.2.1) (hAs : (lg_sl As).length ≤ M1.2.2.1) (hrs : (rest.map fun v => v.category).sum ≤ 8)
    (hC : ab_C G d 0 0 M1 0 (ab_ent As) [] h Q1) (kk : ∀ r h', Q1 r h' → ab_C G (d + 1) kc ks M n L (r.toList ++ rest) h' Q) : ab_C G (d + 1) kc ks M pc L st h Q :=
  r_callSN (kc1 := 0) (ks1 := 0) As rest ho okY okT hst hn hAs hrs hC kk
theorem q_callV0 {D : fl_D} {s : fl_I} {l : fl_L} {M1 : ab_M} {i b : Nat} {fl : (Nat → Int32) → (Nat → Int64) → List Value} {Q1 : Option Value → ab_H → Prop} (As rest : List Value) (ho : ab_op M pc = some (.invokevirtual i, n, x, y, cv, M1.1)) (okY : ab_okY M1) (okT : ab_okT M1) (hst : st = As.reverse ++ .ref b :: rest) (hn : As.length = M1.2.2.2.2.2.1) (hAs : (lg_sl (.ref b :: As)).length ≤ M1.2.2.1) (hrs : (rest.map fun v => v.category).sum ≤ 8)
    (hc : ∀ f g, cl D b f g = some (.inr (M1.2.2.2.2.1, fl f g))) (hC : ab_C G d 0 0 M1 0 (ab_ent (.ref b :: As)) [] (hp D s l) Q1) (kk : ∀ r h', Q1 r h' → ab_C G (d + 1) kc ks M n L (r.toList ++ rest) h' Q) : ab_C G (d + 1) kc ks M pc L st (hp D s l) Q :=
  r_callV0 As rest ho okY okT hst hn hAs hrs (hc (s b) (l b)) hC kk
end bs_calls

theorem ti_0 : (0 : Int32).toInt = 0 := by decide
theorem ti_1 : (1 : Int32).toInt = 1 := by decide
theorem ti_2 : (2 : Int32).toInt = 2 := by decide
theorem ti_3 : (3 : Int32).toInt = 3 := by decide
theorem ti_4 : (4 : Int32).toInt = 4 := by decide
theorem ti_5 : (5 : Int32).toInt = 5 := by decide
theorem ti_6 : (6 : Int32).toInt = 6 := by decide
theorem ti_7 : (7 : Int32).toInt = 7 := by decide
theorem ti_8 : (8 : Int32).toInt = 8 := by decide
theorem ti_9 : (9 : Int32).toInt = 9 := by decide
theorem ti_10 : (10 : Int32).toInt = 10 := by decide
theorem ti_11 : (11 : Int32).toInt = 11 := by decide
theorem ti_12 : (12 : Int32).toInt = 12 := by decide
theorem ti_13 : (13 : Int32).toInt = 13 := by decide
theorem ti_14 : (14 : Int32).toInt = 14 := by decide
theorem ti_15 : (15 : Int32).toInt = 15 := by decide
theorem ti_16 : (16 : Int32).toInt = 16 := by decide
theorem ti_17 : (17 : Int32).toInt = 17 := by decide
theorem ti_18 : (18 : Int32).toInt = 18 := by decide
theorem ti_19 : (19 : Int32).toInt = 19 := by decide
theorem ti_20 : (20 : Int32).toInt = 20 := by decide
theorem ti_21 : (21 : Int32).toInt = 21 := by decide
theorem ti_22 : (22 : Int32).toInt = 22 := by decide
theorem ti_23 : (23 : Int32).toInt = 23 := by decide
theorem ti_24 : (24 : Int32).toInt = 24 := by decide
theorem ti_25 : (25 : Int32).toInt = 25 := by decide
theorem ti_26 : (26 : Int32).toInt = 26 := by decide
theorem ti_27 : (27 : Int32).toInt = 27 := by decide
theorem ti_28 : (28 : Int32).toInt = 28 := by decide
theorem ti_29 : (29 : Int32).toInt = 29 := by decide
theorem ti_30 : (30 : Int32).toInt = 30 := by decide
theorem ti_31 : (31 : Int32).toInt = 31 := by decide
theorem ti_32 : (32 : Int32).toInt = 32 := by decide
theorem ti_33 : (33 : Int32).toInt = 33 := by decide
theorem ti_34 : (34 : Int32).toInt = 34 := by decide
theorem ti_35 : (35 : Int32).toInt = 35 := by decide
theorem ti_36 : (36 : Int32).toInt = 36 := by decide
theorem ti_37 : (37 : Int32).toInt = 37 := by decide
theorem ti_38 : (38 : Int32).toInt = 38 := by decide
theorem ti_39 : (39 : Int32).toInt = 39 := by decide
theorem ti_40 : (40 : Int32).toInt = 40 := by decide
theorem ti_41 : (41 : Int32).toInt = 41 := by decide
theorem ti_42 : (42 : Int32).toInt = 42 := by decide
theorem ti_43 : (43 : Int32).toInt = 43 := by decide
theorem ti_44 : (44 : Int32).toInt = 44 := by decide
theorem ti_45 : (45 : Int32).toInt = 45 := by decide
theorem ti_46 : (46 : Int32).toInt = 46 := by decide
theorem ti_47 : (47 : Int32).toInt = 47 := by decide
theorem ti_48 : (48 : Int32).toInt = 48 := by decide
theorem ti_49 : (49 : Int32).toInt = 49 := by decide
theorem ti_50 : (50 : Int32).toInt = 50 := by decide
theorem ti_51 : (51 : Int32).toInt = 51 := by decide
theorem ti_52 : (52 : Int32).toInt = 52 := by decide
theorem ti_53 : (53 : Int32).toInt = 53 := by decide
theorem ti_54 : (54 : Int32).toInt = 54 := by decide
theorem ti_55 : (55 : Int32).toInt = 55 := by decide
theorem ti_56 : (56 : Int32).toInt = 56 := by decide
theorem ti_57 : (57 : Int32).toInt = 57 := by decide
theorem ti_58 : (58 : Int32).toInt = 58 := by decide
theorem ti_59 : (59 : Int32).toInt = 59 := by decide
theorem ti_60 : (60 : Int32).toInt = 60 := by decide
theorem ti_61 : (61 : Int32).toInt = 61 := by decide
theorem ti_62 : (62 : Int32).toInt = 62 := by decide
theorem ti_63 : (63 : Int32).toInt = 63 := by decide
theorem ti_64 : (64 : Int32).toInt = 64 := by decide
theorem ti_79 : (79 : Int32).toInt = 79 := by decide
theorem ti_80 : (80 : Int32).toInt = 80 := by decide
theorem ti_90 : (90 : Int32).toInt = 90 := by decide
theorem ti_96 : (96 : Int32).toInt = 96 := by decide
theorem ti_97 : (97 : Int32).toInt = 97 := by decide
theorem ti_99 : (99 : Int32).toInt = 99 := by decide
theorem ti_100 : (100 : Int32).toInt = 100 := by decide
theorem ti_122 : (122 : Int32).toInt = 122 := by decide
theorem ti_128 : (128 : Int32).toInt = 128 := by decide
theorem ti_132 : (132 : Int32).toInt = 132 := by decide
theorem ti_136 : (136 : Int32).toInt = 136 := by decide
theorem ti_140 : (140 : Int32).toInt = 140 := by decide
theorem ti_141 : (141 : Int32).toInt = 141 := by decide
theorem ti_145 : (145 : Int32).toInt = 145 := by decide
theorem ti_255 : (255 : Int32).toInt = 255 := by decide
theorem ti_256 : (256 : Int32).toInt = 256 := by decide
theorem ti_257 : (257 : Int32).toInt = 257 := by decide
theorem ti_258 : (258 : Int32).toInt = 258 := by decide
theorem ti_259 : (259 : Int32).toInt = 259 := by decide
theorem ti_260 : (260 : Int32).toInt = 260 := by decide
theorem ti_261 : (261 : Int32).toInt = 261 := by decide
theorem ti_262 : (262 : Int32).toInt = 262 := by decide
theorem ti_263 : (263 : Int32).toInt = 263 := by decide
theorem ti_264 : (264 : Int32).toInt = 264 := by decide
theorem ti_265 : (265 : Int32).toInt = 265 := by decide
theorem ti_266 : (266 : Int32).toInt = 266 := by decide
theorem ti_267 : (267 : Int32).toInt = 267 := by decide
theorem ti_268 : (268 : Int32).toInt = 268 := by decide
theorem ti_269 : (269 : Int32).toInt = 269 := by decide
theorem ti_270 : (270 : Int32).toInt = 270 := by decide
theorem ti_271 : (271 : Int32).toInt = 271 := by decide
theorem ti_272 : (272 : Int32).toInt = 272 := by decide
theorem ti_273 : (273 : Int32).toInt = 273 := by decide
theorem ti_274 : (274 : Int32).toInt = 274 := by decide
theorem ti_275 : (275 : Int32).toInt = 275 := by decide
theorem ti_276 : (276 : Int32).toInt = 276 := by decide
theorem ti_277 : (277 : Int32).toInt = 277 := by decide
theorem ti_278 : (278 : Int32).toInt = 278 := by decide
theorem ti_400 : (400 : Int32).toInt = 400 := by decide
theorem ti_401 : (401 : Int32).toInt = 401 := by decide
theorem ti_408 : (408 : Int32).toInt = 408 := by decide
theorem ti_420 : (420 : Int32).toInt = 420 := by decide
theorem ti_840 : (840 : Int32).toInt = 840 := by decide
theorem ti_999 : (999 : Int32).toInt = 999 := by decide
theorem ti_1980 : (1980 : Int32).toInt = 1980 := by decide
theorem ti_2000 : (2000 : Int32).toInt = 2000 := by decide
theorem ti_9999 : (9999 : Int32).toInt = 9999 := by decide
theorem ti_10000 : (10000 : Int32).toInt = 10000 := by decide
theorem ti_10240 : (10240 : Int32).toInt = 10240 := by decide
theorem ti_1000000 : (1000000 : Int32).toInt = 1000000 := by decide
theorem ti_m1 : (-1 : Int32).toInt = -1 := by decide
theorem ti_m2 : (-2 : Int32).toInt = -2 := by decide
theorem ti_m3 : (-3 : Int32).toInt = -3 := by decide
theorem ti_m4 : (-4 : Int32).toInt = -4 := by decide
theorem ti_m5 : (-5 : Int32).toInt = -5 := by decide
theorem ti_m6 : (-6 : Int32).toInt = -6 := by decide
theorem ti_m7 : (-7 : Int32).toInt = -7 := by decide

set_option maxRecDepth 100000 in
set_option maxHeartbeats 4000000 in
/-- Integer.compare -/
theorem s_compare {G : ab_G} {d : Nat} {D : fl_D} {s : fl_I} {l : fl_L} {a b : Int32} {h : ab_H} : ab_C G d 0 0 M_J6_compare_7cf53 0 (ab_ent [.int a, .int b]) [] h (rt (some (.int (if a < b then -1 else if a = b then 0 else 1))) h) := by
  refine r_iload_n rfl rfl ?_
  refine r_iload_n rfl rfl ?_
  refine r_icmp_ge rfl (fun c_2 => ?_) (fun c_2 => ?_)
  · refine r_iload_n rfl rfl ?_
    refine r_iload_n rfl rfl ?_
    refine r_icmp_ne rfl (fun c_11 => ?_) (fun c_11 => ?_)
    · refine r_iconst_ (a := 1) rfl (by decide) ?_
      refine r_iret rfl rfl rfl ?_
      refine ⟨?_, rfl⟩
      simp_all [Int32.lt_iff_le_and_ne, eq_comm]
    · refine r_iconst_ (a := 0) rfl (by decide) ?_
      refine r_goto rfl ?_
      refine r_iret rfl rfl rfl ?_
      refine ⟨?_, rfl⟩
      simp_all [Int32.lt_iff_le_and_ne, eq_comm]
  · refine r_iconst_ (a := -1) rfl (by decide) ?_
    refine r_goto rfl ?_
    refine r_iret rfl rfl rfl ?_
    refine ⟨?_, rfl⟩
    simp_all [Int32.lt_iff_le_and_ne, eq_comm]

set_option maxRecDepth 100000 in
set_option maxHeartbeats 4000000 in
theorem lp_fill {G : ab_G} {d : Nat} {D : fl_D} {s : fl_I} {l : fl_L} {q z : Nat} {v : Int32} (hc : ∀ f g, cl D q f g = some (.inl (0, z, .inl f))) (hz : z < 2 ^ 30) : ∀ (k n : Nat), n ≤ z → z < n + k → ab_C G d 0 0 M_J7_fill_53178 5 [some (.ref q), some (.int v), some (.int (nI n)), some (.int (nI z))] [] (hp D (su s q (fun j => if j < n then v else s q j)) l) (rt none (hp D (su s q (fun j => if j < z then v else s q j)) l)) := by
  intro k
  induction k with
  | zero => intro n h1 h2; omega
  | succ k ih =>
    intro n h1 h2
    refine r_iload_n rfl rfl ?_
    refine r_iload_n rfl rfl ?_
    refine r_icmp_ge rfl (fun c_7 => ?_) (fun c_7 => ?_)
    · refine r_ret rfl rfl ?_
      have e2 : n = z := by have := nI_le_of c_7; omega
      subst e2
      exact ⟨rfl, rfl⟩
    · refine r_aload_n rfl rfl ?_
      refine r_iload_n rfl rfl ?_
      refine r_iload_n rfl rfl ?_
      refine w_iast rfl hc (vp_in_nI (nI_lt_of c_7) (by omega)) ?_
      refine r_iinc rfl rfl (nI_1 n) (Nat.le_of_ble_eq_true rfl) rfl ?_
      refine r_goto rfl ?_
      have e1 : wi (su s q (fun j => if j < n then v else s q j)) q (nI n).toNatClampNeg v = su s q (fun j => if j < n + 1 then v else s q j) := by
        unfold wi
        rw [su_su, su_same, nI_clamp (by omega)]
        congr 1
        funext j
        unfold upd
        by_cases hj : j = n
        · simp [hj]
        · by_cases hj2 : j < n
          · simp [hj, hj2, Nat.lt_succ_of_lt hj2]
          · simp [hj, hj2, show ¬ j < n + 1 by omega]
      rw [e1]
      exact r_weak (L1 := [some (.ref q), some (.int v), some (.int (nI (n + 1))), some (.int (nI z))]) ⟨rfl, rfl, rfl, rfl, trivial⟩ (ih (n + 1) (nI_lt_of c_7) (by omega))

set_option maxRecDepth 100000 in
set_option maxHeartbeats 4000000 in
/-- Arrays.fill -/
theorem s_fill {G : ab_G} {d : Nat} {D : fl_D} {s : fl_I} {l : fl_L} {q z : Nat} {v : Int32} (hc : ∀ f g, cl D q f g = some (.inl (0, z, .inl f))) (hz : z < 2 ^ 30) : ab_C G d 0 0 M_J7_fill_53178 0 (ab_ent [.ref q, .int v]) [] (hp D s l) (rt none (hp D (fl_fill v q z s l).1 (fl_fill v q z s l).2)) := by
  refine r_weak (L1 := [some (.ref q), some (.int v), none, none]) ⟨rfl, rfl, trivial⟩ ?_
  refine r_iconst_ (a := 0) rfl (by decide) ?_
  refine r_istore_n rfl (Nat.le_of_ble_eq_true rfl) rfl ?_
  refine r_aload_n rfl rfl ?_
  refine q_alen (v := nI z) rfl hc (Nat.le_of_ble_eq_true rfl) rfl ?_
  refine r_istore_n rfl (Nat.le_of_ble_eq_true rfl) rfl ?_
  have e0 : su s q (fun j => if j < 0 then v else s q j) = s := by
    funext j
    by_cases hj : j = q
    · subst hj; simp [su]
    · simp [su, hj]
  have h0 := lp_fill (G := G) (d := d) (s := s) (l := l) (v := v) hc hz (z + 1) 0 (by omega) (by omega)
  rw [e0] at h0
  refine r_weak ?_ h0
  exact ⟨rfl, rfl, rfl, rfl, trivial⟩
