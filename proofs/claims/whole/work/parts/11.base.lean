def rt (v : Option Value) (h : ab_H) : Option Value → ab_H → Prop := fun r h' => r = v ∧ h' = h
theorem isT_l (D : fl_D) : isT (if D.2.2.1 then 20 else 9) := by
  unfold isT
  cases D.2.2.1 <;> simp
theorem isT_s (D : fl_D) : isT (if D.2.2.1 then 9 else 20) := by
  unfold isT
  cases D.2.2.1 <;> simp
section bs_calls
variable {G : ab_G} {d kc ks : Nat} {M : ab_M} {pc n x y : Nat} {cv : Value} {nm : MethodName} {L : List (Option Value)} {st : List Value} {h : ab_H} {Q : Option Value → ab_H → Prop}
theorem r_callV0 {M1 : ab_M} {i b : Nat} {fs : List Value} {Q1 : Option Value → ab_H → Prop} (As rest : List Value) (ho : ab_op M pc = some (.invokevirtual i, n, x, y, cv, M1.1)) (okY : ab_okY M1) (okT : ab_okT M1) (hst : st = As.reverse ++ .ref b :: rest) (hn : As.length = M1.2.2.2.2.2.1) (hAs : (lg_sl (.ref b :: As)).length ≤ M1.2.2.1) (hrs : (rest.map fun v => v.category).sum ≤ 8)
    (hb : h.1 b = some (.inr (M1.2.2.2.2.1, fs))) (hC : ab_C G d 0 0 M1 0 (ab_ent (.ref b :: As)) [] h Q1) (kk : ∀ r h', Q1 r h' → ab_C G (d + 1) kc ks M n L (r.toList ++ rest) h' Q) : ab_C G (d + 1) kc ks M pc L st h Q :=
  r_callV (kc1 := 0) (ks1 := 0) As rest ho okY okT hst hn hAs hrs hb hC kk
theorem r_callS0 {M1 : ab_M} {i : Nat} {Q1 : Option Value → ab_H → Prop} (As rest : List Value) (ho : ab_op M pc = some (.invokestatic i, n, 0, y, cv, M1.1)) (okY : ab_okY M1) (okT : ab_okT M1) (hst : st = As.reverse ++ rest) (hn : As.length = M1.2.2.2.2.2.1) (hAs : (lg_sl As).length ≤ M1.2.2.1) (hrs : (rest.map fun v => v.category).sum ≤ 8)
    (hC : ab_C G d 0 0 M1 0 (ab_ent As) [] h Q1) (kk : ∀ r h', Q1 r h' → ab_C G (d + 1) kc ks M n L (r.toList ++ rest) h' Q) : ab_C G (d + 1) kc ks M pc L st h Q :=
  r_callS (kc1 := 0) (ks1 := 0) As rest ho okY okT hst hn hAs hrs hC kk
theorem r_callSN0 {M1 : ab_M} {i : Nat} {Q1 : Option Value → ab_H → Prop} (As rest : List Value) (ho : ab_op M pc = some (.invokestatic i, n, 1, y, cv, M1.1)) (okY : ab_okY M1) (okT : ab_okT M1) (hst : st = As.reverse ++ rest) (hn : As.length = M1.2.2.2.2.2.1) (hAs : (lg_sl As).length ≤ M1.2.2.1) (hrs : (rest.map fun v => v.category).sum ≤ 8)
    (hC : ab_C G d 0 0 M1 0 (ab_ent As) [] h Q1) (kk : ∀ r h', Q1 r h' → ab_C G (d + 1) kc ks M n L (r.toList ++ rest) h' Q) : ab_C G (d + 1) kc ks M pc L st h Q :=
  r_callSN (kc1 := 0) (ks1 := 0) As rest ho okY okT hst hn hAs hrs hC kk
end bs_calls

set_option maxRecDepth 100000 in
set_option maxHeartbeats 4000000 in
/-- Integer.compare -/
theorem s_compare {G : ab_G} {d : Nat} {D : fl_D} {s : fl_I} {l : fl_L} {a b : Int32} {h : ab_H} : ab_C G d 0 0 M_J6_compare_7cf53 0 (ab_ent [.int a, .int b]) [] h (rt (some (.int (if a < b then -1 else if a = b then 0 else 1))) h) := by
  refine r_iload_n rfl rfl ?_
  refine r_iload_n rfl rfl ?_
  refine r_icmp_ge rfl (fun c_2 => ?_) (fun c_2 => ?_)
  · refine r_iload_n rfl rfl ?_
    refine r_iload_n rfl rfl ?_
    refine r_icmp_ne rfl (fun c_11 => ?_) (fun c_11 => ?_)
    · refine r_iconst_ (a := 1) rfl (by decide) ?_
      refine r_iret rfl rfl rfl ?_
      refine ⟨?_, rfl⟩
      simp_all [Int32.lt_iff_le_and_ne]
    · refine r_iconst_ (a := 0) rfl (by decide) ?_
      refine r_goto rfl ?_
      refine r_iret rfl rfl rfl ?_
      refine ⟨?_, rfl⟩
      simp_all [Int32.lt_iff_le_and_ne]
  · refine r_iconst_ (a := -1) rfl (by decide) ?_
    refine r_goto rfl ?_
    refine r_iret rfl rfl rfl ?_
    refine ⟨?_, rfl⟩
    simp_all [Int32.lt_iff_le_and_ne]

set_option maxRecDepth 100000 in
set_option maxHeartbeats 4000000 in
theorem lp_fill {G : ab_G} {d : Nat} {D : fl_D} {s : fl_I} {l : fl_L} {q z : Nat} {v : Int32} (hc : ∀ f g, cl D q f g = some (.inl (0, z, .inl f))) (hz : z < 2 ^ 30) : ∀ (k n : Nat), n ≤ z → z < n + k → ab_C G d 0 0 M_J7_fill_53178 5 [some (.ref q), some (.int v), some (.int (nI n)), some (.int (nI z))] [] (hp D (su s q (fun j => if j < n then v else s q j)) l) (rt none (hp D (su s q (fun j => if j < z then v else s q j)) l)) := by
  intro k
  induction k with
  | zero => intro n h1 h2; omega
  | succ k ih =>
    intro n h1 h2
    refine r_iload_n rfl rfl ?_
    refine r_iload_n rfl rfl ?_
    refine r_icmp_ge rfl (fun c_7 => ?_) (fun c_7 => ?_)
    · refine r_ret rfl rfl ?_
      have e2 : n = z := by have := (nI_leI (by omega) (by omega)).mp c_7; omega
      subst e2
      exact ⟨rfl, rfl⟩
    · refine r_aload_n rfl rfl ?_
      refine r_iload_n rfl rfl ?_
      refine r_iload_n rfl rfl ?_
      refine w_iast rfl hc (by first | decide | assumption | exact vp_in_nI (by omega) (by omega)) ?_
      refine r_iinc rfl rfl (nI_1 n) (Nat.le_of_ble_eq_true rfl) rfl ?_
      refine r_goto rfl ?_
      have e1 : su (su s q (fun j => if j < n then v else s q j)) q (upd ((su s q (fun j => if j < n then v else s q j)) q) (nI n).toNatClampNeg v) = su s q (fun j => if j < n + 1 then v else s q j) := by
        rw [su_su, su_same, nI_clamp (by omega)]
        congr 1
        funext j
        unfold upd
        by_cases hj : j = n
        · simp [hj]
        · by_cases hj2 : j < n
          · simp [hj, hj2, Nat.lt_succ_of_lt hj2]
          · simp [hj, hj2, show ¬ j < n + 1 by omega]
      rw [e1]
      exact r_weak (L1 := [some (.ref q), some (.int v), some (.int (nI (n + 1))), some (.int (nI z))]) ⟨rfl, rfl, rfl, rfl, trivial⟩ (ih (n + 1) (by have := fun q => c_7 ((nI_leI (by omega) (by omega)).mpr q); omega) (by omega))

set_option maxRecDepth 100000 in
set_option maxHeartbeats 4000000 in
/-- Arrays.fill -/
theorem s_fill {G : ab_G} {d : Nat} {D : fl_D} {s : fl_I} {l : fl_L} {q z : Nat} {v : Int32} (hc : ∀ f g, cl D q f g = some (.inl (0, z, .inl f))) (hz : z < 2 ^ 30) : ab_C G d 0 0 M_J7_fill_53178 0 (ab_ent [.ref q, .int v]) [] (hp D s l) (rt none (hp D (su s q (fun j => if j < z then v else s q j)) l)) := by
  refine r_weak (L1 := [some (.ref q), some (.int v), none, none]) ⟨rfl, rfl, trivial⟩ ?_
  refine r_iconst_ (a := 0) rfl (by decide) ?_
  refine r_istore_n rfl (Nat.le_of_ble_eq_true rfl) rfl ?_
  refine r_aload_n rfl rfl ?_
  refine r_alen (v := nI z) rfl (hc _ _) (Nat.le_of_ble_eq_true rfl) rfl ?_
  refine r_istore_n rfl (Nat.le_of_ble_eq_true rfl) rfl ?_
  have e0 : su s q (fun j => if j < 0 then v else s q j) = s := by
    funext j
    by_cases hj : j = q
    · subst hj; simp [su]
    · simp [su, hj]
  have h0 := lp_fill (G := G) (d := d) (s := s) (l := l) (v := v) hc hz (z + 1) 0 (by omega) (by omega)
  rw [e0] at h0
  exact r_weak ⟨rfl, rfl, rfl, rfl, trivial⟩ h0
