/-! the two texts change places -/
def D_f (D : fl_D) : fl_D := (D.1, D.2.1, !D.2.2.1, D.2.2.2.1, D.2.2.2.2.1, D.2.2.2.2.2)
theorem fl_s_0 {D D' : fl_D} (h2 : D.2.2.2.1 = D'.2.2.2.1) (h3 : D.2.2.2.2.1 = D'.2.2.2.2.1) (h4 : D.2.2.2.2.2 = D'.2.2.2.2.2) (f : Nat → Int32) (g : Nat → Int64) {x : Nat} (hx : x ≠ 0) : fl_s D f g x = fl_s D' f g x := by
  unfold fl_s
  split <;> first | rfl | (exact absurd rfl hx) | simp [h2, h3, h4]
theorem hp_f {D : fl_D} {s : fl_I} {l : fl_L} {e1 e2 : ab_E} (he : cl (D_f D) 0 (s 0) (l 0) = some e2) : ab_u (ab_u (hp D s l) 0 e1) 0 e2 = hp (D_f D) s l := by
  refine Prod.ext ?_ rfl
  funext x
  show (if x = 0 then some e2 else (if x = 0 then some e1 else cl D x (s x) (l x))) = cl (D_f D) x (s x) (l x)
  by_cases h0 : x = 0
  · subst h0; rw [if_pos rfl]; exact he.symm
  · rw [if_neg h0, if_neg h0]
    unfold cl
    by_cases hx : x < 107
    · rw [if_pos hx, if_pos hx]
      exact fl_s_0 (D := D) (D' := D_f D) rfl rfl rfl _ _ h0
    · rw [if_neg hx, if_neg hx]
      rfl
theorem ty_11_2 : ab_ty 11 2 = .object "ConfettiRound$Text" := by decide +kernel
theorem ty_11_3 : ab_ty 11 3 = .object "ConfettiRound$Text" := by decide +kernel
theorem fi_11_2 : ab_fin 11 2 = false := by decide +kernel
theorem fi_11_3 : ab_fin 11 3 = false := by decide +kernel
/-- read, a text without a fault: from there on -/
def r_46 (fu : Nat) (D : fl_D) (s : fl_I) (l : fl_L) : fl_I × fl_L := (wi (wi (wi (f_X10_begin fu 31 (if D.2.2.1 then 20 else 9) s l).1 43 0 0) 57 0 0) 0 8 0, (f_X10_begin fu 31 (if D.2.2.1 then 20 else 9) s l).2)
def f_read (fu : Nat) (D : fl_D) (s : fl_I) (l : fl_L) : Int32 × fl_D × fl_I × fl_L :=
  let m := f_X3_fill fu (if D.2.2.1 then 9 else 20) s l
  let s2 := wi (wi m.2.1 1 1 0) 0 14 (-1)
  if m.1 = 0 then (0, D_f D, r_46 fu (D_f D) s2 m.2.2) else (m.1, D, wi s2 0 14 (s2 3 0), m.2.2)
set_option maxRecDepth 100000 in
set_option maxHeartbeats 1000000 in
theorem s_read64 {G : ab_G} {fu : Nat} {d : Nat} {D : fl_D} {s : fl_I} {l : fl_L} {o : Option Value} : ab_C G (d + 2) 0 0 M_X11_read 64 [some (.ref 0), none, none] [] (hp D s l) (rt (some (.int 0)) (hp D (r_46 fu D s l).1 (r_46 fu D s l).2)) := by
  refine r_aload_n rfl rfl ?_
  refine q_getfield rfl (cc_0 _) rfl ?_
  refine r_aload_n rfl rfl ?_
  refine q_getfield rfl (cc_0 _) rfl ?_
  refine q_callV0 [_] _ rfl kY_X10_begin kT_X10_begin rfl rfl (Nat.le_of_ble_eq_true rfl) (Nat.le_of_ble_eq_true rfl) (cc_31 _) (s_X10_begin (fu := fu) (Or.inl rfl) (isT_l _) trivial) (fun r h q => ?_)
  obtain ⟨rfl, rfl⟩ := q
  simp only [Option.toList, List.cons_append, List.nil_append]
  unfold r_46
  generalize f_X10_begin fu 31 (if D.2.2.1 = true then 20 else 9) s l = m
  refine r_aload_n rfl rfl ?_
  refine q_getfield rfl (cc_0 _) rfl ?_
  refine r_iconst_ (a := 0) rfl (by decide) ?_
  refine w_put rfl (cc_43 _) ff_2_0 ft_2_0 (fun _ _ => (Nat.le_of_ble_eq_true rfl)) (fun _ _ => rfl) ?_
  refine r_aload_n rfl rfl ?_
  refine q_getfield rfl (cc_0 _) rfl ?_
  refine r_iconst_ (a := 0) rfl (by decide) ?_
  refine w_put rfl (cc_57 _) ff_7_0 ft_7_0 (fun _ _ => (Nat.le_of_ble_eq_true rfl)) (fun _ _ => rfl) ?_
  refine r_aload_n rfl rfl ?_
  refine r_iconst_ (a := 0) rfl (by decide) ?_
  refine w_put rfl (cc_0 _) ff_11_8 ft_11_8 (fun _ _ => (Nat.le_of_ble_eq_true rfl)) (fun _ _ => rfl) ?_
  refine r_iconst_ (a := 0) rfl (by decide) ?_
  refine r_iret rfl rfl rfl ?_
  exact ⟨rfl, rfl⟩
set_option maxRecDepth 100000 in
set_option maxHeartbeats 1000000 in
/-- read -/
theorem s_read {G : ab_G} {fu : Nat} {d : Nat} {D : fl_D} {s : fl_I} {l : fl_L} (hk : p_X3_fill fu (if D.2.2.1 then 9 else 20) s l) : ab_C G (d + 36) 0 0 M_X11_read 0 (ab_ent [.ref 0]) [] (hp D s l) (rt (some (.int (f_read fu D s l).1)) (hp (f_read fu D s l).2.1 (f_read fu D s l).2.2.1 (f_read fu D s l).2.2.2)) := by
  refine r_weak (L1 := [some (.ref 0), none, none]) ⟨rfl, trivial⟩ ?_
  refine r_aload_n rfl rfl ?_
  refine q_getfield rfl (cc_0 _) rfl ?_
  refine r_aload_n rfl rfl ?_
  refine q_getfield rfl (cc_0 _) rfl ?_
  refine r_aload_n rfl rfl ?_
  refine q_getfield rfl (cc_0 _) rfl ?_
  refine q_callV0 [_, _] _ rfl kY_X3_fill kT_X3_fill rfl rfl (Nat.le_of_ble_eq_true rfl) (Nat.le_of_ble_eq_true rfl) (cc_3 _) (s_X3_fill (fu := fu) (isT_s _) hk) (fun r h q => ?_)
  obtain ⟨rfl, rfl⟩ := q
  simp only [Option.toList, List.cons_append, List.nil_append]
  unfold f_read
  generalize f_X3_fill fu (if D.2.2.1 = true then 9 else 20) s l = m
  dsimp only
  refine r_istore_n rfl (Nat.le_of_ble_eq_true rfl) rfl ?_
  refine r_aload_n rfl rfl ?_
  refine q_getfield rfl (cc_0 _) rfl ?_
  refine r_iconst_ (a := 0) rfl (by decide) ?_
  refine w_put rfl (cc_1 _) ff_4_1 ft_4_1 (fun _ _ => (Nat.le_of_ble_eq_true rfl)) (fun _ _ => rfl) ?_
  refine r_aload_n rfl rfl ?_
  refine r_iconst_ (a := -1) rfl (by decide) ?_
  refine w_put rfl (cc_0 _) ff_11_14 ft_11_14 (fun _ _ => (Nat.le_of_ble_eq_true rfl)) (fun _ _ => rfl) ?_
  generalize wi (wi m.2.1 1 1 0) 0 14 (-1) = s2
  refine r_iload_n rfl rfl ?_
  refine r_if_eq rfl (fun c_30 => ?_) (fun c_30 => ?_)
  · rw [if_pos c_30]
    refine r_aload_n rfl rfl ?_
    refine q_getfield rfl (cc_0 _) rfl ?_
    refine r_astore_n rfl (Nat.le_of_ble_eq_true rfl) rfl ?_
    refine r_aload_n rfl rfl ?_
    refine r_aload_n rfl rfl ?_
    refine q_getfield rfl (cc_0 _) rfl ?_
    refine r_putfield rfl (show (hp D s2 m.2.2).1 0 = _ from cc_0 D (s2 0) (m.2.2 0)) fi_11_2 ty_11_2 rfl rfl (Nat.le_of_ble_eq_true rfl) rfl ?_
    refine r_aload_n rfl rfl ?_
    refine r_aload_n rfl rfl ?_
    refine r_putfield rfl (ab_u_same _ _ _) fi_11_3 ty_11_3 rfl rfl (Nat.le_of_ble_eq_true rfl) rfl ?_
    rw [hp_f (D := D) (s := s2) (l := m.2.2) (by
      rw [cc_0]
      cases h : D.2.2.1 <;> simp [D_f, h, List.set])]
    refine r_weak (L1 := [some (.ref 0), none, none]) ⟨rfl, trivial⟩ ?_
    exact r_deep (s_read64 (d := d) (o := none)) (by omega)
  · rw [if_neg c_30]
    refine r_aload_n rfl rfl ?_
    refine r_aload_n rfl rfl ?_
    refine q_getfield rfl (cc_0 _) rfl ?_
    refine q_getfield rfl (cc_3 _) rfl ?_
    refine w_put rfl (cc_0 _) ff_11_14 ft_11_14 (fun _ _ => (Nat.le_of_ble_eq_true rfl)) (fun _ _ => rfl) ?_
    refine r_iload_n rfl rfl ?_
    refine r_iret rfl rfl rfl ?_
    exact ⟨rfl, rfl⟩
