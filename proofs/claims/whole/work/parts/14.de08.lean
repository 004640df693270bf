def f_X11_stand_38 : Nat → Int32 → Int32 → Int32 → Int32 → Int32 → fl_D → fl_I → fl_L → Int32 × fl_I × fl_L
  | 0, x1, x2, x3, x4, x5, D, s, l => (0, s, l)
  | n + 1, x1, x2, x3, x4, x5, D, s, l =>
    if ((80 : Int32) ≤ x5) then if (x3 = 0) then ((x4 - x4 / (80 : Int32) * (80 : Int32)), s, l) else ((x4 / (80 : Int32)), s, l) else if (x4 < (80 : Int32)) then if (x3 = 0) then ((x4 - x4 / (80 : Int32) * (80 : Int32)), s, l) else ((x4 / (80 : Int32)), s, l) else if (x5 = ((f_X10_copy 37 31 s l).1 34 x1.toNatClampNeg)) then f_X11_stand_38 n x1 x2 x3 (i_min x4 (((f_X9_takesOfAll (if D.2.2.1 then 20 else 9) 37 (f_X9_goOn x2 (-1 : Int32) (if D.2.2.1 then 20 else 9) 37 (wi (f_X10_copy 37 31 s l).1 41 x1.toNatClampNeg (-2 : Int32)) (f_X10_copy 37 31 s l).2).1 (f_X9_goOn x2 (-1 : Int32) (if D.2.2.1 then 20 else 9) 37 (wi (f_X10_copy 37 31 s l).1 41 x1.toNatClampNeg (-2 : Int32)) (f_X10_copy 37 31 s l).2).2).1 * (80 : Int32)) + x5)) (x5 + 1) D (f_X9_takesOfAll (if D.2.2.1 then 20 else 9) 37 (f_X9_goOn x2 (-1 : Int32) (if D.2.2.1 then 20 else 9) 37 (wi (f_X10_copy 37 31 s l).1 41 x1.toNatClampNeg (-2 : Int32)) (f_X10_copy 37 31 s l).2).1 (f_X9_goOn x2 (-1 : Int32) (if D.2.2.1 then 20 else 9) 37 (wi (f_X10_copy 37 31 s l).1 41 x1.toNatClampNeg (-2 : Int32)) (f_X10_copy 37 31 s l).2).2).2.1 (f_X9_takesOfAll (if D.2.2.1 then 20 else 9) 37 (f_X9_goOn x2 (-1 : Int32) (if D.2.2.1 then 20 else 9) 37 (wi (f_X10_copy 37 31 s l).1 41 x1.toNatClampNeg (-2 : Int32)) (f_X10_copy 37 31 s l).2).1 (f_X9_goOn x2 (-1 : Int32) (if D.2.2.1 then 20 else 9) 37 (wi (f_X10_copy 37 31 s l).1 41 x1.toNatClampNeg (-2 : Int32)) (f_X10_copy 37 31 s l).2).2).2.2 else f_X11_stand_38 n x1 x2 x3 (i_min x4 (((f_X9_takesOfAll (if D.2.2.1 then 20 else 9) 37 (f_X9_goOn x2 (-1 : Int32) (if D.2.2.1 then 20 else 9) 37 (wi (f_X10_copy 37 31 s l).1 41 x1.toNatClampNeg x5) (f_X10_copy 37 31 s l).2).1 (f_X9_goOn x2 (-1 : Int32) (if D.2.2.1 then 20 else 9) 37 (wi (f_X10_copy 37 31 s l).1 41 x1.toNatClampNeg x5) (f_X10_copy 37 31 s l).2).2).1 * (80 : Int32)) + x5)) (x5 + 1) D (f_X9_takesOfAll (if D.2.2.1 then 20 else 9) 37 (f_X9_goOn x2 (-1 : Int32) (if D.2.2.1 then 20 else 9) 37 (wi (f_X10_copy 37 31 s l).1 41 x1.toNatClampNeg x5) (f_X10_copy 37 31 s l).2).1 (f_X9_goOn x2 (-1 : Int32) (if D.2.2.1 then 20 else 9) 37 (wi (f_X10_copy 37 31 s l).1 41 x1.toNatClampNeg x5) (f_X10_copy 37 31 s l).2).2).2.1 (f_X9_takesOfAll (if D.2.2.1 then 20 else 9) 37 (f_X9_goOn x2 (-1 : Int32) (if D.2.2.1 then 20 else 9) 37 (wi (f_X10_copy 37 31 s l).1 41 x1.toNatClampNeg x5) (f_X10_copy 37 31 s l).2).1 (f_X9_goOn x2 (-1 : Int32) (if D.2.2.1 then 20 else 9) 37 (wi (f_X10_copy 37 31 s l).1 41 x1.toNatClampNeg x5) (f_X10_copy 37 31 s l).2).2).2.2

def p_X11_stand_38 : Nat → Int32 → Int32 → Int32 → Int32 → Int32 → fl_D → fl_I → fl_L → Prop
  | 0, _, _, _, _, _, _, _, _ => False
  | n + 1, x1, x2, x3, x4, x5, D, s, l =>
    ((((80 : Int32) ≤ x5) → (((x3 = 0) → True) ∧ (¬ (x3 = 0) → True))) ∧ (¬ ((80 : Int32) ≤ x5) → (((x4 < (80 : Int32)) → (((x3 = 0) → True) ∧ (¬ (x3 = 0) → True))) ∧ (¬ (x4 < (80 : Int32)) → (p_X10_copy 37 31 s l) ∧ (vp_in x1 4) ∧ (((x5 = ((f_X10_copy 37 31 s l).1 34 x1.toNatClampNeg)) → (vp_in x1 4) ∧ (p_X9_goOn x2 (-1 : Int32) (if D.2.2.1 then 20 else 9) 37 (wi (f_X10_copy 37 31 s l).1 41 x1.toNatClampNeg (-2 : Int32)) (f_X10_copy 37 31 s l).2) ∧ (p_X9_takesOfAll (if D.2.2.1 then 20 else 9) 37 (f_X9_goOn x2 (-1 : Int32) (if D.2.2.1 then 20 else 9) 37 (wi (f_X10_copy 37 31 s l).1 41 x1.toNatClampNeg (-2 : Int32)) (f_X10_copy 37 31 s l).2).1 (f_X9_goOn x2 (-1 : Int32) (if D.2.2.1 then 20 else 9) 37 (wi (f_X10_copy 37 31 s l).1 41 x1.toNatClampNeg (-2 : Int32)) (f_X10_copy 37 31 s l).2).2) ∧ p_X11_stand_38 n x1 x2 x3 (i_min x4 (((f_X9_takesOfAll (if D.2.2.1 then 20 else 9) 37 (f_X9_goOn x2 (-1 : Int32) (if D.2.2.1 then 20 else 9) 37 (wi (f_X10_copy 37 31 s l).1 41 x1.toNatClampNeg (-2 : Int32)) (f_X10_copy 37 31 s l).2).1 (f_X9_goOn x2 (-1 : Int32) (if D.2.2.1 then 20 else 9) 37 (wi (f_X10_copy 37 31 s l).1 41 x1.toNatClampNeg (-2 : Int32)) (f_X10_copy 37 31 s l).2).2).1 * (80 : Int32)) + x5)) (x5 + 1) D (f_X9_takesOfAll (if D.2.2.1 then 20 else 9) 37 (f_X9_goOn x2 (-1 : Int32) (if D.2.2.1 then 20 else 9) 37 (wi (f_X10_copy 37 31 s l).1 41 x1.toNatClampNeg (-2 : Int32)) (f_X10_copy 37 31 s l).2).1 (f_X9_goOn x2 (-1 : Int32) (if D.2.2.1 then 20 else 9) 37 (wi (f_X10_copy 37 31 s l).1 41 x1.toNatClampNeg (-2 : Int32)) (f_X10_copy 37 31 s l).2).2).2.1 (f_X9_takesOfAll (if D.2.2.1 then 20 else 9) 37 (f_X9_goOn x2 (-1 : Int32) (if D.2.2.1 then 20 else 9) 37 (wi (f_X10_copy 37 31 s l).1 41 x1.toNatClampNeg (-2 : Int32)) (f_X10_copy 37 31 s l).2).1 (f_X9_goOn x2 (-1 : Int32) (if D.2.2.1 then 20 else 9) 37 (wi (f_X10_copy 37 31 s l).1 41 x1.toNatClampNeg (-2 : Int32)) (f_X10_copy 37 31 s l).2).2).2.2) ∧ (¬ (x5 = ((f_X10_copy 37 31 s l).1 34 x1.toNatClampNeg)) → (vp_in x1 4) ∧ (p_X9_goOn x2 (-1 : Int32) (if D.2.2.1 then 20 else 9) 37 (wi (f_X10_copy 37 31 s l).1 41 x1.toNatClampNeg x5) (f_X10_copy 37 31 s l).2) ∧ (p_X9_takesOfAll (if D.2.2.1 then 20 else 9) 37 (f_X9_goOn x2 (-1 : Int32) (if D.2.2.1 then 20 else 9) 37 (wi (f_X10_copy 37 31 s l).1 41 x1.toNatClampNeg x5) (f_X10_copy 37 31 s l).2).1 (f_X9_goOn x2 (-1 : Int32) (if D.2.2.1 then 20 else 9) 37 (wi (f_X10_copy 37 31 s l).1 41 x1.toNatClampNeg x5) (f_X10_copy 37 31 s l).2).2) ∧ p_X11_stand_38 n x1 x2 x3 (i_min x4 (((f_X9_takesOfAll (if D.2.2.1 then 20 else 9) 37 (f_X9_goOn x2 (-1 : Int32) (if D.2.2.1 then 20 else 9) 37 (wi (f_X10_copy 37 31 s l).1 41 x1.toNatClampNeg x5) (f_X10_copy 37 31 s l).2).1 (f_X9_goOn x2 (-1 : Int32) (if D.2.2.1 then 20 else 9) 37 (wi (f_X10_copy 37 31 s l).1 41 x1.toNatClampNeg x5) (f_X10_copy 37 31 s l).2).2).1 * (80 : Int32)) + x5)) (x5 + 1) D (f_X9_takesOfAll (if D.2.2.1 then 20 else 9) 37 (f_X9_goOn x2 (-1 : Int32) (if D.2.2.1 then 20 else 9) 37 (wi (f_X10_copy 37 31 s l).1 41 x1.toNatClampNeg x5) (f_X10_copy 37 31 s l).2).1 (f_X9_goOn x2 (-1 : Int32) (if D.2.2.1 then 20 else 9) 37 (wi (f_X10_copy 37 31 s l).1 41 x1.toNatClampNeg x5) (f_X10_copy 37 31 s l).2).2).2.1 (f_X9_takesOfAll (if D.2.2.1 then 20 else 9) 37 (f_X9_goOn x2 (-1 : Int32) (if D.2.2.1 then 20 else 9) 37 (wi (f_X10_copy 37 31 s l).1 41 x1.toNatClampNeg x5) (f_X10_copy 37 31 s l).2).1 (f_X9_goOn x2 (-1 : Int32) (if D.2.2.1 then 20 else 9) 37 (wi (f_X10_copy 37 31 s l).1 41 x1.toNatClampNeg x5) (f_X10_copy 37 31 s l).2).2).2.2))))))

set_option maxRecDepth 100000 in
set_option maxHeartbeats 4000000 in
theorem lp_X11_stand_38 {G : ab_G} {d : Nat} {D : fl_D} : ∀ (n : Nat) (x1 : Int32) (x2 : Int32) (x3 : Int32) (x4 : Int32) (x5 : Int32) (s : fl_I) (l : fl_L), p_X11_stand_38 n x1 x2 x3 x4 x5 D s l → ab_C G (d + 5) 0 0 M_X11_stand 38 [some (.ref 0), some (.int x1), some (.int x2), some (.int x3), some (.int x4), some (.int x5)] [] (hp D s l) (rt (some (.int (f_X11_stand_38 n x1 x2 x3 x4 x5 D s l).1)) (hp D (f_X11_stand_38 n x1 x2 x3 x4 x5 D s l).2.1 (f_X11_stand_38 n x1 x2 x3 x4 x5 D s l).2.2)) := by
  intro n
  induction n with
  | zero => intro x1 x2 x3 x4 x5 s l hk; exact hk.elim
  | succ n ih =>
    intro x1 x2 x3 x4 x5 s l hk
    generalize he : f_X11_stand_38 (n + 1) x1 x2 x3 x4 x5 D s l = res
    unfold f_X11_stand_38 at he
    unfold p_X11_stand_38 at hk
    refine r_iload rfl rfl ?_
    refine r_bipush_ (a := 80) rfl (by decide) ?_
    refine r_icmp_ge rfl (fun c_42 => ?_) (fun c_42 => ?_)
    · rw [if_pos c_42] at he
      replace hk := hk.1 c_42
      refine r_iload_n rfl rfl ?_
      refine r_if_ne rfl (fun c_145 => ?_) (fun c_145 => ?_)
      · rw [if_neg c_145] at he
        replace hk := hk.2 c_145
        refine r_iload rfl rfl ?_
        refine r_bipush_ (a := 80) rfl (by decide) ?_
        refine r_idiv rfl (by decide) ?_
        refine r_iret rfl rfl rfl ?_
        subst he
        exact ⟨rfl, rfl⟩
      · rw [if_pos c_145] at he
        replace hk := hk.1 c_145
        refine r_iload rfl rfl ?_
        refine r_bipush_ (a := 80) rfl (by decide) ?_
        refine r_irem rfl (by decide) ?_
        refine r_goto rfl ?_
        refine r_iret rfl rfl rfl ?_
        subst he
        exact ⟨rfl, rfl⟩
    · rw [if_neg c_42] at he
      replace hk := hk.2 c_42
      refine r_iload rfl rfl ?_
      refine r_bipush_ (a := 80) rfl (by decide) ?_
      refine r_icmp_lt rfl (fun c_49 => ?_) (fun c_49 => ?_)
      · rw [if_pos c_49] at he
        replace hk := hk.1 c_49
        refine r_iload_n rfl rfl ?_
        refine r_if_ne rfl (fun c_145 => ?_) (fun c_145 => ?_)
        · rw [if_neg c_145] at he
          replace hk := hk.2 c_145
          refine r_iload rfl rfl ?_
          refine r_bipush_ (a := 80) rfl (by decide) ?_
          refine r_idiv rfl (by decide) ?_
          refine r_iret rfl rfl rfl ?_
          subst he
          exact ⟨rfl, rfl⟩
        · rw [if_pos c_145] at he
          replace hk := hk.1 c_145
          refine r_iload rfl rfl ?_
          refine r_bipush_ (a := 80) rfl (by decide) ?_
          refine r_irem rfl (by decide) ?_
          refine r_goto rfl ?_
          refine r_iret rfl rfl rfl ?_
          subst he
          exact ⟨rfl, rfl⟩
      · rw [if_neg c_49] at he
        replace hk := hk.2 c_49
        refine r_aload_n rfl rfl ?_
        refine q_getfield rfl (cc_0 _) rfl ?_
        refine r_aload_n rfl rfl ?_
        refine q_getfield rfl (cc_0 _) rfl ?_
        obtain ⟨hb1, hk⟩ := hk
        refine q_callV0 [_] _ rfl kY_X10_copy kT_X10_copy rfl rfl (Nat.le_of_ble_eq_true rfl) (Nat.le_of_ble_eq_true rfl) (cc_37 _) (s_X10_copy (Or.inr (Or.inl rfl)) (Or.inl rfl) hb1) (fun r h q => ?_)
        obtain ⟨rfl, rfl⟩ := q
        simp only [Option.toList, List.cons_append, List.nil_append]
        refine r_aload_n rfl rfl ?_
        refine q_getfield rfl (cc_0 _) rfl ?_
        refine q_getfield rfl (cc_37 _) rfl ?_
        refine r_iload_n rfl rfl ?_
        refine r_iload rfl rfl ?_
        refine r_aload_n rfl rfl ?_
        refine q_getfield rfl (cc_0 _) rfl ?_
        refine q_getfield rfl (cc_31 _) rfl ?_
        refine r_iload_n rfl rfl ?_
        obtain ⟨hb2, hk⟩ := hk
        refine q_iald rfl (cc_34 _) hb2 ?_
        refine r_icmp_ne rfl (fun c_82 => ?_) (fun c_82 => ?_)
        · rw [if_neg c_82] at he
          replace hk := hk.2 c_82
          refine r_iload rfl rfl ?_
          obtain ⟨hb3, hk⟩ := hk
          refine w_iast rfl (cc_41 _) hb3 ?_
          refine r_aload_n rfl rfl ?_
          refine q_getfield rfl (cc_0 _) rfl ?_
          refine r_aload_n rfl rfl ?_
          refine q_getfield rfl (cc_0 _) rfl ?_
          refine r_aload_n rfl rfl ?_
          refine q_getfield rfl (cc_0 _) rfl ?_
          refine r_iload_n rfl rfl ?_
          refine r_iconst_ (a := -1) rfl (by decide) ?_
          obtain ⟨hb4, hk⟩ := hk
          refine q_callV0 [_, _, _, _] _ rfl kY_X9_goOn kT_X9_goOn rfl rfl (Nat.le_of_ble_eq_true rfl) (Nat.le_of_ble_eq_true rfl) (cc_46 _) (s_X9_goOn (isT_l _) (Or.inr (Or.inl rfl)) hb4) (fun r h q => ?_)
          obtain ⟨rfl, rfl⟩ := q
          simp only [Option.toList, List.cons_append, List.nil_append]
          refine r_iload rfl rfl ?_
          refine r_aload_n rfl rfl ?_
          refine q_getfield rfl (cc_0 _) rfl ?_
          refine r_aload_n rfl rfl ?_
          refine q_getfield rfl (cc_0 _) rfl ?_
          refine r_aload_n rfl rfl ?_
          refine q_getfield rfl (cc_0 _) rfl ?_
          obtain ⟨hb5, hk⟩ := hk
          refine q_callV0 [_, _] _ rfl kY_X9_takesOfAll kT_X9_takesOfAll rfl rfl (Nat.le_of_ble_eq_true rfl) (Nat.le_of_ble_eq_true rfl) (cc_46 _) (s_X9_takesOfAll (isT_l _) (Or.inr (Or.inl rfl)) hb5) (fun r h q => ?_)
          obtain ⟨rfl, rfl⟩ := q
          simp only [Option.toList, List.cons_append, List.nil_append]
          refine r_bipush_ (a := 80) rfl (by decide) ?_
          refine r_imul rfl ?_
          refine r_iload rfl rfl ?_
          refine r_iadd rfl ?_
          refine r_mmin rfl (Nat.le_of_ble_eq_true rfl) ?_
          refine r_istore rfl (Nat.le_of_ble_eq_true rfl) rfl ?_
          refine r_iinc (b := x5 + 1) rfl rfl rfl (Nat.le_of_ble_eq_true rfl) rfl ?_
          refine r_goto rfl ?_
          subst he
          exact r_weak (L1 := [some (.ref 0), some (.int x1), some (.int x2), some (.int x3), some (.int (i_min x4 (((f_X9_takesOfAll (if D.2.2.1 then 20 else 9) 37 (f_X9_goOn x2 (-1 : Int32) (if D.2.2.1 then 20 else 9) 37 (wi (f_X10_copy 37 31 s l).1 41 x1.toNatClampNeg x5) (f_X10_copy 37 31 s l).2).1 (f_X9_goOn x2 (-1 : Int32) (if D.2.2.1 then 20 else 9) 37 (wi (f_X10_copy 37 31 s l).1 41 x1.toNatClampNeg x5) (f_X10_copy 37 31 s l).2).2).1 * (80 : Int32)) + x5))), some (.int (x5 + 1))]) ⟨rfl, rfl, rfl, rfl, rfl, rfl, trivial⟩ (ih _ _ _ _ _ _ _ hk)
        · rw [if_pos c_82] at he
          replace hk := hk.1 c_82
          refine r_bipush_ (a := -2) rfl (by decide) ?_
          refine r_goto rfl ?_
          obtain ⟨hb6, hk⟩ := hk
          refine w_iast rfl (cc_41 _) hb6 ?_
          refine r_aload_n rfl rfl ?_
          refine q_getfield rfl (cc_0 _) rfl ?_
          refine r_aload_n rfl rfl ?_
          refine q_getfield rfl (cc_0 _) rfl ?_
          refine r_aload_n rfl rfl ?_
          refine q_getfield rfl (cc_0 _) rfl ?_
          refine r_iload_n rfl rfl ?_
          refine r_iconst_ (a := -1) rfl (by decide) ?_
          obtain ⟨hb7, hk⟩ := hk
          refine q_callV0 [_, _, _, _] _ rfl kY_X9_goOn kT_X9_goOn rfl rfl (Nat.le_of_ble_eq_true rfl) (Nat.le_of_ble_eq_true rfl) (cc_46 _) (s_X9_goOn (isT_l _) (Or.inr (Or.inl rfl)) hb7) (fun r h q => ?_)
          obtain ⟨rfl, rfl⟩ := q
          simp only [Option.toList, List.cons_append, List.nil_append]
          refine r_iload rfl rfl ?_
          refine r_aload_n rfl rfl ?_
          refine q_getfield rfl (cc_0 _) rfl ?_
          refine r_aload_n rfl rfl ?_
          refine q_getfield rfl (cc_0 _) rfl ?_
          refine r_aload_n rfl rfl ?_
          refine q_getfield rfl (cc_0 _) rfl ?_
          obtain ⟨hb8, hk⟩ := hk
          refine q_callV0 [_, _] _ rfl kY_X9_takesOfAll kT_X9_takesOfAll rfl rfl (Nat.le_of_ble_eq_true rfl) (Nat.le_of_ble_eq_true rfl) (cc_46 _) (s_X9_takesOfAll (isT_l _) (Or.inr (Or.inl rfl)) hb8) (fun r h q => ?_)
          obtain ⟨rfl, rfl⟩ := q
          simp only [Option.toList, List.cons_append, List.nil_append]
          refine r_bipush_ (a := 80) rfl (by decide) ?_
          refine r_imul rfl ?_
          refine r_iload rfl rfl ?_
          refine r_iadd rfl ?_
          refine r_mmin rfl (Nat.le_of_ble_eq_true rfl) ?_
          refine r_istore rfl (Nat.le_of_ble_eq_true rfl) rfl ?_
          refine r_iinc (b := x5 + 1) rfl rfl rfl (Nat.le_of_ble_eq_true rfl) rfl ?_
          refine r_goto rfl ?_
          subst he
          exact r_weak (L1 := [some (.ref 0), some (.int x1), some (.int x2), some (.int x3), some (.int (i_min x4 (((f_X9_takesOfAll (if D.2.2.1 then 20 else 9) 37 (f_X9_goOn x2 (-1 : Int32) (if D.2.2.1 then 20 else 9) 37 (wi (f_X10_copy 37 31 s l).1 41 x1.toNatClampNeg (-2 : Int32)) (f_X10_copy 37 31 s l).2).1 (f_X9_goOn x2 (-1 : Int32) (if D.2.2.1 then 20 else 9) 37 (wi (f_X10_copy 37 31 s l).1 41 x1.toNatClampNeg (-2 : Int32)) (f_X10_copy 37 31 s l).2).2).1 * (80 : Int32)) + x5))), some (.int (x5 + 1))]) ⟨rfl, rfl, rfl, rfl, rfl, rfl, trivial⟩ (ih _ _ _ _ _ _ _ hk)

def f_X11_stand (v0 : Int32) (v1 : Int32) (v2 : Int32) (D : fl_D) (s : fl_I) (l : fl_L) : Int32 × fl_I × fl_L :=
  if ((f_X11_isPicker v0 s l) = 0) then ((-1 : Int32), s, l) else if (v1 < (1 : Int32)) then ((-1 : Int32), s, l) else if ((12 : Int32) < v1) then ((-1 : Int32), s, l) else if (v2 < 0) then ((-1 : Int32), s, l) else if (v2 ≤ (1 : Int32)) then f_X11_stand_38 fu v0 v1 v2 (1000000 : Int32) (0 : Int32) D s l else ((-1 : Int32), s, l)

def p_X11_stand (v0 : Int32) (v1 : Int32) (v2 : Int32) (D : fl_D) (s : fl_I) (l : fl_L) : Prop :=
  (p_X11_isPicker v0 s l) ∧ ((((f_X11_isPicker v0 s l) = 0) → True) ∧ (¬ ((f_X11_isPicker v0 s l) = 0) → (((v1 < (1 : Int32)) → True) ∧ (¬ (v1 < (1 : Int32)) → ((((12 : Int32) < v1) → True) ∧ (¬ ((12 : Int32) < v1) → (((v2 < 0) → True) ∧ (¬ (v2 < 0) → (((v2 ≤ (1 : Int32)) → p_X11_stand_38 fu v0 v1 v2 (1000000 : Int32) (0 : Int32) D s l) ∧ (¬ (v2 ≤ (1 : Int32)) → True))))))))))

set_option maxRecDepth 100000 in
set_option maxHeartbeats 4000000 in
theorem s_X11_stand {G : ab_G} {d : Nat} {D : fl_D} {s : fl_I} {l : fl_L} {v0 : Int32} {v1 : Int32} {v2 : Int32} (hk : p_X11_stand v0 v1 v2 D s l) : ab_C G (d + 5) 0 0 M_X11_stand 0 (ab_ent [.ref 0, .int v0, .int v1, .int v2]) [] (hp D s l) (rt (some (.int (f_X11_stand v0 v1 v2 D s l).1)) (hp D (f_X11_stand v0 v1 v2 D s l).2.1 (f_X11_stand v0 v1 v2 D s l).2.2)) := by
  generalize he : (f_X11_stand v0 v1 v2 D s l) = res
  unfold f_X11_stand at he
  unfold p_X11_stand at hk
  refine r_weak (L1 := [some (.ref 0), some (.int v0), some (.int v1), some (.int v2), none, none]) ⟨rfl, rfl, rfl, rfl, trivial⟩ ?_
  refine r_aload_n rfl rfl ?_
  refine r_iload_n rfl rfl ?_
  obtain ⟨hb0, hk⟩ := hk
  refine q_callV0 [_] _ rfl kY_X11_isPicker kT_X11_isPicker rfl rfl (Nat.le_of_ble_eq_true rfl) (Nat.le_of_ble_eq_true rfl) (cc_0 _) (s_X11_isPicker hb0) (fun r h q => ?_)
  obtain ⟨rfl, rfl⟩ := q
  simp only [Option.toList, List.cons_append, List.nil_append]
  refine r_if_eq rfl (fun c_5 => ?_) (fun c_5 => ?_)
  · rw [if_pos c_5] at he
    replace hk := hk.1 c_5
    refine r_iconst_ (a := -1) rfl (by decide) ?_
    refine r_iret rfl rfl rfl ?_
    subst he
    exact ⟨rfl, rfl⟩
  · rw [if_neg c_5] at he
    replace hk := hk.2 c_5
    refine r_iload_n rfl rfl ?_
    refine r_iconst_ (a := 1) rfl (by decide) ?_
    refine r_icmp_lt rfl (fun c_10 => ?_) (fun c_10 => ?_)
    · rw [if_pos c_10] at he
      replace hk := hk.1 c_10
      refine r_iconst_ (a := -1) rfl (by decide) ?_
      refine r_iret rfl rfl rfl ?_
      subst he
      exact ⟨rfl, rfl⟩
    · rw [if_neg c_10] at he
      replace hk := hk.2 c_10
      refine r_iload_n rfl rfl ?_
      refine r_bipush_ (a := 12) rfl (by decide) ?_
      refine r_icmp_gt rfl (fun c_16 => ?_) (fun c_16 => ?_)
      · rw [if_pos c_16] at he
        replace hk := hk.1 c_16
        refine r_iconst_ (a := -1) rfl (by decide) ?_
        refine r_iret rfl rfl rfl ?_
        subst he
        exact ⟨rfl, rfl⟩
      · rw [if_neg c_16] at he
        replace hk := hk.2 c_16
        refine r_iload_n rfl rfl ?_
        refine r_if_lt rfl (fun c_20 => ?_) (fun c_20 => ?_)
        · rw [if_pos c_20] at he
          replace hk := hk.1 c_20
          refine r_iconst_ (a := -1) rfl (by decide) ?_
          refine r_iret rfl rfl rfl ?_
          subst he
          exact ⟨rfl, rfl⟩
        · rw [if_neg c_20] at he
          replace hk := hk.2 c_20
          refine r_iload_n rfl rfl ?_
          refine r_iconst_ (a := 1) rfl (by decide) ?_
          refine r_icmp_le rfl (fun c_25 => ?_) (fun c_25 => ?_)
          · rw [if_pos c_25] at he
            replace hk := hk.1 c_25
            refine r_ldc_w rfl ?_
            refine r_istore rfl (Nat.le_of_ble_eq_true rfl) rfl ?_
            refine r_iconst_ (a := 0) rfl (by decide) ?_
            refine r_istore rfl (Nat.le_of_ble_eq_true rfl) rfl ?_
            subst he
            exact r_weak (L1 := [some (.ref 0), some (.int v0), some (.int v1), some (.int v2), some (.int (1000000 : Int32)), some (.int (0 : Int32))]) ⟨rfl, rfl, rfl, rfl, rfl, rfl, trivial⟩ (lp_X11_stand_38 fu _ _ _ _ _ _ _ hk)
          · rw [if_neg c_25] at he
            replace hk := hk.2 c_25
            refine r_iconst_ (a := -1) rfl (by decide) ?_
            refine r_iret rfl rfl rfl ?_
            subst he
            exact ⟨rfl, rfl⟩

def f_X12_blows_69 : Nat → Int32 → fl_I → fl_L → fl_I × fl_L
  | 0, x2, s, l => (s, l)
  | n + 1, x2, s, l =>
    if ((s 60 54) ≤ x2) then (s, l) else if ((f_X12_doesLie x2 s l) = 0) then f_X12_blows_69 n (x2 + 1) s l else if ((s 98 x2.toNatClampNeg) = 0) then f_X12_blows_69 n (x2 + 1) (wi s 95 ((96 : Int32) + x2).toNatClampNeg (f_X12_within ((s 95 ((96 : Int32) + x2).toNatClampNeg) + (1 : Int32)) (0 : Int32) (999 : Int32))) l else f_X12_blows_69 n (x2 + 1) (wi (wi (wi s 95 x2.toNatClampNeg (f_X12_within ((s 95 x2.toNatClampNeg) + (s 79 ((2 : Int32) * (s 60 18)).toNatClampNeg)) (0 : Int32) (9 : Int32))) 95 ((32 : Int32) + x2).toNatClampNeg (f_X12_within (((wi s 95 x2.toNatClampNeg (f_X12_within ((s 95 x2.toNatClampNeg) + (s 79 ((2 : Int32) * (s 60 18)).toNatClampNeg)) (0 : Int32) (9 : Int32))) 95 ((32 : Int32) + x2).toNatClampNeg) + ((wi s 95 x2.toNatClampNeg (f_X12_within ((s 95 x2.toNatClampNeg) + (s 79 ((2 : Int32) * (s 60 18)).toNatClampNeg)) (0 : Int32) (9 : Int32))) 79 (((2 : Int32) * ((wi s 95 x2.toNatClampNeg (f_X12_within ((s 95 x2.toNatClampNeg) + (s 79 ((2 : Int32) * (s 60 18)).toNatClampNeg)) (0 : Int32) (9 : Int32))) 60 18)) + (1 : Int32)).toNatClampNeg)) (0 : Int32) (7 : Int32))) 95 ((96 : Int32) + x2).toNatClampNeg (0 : Int32)) l

def p_X12_blows_69 : Nat → Int32 → fl_I → fl_L → Prop
  | 0, _, _, _ => False
  | n + 1, x2, s, l =>
    ((((s 60 54) ≤ x2) → True) ∧ (¬ ((s 60 54) ≤ x2) → (p_X12_doesLie x2 s l) ∧ ((((f_X12_doesLie x2 s l) = 0) → p_X12_blows_69 n (x2 + 1) s l) ∧ (¬ ((f_X12_doesLie x2 s l) = 0) → (vp_in x2 32) ∧ ((((s 98 x2.toNatClampNeg) = 0) → (vp_in ((96 : Int32) + x2) 141) ∧ (p_X12_within ((s 95 ((96 : Int32) + x2).toNatClampNeg) + (1 : Int32)) (0 : Int32) (999 : Int32)) ∧ (vp_in ((96 : Int32) + x2) 141) ∧ p_X12_blows_69 n (x2 + 1) (wi s 95 ((96 : Int32) + x2).toNatClampNeg (f_X12_within ((s 95 ((96 : Int32) + x2).toNatClampNeg) + (1 : Int32)) (0 : Int32) (999 : Int32))) l) ∧ (¬ ((s 98 x2.toNatClampNeg) = 0) → (vp_in x2 141) ∧ (vp_in ((2 : Int32) * (s 60 18)) 4) ∧ (p_X12_within ((s 95 x2.toNatClampNeg) + (s 79 ((2 : Int32) * (s 60 18)).toNatClampNeg)) (0 : Int32) (9 : Int32)) ∧ (vp_in x2 141) ∧ (vp_in ((32 : Int32) + x2) 141) ∧ (vp_in (((2 : Int32) * ((wi s 95 x2.toNatClampNeg (f_X12_within ((s 95 x2.toNatClampNeg) + (s 79 ((2 : Int32) * (s 60 18)).toNatClampNeg)) (0 : Int32) (9 : Int32))) 60 18)) + (1 : Int32)) 4) ∧ (p_X12_within (((wi s 95 x2.toNatClampNeg (f_X12_within ((s 95 x2.toNatClampNeg) + (s 79 ((2 : Int32) * (s 60 18)).toNatClampNeg)) (0 : Int32) (9 : Int32))) 95 ((32 : Int32) + x2).toNatClampNeg) + ((wi s 95 x2.toNatClampNeg (f_X12_within ((s 95 x2.toNatClampNeg) + (s 79 ((2 : Int32) * (s 60 18)).toNatClampNeg)) (0 : Int32) (9 : Int32))) 79 (((2 : Int32) * ((wi s 95 x2.toNatClampNeg (f_X12_within ((s 95 x2.toNatClampNeg) + (s 79 ((2 : Int32) * (s 60 18)).toNatClampNeg)) (0 : Int32) (9 : Int32))) 60 18)) + (1 : Int32)).toNatClampNeg)) (0 : Int32) (7 : Int32)) ∧ (vp_in ((32 : Int32) + x2) 141) ∧ (vp_in ((96 : Int32) + x2) 141) ∧ p_X12_blows_69 n (x2 + 1) (wi (wi (wi s 95 x2.toNatClampNeg (f_X12_within ((s 95 x2.toNatClampNeg) + (s 79 ((2 : Int32) * (s 60 18)).toNatClampNeg)) (0 : Int32) (9 : Int32))) 95 ((32 : Int32) + x2).toNatClampNeg (f_X12_within (((wi s 95 x2.toNatClampNeg (f_X12_within ((s 95 x2.toNatClampNeg) + (s 79 ((2 : Int32) * (s 60 18)).toNatClampNeg)) (0 : Int32) (9 : Int32))) 95 ((32 : Int32) + x2).toNatClampNeg) + ((wi s 95 x2.toNatClampNeg (f_X12_within ((s 95 x2.toNatClampNeg) + (s 79 ((2 : Int32) * (s 60 18)).toNatClampNeg)) (0 : Int32) (9 : Int32))) 79 (((2 : Int32) * ((wi s 95 x2.toNatClampNeg (f_X12_within ((s 95 x2.toNatClampNeg) + (s 79 ((2 : Int32) * (s 60 18)).toNatClampNeg)) (0 : Int32) (9 : Int32))) 60 18)) + (1 : Int32)).toNatClampNeg)) (0 : Int32) (7 : Int32))) 95 ((96 : Int32) + x2).toNatClampNeg (0 : Int32)) l))))))

set_option maxRecDepth 100000 in
set_option maxHeartbeats 4000000 in
theorem lp_X12_blows_69 {G : ab_G} {d : Nat} {D : fl_D} : ∀ (n : Nat) (x2 : Int32) (s : fl_I) (l : fl_L), p_X12_blows_69 n x2 s l → ab_C G (d + 4) 0 0 M_X12_blows 69 [some (.ref 60), none, some (.int x2)] [] (hp D s l) (rt none (hp D (f_X12_blows_69 n x2 s l).1 (f_X12_blows_69 n x2 s l).2)) := by
  intro n
  induction n with
  | zero => intro x2 s l hk; exact hk.elim
  | succ n ih =>
    intro x2 s l hk
    generalize he : f_X12_blows_69 (n + 1) x2 s l = res
    unfold f_X12_blows_69 at he
    unfold p_X12_blows_69 at hk
    refine r_iload_n rfl rfl ?_
    refine r_aload_n rfl rfl ?_
    refine q_getfield rfl (cc_60 _) rfl ?_
    refine r_icmp_ge rfl (fun c_74 => ?_) (fun c_74 => ?_)
    · rw [if_pos c_74] at he
      replace hk := hk.1 c_74
      refine r_ret rfl rfl ?_
      subst he
      exact ⟨rfl, rfl⟩
    · rw [if_neg c_74] at he
      replace hk := hk.2 c_74
      refine r_aload_n rfl rfl ?_
      refine r_iload_n rfl rfl ?_
      obtain ⟨hb0, hk⟩ := hk
      refine q_callV0 [_] _ rfl kY_X12_doesLie kT_X12_doesLie rfl rfl (Nat.le_of_ble_eq_true rfl) (Nat.le_of_ble_eq_true rfl) (cc_60 _) (s_X12_doesLie hb0) (fun r h q => ?_)
      obtain ⟨rfl, rfl⟩ := q
      simp only [Option.toList, List.cons_append, List.nil_append]
      refine r_if_ne rfl (fun c_82 => ?_) (fun c_82 => ?_)
      · rw [if_neg c_82] at he
        replace hk := hk.2 c_82
        refine r_aload_n rfl rfl ?_
        refine q_getfield rfl (cc_60 _) rfl ?_
        refine r_iload_n rfl rfl ?_
        obtain ⟨hb1, hk⟩ := hk
        refine q_zald rfl (cc_98 _) hb1 ?_
        refine r_if_eq rfl (fun c_94 => ?_) (fun c_94 => ?_)
        · rw [if_pos c_94] at he
          replace hk := hk.1 c_94
          refine r_aload_n rfl rfl ?_
          refine q_getfield rfl (cc_60 _) rfl ?_
          refine r_bipush_ (a := 96) rfl (by decide) ?_
          refine r_iload_n rfl rfl ?_
          refine r_iadd rfl ?_
          refine r_aload_n rfl rfl ?_
          refine q_getfield rfl (cc_60 _) rfl ?_
          refine r_bipush_ (a := 96) rfl (by decide) ?_
          refine r_iload_n rfl rfl ?_
          refine r_iadd rfl ?_
          obtain ⟨hb2, hk⟩ := hk
          refine q_iald rfl (cc_95 _) hb2 ?_
          refine r_iconst_ (a := 1) rfl (by decide) ?_
          refine r_iadd rfl ?_
          refine r_iconst_ (a := 0) rfl (by decide) ?_
          refine r_sipush_ (a := 999) rfl (by decide) ?_
          obtain ⟨hb3, hk⟩ := hk
          refine r_callS0 [_, _, _] _ rfl kY_X12_within kT_X12_within rfl rfl (Nat.le_of_ble_eq_true rfl) (Nat.le_of_ble_eq_true rfl) (s_X12_within hb3) (fun r h q => ?_)
          obtain ⟨rfl, rfl⟩ := q
          simp only [Option.toList, List.cons_append, List.nil_append]
          obtain ⟨hb4, hk⟩ := hk
          refine w_iast rfl (cc_95 _) hb4 ?_
          refine r_iinc (b := x2 + 1) rfl rfl rfl (Nat.le_of_ble_eq_true rfl) rfl ?_
          refine r_goto rfl ?_
          subst he
          exact r_weak (L1 := [some (.ref 60), none, some (.int (x2 + 1))]) ⟨rfl, rfl, trivial⟩ (ih _ _ _ hk)
        · rw [if_neg c_94] at he
          replace hk := hk.2 c_94
          refine r_aload_n rfl rfl ?_
          refine q_getfield rfl (cc_60 _) rfl ?_
          refine r_iload_n rfl rfl ?_
          refine r_aload_n rfl rfl ?_
          refine q_getfield rfl (cc_60 _) rfl ?_
          refine r_iload_n rfl rfl ?_
          obtain ⟨hb5, hk⟩ := hk
          refine q_iald rfl (cc_95 _) hb5 ?_
          refine r_aload_n rfl rfl ?_
          refine q_getfield rfl (cc_60 _) rfl ?_
          refine r_iconst_ (a := 2) rfl (by decide) ?_
          refine r_aload_n rfl rfl ?_
          refine q_getfield rfl (cc_60 _) rfl ?_
          refine r_imul rfl ?_
          obtain ⟨hb6, hk⟩ := hk
          refine q_iald rfl (cc_79 _) hb6 ?_
          refine r_iadd rfl ?_
          refine r_iconst_ (a := 0) rfl (by decide) ?_
          refine r_bipush_ (a := 9) rfl (by decide) ?_
          obtain ⟨hb7, hk⟩ := hk
          refine r_callS0 [_, _, _] _ rfl kY_X12_within kT_X12_within rfl rfl (Nat.le_of_ble_eq_true rfl) (Nat.le_of_ble_eq_true rfl) (s_X12_within hb7) (fun r h q => ?_)
          obtain ⟨rfl, rfl⟩ := q
          simp only [Option.toList, List.cons_append, List.nil_append]
          obtain ⟨hb8, hk⟩ := hk
          refine w_iast rfl (cc_95 _) hb8 ?_
          refine r_aload_n rfl rfl ?_
          refine q_getfield rfl (cc_60 _) rfl ?_
          refine r_bipush_ (a := 32) rfl (by decide) ?_
          refine r_iload_n rfl rfl ?_
          refine r_iadd rfl ?_
          refine r_aload_n rfl rfl ?_
          refine q_getfield rfl (cc_60 _) rfl ?_
          refine r_bipush_ (a := 32) rfl (by decide) ?_
          refine r_iload_n rfl rfl ?_
          refine r_iadd rfl ?_
          obtain ⟨hb9, hk⟩ := hk
          refine q_iald rfl (cc_95 _) hb9 ?_
          refine r_aload_n rfl rfl ?_
          refine q_getfield rfl (cc_60 _) rfl ?_
          refine r_iconst_ (a := 2) rfl (by decide) ?_
          refine r_aload_n rfl rfl ?_
          refine q_getfield rfl (cc_60 _) rfl ?_
          refine r_imul rfl ?_
          refine r_iconst_ (a := 1) rfl (by decide) ?_
          refine r_iadd rfl ?_
          obtain ⟨hb10, hk⟩ := hk
          refine q_iald rfl (cc_79 _) hb10 ?_
          refine r_iadd rfl ?_
          refine r_iconst_ (a := 0) rfl (by decide) ?_
          refine r_bipush_ (a := 7) rfl (by decide) ?_
          obtain ⟨hb11, hk⟩ := hk
          refine r_callS0 [_, _, _] _ rfl kY_X12_within kT_X12_within rfl rfl (Nat.le_of_ble_eq_true rfl) (Nat.le_of_ble_eq_true rfl) (s_X12_within hb11) (fun r h q => ?_)
          obtain ⟨rfl, rfl⟩ := q
          simp only [Option.toList, List.cons_append, List.nil_append]
          obtain ⟨hb12, hk⟩ := hk
          refine w_iast rfl (cc_95 _) hb12 ?_
          refine r_aload_n rfl rfl ?_
          refine q_getfield rfl (cc_60 _) rfl ?_
          refine r_bipush_ (a := 96) rfl (by decide) ?_
          refine r_iload_n rfl rfl ?_
          refine r_iadd rfl ?_
          refine r_iconst_ (a := 0) rfl (by decide) ?_
          obtain ⟨hb13, hk⟩ := hk
          refine w_iast rfl (cc_95 _) hb13 ?_
          refine r_goto rfl ?_
          refine r_iinc (b := x2 + 1) rfl rfl rfl (Nat.le_of_ble_eq_true rfl) rfl ?_
          refine r_goto rfl ?_
          subst he
          exact r_weak (L1 := [some (.ref 60), none, some (.int (x2 + 1))]) ⟨rfl, rfl, trivial⟩ (ih _ _ _ hk)
      · rw [if_pos c_82] at he
        replace hk := hk.1 c_82
        refine r_goto rfl ?_
        refine r_iinc (b := x2 + 1) rfl rfl rfl (Nat.le_of_ble_eq_true rfl) rfl ?_
        refine r_goto rfl ?_
        subst he
        exact r_weak (L1 := [some (.ref 60), none, some (.int (x2 + 1))]) ⟨rfl, rfl, trivial⟩ (ih _ _ _ hk)

def f_X12_blows_22 : Nat → Int32 → Int32 → fl_I → fl_L → fl_I × fl_L
  | 0, x1, x2, s, l => (s, l)
  | n + 1, x1, x2, s, l =>
    if ((s 60 54) ≤ x2) then f_X12_blows_69 fu (0 : Int32) s l else if (x1 = 0) then f_X12_blows_22 n x1 (x2 + 1) (wi s 98 x2.toNatClampNeg (vp_nar .boolean (0 : Int32))) l else if ((f_X12_doesLie x2 s l) = 0) then f_X12_blows_22 n x1 (x2 + 1) (wi s 98 x2.toNatClampNeg (vp_nar .boolean (0 : Int32))) l else if ((f_X12_isBlown x2 s l).1 = 0) then f_X12_blows_22 n x1 (x2 + 1) (wi (f_X12_isBlown x2 s l).2.1 98 x2.toNatClampNeg (vp_nar .boolean (0 : Int32))) (f_X12_isBlown x2 s l).2.2 else f_X12_blows_22 n x1 (x2 + 1) (wi (f_X12_isBlown x2 s l).2.1 98 x2.toNatClampNeg (vp_nar .boolean (1 : Int32))) (f_X12_isBlown x2 s l).2.2

def p_X12_blows_22 : Nat → Int32 → Int32 → fl_I → fl_L → Prop
  | 0, _, _, _, _ => False
  | n + 1, x1, x2, s, l =>
    ((((s 60 54) ≤ x2) → p_X12_blows_69 fu (0 : Int32) s l) ∧ (¬ ((s 60 54) ≤ x2) → (((x1 = 0) → (vp_in x2 32) ∧ p_X12_blows_22 n x1 (x2 + 1) (wi s 98 x2.toNatClampNeg (vp_nar .boolean (0 : Int32))) l) ∧ (¬ (x1 = 0) → (p_X12_doesLie x2 s l) ∧ ((((f_X12_doesLie x2 s l) = 0) → (vp_in x2 32) ∧ p_X12_blows_22 n x1 (x2 + 1) (wi s 98 x2.toNatClampNeg (vp_nar .boolean (0 : Int32))) l) ∧ (¬ ((f_X12_doesLie x2 s l) = 0) → (p_X12_isBlown x2 s l) ∧ ((((f_X12_isBlown x2 s l).1 = 0) → (vp_in x2 32) ∧ p_X12_blows_22 n x1 (x2 + 1) (wi (f_X12_isBlown x2 s l).2.1 98 x2.toNatClampNeg (vp_nar .boolean (0 : Int32))) (f_X12_isBlown x2 s l).2.2) ∧ (¬ ((f_X12_isBlown x2 s l).1 = 0) → (vp_in x2 32) ∧ p_X12_blows_22 n x1 (x2 + 1) (wi (f_X12_isBlown x2 s l).2.1 98 x2.toNatClampNeg (vp_nar .boolean (1 : Int32))) (f_X12_isBlown x2 s l).2.2))))))))

set_option maxRecDepth 100000 in
set_option maxHeartbeats 4000000 in
theorem lp_X12_blows_22 {G : ab_G} {d : Nat} {D : fl_D} : ∀ (n : Nat) (x1 : Int32) (x2 : Int32) (s : fl_I) (l : fl_L), p_X12_blows_22 n x1 x2 s l → ab_C G (d + 4) 0 0 M_X12_blows 22 [some (.ref 60), some (.int x1), some (.int x2)] [] (hp D s l) (rt none (hp D (f_X12_blows_22 n x1 x2 s l).1 (f_X12_blows_22 n x1 x2 s l).2)) := by
  intro n
  induction n with
  | zero => intro x1 x2 s l hk; exact hk.elim
  | succ n ih =>
    intro x1 x2 s l hk
    generalize he : f_X12_blows_22 (n + 1) x1 x2 s l = res
    unfold f_X12_blows_22 at he
    unfold p_X12_blows_22 at hk
    refine r_iload_n rfl rfl ?_
    refine r_aload_n rfl rfl ?_
    refine q_getfield rfl (cc_60 _) rfl ?_
    refine r_icmp_ge rfl (fun c_27 => ?_) (fun c_27 => ?_)
    · rw [if_pos c_27] at he
      replace hk := hk.1 c_27
      refine r_iconst_ (a := 0) rfl (by decide) ?_
      refine r_istore_n rfl (Nat.le_of_ble_eq_true rfl) rfl ?_
      subst he
      exact r_weak (L1 := [some (.ref 60), none, some (.int (0 : Int32))]) ⟨rfl, rfl, trivial⟩ (lp_X12_blows_69 fu _ _ _ hk)
    · rw [if_neg c_27] at he
      replace hk := hk.2 c_27
      refine r_aload_n rfl rfl ?_
      refine q_getfield rfl (cc_60 _) rfl ?_
      refine r_iload_n rfl rfl ?_
      refine r_iload_n rfl rfl ?_
      refine r_if_eq rfl (fun c_36 => ?_) (fun c_36 => ?_)
      · rw [if_pos c_36] at he
        replace hk := hk.1 c_36
        refine r_iconst_ (a := 0) rfl (by decide) ?_
        obtain ⟨hb14, hk⟩ := hk
        refine w_zast rfl (cc_98 _) hb14 ?_
        refine r_iinc (b := x2 + 1) rfl rfl rfl (Nat.le_of_ble_eq_true rfl) rfl ?_
        refine r_goto rfl ?_
        subst he
        exact r_weak (L1 := [some (.ref 60), some (.int x1), some (.int (x2 + 1))]) ⟨rfl, rfl, rfl, trivial⟩ (ih _ _ _ _ hk)
      · rw [if_neg c_36] at he
        replace hk := hk.2 c_36
        refine r_aload_n rfl rfl ?_
        refine r_iload_n rfl rfl ?_
        obtain ⟨hb15, hk⟩ := hk
        refine q_callV0 [_] _ rfl kY_X12_doesLie kT_X12_doesLie rfl rfl (Nat.le_of_ble_eq_true rfl) (Nat.le_of_ble_eq_true rfl) (cc_60 _) (s_X12_doesLie hb15) (fun r h q => ?_)
        obtain ⟨rfl, rfl⟩ := q
        simp only [Option.toList, List.cons_append, List.nil_append]
        refine r_if_eq rfl (fun c_44 => ?_) (fun c_44 => ?_)
        · rw [if_pos c_44] at he
          replace hk := hk.1 c_44
          refine r_iconst_ (a := 0) rfl (by decide) ?_
          obtain ⟨hb16, hk⟩ := hk
          refine w_zast rfl (cc_98 _) hb16 ?_
          refine r_iinc (b := x2 + 1) rfl rfl rfl (Nat.le_of_ble_eq_true rfl) rfl ?_
          refine r_goto rfl ?_
          subst he
          exact r_weak (L1 := [some (.ref 60), some (.int x1), some (.int (x2 + 1))]) ⟨rfl, rfl, rfl, trivial⟩ (ih _ _ _ _ hk)
        · rw [if_neg c_44] at he
          replace hk := hk.2 c_44
          refine r_aload_n rfl rfl ?_
          refine r_iload_n rfl rfl ?_
          obtain ⟨hb17, hk⟩ := hk
          refine q_callV0 [_] _ rfl kY_X12_isBlown kT_X12_isBlown rfl rfl (Nat.le_of_ble_eq_true rfl) (Nat.le_of_ble_eq_true rfl) (cc_60 _) (s_X12_isBlown hb17) (fun r h q => ?_)
          obtain ⟨rfl, rfl⟩ := q
          simp only [Option.toList, List.cons_append, List.nil_append]
          refine r_if_eq rfl (fun c_52 => ?_) (fun c_52 => ?_)
          · rw [if_pos c_52] at he
            replace hk := hk.1 c_52
            refine r_iconst_ (a := 0) rfl (by decide) ?_
            obtain ⟨hb18, hk⟩ := hk
            refine w_zast rfl (cc_98 _) hb18 ?_
            refine r_iinc (b := x2 + 1) rfl rfl rfl (Nat.le_of_ble_eq_true rfl) rfl ?_
            refine r_goto rfl ?_
            subst he
            exact r_weak (L1 := [some (.ref 60), some (.int x1), some (.int (x2 + 1))]) ⟨rfl, rfl, rfl, trivial⟩ (ih _ _ _ _ hk)
          · rw [if_neg c_52] at he
            replace hk := hk.2 c_52
            refine r_iconst_ (a := 1) rfl (by decide) ?_
            refine r_goto rfl ?_
            obtain ⟨hb19, hk⟩ := hk
            refine w_zast rfl (cc_98 _) hb19 ?_
            refine r_iinc (b := x2 + 1) rfl rfl rfl (Nat.le_of_ble_eq_true rfl) rfl ?_
            refine r_goto rfl ?_
            subst he
            exact r_weak (L1 := [some (.ref 60), some (.int x1), some (.int (x2 + 1))]) ⟨rfl, rfl, rfl, trivial⟩ (ih _ _ _ _ hk)

def f_X12_blows (s : fl_I) (l : fl_L) : fl_I × fl_L :=
  if ((s 60 53) = 0) then if ((f_X12_isRain s l) = 0) then f_X12_blows_22 fu (1 : Int32) (0 : Int32) s l else f_X12_blows_22 fu (0 : Int32) (0 : Int32) s l else f_X12_blows_22 fu (1 : Int32) (0 : Int32) s l

def p_X12_blows (s : fl_I) (l : fl_L) : Prop :=
  ((((s 60 53) = 0) → (p_X12_isRain s l) ∧ ((((f_X12_isRain s l) = 0) → p_X12_blows_22 fu (1 : Int32) (0 : Int32) s l) ∧ (¬ ((f_X12_isRain s l) = 0) → p_X12_blows_22 fu (0 : Int32) (0 : Int32) s l))) ∧ (¬ ((s 60 53) = 0) → p_X12_blows_22 fu (1 : Int32) (0 : Int32) s l))

set_option maxRecDepth 100000 in
set_option maxHeartbeats 4000000 in
theorem s_X12_blows {G : ab_G} {d : Nat} {D : fl_D} {s : fl_I} {l : fl_L}  (hk : p_X12_blows s l) : ab_C G (d + 4) 0 0 M_X12_blows 0 (ab_ent [.ref 60]) [] (hp D s l) (rt none (hp D (f_X12_blows s l).1 (f_X12_blows s l).2)) := by
  generalize he : (f_X12_blows s l) = res
  unfold f_X12_blows at he
  unfold p_X12_blows at hk
  refine r_weak (L1 := [some (.ref 60), none, none]) ⟨rfl, trivial⟩ ?_
  refine r_aload_n rfl rfl ?_
  refine q_getfield rfl (cc_60 _) rfl ?_
  refine r_if_ne rfl (fun c_4 => ?_) (fun c_4 => ?_)
  · rw [if_neg c_4] at he
    replace hk := hk.2 c_4
    refine r_iconst_ (a := 1) rfl (by decide) ?_
    refine r_goto rfl ?_
    refine r_istore_n rfl (Nat.le_of_ble_eq_true rfl) rfl ?_
    refine r_iconst_ (a := 0) rfl (by decide) ?_
    refine r_istore_n rfl (Nat.le_of_ble_eq_true rfl) rfl ?_
    subst he
    exact r_weak (L1 := [some (.ref 60), some (.int (1 : Int32)), some (.int (0 : Int32))]) ⟨rfl, rfl, rfl, trivial⟩ (lp_X12_blows_22 fu _ _ _ _ hk)
  · rw [if_pos c_4] at he
    replace hk := hk.1 c_4
    refine r_aload_n rfl rfl ?_
    obtain ⟨hb20, hk⟩ := hk
    refine q_callV0 [] _ rfl kY_X12_isRain kT_X12_isRain rfl rfl (Nat.le_of_ble_eq_true rfl) (Nat.le_of_ble_eq_true rfl) (cc_60 _) (s_X12_isRain hb20) (fun r h q => ?_)
    obtain ⟨rfl, rfl⟩ := q
    simp only [Option.toList, List.cons_append, List.nil_append]
    refine r_if_ne rfl (fun c_11 => ?_) (fun c_11 => ?_)
    · rw [if_neg c_11] at he
      replace hk := hk.2 c_11
      refine r_iconst_ (a := 0) rfl (by decide) ?_
      refine r_istore_n rfl (Nat.le_of_ble_eq_true rfl) rfl ?_
      refine r_iconst_ (a := 0) rfl (by decide) ?_
      refine r_istore_n rfl (Nat.le_of_ble_eq_true rfl) rfl ?_
      subst he
      exact r_weak (L1 := [some (.ref 60), some (.int (0 : Int32)), some (.int (0 : Int32))]) ⟨rfl, rfl, rfl, trivial⟩ (lp_X12_blows_22 fu _ _ _ _ hk)
    · rw [if_pos c_11] at he
      replace hk := hk.1 c_11
      refine r_iconst_ (a := 1) rfl (by decide) ?_
      refine r_goto rfl ?_
      refine r_istore_n rfl (Nat.le_of_ble_eq_true rfl) rfl ?_
      refine r_iconst_ (a := 0) rfl (by decide) ?_
      refine r_istore_n rfl (Nat.le_of_ble_eq_true rfl) rfl ?_
      subst he
      exact r_weak (L1 := [some (.ref 60), some (.int (1 : Int32)), some (.int (0 : Int32))]) ⟨rfl, rfl, rfl, trivial⟩ (lp_X12_blows_22 fu _ _ _ _ hk)

def f_X12_read_214 : Nat → Int32 → fl_I → fl_L → Int32 × fl_I × fl_L
  | 0, x1, s, l => (0, s, l)
  | n + 1, x1, s, l =>
    if ((3 : Int32) ≤ x1) then ((0 : Int32), s, l) else f_X12_read_214 n (x1 + 1) (wi s 105 x1.toNatClampNeg (vp_nar .boolean (0 : Int32))) l

def p_X12_read_214 : Nat → Int32 → fl_I → fl_L → Prop
  | 0, _, _, _ => False
  | n + 1, x1, s, l =>
    ((((3 : Int32) ≤ x1) → True) ∧ (¬ ((3 : Int32) ≤ x1) → (vp_in x1 3) ∧ p_X12_read_214 n (x1 + 1) (wi s 105 x1.toNatClampNeg (vp_nar .boolean (0 : Int32))) l))

set_option maxRecDepth 100000 in
set_option maxHeartbeats 4000000 in
theorem lp_X12_read_214 {G : ab_G} {d : Nat} {D : fl_D} : ∀ (n : Nat) (x1 : Int32) (s : fl_I) (l : fl_L), p_X12_read_214 n x1 s l → ab_C G (d + 7) 0 0 M_X12_read 214 [some (.ref 60), some (.int x1)] [] (hp D s l) (rt (some (.int (f_X12_read_214 n x1 s l).1)) (hp D (f_X12_read_214 n x1 s l).2.1 (f_X12_read_214 n x1 s l).2.2)) := by
  intro n
  induction n with
  | zero => intro x1 s l hk; exact hk.elim
  | succ n ih =>
    intro x1 s l hk
    generalize he : f_X12_read_214 (n + 1) x1 s l = res
    unfold f_X12_read_214 at he
    unfold p_X12_read_214 at hk
    refine r_iload_n rfl rfl ?_
    refine r_iconst_ (a := 3) rfl (by decide) ?_
    refine r_icmp_ge rfl (fun c_216 => ?_) (fun c_216 => ?_)
    · rw [if_pos c_216] at he
      replace hk := hk.1 c_216
      refine r_iconst_ (a := 0) rfl (by decide) ?_
      refine r_iret rfl rfl rfl ?_
      subst he
      exact ⟨rfl, rfl⟩
    · rw [if_neg c_216] at he
      replace hk := hk.2 c_216
      refine r_aload_n rfl rfl ?_
      refine q_getfield rfl (cc_60 _) rfl ?_
      refine r_iload_n rfl rfl ?_
      refine r_iconst_ (a := 0) rfl (by decide) ?_
      obtain ⟨hb4, hk⟩ := hk
      refine w_zast rfl (cc_105 _) hb4 ?_
      refine r_iinc (b := x1 + 1) rfl rfl rfl (Nat.le_of_ble_eq_true rfl) rfl ?_
      refine r_goto rfl ?_
      subst he
      exact r_weak (L1 := [some (.ref 60), some (.int (x1 + 1))]) ⟨rfl, rfl, trivial⟩ (ih _ _ _ hk)

def f_X12_read_202 (s : fl_I) (l : fl_L) : Int32 × fl_I × fl_L :=
    f_X12_read_214 fu (0 : Int32) (wi (wi s 60 58 (0 : Int32)) 60 65 (0 : Int32)) l

def p_X12_read_202 (s : fl_I) (l : fl_L) : Prop :=
    p_X12_read_214 fu (0 : Int32) (wi (wi s 60 58 (0 : Int32)) 60 65 (0 : Int32)) l

set_option maxRecDepth 100000 in
set_option maxHeartbeats 4000000 in
theorem lp_X12_read_202 {G : ab_G} {d : Nat} {D : fl_D} : ∀ (s : fl_I) (l : fl_L), p_X12_read_202  s l → ab_C G (d + 7) 0 0 M_X12_read 202 [some (.ref 60), none] [] (hp D s l) (rt (some (.int (f_X12_read_202  s l).1)) (hp D (f_X12_read_202  s l).2.1 (f_X12_read_202  s l).2.2)) := by
  intro  s l hk
  generalize he : f_X12_read_202  s l = res
  unfold f_X12_read_202 at he
  unfold p_X12_read_202 at hk
  refine r_aload_n rfl rfl ?_
  refine r_iconst_ (a := 0) rfl (by decide) ?_
  refine w_put rfl (cc_60 _) ff_12_58 ft_12_58 (Nat.le_of_ble_eq_true rfl) rfl ?_
  refine r_aload_n rfl rfl ?_
  refine r_iconst_ (a := 0) rfl (by decide) ?_
  refine w_put rfl (cc_60 _) ff_12_65 ft_12_65 (Nat.le_of_ble_eq_true rfl) rfl ?_
  refine r_iconst_ (a := 0) rfl (by decide) ?_
  refine r_istore_n rfl (Nat.le_of_ble_eq_true rfl) rfl ?_
  subst he
  exact r_weak (L1 := [some (.ref 60), some (.int (0 : Int32))]) ⟨rfl, rfl, trivial⟩ (lp_X12_read_214 fu _ _ _ hk)

def f_X12_read_198 (s : fl_I) (l : fl_L) : Int32 × fl_I × fl_L :=
    f_X12_read_202  (f_X12_keepsRow s l).1 (f_X12_keepsRow s l).2

def p_X12_read_198 (s : fl_I) (l : fl_L) : Prop :=
    (p_X12_keepsRow s l) ∧ p_X12_read_202  (f_X12_keepsRow s l).1 (f_X12_keepsRow s l).2

set_option maxRecDepth 100000 in
set_option maxHeartbeats 4000000 in
theorem lp_X12_read_198 {G : ab_G} {d : Nat} {D : fl_D} : ∀ (s : fl_I) (l : fl_L), p_X12_read_198  s l → ab_C G (d + 7) 0 0 M_X12_read 198 [some (.ref 60), none] [] (hp D s l) (rt (some (.int (f_X12_read_198  s l).1)) (hp D (f_X12_read_198  s l).2.1 (f_X12_read_198  s l).2.2)) := by
  intro  s l hk
  generalize he : f_X12_read_198  s l = res
  unfold f_X12_read_198 at he
  unfold p_X12_read_198 at hk
  refine r_aload_n rfl rfl ?_
  obtain ⟨hb3, hk⟩ := hk
  refine q_callV0 [] _ rfl kY_X12_keepsRow kT_X12_keepsRow rfl rfl (Nat.le_of_ble_eq_true rfl) (Nat.le_of_ble_eq_true rfl) (cc_60 _) (s_X12_keepsRow hb3) (fun r h q => ?_)
  obtain ⟨rfl, rfl⟩ := q
  simp only [Option.toList, List.cons_append, List.nil_append]
  subst he
  exact r_weak (L1 := [some (.ref 60), none]) ⟨rfl, trivial⟩ (lp_X12_read_202 _ _ hk)

def f_X12_read_129 (s : fl_I) (l : fl_L) : Int32 × fl_I × fl_L :=
    if ((s 60 13) ≤ 0) then if ((s 60 15) ≤ 0) then if (((wi s 60 17 (-1 : Int32)) 60 13) ≤ 0) then if (((wi s 60 17 (-1 : Int32)) 60 15) ≤ 0) then f_X12_read_198  (f_X12_begins (wi (wi s 60 17 (-1 : Int32)) 60 18 ((wi s 60 17 (-1 : Int32)) 60 19)) l).1 (f_X12_begins (wi (wi s 60 17 (-1 : Int32)) 60 18 ((wi s 60 17 (-1 : Int32)) 60 19)) l).2 else (((wi s 60 17 (-1 : Int32)) 60 15), (wi s 60 17 (-1 : Int32)), l) else (((wi s 60 17 (-1 : Int32)) 60 13), (wi s 60 17 (-1 : Int32)), l) else if (((wi s 60 17 (s 60 16)) 60 13) ≤ 0) then if (((wi s 60 17 (s 60 16)) 60 15) ≤ 0) then f_X12_read_198  (f_X12_begins (wi (wi s 60 17 (s 60 16)) 60 18 ((wi s 60 17 (s 60 16)) 60 19)) l).1 (f_X12_begins (wi (wi s 60 17 (s 60 16)) 60 18 ((wi s 60 17 (s 60 16)) 60 19)) l).2 else (((wi s 60 17 (s 60 16)) 60 15), (wi s 60 17 (s 60 16)), l) else (((wi s 60 17 (s 60 16)) 60 13), (wi s 60 17 (s 60 16)), l) else if (((wi s 60 17 (s 60 14)) 60 13) ≤ 0) then if (((wi s 60 17 (s 60 14)) 60 15) ≤ 0) then f_X12_read_198  (f_X12_begins (wi (wi s 60 17 (s 60 14)) 60 18 ((wi s 60 17 (s 60 14)) 60 19)) l).1 (f_X12_begins (wi (wi s 60 17 (s 60 14)) 60 18 ((wi s 60 17 (s 60 14)) 60 19)) l).2 else (((wi s 60 17 (s 60 14)) 60 15), (wi s 60 17 (s 60 14)), l) else (((wi s 60 17 (s 60 14)) 60 13), (wi s 60 17 (s 60 14)), l)

def p_X12_read_129 (s : fl_I) (l : fl_L) : Prop :=
    ((((s 60 13) ≤ 0) → ((((s 60 15) ≤ 0) → (((((wi s 60 17 (-1 : Int32)) 60 13) ≤ 0) → (((((wi s 60 17 (-1 : Int32)) 60 15) ≤ 0) → (p_X12_begins (wi (wi s 60 17 (-1 : Int32)) 60 18 ((wi s 60 17 (-1 : Int32)) 60 19)) l) ∧ p_X12_read_198  (f_X12_begins (wi (wi s 60 17 (-1 : Int32)) 60 18 ((wi s 60 17 (-1 : Int32)) 60 19)) l).1 (f_X12_begins (wi (wi s 60 17 (-1 : Int32)) 60 18 ((wi s 60 17 (-1 : Int32)) 60 19)) l).2) ∧ (¬ (((wi s 60 17 (-1 : Int32)) 60 15) ≤ 0) → True))) ∧ (¬ (((wi s 60 17 (-1 : Int32)) 60 13) ≤ 0) → True))) ∧ (¬ ((s 60 15) ≤ 0) → (((((wi s 60 17 (s 60 16)) 60 13) ≤ 0) → (((((wi s 60 17 (s 60 16)) 60 15) ≤ 0) → (p_X12_begins (wi (wi s 60 17 (s 60 16)) 60 18 ((wi s 60 17 (s 60 16)) 60 19)) l) ∧ p_X12_read_198  (f_X12_begins (wi (wi s 60 17 (s 60 16)) 60 18 ((wi s 60 17 (s 60 16)) 60 19)) l).1 (f_X12_begins (wi (wi s 60 17 (s 60 16)) 60 18 ((wi s 60 17 (s 60 16)) 60 19)) l).2) ∧ (¬ (((wi s 60 17 (s 60 16)) 60 15) ≤ 0) → True))) ∧ (¬ (((wi s 60 17 (s 60 16)) 60 13) ≤ 0) → True))))) ∧ (¬ ((s 60 13) ≤ 0) → (((((wi s 60 17 (s 60 14)) 60 13) ≤ 0) → (((((wi s 60 17 (s 60 14)) 60 15) ≤ 0) → (p_X12_begins (wi (wi s 60 17 (s 60 14)) 60 18 ((wi s 60 17 (s 60 14)) 60 19)) l) ∧ p_X12_read_198  (f_X12_begins (wi (wi s 60 17 (s 60 14)) 60 18 ((wi s 60 17 (s 60 14)) 60 19)) l).1 (f_X12_begins (wi (wi s 60 17 (s 60 14)) 60 18 ((wi s 60 17 (s 60 14)) 60 19)) l).2) ∧ (¬ (((wi s 60 17 (s 60 14)) 60 15) ≤ 0) → True))) ∧ (¬ (((wi s 60 17 (s 60 14)) 60 13) ≤ 0) → True))))

set_option maxRecDepth 100000 in
set_option maxHeartbeats 4000000 in
theorem lp_X12_read_129 {G : ab_G} {d : Nat} {D : fl_D} : ∀ (s : fl_I) (l : fl_L), p_X12_read_129  s l → ab_C G (d + 7) 0 0 M_X12_read 129 [some (.ref 60), none] [] (hp D s l) (rt (some (.int (f_X12_read_129  s l).1)) (hp D (f_X12_read_129  s l).2.1 (f_X12_read_129  s l).2.2)) := by
  intro  s l hk
  generalize he : f_X12_read_129  s l = res
  unfold f_X12_read_129 at he
  unfold p_X12_read_129 at hk
  refine r_aload_n rfl rfl ?_
  refine r_aload_n rfl rfl ?_
  refine q_getfield rfl (cc_60 _) rfl ?_
  refine r_if_le rfl (fun c_134 => ?_) (fun c_134 => ?_)
  · rw [if_pos c_134] at he
    replace hk := hk.1 c_134
    refine r_aload_n rfl rfl ?_
    refine q_getfield rfl (cc_60 _) rfl ?_
    refine r_if_le rfl (fun c_148 => ?_) (fun c_148 => ?_)
    · rw [if_pos c_148] at he
      replace hk := hk.1 c_148
      refine r_iconst_ (a := -1) rfl (by decide) ?_
      refine w_put rfl (cc_60 _) ff_12_17 ft_12_17 (Nat.le_of_ble_eq_true rfl) rfl ?_
      refine r_aload_n rfl rfl ?_
      refine q_getfield rfl (cc_60 _) rfl ?_
      refine r_if_le rfl (fun c_166 => ?_) (fun c_166 => ?_)
      · rw [if_pos c_166] at he
        replace hk := hk.1 c_166
        refine r_aload_n rfl rfl ?_
        refine q_getfield rfl (cc_60 _) rfl ?_
        refine r_if_le rfl (fun c_178 => ?_) (fun c_178 => ?_)
        · rw [if_pos c_178] at he
          replace hk := hk.1 c_178
          refine r_aload_n rfl rfl ?_
          refine r_aload_n rfl rfl ?_
          refine q_getfield rfl (cc_60 _) rfl ?_
          refine w_put rfl (cc_60 _) ff_12_18 ft_12_18 (Nat.le_of_ble_eq_true rfl) rfl ?_
          refine r_aload_n rfl rfl ?_
          obtain ⟨hb2, hk⟩ := hk
          refine q_callV0 [] _ rfl kY_X12_begins kT_X12_begins rfl rfl (Nat.le_of_ble_eq_true rfl) (Nat.le_of_ble_eq_true rfl) (cc_60 _) (s_X12_begins hb2) (fun r h q => ?_)
          obtain ⟨rfl, rfl⟩ := q
          simp only [Option.toList, List.cons_append, List.nil_append]
          subst he
          exact r_weak (L1 := [some (.ref 60), none]) ⟨rfl, trivial⟩ (lp_X12_read_198 _ _ hk)
        · rw [if_neg c_178] at he
          replace hk := hk.2 c_178
          refine r_aload_n rfl rfl ?_
          refine q_getfield rfl (cc_60 _) rfl ?_
          refine r_iret rfl rfl rfl ?_
          subst he
          exact ⟨rfl, rfl⟩
      · rw [if_neg c_166] at he
        replace hk := hk.2 c_166
        refine r_aload_n rfl rfl ?_
        refine q_getfield rfl (cc_60 _) rfl ?_
        refine r_iret rfl rfl rfl ?_
        subst he
        exact ⟨rfl, rfl⟩
    · rw [if_neg c_148] at he
      replace hk := hk.2 c_148
      refine r_aload_n rfl rfl ?_
      refine q_getfield rfl (cc_60 _) rfl ?_
      refine r_goto rfl ?_
      refine w_put rfl (cc_60 _) ff_12_17 ft_12_17 (Nat.le_of_ble_eq_true rfl) rfl ?_
      refine r_aload_n rfl rfl ?_
      refine q_getfield rfl (cc_60 _) rfl ?_
      refine r_if_le rfl (fun c_166 => ?_) (fun c_166 => ?_)
      · rw [if_pos c_166] at he
        replace hk := hk.1 c_166
        refine r_aload_n rfl rfl ?_
        refine q_getfield rfl (cc_60 _) rfl ?_
        refine r_if_le rfl (fun c_178 => ?_) (fun c_178 => ?_)
        · rw [if_pos c_178] at he
          replace hk := hk.1 c_178
          refine r_aload_n rfl rfl ?_
          refine r_aload_n rfl rfl ?_
          refine q_getfield rfl (cc_60 _) rfl ?_
          refine w_put rfl (cc_60 _) ff_12_18 ft_12_18 (Nat.le_of_ble_eq_true rfl) rfl ?_
          refine r_aload_n rfl rfl ?_
          obtain ⟨hb5, hk⟩ := hk
          refine q_callV0 [] _ rfl kY_X12_begins kT_X12_begins rfl rfl (Nat.le_of_ble_eq_true rfl) (Nat.le_of_ble_eq_true rfl) (cc_60 _) (s_X12_begins hb5) (fun r h q => ?_)
          obtain ⟨rfl, rfl⟩ := q
          simp only [Option.toList, List.cons_append, List.nil_append]
          subst he
          exact r_weak (L1 := [some (.ref 60), none]) ⟨rfl, trivial⟩ (lp_X12_read_198 _ _ hk)
        · rw [if_neg c_178] at he
          replace hk := hk.2 c_178
          refine r_aload_n rfl rfl ?_
          refine q_getfield rfl (cc_60 _) rfl ?_
          refine r_iret rfl rfl rfl ?_
          subst he
          exact ⟨rfl, rfl⟩
      · rw [if_neg c_166] at he
        replace hk := hk.2 c_166
        refine r_aload_n rfl rfl ?_
        refine q_getfield rfl (cc_60 _) rfl ?_
        refine r_iret rfl rfl rfl ?_
        subst he
        exact ⟨rfl, rfl⟩
  · rw [if_neg c_134] at he
    replace hk := hk.2 c_134
    refine r_aload_n rfl rfl ?_
    refine q_getfield rfl (cc_60 _) rfl ?_
    refine r_goto rfl ?_
    refine w_put rfl (cc_60 _) ff_12_17 ft_12_17 (Nat.le_of_ble_eq_true rfl) rfl ?_
    refine r_aload_n rfl rfl ?_
    refine q_getfield rfl (cc_60 _) rfl ?_
    refine r_if_le rfl (fun c_166 => ?_) (fun c_166 => ?_)
    · rw [if_pos c_166] at he
      replace hk := hk.1 c_166
      refine r_aload_n rfl rfl ?_
      refine q_getfield rfl (cc_60 _) rfl ?_
      refine r_if_le rfl (fun c_178 => ?_) (fun c_178 => ?_)
      · rw [if_pos c_178] at he
        replace hk := hk.1 c_178
        refine r_aload_n rfl rfl ?_
        refine r_aload_n rfl rfl ?_
        refine q_getfield rfl (cc_60 _) rfl ?_
        refine w_put rfl (cc_60 _) ff_12_18 ft_12_18 (Nat.le_of_ble_eq_true rfl) rfl ?_
        refine r_aload_n rfl rfl ?_
        obtain ⟨hb6, hk⟩ := hk
        refine q_callV0 [] _ rfl kY_X12_begins kT_X12_begins rfl rfl (Nat.le_of_ble_eq_true rfl) (Nat.le_of_ble_eq_true rfl) (cc_60 _) (s_X12_begins hb6) (fun r h q => ?_)
        obtain ⟨rfl, rfl⟩ := q
        simp only [Option.toList, List.cons_append, List.nil_append]
        subst he
        exact r_weak (L1 := [some (.ref 60), none]) ⟨rfl, trivial⟩ (lp_X12_read_198 _ _ hk)
      · rw [if_neg c_178] at he
        replace hk := hk.2 c_178
        refine r_aload_n rfl rfl ?_
        refine q_getfield rfl (cc_60 _) rfl ?_
        refine r_iret rfl rfl rfl ?_
        subst he
        exact ⟨rfl, rfl⟩
    · rw [if_neg c_166] at he
      replace hk := hk.2 c_166
      refine r_aload_n rfl rfl ?_
      refine q_getfield rfl (cc_60 _) rfl ?_
      refine r_iret rfl rfl rfl ?_
      subst he
      exact ⟨rfl, rfl⟩

def f_X12_read_126 (K107 : fl_I → fl_L → Int32 × fl_I × fl_L) (s : fl_I) (l : fl_L) : Int32 × fl_I × fl_L :=
    K107  s l

def p_X12_read_126 (P107 : fl_I → fl_L → Prop) (s : fl_I) (l : fl_L) : Prop :=
    P107  s l

set_option maxRecDepth 100000 in
set_option maxHeartbeats 4000000 in
theorem lp_X12_read_126 {G : ab_G} {d : Nat} {D : fl_D} (K107 : fl_I → fl_L → Int32 × fl_I × fl_L) (P107 : fl_I → fl_L → Prop) (hK107 : ∀  (s : fl_I) (l : fl_L), P107  s l → ab_C G (d + 7) 0 0 M_X12_read 107 [some (.ref 60), none] [] (hp D s l) (rt (some (.int (K107  s l).1)) (hp D (K107  s l).2.1 (K107  s l).2.2))) : ∀ (s : fl_I) (l : fl_L), p_X12_read_126 P107  s l → ab_C G (d + 7) 0 0 M_X12_read 126 [some (.ref 60), none] [] (hp D s l) (rt (some (.int (f_X12_read_126 K107  s l).1)) (hp D (f_X12_read_126 K107  s l).2.1 (f_X12_read_126 K107  s l).2.2)) := by
  intro  s l hk
  generalize he : f_X12_read_126 K107  s l = res
  unfold f_X12_read_126 at he
  unfold p_X12_read_126 at hk
  refine r_goto rfl ?_
  subst he
  exact r_weak (L1 := [some (.ref 60), none]) ⟨rfl, trivial⟩ (hK107 _ _ hk)

def f_X12_read_107 : Nat → fl_I → fl_L → Int32 × fl_I × fl_L
  | 0, s, l => (0, s, l)
  | n + 1, s, l =>
    if ((s 60 13) = 0) then if ((f_X12_is (0 : Int32) s l) = 0) then f_X12_read_126 (fun  s l => f_X12_read_107 n  s l)  (f_X12_tellOne s l).1 (f_X12_tellOne s l).2 else f_X12_read_129  s l else f_X12_read_129  s l

def p_X12_read_107 : Nat → fl_I → fl_L → Prop
  | 0, _, _ => False
  | n + 1, s, l =>
    ((((s 60 13) = 0) → (p_X12_is (0 : Int32) s l) ∧ ((((f_X12_is (0 : Int32) s l) = 0) → (p_X12_tellOne s l) ∧ p_X12_read_126 (fun  s l => p_X12_read_107 n  s l)  (f_X12_tellOne s l).1 (f_X12_tellOne s l).2) ∧ (¬ ((f_X12_is (0 : Int32) s l) = 0) → p_X12_read_129  s l))) ∧ (¬ ((s 60 13) = 0) → p_X12_read_129  s l))

set_option maxRecDepth 100000 in
set_option maxHeartbeats 4000000 in
theorem lp_X12_read_107 {G : ab_G} {d : Nat} {D : fl_D} : ∀ (n : Nat) (s : fl_I) (l : fl_L), p_X12_read_107 n  s l → ab_C G (d + 7) 0 0 M_X12_read 107 [some (.ref 60), none] [] (hp D s l) (rt (some (.int (f_X12_read_107 n  s l).1)) (hp D (f_X12_read_107 n  s l).2.1 (f_X12_read_107 n  s l).2.2)) := by
  intro n
  induction n with
  | zero => intro  s l hk; exact hk.elim
  | succ n ih =>
    intro  s l hk
    generalize he : f_X12_read_107 (n + 1)  s l = res
    unfold f_X12_read_107 at he
    unfold p_X12_read_107 at hk
    refine r_aload_n rfl rfl ?_
    refine q_getfield rfl (cc_60 _) rfl ?_
    refine r_if_ne rfl (fun c_111 => ?_) (fun c_111 => ?_)
    · rw [if_neg c_111] at he
      replace hk := hk.2 c_111
      subst he
      exact r_weak (L1 := [some (.ref 60), none]) ⟨rfl, trivial⟩ (lp_X12_read_129 _ _ hk)
    · rw [if_pos c_111] at he
      replace hk := hk.1 c_111
      refine r_aload_n rfl rfl ?_
      refine r_iconst_ (a := 0) rfl (by decide) ?_
      obtain ⟨hb7, hk⟩ := hk
      refine q_callV0 [_] _ rfl kY_X12_is kT_X12_is rfl rfl (Nat.le_of_ble_eq_true rfl) (Nat.le_of_ble_eq_true rfl) (cc_60 _) (s_X12_is hb7) (fun r h q => ?_)
      obtain ⟨rfl, rfl⟩ := q
      simp only [Option.toList, List.cons_append, List.nil_append]
      refine r_if_ne rfl (fun c_119 => ?_) (fun c_119 => ?_)
      · rw [if_neg c_119] at he
        replace hk := hk.2 c_119
        subst he
        exact r_weak (L1 := [some (.ref 60), none]) ⟨rfl, trivial⟩ (lp_X12_read_129 _ _ hk)
      · rw [if_pos c_119] at he
        replace hk := hk.1 c_119
        refine r_aload_n rfl rfl ?_
        obtain ⟨hb8, hk⟩ := hk
        refine q_callV0 [] _ rfl kY_X12_tellOne kT_X12_tellOne rfl rfl (Nat.le_of_ble_eq_true rfl) (Nat.le_of_ble_eq_true rfl) (cc_60 _) (s_X12_tellOne hb8) (fun r h q => ?_)
        obtain ⟨rfl, rfl⟩ := q
        simp only [Option.toList, List.cons_append, List.nil_append]
        subst he
        exact r_weak (L1 := [some (.ref 60), none]) ⟨rfl, trivial⟩ (lp_X12_read_126 _ _ (fun _ _ h9 => ih _ _ h9) _ _ hk)

def f_X12_read_83 (s : fl_I) (l : fl_L) : Int32 × fl_I × fl_L :=
    f_X12_read_107 fu  (wi (wi s 60 36 ((130 : Int32) * (s 60 19))) 60 42 ((420 : Int32) * ((wi s 60 36 ((130 : Int32) * (s 60 19))) 60 19))) l

def p_X12_read_83 (s : fl_I) (l : fl_L) : Prop :=
    p_X12_read_107 fu  (wi (wi s 60 36 ((130 : Int32) * (s 60 19))) 60 42 ((420 : Int32) * ((wi s 60 36 ((130 : Int32) * (s 60 19))) 60 19))) l

set_option maxRecDepth 100000 in
set_option maxHeartbeats 4000000 in
theorem lp_X12_read_83 {G : ab_G} {d : Nat} {D : fl_D} : ∀ (s : fl_I) (l : fl_L), p_X12_read_83  s l → ab_C G (d + 7) 0 0 M_X12_read 83 [some (.ref 60), none] [] (hp D s l) (rt (some (.int (f_X12_read_83  s l).1)) (hp D (f_X12_read_83  s l).2.1 (f_X12_read_83  s l).2.2)) := by
  intro  s l hk
  generalize he : f_X12_read_83  s l = res
  unfold f_X12_read_83 at he
  unfold p_X12_read_83 at hk
  refine r_aload_n rfl rfl ?_
  refine r_sipush_ (a := 130) rfl (by decide) ?_
  refine r_aload_n rfl rfl ?_
  refine q_getfield rfl (cc_60 _) rfl ?_
  refine r_imul rfl ?_
  refine w_put rfl (cc_60 _) ff_12_36 ft_12_36 (Nat.le_of_ble_eq_true rfl) rfl ?_
  refine r_aload_n rfl rfl ?_
  refine r_sipush_ (a := 420) rfl (by decide) ?_
  refine r_aload_n rfl rfl ?_
  refine q_getfield rfl (cc_60 _) rfl ?_
  refine r_imul rfl ?_
  refine w_put rfl (cc_60 _) ff_12_42 ft_12_42 (Nat.le_of_ble_eq_true rfl) rfl ?_
  subst he
  exact r_weak (L1 := [some (.ref 60), none]) ⟨rfl, trivial⟩ (lp_X12_read_107 fu _ _ hk)

def f_X12_read_45 (s : fl_I) (l : fl_L) : Int32 × fl_I × fl_L :=
    f_X12_read_83  (f_X12_plain ((wi (wi (wi (wi (wi s 60 11 (0 : Int32)) 60 12 (0 : Int32)) 60 13 (0 : Int32)) 60 15 (0 : Int32)) 60 19 ((1 : Int32) - ((wi (wi (wi (wi s 60 11 (0 : Int32)) 60 12 (0 : Int32)) 60 13 (0 : Int32)) 60 15 (0 : Int32)) 60 18))) 60 19) (wi (wi (wi (wi (wi s 60 11 (0 : Int32)) 60 12 (0 : Int32)) 60 13 (0 : Int32)) 60 15 (0 : Int32)) 60 19 ((1 : Int32) - ((wi (wi (wi (wi s 60 11 (0 : Int32)) 60 12 (0 : Int32)) 60 13 (0 : Int32)) 60 15 (0 : Int32)) 60 18))) l).1 (f_X12_plain ((wi (wi (wi (wi (wi s 60 11 (0 : Int32)) 60 12 (0 : Int32)) 60 13 (0 : Int32)) 60 15 (0 : Int32)) 60 19 ((1 : Int32) - ((wi (wi (wi (wi s 60 11 (0 : Int32)) 60 12 (0 : Int32)) 60 13 (0 : Int32)) 60 15 (0 : Int32)) 60 18))) 60 19) (wi (wi (wi (wi (wi s 60 11 (0 : Int32)) 60 12 (0 : Int32)) 60 13 (0 : Int32)) 60 15 (0 : Int32)) 60 19 ((1 : Int32) - ((wi (wi (wi (wi s 60 11 (0 : Int32)) 60 12 (0 : Int32)) 60 13 (0 : Int32)) 60 15 (0 : Int32)) 60 18))) l).2

def p_X12_read_45 (s : fl_I) (l : fl_L) : Prop :=
    (p_X12_plain ((wi (wi (wi (wi (wi s 60 11 (0 : Int32)) 60 12 (0 : Int32)) 60 13 (0 : Int32)) 60 15 (0 : Int32)) 60 19 ((1 : Int32) - ((wi (wi (wi (wi s 60 11 (0 : Int32)) 60 12 (0 : Int32)) 60 13 (0 : Int32)) 60 15 (0 : Int32)) 60 18))) 60 19) (wi (wi (wi (wi (wi s 60 11 (0 : Int32)) 60 12 (0 : Int32)) 60 13 (0 : Int32)) 60 15 (0 : Int32)) 60 19 ((1 : Int32) - ((wi (wi (wi (wi s 60 11 (0 : Int32)) 60 12 (0 : Int32)) 60 13 (0 : Int32)) 60 15 (0 : Int32)) 60 18))) l) ∧ p_X12_read_83  (f_X12_plain ((wi (wi (wi (wi (wi s 60 11 (0 : Int32)) 60 12 (0 : Int32)) 60 13 (0 : Int32)) 60 15 (0 : Int32)) 60 19 ((1 : Int32) - ((wi (wi (wi (wi s 60 11 (0 : Int32)) 60 12 (0 : Int32)) 60 13 (0 : Int32)) 60 15 (0 : Int32)) 60 18))) 60 19) (wi (wi (wi (wi (wi s 60 11 (0 : Int32)) 60 12 (0 : Int32)) 60 13 (0 : Int32)) 60 15 (0 : Int32)) 60 19 ((1 : Int32) - ((wi (wi (wi (wi s 60 11 (0 : Int32)) 60 12 (0 : Int32)) 60 13 (0 : Int32)) 60 15 (0 : Int32)) 60 18))) l).1 (f_X12_plain ((wi (wi (wi (wi (wi s 60 11 (0 : Int32)) 60 12 (0 : Int32)) 60 13 (0 : Int32)) 60 15 (0 : Int32)) 60 19 ((1 : Int32) - ((wi (wi (wi (wi s 60 11 (0 : Int32)) 60 12 (0 : Int32)) 60 13 (0 : Int32)) 60 15 (0 : Int32)) 60 18))) 60 19) (wi (wi (wi (wi (wi s 60 11 (0 : Int32)) 60 12 (0 : Int32)) 60 13 (0 : Int32)) 60 15 (0 : Int32)) 60 19 ((1 : Int32) - ((wi (wi (wi (wi s 60 11 (0 : Int32)) 60 12 (0 : Int32)) 60 13 (0 : Int32)) 60 15 (0 : Int32)) 60 18))) l).2

set_option maxRecDepth 100000 in
set_option maxHeartbeats 4000000 in
theorem lp_X12_read_45 {G : ab_G} {d : Nat} {D : fl_D} : ∀ (s : fl_I) (l : fl_L), p_X12_read_45  s l → ab_C G (d + 7) 0 0 M_X12_read 45 [some (.ref 60), none] [] (hp D s l) (rt (some (.int (f_X12_read_45  s l).1)) (hp D (f_X12_read_45  s l).2.1 (f_X12_read_45  s l).2.2)) := by
  intro  s l hk
  generalize he : f_X12_read_45  s l = res
  unfold f_X12_read_45 at he
  unfold p_X12_read_45 at hk
  refine r_aload_n rfl rfl ?_
  refine r_iconst_ (a := 0) rfl (by decide) ?_
  refine w_put rfl (cc_60 _) ff_12_11 ft_12_11 (Nat.le_of_ble_eq_true rfl) rfl ?_
  refine r_aload_n rfl rfl ?_
  refine r_iconst_ (a := 0) rfl (by decide) ?_
  refine w_put rfl (cc_60 _) ff_12_12 ft_12_12 (Nat.le_of_ble_eq_true rfl) rfl ?_
  refine r_aload_n rfl rfl ?_
  refine r_iconst_ (a := 0) rfl (by decide) ?_
  refine w_put rfl (cc_60 _) ff_12_13 ft_12_13 (Nat.le_of_ble_eq_true rfl) rfl ?_
  refine r_aload_n rfl rfl ?_
  refine r_iconst_ (a := 0) rfl (by decide) ?_
  refine w_put rfl (cc_60 _) ff_12_15 ft_12_15 (Nat.le_of_ble_eq_true rfl) rfl ?_
  refine r_aload_n rfl rfl ?_
  refine r_iconst_ (a := 1) rfl (by decide) ?_
  refine r_aload_n rfl rfl ?_
  refine q_getfield rfl (cc_60 _) rfl ?_
  refine r_isub rfl ?_
  refine w_put rfl (cc_60 _) ff_12_19 ft_12_19 (Nat.le_of_ble_eq_true rfl) rfl ?_
  refine r_aload_n rfl rfl ?_
  refine r_aload_n rfl rfl ?_
  refine q_getfield rfl (cc_60 _) rfl ?_
  obtain ⟨hb1, hk⟩ := hk
  refine q_callV0 [_] _ rfl kY_X12_plain kT_X12_plain rfl rfl (Nat.le_of_ble_eq_true rfl) (Nat.le_of_ble_eq_true rfl) (cc_60 _) (s_X12_plain hb1) (fun r h q => ?_)
  obtain ⟨rfl, rfl⟩ := q
  simp only [Option.toList, List.cons_append, List.nil_append]
  subst he
  exact r_weak (L1 := [some (.ref 60), none]) ⟨rfl, trivial⟩ (lp_X12_read_83 _ _ hk)

def f_X12_read_10 : Nat → Int32 → fl_I → fl_L → Int32 × fl_I × fl_L
  | 0, x1, s, l => (0, s, l)
  | n + 1, x1, s, l =>
    if ((s 60 4) ≤ x1) then f_X12_read_45  (f_X12_cut (wi s 60 2 (0 : Int32)) l).1 (f_X12_cut (wi s 60 2 (0 : Int32)) l).2 else f_X12_read_10 n (x1 + 1) (wi s 62 x1.toNatClampNeg (vp_nar .byte (s 61 x1.toNatClampNeg))) l

def p_X12_read_10 : Nat → Int32 → fl_I → fl_L → Prop
  | 0, _, _, _ => False
  | n + 1, x1, s, l =>
    ((((s 60 4) ≤ x1) → (p_X12_cut (wi s 60 2 (0 : Int32)) l) ∧ p_X12_read_45  (f_X12_cut (wi s 60 2 (0 : Int32)) l).1 (f_X12_cut (wi s 60 2 (0 : Int32)) l).2) ∧ (¬ ((s 60 4) ≤ x1) → (vp_in x1 2000) ∧ (vp_in x1 2000) ∧ p_X12_read_10 n (x1 + 1) (wi s 62 x1.toNatClampNeg (vp_nar .byte (s 61 x1.toNatClampNeg))) l))

set_option maxRecDepth 100000 in
set_option maxHeartbeats 4000000 in
theorem lp_X12_read_10 {G : ab_G} {d : Nat} {D : fl_D} : ∀ (n : Nat) (x1 : Int32) (s : fl_I) (l : fl_L), p_X12_read_10 n x1 s l → ab_C G (d + 7) 0 0 M_X12_read 10 [some (.ref 60), some (.int x1)] [] (hp D s l) (rt (some (.int (f_X12_read_10 n x1 s l).1)) (hp D (f_X12_read_10 n x1 s l).2.1 (f_X12_read_10 n x1 s l).2.2)) := by
  intro n
  induction n with
  | zero => intro x1 s l hk; exact hk.elim
  | succ n ih =>
    intro x1 s l hk
    generalize he : f_X12_read_10 (n + 1) x1 s l = res
    unfold f_X12_read_10 at he
    unfold p_X12_read_10 at hk
    refine r_iload_n rfl rfl ?_
    refine r_aload_n rfl rfl ?_
    refine q_getfield rfl (cc_60 _) rfl ?_
    refine r_icmp_ge rfl (fun c_15 => ?_) (fun c_15 => ?_)
    · rw [if_pos c_15] at he
      replace hk := hk.1 c_15
      refine r_aload_n rfl rfl ?_
      refine r_iconst_ (a := 0) rfl (by decide) ?_
      refine w_put rfl (cc_60 _) ff_12_2 ft_12_2 (Nat.le_of_ble_eq_true rfl) rfl ?_
      refine r_aload_n rfl rfl ?_
      obtain ⟨hb0, hk⟩ := hk
      refine q_callV0 [] _ rfl kY_X12_cut kT_X12_cut rfl rfl (Nat.le_of_ble_eq_true rfl) (Nat.le_of_ble_eq_true rfl) (cc_60 _) (s_X12_cut hb0) (fun r h q => ?_)
      obtain ⟨rfl, rfl⟩ := q
      simp only [Option.toList, List.cons_append, List.nil_append]
      subst he
      exact r_weak (L1 := [some (.ref 60), none]) ⟨rfl, trivial⟩ (lp_X12_read_45 _ _ hk)
    · rw [if_neg c_15] at he
      replace hk := hk.2 c_15
      refine r_aload_n rfl rfl ?_
      refine q_getfield rfl (cc_60 _) rfl ?_
      refine r_iload_n rfl rfl ?_
      refine r_aload_n rfl rfl ?_
      refine q_getfield rfl (cc_60 _) rfl ?_
      refine r_iload_n rfl rfl ?_
      obtain ⟨hb9, hk⟩ := hk
      refine q_bald rfl (cc_61 _) hb9 ?_
      obtain ⟨hb10, hk⟩ := hk
      refine w_bast rfl (cc_62 _) hb10 ?_
      refine r_iinc (b := x1 + 1) rfl rfl rfl (Nat.le_of_ble_eq_true rfl) rfl ?_
      refine r_goto rfl ?_
      subst he
      exact r_weak (L1 := [some (.ref 60), some (.int (x1 + 1))]) ⟨rfl, rfl, trivial⟩ (ih _ _ _ hk)

def f_X12_read (s : fl_I) (l : fl_L) : Int32 × fl_I × fl_L :=
  f_X12_read_10 fu (0 : Int32) (wi s 60 4 (s 60 2)) l

def p_X12_read (s : fl_I) (l : fl_L) : Prop :=
  p_X12_read_10 fu (0 : Int32) (wi s 60 4 (s 60 2)) l

set_option maxRecDepth 100000 in
set_option maxHeartbeats 4000000 in
theorem s_X12_read {G : ab_G} {d : Nat} {D : fl_D} {s : fl_I} {l : fl_L}  (hk : p_X12_read s l) : ab_C G (d + 7) 0 0 M_X12_read 0 (ab_ent [.ref 60]) [] (hp D s l) (rt (some (.int (f_X12_read s l).1)) (hp D (f_X12_read s l).2.1 (f_X12_read s l).2.2)) := by
  generalize he : (f_X12_read s l) = res
  unfold f_X12_read at he
  unfold p_X12_read at hk
  refine r_weak (L1 := [some (.ref 60), none]) ⟨rfl, trivial⟩ ?_
  refine r_aload_n rfl rfl ?_
  refine r_aload_n rfl rfl ?_
  refine q_getfield rfl (cc_60 _) rfl ?_
  refine w_put rfl (cc_60 _) ff_12_4 ft_12_4 (Nat.le_of_ble_eq_true rfl) rfl ?_
  refine r_iconst_ (a := 0) rfl (by decide) ?_
  refine r_istore_n rfl (Nat.le_of_ble_eq_true rfl) rfl ?_
  subst he
  exact r_weak (L1 := [some (.ref 60), some (.int (0 : Int32))]) ⟨rfl, rfl, trivial⟩ (lp_X12_read_10 fu _ _ _ hk)

def f_X11_made (v0 : Int32) (D : fl_D) (s : fl_I) (l : fl_L) : Int32 × fl_I × fl_L :=
  if ((f_X11_isHeap v0 s l) = 0) then ((-1 : Int32), s, l) else ((f_X0_makes (if D.2.2.1 then 20 else 9) (f_X0_gather v0 (if D.2.2.1 then 20 else 9) 31 s l).1 (f_X0_gather v0 (if D.2.2.1 then 20 else 9) 31 s l).2).1, (f_X0_makes (if D.2.2.1 then 20 else 9) (f_X0_gather v0 (if D.2.2.1 then 20 else 9) 31 s l).1 (f_X0_gather v0 (if D.2.2.1 then 20 else 9) 31 s l).2).2.1, (f_X0_makes (if D.2.2.1 then 20 else 9) (f_X0_gather v0 (if D.2.2.1 then 20 else 9) 31 s l).1 (f_X0_gather v0 (if D.2.2.1 then 20 else 9) 31 s l).2).2.2)

def p_X11_made (v0 : Int32) (D : fl_D) (s : fl_I) (l : fl_L) : Prop :=
  (p_X11_isHeap v0 s l) ∧ ((((f_X11_isHeap v0 s l) = 0) → True) ∧ (¬ ((f_X11_isHeap v0 s l) = 0) → (p_X0_gather v0 (if D.2.2.1 then 20 else 9) 31 s l) ∧ (p_X0_makes (if D.2.2.1 then 20 else 9) (f_X0_gather v0 (if D.2.2.1 then 20 else 9) 31 s l).1 (f_X0_gather v0 (if D.2.2.1 then 20 else 9) 31 s l).2) ∧ True))

set_option maxRecDepth 100000 in
set_option maxHeartbeats 4000000 in
theorem s_X11_made {G : ab_G} {d : Nat} {D : fl_D} {s : fl_I} {l : fl_L} {v0 : Int32} (hk : p_X11_made v0 D s l) : ab_C G (d + 5) 0 0 M_X11_made 0 (ab_ent [.ref 0, .int v0]) [] (hp D s l) (rt (some (.int (f_X11_made v0 D s l).1)) (hp D (f_X11_made v0 D s l).2.1 (f_X11_made v0 D s l).2.2)) := by
  generalize he : (f_X11_made v0 D s l) = res
  unfold f_X11_made at he
  unfold p_X11_made at hk
  refine r_weak (L1 := [some (.ref 0), some (.int v0)]) ⟨rfl, rfl, trivial⟩ ?_
  refine r_aload_n rfl rfl ?_
  refine r_iload_n rfl rfl ?_
  obtain ⟨hb0, hk⟩ := hk
  refine q_callV0 [_] _ rfl kY_X11_isHeap kT_X11_isHeap rfl rfl (Nat.le_of_ble_eq_true rfl) (Nat.le_of_ble_eq_true rfl) (cc_0 _) (s_X11_isHeap hb0) (fun r h q => ?_)
  obtain ⟨rfl, rfl⟩ := q
  simp only [Option.toList, List.cons_append, List.nil_append]
  refine r_if_ne rfl (fun c_5 => ?_) (fun c_5 => ?_)
  · rw [if_neg c_5] at he
    replace hk := hk.2 c_5
    refine r_aload_n rfl rfl ?_
    refine q_getfield rfl (cc_0 _) rfl ?_
    refine r_aload_n rfl rfl ?_
    refine q_getfield rfl (cc_0 _) rfl ?_
    refine r_aload_n rfl rfl ?_
    refine q_getfield rfl (cc_0 _) rfl ?_
    refine r_iload_n rfl rfl ?_
    obtain ⟨hb1, hk⟩ := hk
    refine q_callV0 [_, _, _] _ rfl kY_X0_gather kT_X0_gather rfl rfl (Nat.le_of_ble_eq_true rfl) (Nat.le_of_ble_eq_true rfl) (cc_55 _) (s_X0_gather (isT_l _) (Or.inl rfl) hb1) (fun r h q => ?_)
    obtain ⟨rfl, rfl⟩ := q
    simp only [Option.toList, List.cons_append, List.nil_append]
    refine r_aload_n rfl rfl ?_
    refine q_getfield rfl (cc_0 _) rfl ?_
    refine r_aload_n rfl rfl ?_
    refine q_getfield rfl (cc_0 _) rfl ?_
    obtain ⟨hb2, hk⟩ := hk
    refine q_callV0 [_] _ rfl kY_X0_makes kT_X0_makes rfl rfl (Nat.le_of_ble_eq_true rfl) (Nat.le_of_ble_eq_true rfl) (cc_55 _) (s_X0_makes (isT_l _) hb2) (fun r h q => ?_)
    obtain ⟨rfl, rfl⟩ := q
    simp only [Option.toList, List.cons_append, List.nil_append]
    refine r_iret rfl rfl rfl ?_
    subst he
    exact ⟨rfl, rfl⟩
  · rw [if_pos c_5] at he
    replace hk := hk.1 c_5
    refine r_iconst_ (a := -1) rfl (by decide) ?_
    refine r_iret rfl rfl rfl ?_
    subst he
    exact ⟨rfl, rfl⟩

def f_X11_ask (v0 : Int32) (D : fl_D) (s : fl_I) (l : fl_L) : Int32 :=
  if (v0 < 0) then (-1 : Int32) else if (v0 ≤ (s 57 0)) then (f_X7_bestQuestion (f_X7_left v0 (if D.2.2.1 then 20 else 9) s l) (if D.2.2.1 then 20 else 9) s l) else (-1 : Int32)

def p_X11_ask (v0 : Int32) (D : fl_D) (s : fl_I) (l : fl_L) : Prop :=
  (((v0 < 0) → True) ∧ (¬ (v0 < 0) → (((v0 ≤ (s 57 0)) → (p_X7_left v0 (if D.2.2.1 then 20 else 9) s l) ∧ (p_X7_bestQuestion (f_X7_left v0 (if D.2.2.1 then 20 else 9) s l) (if D.2.2.1 then 20 else 9) s l) ∧ True) ∧ (¬ (v0 ≤ (s 57 0)) → True))))

set_option maxRecDepth 100000 in
set_option maxHeartbeats 4000000 in
theorem s_X11_ask {G : ab_G} {d : Nat} {D : fl_D} {s : fl_I} {l : fl_L} {v0 : Int32} (hk : p_X11_ask v0 D s l) : ab_C G (d + 4) 0 0 M_X11_ask 0 (ab_ent [.ref 0, .int v0]) [] (hp D s l) (rt (some (.int (f_X11_ask v0 D s l))) (hp D s l)) := by
  generalize he : (f_X11_ask v0 D s l) = res
  unfold f_X11_ask at he
  unfold p_X11_ask at hk
  refine r_weak (L1 := [some (.ref 0), some (.int v0)]) ⟨rfl, rfl, trivial⟩ ?_
  refine r_iload_n rfl rfl ?_
  refine r_if_lt rfl (fun c_1 => ?_) (fun c_1 => ?_)
  · rw [if_pos c_1] at he
    replace hk := hk.1 c_1
    refine r_iconst_ (a := -1) rfl (by decide) ?_
    refine r_iret rfl rfl rfl ?_
    subst he
    exact ⟨rfl, rfl⟩
  · rw [if_neg c_1] at he
    replace hk := hk.2 c_1
    refine r_iload_n rfl rfl ?_
    refine r_aload_n rfl rfl ?_
    refine q_getfield rfl (cc_0 _) rfl ?_
    refine q_getfield rfl (cc_57 _) rfl ?_
    refine r_icmp_le rfl (fun c_12 => ?_) (fun c_12 => ?_)
    · rw [if_pos c_12] at he
      replace hk := hk.1 c_12
      refine r_aload_n rfl rfl ?_
      refine q_getfield rfl (cc_0 _) rfl ?_
      refine r_aload_n rfl rfl ?_
      refine q_getfield rfl (cc_0 _) rfl ?_
      refine r_aload_n rfl rfl ?_
      refine q_getfield rfl (cc_0 _) rfl ?_
      refine r_aload_n rfl rfl ?_
      refine q_getfield rfl (cc_0 _) rfl ?_
      refine r_iload_n rfl rfl ?_
      obtain ⟨hb0, hk⟩ := hk
      refine q_callV0 [_, _] _ rfl kY_X7_left kT_X7_left rfl rfl (Nat.le_of_ble_eq_true rfl) (Nat.le_of_ble_eq_true rfl) (cc_57 _) (s_X7_left (isT_l _) hb0) (fun r h q => ?_)
      obtain ⟨rfl, rfl⟩ := q
      simp only [Option.toList, List.cons_append, List.nil_append]
      obtain ⟨hb1, hk⟩ := hk
      refine q_callV0 [_, _] _ rfl kY_X7_bestQuestion kT_X7_bestQuestion rfl rfl (Nat.le_of_ble_eq_true rfl) (Nat.le_of_ble_eq_true rfl) (cc_57 _) (s_X7_bestQuestion (isT_l _) hb1) (fun r h q => ?_)
      obtain ⟨rfl, rfl⟩ := q
      simp only [Option.toList, List.cons_append, List.nil_append]
      refine r_iret rfl rfl rfl ?_
      subst he
      exact ⟨rfl, rfl⟩
    · rw [if_neg c_12] at he
      replace hk := hk.2 c_12
      refine r_iconst_ (a := -1) rfl (by decide) ?_
      refine r_iret rfl rfl rfl ?_
      subst he
      exact ⟨rfl, rfl⟩

def f_X11_owedToAll_4 : Nat → Int32 → Int32 → fl_D → fl_I → fl_L → Int32 × fl_I × fl_L
  | 0, x1, x2, D, s, l => (0, s, l)
  | n + 1, x1, x2, D, s, l =>
    if ((s 31 2) ≤ x2) then (x1, s, l) else f_X11_owedToAll_4 n (x1 + (f_X9_owed x2 (if D.2.2.1 then 20 else 9) 31 s l).1) (x2 + 1) D (f_X9_owed x2 (if D.2.2.1 then 20 else 9) 31 s l).2.1 (f_X9_owed x2 (if D.2.2.1 then 20 else 9) 31 s l).2.2

def p_X11_owedToAll_4 : Nat → Int32 → Int32 → fl_D → fl_I → fl_L → Prop
  | 0, _, _, _, _, _ => False
  | n + 1, x1, x2, D, s, l =>
    ((((s 31 2) ≤ x2) → True) ∧ (¬ ((s 31 2) ≤ x2) → (p_X9_owed x2 (if D.2.2.1 then 20 else 9) 31 s l) ∧ p_X11_owedToAll_4 n (x1 + (f_X9_owed x2 (if D.2.2.1 then 20 else 9) 31 s l).1) (x2 + 1) D (f_X9_owed x2 (if D.2.2.1 then 20 else 9) 31 s l).2.1 (f_X9_owed x2 (if D.2.2.1 then 20 else 9) 31 s l).2.2))

set_option maxRecDepth 100000 in
set_option maxHeartbeats 4000000 in
theorem lp_X11_owedToAll_4 {G : ab_G} {d : Nat} {D : fl_D} : ∀ (n : Nat) (x1 : Int32) (x2 : Int32) (s : fl_I) (l : fl_L), p_X11_owedToAll_4 n x1 x2 D s l → ab_C G (d + 4) 0 0 M_X11_owedToAll 4 [some (.ref 0), some (.int x1), some (.int x2)] [] (hp D s l) (rt (some (.int (f_X11_owedToAll_4 n x1 x2 D s l).1)) (hp D (f_X11_owedToAll_4 n x1 x2 D s l).2.1 (f_X11_owedToAll_4 n x1 x2 D s l).2.2)) := by
  intro n
  induction n with
  | zero => intro x1 x2 s l hk; exact hk.elim
  | succ n ih =>
    intro x1 x2 s l hk
    generalize he : f_X11_owedToAll_4 (n + 1) x1 x2 D s l = res
    unfold f_X11_owedToAll_4 at he
    unfold p_X11_owedToAll_4 at hk
    refine r_iload_n rfl rfl ?_
    refine r_aload_n rfl rfl ?_
    refine q_getfield rfl (cc_0 _) rfl ?_
    refine q_getfield rfl (cc_31 _) rfl ?_
    refine r_icmp_ge rfl (fun c_12 => ?_) (fun c_12 => ?_)
    · rw [if_pos c_12] at he
      replace hk := hk.1 c_12
      refine r_iload_n rfl rfl ?_
      refine r_iret rfl rfl rfl ?_
      subst he
      exact ⟨rfl, rfl⟩
    · rw [if_neg c_12] at he
      replace hk := hk.2 c_12
      refine r_iload_n rfl rfl ?_
      refine r_aload_n rfl rfl ?_
      refine q_getfield rfl (cc_0 _) rfl ?_
      refine r_aload_n rfl rfl ?_
      refine q_getfield rfl (cc_0 _) rfl ?_
      refine r_aload_n rfl rfl ?_
      refine q_getfield rfl (cc_0 _) rfl ?_
      refine r_iload_n rfl rfl ?_
      obtain ⟨hb0, hk⟩ := hk
      refine q_callV0 [_, _, _] _ rfl kY_X9_owed kT_X9_owed rfl rfl (Nat.le_of_ble_eq_true rfl) (Nat.le_of_ble_eq_true rfl) (cc_46 _) (s_X9_owed (isT_l _) (Or.inl rfl) hb0) (fun r h q => ?_)
      obtain ⟨rfl, rfl⟩ := q
      simp only [Option.toList, List.cons_append, List.nil_append]
      refine r_iadd rfl ?_
      refine r_istore_n rfl (Nat.le_of_ble_eq_true rfl) rfl ?_
      refine r_iinc (b := x2 + 1) rfl rfl rfl (Nat.le_of_ble_eq_true rfl) rfl ?_
      refine r_goto rfl ?_
      subst he
      exact r_weak (L1 := [some (.ref 0), some (.int (x1 + (f_X9_owed x2 (if D.2.2.1 then 20 else 9) 31 s l).1)), some (.int (x2 + 1))]) ⟨rfl, rfl, rfl, trivial⟩ (ih _ _ _ _ hk)

def f_X11_owedToAll (D : fl_D) (s : fl_I) (l : fl_L) : Int32 × fl_I × fl_L :=
  f_X11_owedToAll_4 fu (0 : Int32) (0 : Int32) D s l

def p_X11_owedToAll (D : fl_D) (s : fl_I) (l : fl_L) : Prop :=
  p_X11_owedToAll_4 fu (0 : Int32) (0 : Int32) D s l

set_option maxRecDepth 100000 in
set_option maxHeartbeats 4000000 in
theorem s_X11_owedToAll {G : ab_G} {d : Nat} {D : fl_D} {s : fl_I} {l : fl_L}  (hk : p_X11_owedToAll D s l) : ab_C G (d + 4) 0 0 M_X11_owedToAll 0 (ab_ent [.ref 0]) [] (hp D s l) (rt (some (.int (f_X11_owedToAll D s l).1)) (hp D (f_X11_owedToAll D s l).2.1 (f_X11_owedToAll D s l).2.2)) := by
  generalize he : (f_X11_owedToAll D s l) = res
  unfold f_X11_owedToAll at he
  unfold p_X11_owedToAll at hk
  refine r_weak (L1 := [some (.ref 0), none, none]) ⟨rfl, trivial⟩ ?_
  refine r_iconst_ (a := 0) rfl (by decide) ?_
  refine r_istore_n rfl (Nat.le_of_ble_eq_true rfl) rfl ?_
  refine r_iconst_ (a := 0) rfl (by decide) ?_
  refine r_istore_n rfl (Nat.le_of_ble_eq_true rfl) rfl ?_
  subst he
  exact r_weak (L1 := [some (.ref 0), some (.int (0 : Int32)), some (.int (0 : Int32))]) ⟨rfl, rfl, rfl, trivial⟩ (lp_X11_owedToAll_4 fu _ _ _ _ hk)

def f_X12_owedTo_4 : Nat → Int32 → Int32 → Int32 → fl_I → fl_L → Int32 × fl_I × fl_L
  | 0, x1, x2, x3, s, l => (0, s, l)
  | n + 1, x1, x2, x3, s, l =>
    if ((s 60 54) ≤ x3) then (x2, s, l) else if ((s 95 ((64 : Int32) + x3).toNatClampNeg) = x1) then f_X12_owedTo_4 n x1 (x2 + (f_X12_paysOf x1 x3 s l).1) (x3 + 1) (f_X12_paysOf x1 x3 s l).2.1 (f_X12_paysOf x1 x3 s l).2.2 else f_X12_owedTo_4 n x1 x2 (x3 + 1) s l

def p_X12_owedTo_4 : Nat → Int32 → Int32 → Int32 → fl_I → fl_L → Prop
  | 0, _, _, _, _, _ => False
  | n + 1, x1, x2, x3, s, l =>
    ((((s 60 54) ≤ x3) → True) ∧ (¬ ((s 60 54) ≤ x3) → (vp_in ((64 : Int32) + x3) 141) ∧ ((((s 95 ((64 : Int32) + x3).toNatClampNeg) = x1) → (p_X12_paysOf x1 x3 s l) ∧ p_X12_owedTo_4 n x1 (x2 + (f_X12_paysOf x1 x3 s l).1) (x3 + 1) (f_X12_paysOf x1 x3 s l).2.1 (f_X12_paysOf x1 x3 s l).2.2) ∧ (¬ ((s 95 ((64 : Int32) + x3).toNatClampNeg) = x1) → p_X12_owedTo_4 n x1 x2 (x3 + 1) s l))))

set_option maxRecDepth 100000 in
set_option maxHeartbeats 4000000 in
theorem lp_X12_owedTo_4 {G : ab_G} {d : Nat} {D : fl_D} : ∀ (n : Nat) (x1 : Int32) (x2 : Int32) (x3 : Int32) (s : fl_I) (l : fl_L), p_X12_owedTo_4 n x1 x2 x3 s l → ab_C G (d + 3) 0 0 M_X12_owedTo 4 [some (.ref 60), some (.int x1), some (.int x2), some (.int x3)] [] (hp D s l) (rt (some (.int (f_X12_owedTo_4 n x1 x2 x3 s l).1)) (hp D (f_X12_owedTo_4 n x1 x2 x3 s l).2.1 (f_X12_owedTo_4 n x1 x2 x3 s l).2.2)) := by
  intro n
  induction n with
  | zero => intro x1 x2 x3 s l hk; exact hk.elim
  | succ n ih =>
    intro x1 x2 x3 s l hk
    generalize he : f_X12_owedTo_4 (n + 1) x1 x2 x3 s l = res
    unfold f_X12_owedTo_4 at he
    unfold p_X12_owedTo_4 at hk
    refine r_iload_n rfl rfl ?_
    refine r_aload_n rfl rfl ?_
    refine q_getfield rfl (cc_60 _) rfl ?_
    refine r_icmp_ge rfl (fun c_9 => ?_) (fun c_9 => ?_)
    · rw [if_pos c_9] at he
      replace hk := hk.1 c_9
      refine r_iload_n rfl rfl ?_
      refine r_iret rfl rfl rfl ?_
      subst he
      exact ⟨rfl, rfl⟩
    · rw [if_neg c_9] at he
      replace hk := hk.2 c_9
      refine r_aload_n rfl rfl ?_
      refine q_getfield rfl (cc_60 _) rfl ?_
      refine r_bipush_ (a := 64) rfl (by decide) ?_
      refine r_iload_n rfl rfl ?_
      refine r_iadd rfl ?_
      obtain ⟨hb0, hk⟩ := hk
      refine q_iald rfl (cc_95 _) hb0 ?_
      refine r_iload_n rfl rfl ?_
      refine r_icmp_ne rfl (fun c_22 => ?_) (fun c_22 => ?_)
      · rw [if_neg c_22] at he
        replace hk := hk.2 c_22
        refine r_iinc (b := x3 + 1) rfl rfl rfl (Nat.le_of_ble_eq_true rfl) rfl ?_
        refine r_goto rfl ?_
        subst he
        exact r_weak (L1 := [some (.ref 60), some (.int x1), some (.int x2), some (.int (x3 + 1))]) ⟨rfl, rfl, rfl, rfl, trivial⟩ (ih _ _ _ _ _ hk)
      · rw [if_pos c_22] at he
        replace hk := hk.1 c_22
        refine r_iload_n rfl rfl ?_
        refine r_aload_n rfl rfl ?_
        refine r_iload_n rfl rfl ?_
        refine r_iload_n rfl rfl ?_
        obtain ⟨hb1, hk⟩ := hk
        refine q_callV0 [_, _] _ rfl kY_X12_paysOf kT_X12_paysOf rfl rfl (Nat.le_of_ble_eq_true rfl) (Nat.le_of_ble_eq_true rfl) (cc_60 _) (s_X12_paysOf hb1) (fun r h q => ?_)
        obtain ⟨rfl, rfl⟩ := q
        simp only [Option.toList, List.cons_append, List.nil_append]
        refine r_iadd rfl ?_
        refine r_istore_n rfl (Nat.le_of_ble_eq_true rfl) rfl ?_
        refine r_iinc (b := x3 + 1) rfl rfl rfl (Nat.le_of_ble_eq_true rfl) rfl ?_
        refine r_goto rfl ?_
        subst he
        exact r_weak (L1 := [some (.ref 60), some (.int x1), some (.int (x2 + (f_X12_paysOf x1 x3 s l).1)), some (.int (x3 + 1))]) ⟨rfl, rfl, rfl, rfl, trivial⟩ (ih _ _ _ _ _ hk)

def f_X12_owedTo (v0 : Int32) (s : fl_I) (l : fl_L) : Int32 × fl_I × fl_L :=
  f_X12_owedTo_4 fu v0 (0 : Int32) (0 : Int32) s l

def p_X12_owedTo (v0 : Int32) (s : fl_I) (l : fl_L) : Prop :=
  p_X12_owedTo_4 fu v0 (0 : Int32) (0 : Int32) s l

set_option maxRecDepth 100000 in
set_option maxHeartbeats 4000000 in
theorem s_X12_owedTo {G : ab_G} {d : Nat} {D : fl_D} {s : fl_I} {l : fl_L} {v0 : Int32} (hk : p_X12_owedTo v0 s l) : ab_C G (d + 3) 0 0 M_X12_owedTo 0 (ab_ent [.ref 60, .int v0]) [] (hp D s l) (rt (some (.int (f_X12_owedTo v0 s l).1)) (hp D (f_X12_owedTo v0 s l).2.1 (f_X12_owedTo v0 s l).2.2)) := by
  generalize he : (f_X12_owedTo v0 s l) = res
  unfold f_X12_owedTo at he
  unfold p_X12_owedTo at hk
  refine r_weak (L1 := [some (.ref 60), some (.int v0), none, none]) ⟨rfl, rfl, trivial⟩ ?_
  refine r_iconst_ (a := 0) rfl (by decide) ?_
  refine r_istore_n rfl (Nat.le_of_ble_eq_true rfl) rfl ?_
  refine r_iconst_ (a := 0) rfl (by decide) ?_
  refine r_istore_n rfl (Nat.le_of_ble_eq_true rfl) rfl ?_
  subst he
  exact r_weak (L1 := [some (.ref 60), some (.int v0), some (.int (0 : Int32)), some (.int (0 : Int32))]) ⟨rfl, rfl, rfl, rfl, trivial⟩ (lp_X12_owedTo_4 fu _ _ _ _ _ hk)

def f_X11_loss (v0 : Int32) (D : fl_D) (s : fl_I) (l : fl_L) : Int32 × fl_I × fl_L :=
  if (v0 < 0) then ((-1 : Int32), s, l) else if (v0 ≤ (40 : Int32)) then ((f_X9_takesOfAll (if D.2.2.1 then 20 else 9) 37 (f_X9_goOn v0 (-1 : Int32) (if D.2.2.1 then 20 else 9) 37 (f_X10_copy 37 31 s l).1 (f_X10_copy 37 31 s l).2).1 (f_X9_goOn v0 (-1 : Int32) (if D.2.2.1 then 20 else 9) 37 (f_X10_copy 37 31 s l).1 (f_X10_copy 37 31 s l).2).2).1, (f_X9_takesOfAll (if D.2.2.1 then 20 else 9) 37 (f_X9_goOn v0 (-1 : Int32) (if D.2.2.1 then 20 else 9) 37 (f_X10_copy 37 31 s l).1 (f_X10_copy 37 31 s l).2).1 (f_X9_goOn v0 (-1 : Int32) (if D.2.2.1 then 20 else 9) 37 (f_X10_copy 37 31 s l).1 (f_X10_copy 37 31 s l).2).2).2.1, (f_X9_takesOfAll (if D.2.2.1 then 20 else 9) 37 (f_X9_goOn v0 (-1 : Int32) (if D.2.2.1 then 20 else 9) 37 (f_X10_copy 37 31 s l).1 (f_X10_copy 37 31 s l).2).1 (f_X9_goOn v0 (-1 : Int32) (if D.2.2.1 then 20 else 9) 37 (f_X10_copy 37 31 s l).1 (f_X10_copy 37 31 s l).2).2).2.2) else ((-1 : Int32), s, l)

def p_X11_loss (v0 : Int32) (D : fl_D) (s : fl_I) (l : fl_L) : Prop :=
  (((v0 < 0) → True) ∧ (¬ (v0 < 0) → (((v0 ≤ (40 : Int32)) → (p_X10_copy 37 31 s l) ∧ (p_X9_goOn v0 (-1 : Int32) (if D.2.2.1 then 20 else 9) 37 (f_X10_copy 37 31 s l).1 (f_X10_copy 37 31 s l).2) ∧ (p_X9_takesOfAll (if D.2.2.1 then 20 else 9) 37 (f_X9_goOn v0 (-1 : Int32) (if D.2.2.1 then 20 else 9) 37 (f_X10_copy 37 31 s l).1 (f_X10_copy 37 31 s l).2).1 (f_X9_goOn v0 (-1 : Int32) (if D.2.2.1 then 20 else 9) 37 (f_X10_copy 37 31 s l).1 (f_X10_copy 37 31 s l).2).2) ∧ True) ∧ (¬ (v0 ≤ (40 : Int32)) → True))))

set_option maxRecDepth 100000 in
set_option maxHeartbeats 4000000 in
theorem s_X11_loss {G : ab_G} {d : Nat} {D : fl_D} {s : fl_I} {l : fl_L} {v0 : Int32} (hk : p_X11_loss v0 D s l) : ab_C G (d + 5) 0 0 M_X11_loss 0 (ab_ent [.ref 0, .int v0]) [] (hp D s l) (rt (some (.int (f_X11_loss v0 D s l).1)) (hp D (f_X11_loss v0 D s l).2.1 (f_X11_loss v0 D s l).2.2)) := by
  generalize he : (f_X11_loss v0 D s l) = res
  unfold f_X11_loss at he
  unfold p_X11_loss at hk
  refine r_weak (L1 := [some (.ref 0), some (.int v0)]) ⟨rfl, rfl, trivial⟩ ?_
  refine r_iload_n rfl rfl ?_
  refine r_if_lt rfl (fun c_1 => ?_) (fun c_1 => ?_)
  · rw [if_pos c_1] at he
    replace hk := hk.1 c_1
    refine r_iconst_ (a := -1) rfl (by decide) ?_
    refine r_iret rfl rfl rfl ?_
    subst he
    exact ⟨rfl, rfl⟩
  · rw [if_neg c_1] at he
    replace hk := hk.2 c_1
    refine r_iload_n rfl rfl ?_
    refine r_bipush_ (a := 40) rfl (by decide) ?_
    refine r_icmp_le rfl (fun c_7 => ?_) (fun c_7 => ?_)
    · rw [if_pos c_7] at he
      replace hk := hk.1 c_7
      refine r_aload_n rfl rfl ?_
      refine q_getfield rfl (cc_0 _) rfl ?_
      refine r_aload_n rfl rfl ?_
      refine q_getfield rfl (cc_0 _) rfl ?_
      obtain ⟨hb0, hk⟩ := hk
      refine q_callV0 [_] _ rfl kY_X10_copy kT_X10_copy rfl rfl (Nat.le_of_ble_eq_true rfl) (Nat.le_of_ble_eq_true rfl) (cc_37 _) (s_X10_copy (Or.inr (Or.inl rfl)) (Or.inl rfl) hb0) (fun r h q => ?_)
      obtain ⟨rfl, rfl⟩ := q
      simp only [Option.toList, List.cons_append, List.nil_append]
      refine r_aload_n rfl rfl ?_
      refine q_getfield rfl (cc_0 _) rfl ?_
      refine r_aload_n rfl rfl ?_
      refine q_getfield rfl (cc_0 _) rfl ?_
      refine r_aload_n rfl rfl ?_
      refine q_getfield rfl (cc_0 _) rfl ?_
      refine r_iload_n rfl rfl ?_
      refine r_iconst_ (a := -1) rfl (by decide) ?_
      obtain ⟨hb1, hk⟩ := hk
      refine q_callV0 [_, _, _, _] _ rfl kY_X9_goOn kT_X9_goOn rfl rfl (Nat.le_of_ble_eq_true rfl) (Nat.le_of_ble_eq_true rfl) (cc_46 _) (s_X9_goOn (isT_l _) (Or.inr (Or.inl rfl)) hb1) (fun r h q => ?_)
      obtain ⟨rfl, rfl⟩ := q
      simp only [Option.toList, List.cons_append, List.nil_append]
      refine r_aload_n rfl rfl ?_
      refine q_getfield rfl (cc_0 _) rfl ?_
      refine r_aload_n rfl rfl ?_
      refine q_getfield rfl (cc_0 _) rfl ?_
      refine r_aload_n rfl rfl ?_
      refine q_getfield rfl (cc_0 _) rfl ?_
      obtain ⟨hb2, hk⟩ := hk
      refine q_callV0 [_, _] _ rfl kY_X9_takesOfAll kT_X9_takesOfAll rfl rfl (Nat.le_of_ble_eq_true rfl) (Nat.le_of_ble_eq_true rfl) (cc_46 _) (s_X9_takesOfAll (isT_l _) (Or.inr (Or.inl rfl)) hb2) (fun r h q => ?_)
      obtain ⟨rfl, rfl⟩ := q
      simp only [Option.toList, List.cons_append, List.nil_append]
      refine r_iret rfl rfl rfl ?_
      subst he
      exact ⟨rfl, rfl⟩
    · rw [if_neg c_7] at he
      replace hk := hk.2 c_7
      refine r_iconst_ (a := -1) rfl (by decide) ?_
      refine r_iret rfl rfl rfl ?_
      subst he
      exact ⟨rfl, rfl⟩

def f_X11_late_13 : Nat → Int32 → fl_D → fl_I → fl_L → Int32 × fl_I × fl_L
  | 0, x1, D, s, l => (0, s, l)
  | n + 1, x1, D, s, l =>
    if ((100 : Int32) < x1) then ((-2 : Int32), s, l) else if ((f_X10_countLying 37 s l) = 0) then (x1, s, l) else f_X11_late_13 n (x1 + 1) D (f_X9_goOn (1 : Int32) (-1 : Int32) (if D.2.2.1 then 20 else 9) 37 s l).1 (f_X9_goOn (1 : Int32) (-1 : Int32) (if D.2.2.1 then 20 else 9) 37 s l).2

def p_X11_late_13 : Nat → Int32 → fl_D → fl_I → fl_L → Prop
  | 0, _, _, _, _ => False
  | n + 1, x1, D, s, l =>
    ((((100 : Int32) < x1) → True) ∧ (¬ ((100 : Int32) < x1) → (p_X10_countLying 37 s l) ∧ ((((f_X10_countLying 37 s l) = 0) → True) ∧ (¬ ((f_X10_countLying 37 s l) = 0) → (p_X9_goOn (1 : Int32) (-1 : Int32) (if D.2.2.1 then 20 else 9) 37 s l) ∧ p_X11_late_13 n (x1 + 1) D (f_X9_goOn (1 : Int32) (-1 : Int32) (if D.2.2.1 then 20 else 9) 37 s l).1 (f_X9_goOn (1 : Int32) (-1 : Int32) (if D.2.2.1 then 20 else 9) 37 s l).2))))

set_option maxRecDepth 100000 in
set_option maxHeartbeats 4000000 in
theorem lp_X11_late_13 {G : ab_G} {d : Nat} {D : fl_D} : ∀ (n : Nat) (x1 : Int32) (s : fl_I) (l : fl_L), p_X11_late_13 n x1 D s l → ab_C G (d + 5) 0 0 M_X11_late 13 [some (.ref 0), some (.int x1)] [] (hp D s l) (rt (some (.int (f_X11_late_13 n x1 D s l).1)) (hp D (f_X11_late_13 n x1 D s l).2.1 (f_X11_late_13 n x1 D s l).2.2)) := by
  intro n
  induction n with
  | zero => intro x1 s l hk; exact hk.elim
  | succ n ih =>
    intro x1 s l hk
    generalize he : f_X11_late_13 (n + 1) x1 D s l = res
    unfold f_X11_late_13 at he
    unfold p_X11_late_13 at hk
    refine r_iload_n rfl rfl ?_
    refine r_bipush_ (a := 100) rfl (by decide) ?_
    refine r_icmp_gt rfl (fun c_16 => ?_) (fun c_16 => ?_)
    · rw [if_pos c_16] at he
      replace hk := hk.1 c_16
      refine r_bipush_ (a := -2) rfl (by decide) ?_
      refine r_iret rfl rfl rfl ?_
      subst he
      exact ⟨rfl, rfl⟩
    · rw [if_neg c_16] at he
      replace hk := hk.2 c_16
      refine r_aload_n rfl rfl ?_
      refine q_getfield rfl (cc_0 _) rfl ?_
      obtain ⟨hb1, hk⟩ := hk
      refine q_callV0 [] _ rfl kY_X10_countLying kT_X10_countLying rfl rfl (Nat.le_of_ble_eq_true rfl) (Nat.le_of_ble_eq_true rfl) (cc_37 _) (s_X10_countLying (Or.inr (Or.inl rfl)) hb1) (fun r h q => ?_)
      obtain ⟨rfl, rfl⟩ := q
      simp only [Option.toList, List.cons_append, List.nil_append]
      refine r_if_ne rfl (fun c_26 => ?_) (fun c_26 => ?_)
      · rw [if_neg c_26] at he
        replace hk := hk.2 c_26
        refine r_aload_n rfl rfl ?_
        refine q_getfield rfl (cc_0 _) rfl ?_
        refine r_aload_n rfl rfl ?_
        refine q_getfield rfl (cc_0 _) rfl ?_
        refine r_aload_n rfl rfl ?_
        refine q_getfield rfl (cc_0 _) rfl ?_
        refine r_iconst_ (a := 1) rfl (by decide) ?_
        refine r_iconst_ (a := -1) rfl (by decide) ?_
        obtain ⟨hb2, hk⟩ := hk
        refine q_callV0 [_, _, _, _] _ rfl kY_X9_goOn kT_X9_goOn rfl rfl (Nat.le_of_ble_eq_true rfl) (Nat.le_of_ble_eq_true rfl) (cc_46 _) (s_X9_goOn (isT_l _) (Or.inr (Or.inl rfl)) hb2) (fun r h q => ?_)
        obtain ⟨rfl, rfl⟩ := q
        simp only [Option.toList, List.cons_append, List.nil_append]
        refine r_iinc (b := x1 + 1) rfl rfl rfl (Nat.le_of_ble_eq_true rfl) rfl ?_
        refine r_goto rfl ?_
        subst he
        exact r_weak (L1 := [some (.ref 0), some (.int (x1 + 1))]) ⟨rfl, rfl, trivial⟩ (ih _ _ _ hk)
      · rw [if_pos c_26] at he
        replace hk := hk.1 c_26
        refine r_iload_n rfl rfl ?_
        refine r_iret rfl rfl rfl ?_
        subst he
        exact ⟨rfl, rfl⟩

def f_X11_late (D : fl_D) (s : fl_I) (l : fl_L) : Int32 × fl_I × fl_L :=
  f_X11_late_13 fu (0 : Int32) D (f_X10_copy 37 31 s l).1 (f_X10_copy 37 31 s l).2

def p_X11_late (D : fl_D) (s : fl_I) (l : fl_L) : Prop :=
  (p_X10_copy 37 31 s l) ∧ p_X11_late_13 fu (0 : Int32) D (f_X10_copy 37 31 s l).1 (f_X10_copy 37 31 s l).2

set_option maxRecDepth 100000 in
set_option maxHeartbeats 4000000 in
theorem s_X11_late {G : ab_G} {d : Nat} {D : fl_D} {s : fl_I} {l : fl_L}  (hk : p_X11_late D s l) : ab_C G (d + 5) 0 0 M_X11_late 0 (ab_ent [.ref 0]) [] (hp D s l) (rt (some (.int (f_X11_late D s l).1)) (hp D (f_X11_late D s l).2.1 (f_X11_late D s l).2.2)) := by
  generalize he : (f_X11_late D s l) = res
  unfold f_X11_late at he
  unfold p_X11_late at hk
  refine r_weak (L1 := [some (.ref 0), none]) ⟨rfl, trivial⟩ ?_
  refine r_aload_n rfl rfl ?_
  refine q_getfield rfl (cc_0 _) rfl ?_
  refine r_aload_n rfl rfl ?_
  refine q_getfield rfl (cc_0 _) rfl ?_
  obtain ⟨hb0, hk⟩ := hk
  refine q_callV0 [_] _ rfl kY_X10_copy kT_X10_copy rfl rfl (Nat.le_of_ble_eq_true rfl) (Nat.le_of_ble_eq_true rfl) (cc_37 _) (s_X10_copy (Or.inr (Or.inl rfl)) (Or.inl rfl) hb0) (fun r h q => ?_)
  obtain ⟨rfl, rfl⟩ := q
  simp only [Option.toList, List.cons_append, List.nil_append]
  refine r_iconst_ (a := 0) rfl (by decide) ?_
  refine r_istore_n rfl (Nat.le_of_ble_eq_true rfl) rfl ?_
  subst he
  exact r_weak (L1 := [some (.ref 0), some (.int (0 : Int32))]) ⟨rfl, rfl, trivial⟩ (lp_X11_late_13 fu _ _ _ hk)

def f_X3_plainTold (t : Nat) (s : fl_I) (l : fl_L) : Int32 × fl_I × fl_L :=
  if ((f_X3_kindNow s l) = 256) then ((f_X3_letterTold t s l).1, (f_X3_letterTold t s l).2.1, (f_X3_letterTold t s l).2.2) else if ((f_X3_kindNow s l) = 257) then ((f_X3_wordTold t s l).1, (f_X3_wordTold t s l).2.1, (f_X3_wordTold t s l).2.2) else if ((f_X3_kindNow s l) = 258) then ((f_X3_pickerTold t s l).1, (f_X3_pickerTold t s l).2.1, (f_X3_pickerTold t s l).2.2) else if ((f_X3_kindNow s l) = 259) then ((f_X3_stop (1 : Int32) s l).1, (f_X3_stop (1 : Int32) s l).2.1, (f_X3_stop (1 : Int32) s l).2.2) else if ((f_X3_kindNow s l) = 260) then ((f_X3_stop (1 : Int32) s l).1, (f_X3_stop (1 : Int32) s l).2.1, (f_X3_stop (1 : Int32) s l).2.2) else if ((f_X3_kindNow s l) = 261) then ((f_X3_stop (1 : Int32) s l).1, (f_X3_stop (1 : Int32) s l).2.1, (f_X3_stop (1 : Int32) s l).2.2) else if ((f_X3_kindNow s l) = 262) then ((f_X3_windTold t s l).1, (f_X3_windTold t s l).2.1, (f_X3_windTold t s l).2.2) else if ((f_X3_kindNow s l) = 263) then ((f_X3_rainTold t s l).1, (f_X3_rainTold t s l).2.1, (f_X3_rainTold t s l).2.2) else if ((f_X3_kindNow s l) = 264) then ((f_X3_seedTold t s l).1, (f_X3_seedTold t s l).2.1, (f_X3_seedTold t s l).2.2) else ((f_X3_stop (1 : Int32) s l).1, (f_X3_stop (1 : Int32) s l).2.1, (f_X3_stop (1 : Int32) s l).2.2)

def p_X3_plainTold (t : Nat) (s : fl_I) (l : fl_L) : Prop :=
  (p_X3_kindNow s l) ∧ ((((f_X3_kindNow s l) = 256) → (p_X3_letterTold t s l) ∧ ((f_X3_letterTold t s l).1 = 0 ∨ (f_X3_letterTold t s l).1 = 1) ∧ True) ∧ (¬ ((f_X3_kindNow s l) = 256) → ((((f_X3_kindNow s l) = 257) → (p_X3_wordTold t s l) ∧ ((f_X3_wordTold t s l).1 = 0 ∨ (f_X3_wordTold t s l).1 = 1) ∧ True) ∧ (¬ ((f_X3_kindNow s l) = 257) → ((((f_X3_kindNow s l) = 258) → (p_X3_pickerTold t s l) ∧ ((f_X3_pickerTold t s l).1 = 0 ∨ (f_X3_pickerTold t s l).1 = 1) ∧ True) ∧ (¬ ((f_X3_kindNow s l) = 258) → ((((f_X3_kindNow s l) = 259) → (p_X3_stop (1 : Int32) s l) ∧ ((f_X3_stop (1 : Int32) s l).1 = 0 ∨ (f_X3_stop (1 : Int32) s l).1 = 1) ∧ True) ∧ (¬ ((f_X3_kindNow s l) = 259) → ((((f_X3_kindNow s l) = 260) → (p_X3_stop (1 : Int32) s l) ∧ ((f_X3_stop (1 : Int32) s l).1 = 0 ∨ (f_X3_stop (1 : Int32) s l).1 = 1) ∧ True) ∧ (¬ ((f_X3_kindNow s l) = 260) → ((((f_X3_kindNow s l) = 261) → (p_X3_stop (1 : Int32) s l) ∧ ((f_X3_stop (1 : Int32) s l).1 = 0 ∨ (f_X3_stop (1 : Int32) s l).1 = 1) ∧ True) ∧ (¬ ((f_X3_kindNow s l) = 261) → ((((f_X3_kindNow s l) = 262) → (p_X3_windTold t s l) ∧ ((f_X3_windTold t s l).1 = 0 ∨ (f_X3_windTold t s l).1 = 1) ∧ True) ∧ (¬ ((f_X3_kindNow s l) = 262) → ((((f_X3_kindNow s l) = 263) → (p_X3_rainTold t s l) ∧ ((f_X3_rainTold t s l).1 = 0 ∨ (f_X3_rainTold t s l).1 = 1) ∧ True) ∧ (¬ ((f_X3_kindNow s l) = 263) → ((((f_X3_kindNow s l) = 264) → (p_X3_seedTold t s l) ∧ ((f_X3_seedTold t s l).1 = 0 ∨ (f_X3_seedTold t s l).1 = 1) ∧ True) ∧ (¬ ((f_X3_kindNow s l) = 264) → (p_X3_stop (1 : Int32) s l) ∧ ((f_X3_stop (1 : Int32) s l).1 = 0 ∨ (f_X3_stop (1 : Int32) s l).1 = 1) ∧ True))))))))))))))))))

set_option maxRecDepth 100000 in
set_option maxHeartbeats 4000000 in
theorem s_X3_plainTold {G : ab_G} {d : Nat} {D : fl_D} {s : fl_I} {l : fl_L} {t : Nat} (htt : isT t)  (hk : p_X3_plainTold t s l) : ab_C G (d + 5) 0 0 M_X3_plainTold 0 (ab_ent [.ref 3, .ref t]) [] (hp D s l) (rt (some (.int (f_X3_plainTold t s l).1)) (hp D (f_X3_plainTold t s l).2.1 (f_X3_plainTold t s l).2.2)) := by
  generalize he : (f_X3_plainTold t s l) = res
  unfold f_X3_plainTold at he
  unfold p_X3_plainTold at hk
  refine r_weak (L1 := [some (.ref 3), some (.ref t)]) ⟨rfl, rfl, trivial⟩ ?_
  refine r_aload_n rfl rfl ?_
  obtain ⟨hb0, hk⟩ := hk
  refine q_callV0 [] _ rfl kY_X3_kindNow kT_X3_kindNow rfl rfl (Nat.le_of_ble_eq_true rfl) (Nat.le_of_ble_eq_true rfl) (cc_3 _) (s_X3_kindNow hb0) (fun r h q => ?_)
  obtain ⟨rfl, rfl⟩ := q
  simp only [Option.toList, List.cons_append, List.nil_append]
  by_cases c_4_256 : ((f_X3_kindNow s l) = 256)
  · rw [if_pos c_4_256] at he
    replace hk := hk.1 c_4_256
    refine r_tableIn (tgt := 56) rfl (by rw [c_4_256]; decide) (by rw [c_4_256]; decide) (by rw [c_4_256]; rfl) (by decide) ?_
    refine r_aload_n rfl rfl ?_
    refine r_aload_n rfl rfl ?_
    obtain ⟨hb1, hk⟩ := hk
    refine q_callV0 [_] _ rfl kY_X3_letterTold kT_X3_letterTold rfl rfl (Nat.le_of_ble_eq_true rfl) (Nat.le_of_ble_eq_true rfl) (cc_3 _) (s_X3_letterTold htt hb1) (fun r h q => ?_)
    obtain ⟨rfl, rfl⟩ := q
    simp only [Option.toList, List.cons_append, List.nil_append]
    obtain ⟨hb2, hk⟩ := hk
    refine r_iret rfl rfl (nar_b hb2) ?_
    subst he
    exact ⟨rfl, rfl⟩
  · rw [if_neg c_4_256] at he
    replace hk := hk.2 c_4_256
    by_cases c_4_257 : ((f_X3_kindNow s l) = 257)
    · rw [if_pos c_4_257] at he
      replace hk := hk.1 c_4_257
      refine r_tableIn (tgt := 62) rfl (by rw [c_4_257]; decide) (by rw [c_4_257]; decide) (by rw [c_4_257]; rfl) (by decide) ?_
      refine r_aload_n rfl rfl ?_
      refine r_aload_n rfl rfl ?_
      obtain ⟨hb3, hk⟩ := hk
      refine q_callV0 [_] _ rfl kY_X3_wordTold kT_X3_wordTold rfl rfl (Nat.le_of_ble_eq_true rfl) (Nat.le_of_ble_eq_true rfl) (cc_3 _) (s_X3_wordTold htt hb3) (fun r h q => ?_)
      obtain ⟨rfl, rfl⟩ := q
      simp only [Option.toList, List.cons_append, List.nil_append]
      obtain ⟨hb4, hk⟩ := hk
      refine r_iret rfl rfl (nar_b hb4) ?_
      subst he
      exact ⟨rfl, rfl⟩
    · rw [if_neg c_4_257] at he
      replace hk := hk.2 c_4_257
      by_cases c_4_258 : ((f_X3_kindNow s l) = 258)
      · rw [if_pos c_4_258] at he
        replace hk := hk.1 c_4_258
        refine r_tableIn (tgt := 68) rfl (by rw [c_4_258]; decide) (by rw [c_4_258]; decide) (by rw [c_4_258]; rfl) (by decide) ?_
        refine r_aload_n rfl rfl ?_
        refine r_aload_n rfl rfl ?_
        obtain ⟨hb5, hk⟩ := hk
        refine q_callV0 [_] _ rfl kY_X3_pickerTold kT_X3_pickerTold rfl rfl (Nat.le_of_ble_eq_true rfl) (Nat.le_of_ble_eq_true rfl) (cc_3 _) (s_X3_pickerTold htt hb5) (fun r h q => ?_)
        obtain ⟨rfl, rfl⟩ := q
        simp only [Option.toList, List.cons_append, List.nil_append]
        obtain ⟨hb6, hk⟩ := hk
        refine r_iret rfl rfl (nar_b hb6) ?_
        subst he
        exact ⟨rfl, rfl⟩
      · rw [if_neg c_4_258] at he
        replace hk := hk.2 c_4_258
        by_cases c_4_259 : ((f_X3_kindNow s l) = 259)
        · rw [if_pos c_4_259] at he
          replace hk := hk.1 c_4_259
          refine r_tableIn (tgt := 92) rfl (by rw [c_4_259]; decide) (by rw [c_4_259]; decide) (by rw [c_4_259]; rfl) (by decide) ?_
          refine r_aload_n rfl rfl ?_
          refine r_iconst_ (a := 1) rfl (by decide) ?_
          obtain ⟨hb7, hk⟩ := hk
          refine q_callV0 [_] _ rfl kY_X3_stop kT_X3_stop rfl rfl (Nat.le_of_ble_eq_true rfl) (Nat.le_of_ble_eq_true rfl) (cc_3 _) (s_X3_stop hb7) (fun r h q => ?_)
          obtain ⟨rfl, rfl⟩ := q
          simp only [Option.toList, List.cons_append, List.nil_append]
          obtain ⟨hb8, hk⟩ := hk
          refine r_iret rfl rfl (nar_b hb8) ?_
          subst he
          exact ⟨rfl, rfl⟩
        · rw [if_neg c_4_259] at he
          replace hk := hk.2 c_4_259
          by_cases c_4_260 : ((f_X3_kindNow s l) = 260)
          · rw [if_pos c_4_260] at he
            replace hk := hk.1 c_4_260
            refine r_tableIn (tgt := 92) rfl (by rw [c_4_260]; decide) (by rw [c_4_260]; decide) (by rw [c_4_260]; rfl) (by decide) ?_
            refine r_aload_n rfl rfl ?_
            refine r_iconst_ (a := 1) rfl (by decide) ?_
            obtain ⟨hb9, hk⟩ := hk
            refine q_callV0 [_] _ rfl kY_X3_stop kT_X3_stop rfl rfl (Nat.le_of_ble_eq_true rfl) (Nat.le_of_ble_eq_true rfl) (cc_3 _) (s_X3_stop hb9) (fun r h q => ?_)
            obtain ⟨rfl, rfl⟩ := q
            simp only [Option.toList, List.cons_append, List.nil_append]
            obtain ⟨hb10, hk⟩ := hk
            refine r_iret rfl rfl (nar_b hb10) ?_
            subst he
            exact ⟨rfl, rfl⟩
          · rw [if_neg c_4_260] at he
            replace hk := hk.2 c_4_260
            by_cases c_4_261 : ((f_X3_kindNow s l) = 261)
            · rw [if_pos c_4_261] at he
              replace hk := hk.1 c_4_261
              refine r_tableIn (tgt := 92) rfl (by rw [c_4_261]; decide) (by rw [c_4_261]; decide) (by rw [c_4_261]; rfl) (by decide) ?_
              refine r_aload_n rfl rfl ?_
              refine r_iconst_ (a := 1) rfl (by decide) ?_
              obtain ⟨hb11, hk⟩ := hk
              refine q_callV0 [_] _ rfl kY_X3_stop kT_X3_stop rfl rfl (Nat.le_of_ble_eq_true rfl) (Nat.le_of_ble_eq_true rfl) (cc_3 _) (s_X3_stop hb11) (fun r h q => ?_)
              obtain ⟨rfl, rfl⟩ := q
              simp only [Option.toList, List.cons_append, List.nil_append]
              obtain ⟨hb12, hk⟩ := hk
              refine r_iret rfl rfl (nar_b hb12) ?_
              subst he
              exact ⟨rfl, rfl⟩
            · rw [if_neg c_4_261] at he
              replace hk := hk.2 c_4_261
              by_cases c_4_262 : ((f_X3_kindNow s l) = 262)
              · rw [if_pos c_4_262] at he
                replace hk := hk.1 c_4_262
                refine r_tableIn (tgt := 74) rfl (by rw [c_4_262]; decide) (by rw [c_4_262]; decide) (by rw [c_4_262]; rfl) (by decide) ?_
                refine r_aload_n rfl rfl ?_
                refine r_aload_n rfl rfl ?_
                obtain ⟨hb13, hk⟩ := hk
                refine q_callV0 [_] _ rfl kY_X3_windTold kT_X3_windTold rfl rfl (Nat.le_of_ble_eq_true rfl) (Nat.le_of_ble_eq_true rfl) (cc_3 _) (s_X3_windTold htt hb13) (fun r h q => ?_)
                obtain ⟨rfl, rfl⟩ := q
                simp only [Option.toList, List.cons_append, List.nil_append]
                obtain ⟨hb14, hk⟩ := hk
                refine r_iret rfl rfl (nar_b hb14) ?_
                subst he
                exact ⟨rfl, rfl⟩
              · rw [if_neg c_4_262] at he
                replace hk := hk.2 c_4_262
                by_cases c_4_263 : ((f_X3_kindNow s l) = 263)
                · rw [if_pos c_4_263] at he
                  replace hk := hk.1 c_4_263
                  refine r_tableIn (tgt := 80) rfl (by rw [c_4_263]; decide) (by rw [c_4_263]; decide) (by rw [c_4_263]; rfl) (by decide) ?_
                  refine r_aload_n rfl rfl ?_
                  refine r_aload_n rfl rfl ?_
                  obtain ⟨hb15, hk⟩ := hk
                  refine q_callV0 [_] _ rfl kY_X3_rainTold kT_X3_rainTold rfl rfl (Nat.le_of_ble_eq_true rfl) (Nat.le_of_ble_eq_true rfl) (cc_3 _) (s_X3_rainTold htt hb15) (fun r h q => ?_)
                  obtain ⟨rfl, rfl⟩ := q
                  simp only [Option.toList, List.cons_append, List.nil_append]
                  obtain ⟨hb16, hk⟩ := hk
                  refine r_iret rfl rfl (nar_b hb16) ?_
                  subst he
                  exact ⟨rfl, rfl⟩
                · rw [if_neg c_4_263] at he
                  replace hk := hk.2 c_4_263
                  by_cases c_4_264 : ((f_X3_kindNow s l) = 264)
                  · rw [if_pos c_4_264] at he
                    replace hk := hk.1 c_4_264
                    refine r_tableIn (tgt := 86) rfl (by rw [c_4_264]; decide) (by rw [c_4_264]; decide) (by rw [c_4_264]; rfl) (by decide) ?_
                    refine r_aload_n rfl rfl ?_
                    refine r_aload_n rfl rfl ?_
                    obtain ⟨hb17, hk⟩ := hk
                    refine q_callV0 [_] _ rfl kY_X3_seedTold kT_X3_seedTold rfl rfl (Nat.le_of_ble_eq_true rfl) (Nat.le_of_ble_eq_true rfl) (cc_3 _) (s_X3_seedTold htt hb17) (fun r h q => ?_)
                    obtain ⟨rfl, rfl⟩ := q
                    simp only [Option.toList, List.cons_append, List.nil_append]
                    obtain ⟨hb18, hk⟩ := hk
                    refine r_iret rfl rfl (nar_b hb18) ?_
                    subst he
                    exact ⟨rfl, rfl⟩
                  · rw [if_neg c_4_264] at he
                    replace hk := hk.2 c_4_264
                    refine r_tableOut (tgt := 92) rfl (by simp only [Int32.lt_iff_toInt_lt, Int32.le_iff_toInt_le, ← Int32.toInt_inj, ti_0, ti_1, ti_2, ti_3, ti_4, ti_5, ti_6, ti_7, ti_8, ti_9, ti_10, ti_11, ti_12, ti_13, ti_14, ti_15, ti_16, ti_17, ti_18, ti_19, ti_20, ti_21, ti_22, ti_23, ti_24, ti_25, ti_26, ti_27, ti_28, ti_29, ti_30, ti_31, ti_32, ti_33, ti_34, ti_35, ti_36, ti_37, ti_38, ti_39, ti_40, ti_41, ti_42, ti_43, ti_44, ti_45, ti_46, ti_47, ti_48, ti_49, ti_50, ti_51, ti_52, ti_53, ti_54, ti_55, ti_56, ti_57, ti_58, ti_59, ti_60, ti_61, ti_62, ti_63, ti_64, ti_79, ti_80, ti_90, ti_96, ti_97, ti_99, ti_100, ti_122, ti_128, ti_132, ti_136, ti_140, ti_141, ti_145, ti_255, ti_256, ti_257, ti_258, ti_259, ti_262, ti_263, ti_264, ti_265, ti_266, ti_267, ti_268, ti_276, ti_277, ti_400, ti_401, ti_408, ti_420, ti_840, ti_999, ti_1980, ti_2000, ti_9999, ti_10000, ti_10240, ti_1000000, ti_m1, ti_m2, ti_m3, ti_m4, ti_m5, ti_m6, ti_m7] at c_4_256 c_4_257 c_4_258 c_4_259 c_4_260 c_4_261 c_4_262 c_4_263 c_4_264; omega) (by decide) ?_
                    refine r_aload_n rfl rfl ?_
                    refine r_iconst_ (a := 1) rfl (by decide) ?_
                    obtain ⟨hb19, hk⟩ := hk
                    refine q_callV0 [_] _ rfl kY_X3_stop kT_X3_stop rfl rfl (Nat.le_of_ble_eq_true rfl) (Nat.le_of_ble_eq_true rfl) (cc_3 _) (s_X3_stop hb19) (fun r h q => ?_)
                    obtain ⟨rfl, rfl⟩ := q
                    simp only [Option.toList, List.cons_append, List.nil_append]
                    obtain ⟨hb20, hk⟩ := hk
                    refine r_iret rfl rfl (nar_b hb20) ?_
                    subst he
                    exact ⟨rfl, rfl⟩

def f_X12_hourGoes_28 : Nat → Int32 → fl_I → fl_L → fl_I × fl_L
  | 0, x1, s, l => (s, l)
  | n + 1, x1, s, l =>
    if ((s 74 (s 60 18).toNatClampNeg) ≤ x1) then ((wi (f_X12_blows s l).1 95 (140 : Int32).toNatClampNeg (((f_X12_blows s l).1 95 (140 : Int32).toNatClampNeg) + (1 : Int32))), (f_X12_blows s l).2) else f_X12_hourGoes_28 n (x1 + 1) (f_X12_picksUp x1 s l).1 (f_X12_picksUp x1 s l).2

def p_X12_hourGoes_28 : Nat → Int32 → fl_I → fl_L → Prop
  | 0, _, _, _ => False
  | n + 1, x1, s, l =>
    (vp_in (s 60 18) 2) ∧ ((((s 74 (s 60 18).toNatClampNeg) ≤ x1) → (p_X12_blows s l) ∧ True) ∧ (¬ ((s 74 (s 60 18).toNatClampNeg) ≤ x1) → (p_X12_picksUp x1 s l) ∧ p_X12_hourGoes_28 n (x1 + 1) (f_X12_picksUp x1 s l).1 (f_X12_picksUp x1 s l).2))

set_option maxRecDepth 100000 in
set_option maxHeartbeats 4000000 in
theorem lp_X12_hourGoes_28 {G : ab_G} {d : Nat} {D : fl_D} : ∀ (n : Nat) (x1 : Int32) (s : fl_I) (l : fl_L), p_X12_hourGoes_28 n x1 s l → ab_C G (d + 5) 0 0 M_X12_hourGoes 28 [some (.ref 60), some (.int x1)] [] (hp D s l) (rt none (hp D (f_X12_hourGoes_28 n x1 s l).1 (f_X12_hourGoes_28 n x1 s l).2)) := by
  intro n
  induction n with
  | zero => intro x1 s l hk; exact hk.elim
  | succ n ih =>
    intro x1 s l hk
    generalize he : f_X12_hourGoes_28 (n + 1) x1 s l = res
    unfold f_X12_hourGoes_28 at he
    unfold p_X12_hourGoes_28 at hk
    refine r_iload_n rfl rfl ?_
    refine r_aload_n rfl rfl ?_
    refine q_getfield rfl (cc_60 _) rfl ?_
    refine r_aload_n rfl rfl ?_
    refine q_getfield rfl (cc_60 _) rfl ?_
    obtain ⟨hb1, hk⟩ := hk
    refine q_iald rfl (cc_74 _) hb1 ?_
    refine r_icmp_ge rfl (fun c_38 => ?_) (fun c_38 => ?_)
    · rw [if_pos c_38] at he
      replace hk := hk.1 c_38
      refine r_aload_n rfl rfl ?_
      obtain ⟨hb2, hk⟩ := hk
      refine q_callV0 [] _ rfl kY_X12_blows kT_X12_blows rfl rfl (Nat.le_of_ble_eq_true rfl) (Nat.le_of_ble_eq_true rfl) (cc_60 _) (s_X12_blows hb2) (fun r h q => ?_)
      obtain ⟨rfl, rfl⟩ := q
      simp only [Option.toList, List.cons_append, List.nil_append]
      refine r_aload_n rfl rfl ?_
      refine q_getfield rfl (cc_60 _) rfl ?_
      refine r_sipush_ (a := 140) rfl (by decide) ?_
      refine r_dup2 rfl rfl rfl ?_
      refine q_iald rfl (cc_95 _) (by unfold vp_in; decide) ?_
      refine r_iconst_ (a := 1) rfl (by decide) ?_
      refine r_iadd rfl ?_
      refine w_iast rfl (cc_95 _) (by unfold vp_in; decide) ?_
      refine r_ret rfl rfl ?_
      subst he
      exact ⟨rfl, rfl⟩
    · rw [if_neg c_38] at he
      replace hk := hk.2 c_38
      refine r_aload_n rfl rfl ?_
      refine r_iload_n rfl rfl ?_
      obtain ⟨hb3, hk⟩ := hk
      refine q_callV0 [_] _ rfl kY_X12_picksUp kT_X12_picksUp rfl rfl (Nat.le_of_ble_eq_true rfl) (Nat.le_of_ble_eq_true rfl) (cc_60 _) (s_X12_picksUp hb3) (fun r h q => ?_)
      obtain ⟨rfl, rfl⟩ := q
      simp only [Option.toList, List.cons_append, List.nil_append]
      refine r_iinc (b := x1 + 1) rfl rfl rfl (Nat.le_of_ble_eq_true rfl) rfl ?_
      refine r_goto rfl ?_
      subst he
      exact r_weak (L1 := [some (.ref 60), some (.int (x1 + 1))]) ⟨rfl, rfl, trivial⟩ (ih _ _ _ hk)

def f_X12_hourGoes_2 : Nat → Int32 → fl_I → fl_L → fl_I × fl_L
  | 0, x1, s, l => (s, l)
  | n + 1, x1, s, l =>
    if ((s 74 (s 60 18).toNatClampNeg) ≤ x1) then f_X12_hourGoes_28 fu (0 : Int32) s l else f_X12_hourGoes_2 n (x1 + 1) (f_X12_pickerGoes x1 s l).1 (f_X12_pickerGoes x1 s l).2

def p_X12_hourGoes_2 : Nat → Int32 → fl_I → fl_L → Prop
  | 0, _, _, _ => False
  | n + 1, x1, s, l =>
    (vp_in (s 60 18) 2) ∧ ((((s 74 (s 60 18).toNatClampNeg) ≤ x1) → p_X12_hourGoes_28 fu (0 : Int32) s l) ∧ (¬ ((s 74 (s 60 18).toNatClampNeg) ≤ x1) → (p_X12_pickerGoes x1 s l) ∧ p_X12_hourGoes_2 n (x1 + 1) (f_X12_pickerGoes x1 s l).1 (f_X12_pickerGoes x1 s l).2))

set_option maxRecDepth 100000 in
set_option maxHeartbeats 4000000 in
theorem lp_X12_hourGoes_2 {G : ab_G} {d : Nat} {D : fl_D} : ∀ (n : Nat) (x1 : Int32) (s : fl_I) (l : fl_L), p_X12_hourGoes_2 n x1 s l → ab_C G (d + 5) 0 0 M_X12_hourGoes 2 [some (.ref 60), some (.int x1)] [] (hp D s l) (rt none (hp D (f_X12_hourGoes_2 n x1 s l).1 (f_X12_hourGoes_2 n x1 s l).2)) := by
  intro n
  induction n with
  | zero => intro x1 s l hk; exact hk.elim
  | succ n ih =>
    intro x1 s l hk
    generalize he : f_X12_hourGoes_2 (n + 1) x1 s l = res
    unfold f_X12_hourGoes_2 at he
    unfold p_X12_hourGoes_2 at hk
    refine r_iload_n rfl rfl ?_
    refine r_aload_n rfl rfl ?_
    refine q_getfield rfl (cc_60 _) rfl ?_
    refine r_aload_n rfl rfl ?_
    refine q_getfield rfl (cc_60 _) rfl ?_
    obtain ⟨hb0, hk⟩ := hk
    refine q_iald rfl (cc_74 _) hb0 ?_
    refine r_icmp_ge rfl (fun c_12 => ?_) (fun c_12 => ?_)
    · rw [if_pos c_12] at he
      replace hk := hk.1 c_12
      refine r_iconst_ (a := 0) rfl (by decide) ?_
      refine r_istore_n rfl (Nat.le_of_ble_eq_true rfl) rfl ?_
      subst he
      exact r_weak (L1 := [some (.ref 60), some (.int (0 : Int32))]) ⟨rfl, rfl, trivial⟩ (lp_X12_hourGoes_28 fu _ _ _ hk)
    · rw [if_neg c_12] at he
      replace hk := hk.2 c_12
      refine r_aload_n rfl rfl ?_
      refine r_iload_n rfl rfl ?_
      obtain ⟨hb4, hk⟩ := hk
      refine q_callV0 [_] _ rfl kY_X12_pickerGoes kT_X12_pickerGoes rfl rfl (Nat.le_of_ble_eq_true rfl) (Nat.le_of_ble_eq_true rfl) (cc_60 _) (s_X12_pickerGoes hb4) (fun r h q => ?_)
      obtain ⟨rfl, rfl⟩ := q
      simp only [Option.toList, List.cons_append, List.nil_append]
      refine r_iinc (b := x1 + 1) rfl rfl rfl (Nat.le_of_ble_eq_true rfl) rfl ?_
      refine r_goto rfl ?_
      subst he
      exact r_weak (L1 := [some (.ref 60), some (.int (x1 + 1))]) ⟨rfl, rfl, trivial⟩ (ih _ _ _ hk)

def f_X12_hourGoes (s : fl_I) (l : fl_L) : fl_I × fl_L :=
  f_X12_hourGoes_2 fu (0 : Int32) s l

def p_X12_hourGoes (s : fl_I) (l : fl_L) : Prop :=
  p_X12_hourGoes_2 fu (0 : Int32) s l

set_option maxRecDepth 100000 in
set_option maxHeartbeats 4000000 in
theorem s_X12_hourGoes {G : ab_G} {d : Nat} {D : fl_D} {s : fl_I} {l : fl_L}  (hk : p_X12_hourGoes s l) : ab_C G (d + 5) 0 0 M_X12_hourGoes 0 (ab_ent [.ref 60]) [] (hp D s l) (rt none (hp D (f_X12_hourGoes s l).1 (f_X12_hourGoes s l).2)) := by
  generalize he : (f_X12_hourGoes s l) = res
  unfold f_X12_hourGoes at he
  unfold p_X12_hourGoes at hk
  refine r_weak (L1 := [some (.ref 60), none]) ⟨rfl, trivial⟩ ?_
  refine r_iconst_ (a := 0) rfl (by decide) ?_
  refine r_istore_n rfl (Nat.le_of_ble_eq_true rfl) rfl ?_
  subst he
  exact r_weak (L1 := [some (.ref 60), some (.int (0 : Int32))]) ⟨rfl, rfl, trivial⟩ (lp_X12_hourGoes_2 fu _ _ _ hk)

def f_X3_fill_32 : Nat → Int32 → Int32 → Nat → fl_I → fl_L → Int32 × fl_I × fl_L
  | 0, x3, x4, t, s, l => (0, s, l)
  | n + 1, x3, x4, t, s, l =>
    if ((400 : Int32) < x4) then if ((s 3 3) = 0) then if ((s 3 4) = 0) then ((s 3 3), s, l) else (((wi (wi s 3 3 (s 3 4)) 3 0 ((wi s 3 3 (s 3 4)) 3 5)) 3 3), (wi (wi s 3 3 (s 3 4)) 3 0 ((wi s 3 3 (s 3 4)) 3 5)), l) else ((s 3 3), s, l) else if (x3 = 0) then if ((s 3 3) = 0) then if ((s 3 4) = 0) then ((s 3 3), s, l) else (((wi (wi s 3 3 (s 3 4)) 3 0 ((wi s 3 3 (s 3 4)) 3 5)) 3 3), (wi (wi s 3 3 (s 3 4)) 3 0 ((wi s 3 3 (s 3 4)) 3 5)), l) else ((s 3 3), s, l) else if ((f_X3_kindNow s l) = 0) then if ((s 3 3) = 0) then if ((s 3 4) = 0) then ((s 3 3), s, l) else (((wi (wi s 3 3 (s 3 4)) 3 0 ((wi s 3 3 (s 3 4)) 3 5)) 3 3), (wi (wi s 3 3 (s 3 4)) 3 0 ((wi s 3 3 (s 3 4)) 3 5)), l) else ((s 3 3), s, l) else if (((f_X3_kindNow s l) - (259 : Int32)) < 0) then f_X3_fill_32 n (f_X3_plainTold t s l).1 (x4 + 1) t (f_X3_plainTold t s l).2.1 (f_X3_plainTold t s l).2.2 else if ((3 : Int32) ≤ ((f_X3_kindNow s l) - (259 : Int32))) then f_X3_fill_32 n (f_X3_plainTold t s l).1 (x4 + 1) t (f_X3_plainTold t s l).2.1 (f_X3_plainTold t s l).2.2 else f_X3_fill_32 n (f_X3_lawTold ((f_X3_kindNow s l) - (259 : Int32)) t s l).1 (x4 + 1) t (f_X3_lawTold ((f_X3_kindNow s l) - (259 : Int32)) t s l).2.1 (f_X3_lawTold ((f_X3_kindNow s l) - (259 : Int32)) t s l).2.2

def p_X3_fill_32 : Nat → Int32 → Int32 → Nat → fl_I → fl_L → Prop
  | 0, _, _, _, _, _ => False
  | n + 1, x3, x4, t, s, l =>
    ((((400 : Int32) < x4) → ((((s 3 3) = 0) → ((((s 3 4) = 0) → True) ∧ (¬ ((s 3 4) = 0) → True))) ∧ (¬ ((s 3 3) = 0) → True))) ∧ (¬ ((400 : Int32) < x4) → (((x3 = 0) → ((((s 3 3) = 0) → ((((s 3 4) = 0) → True) ∧ (¬ ((s 3 4) = 0) → True))) ∧ (¬ ((s 3 3) = 0) → True))) ∧ (¬ (x3 = 0) → (p_X3_kindNow s l) ∧ ((((f_X3_kindNow s l) = 0) → ((((s 3 3) = 0) → ((((s 3 4) = 0) → True) ∧ (¬ ((s 3 4) = 0) → True))) ∧ (¬ ((s 3 3) = 0) → True))) ∧ (¬ ((f_X3_kindNow s l) = 0) → (p_X3_kindNow s l) ∧ (((((f_X3_kindNow s l) - (259 : Int32)) < 0) → (p_X3_plainTold t s l) ∧ p_X3_fill_32 n (f_X3_plainTold t s l).1 (x4 + 1) t (f_X3_plainTold t s l).2.1 (f_X3_plainTold t s l).2.2) ∧ (¬ (((f_X3_kindNow s l) - (259 : Int32)) < 0) → ((((3 : Int32) ≤ ((f_X3_kindNow s l) - (259 : Int32))) → (p_X3_plainTold t s l) ∧ p_X3_fill_32 n (f_X3_plainTold t s l).1 (x4 + 1) t (f_X3_plainTold t s l).2.1 (f_X3_plainTold t s l).2.2) ∧ (¬ ((3 : Int32) ≤ ((f_X3_kindNow s l) - (259 : Int32))) → (p_X3_lawTold ((f_X3_kindNow s l) - (259 : Int32)) t s l) ∧ p_X3_fill_32 n (f_X3_lawTold ((f_X3_kindNow s l) - (259 : Int32)) t s l).1 (x4 + 1) t (f_X3_lawTold ((f_X3_kindNow s l) - (259 : Int32)) t s l).2.1 (f_X3_lawTold ((f_X3_kindNow s l) - (259 : Int32)) t s l).2.2))))))))))

set_option maxRecDepth 100000 in
set_option maxHeartbeats 4000000 in
theorem lp_X3_fill_32 {G : ab_G} {d : Nat} {D : fl_D} {t : Nat} (htt : isT t) : ∀ (n : Nat) (x3 : Int32) (x4 : Int32) (s : fl_I) (l : fl_L), p_X3_fill_32 n x3 x4 t s l → ab_C G (d + 35) 0 0 M_X3_fill 32 [some (.ref 3), some (.ref t), none, some (.int x3), some (.int x4), none] [] (hp D s l) (rt (some (.int (f_X3_fill_32 n x3 x4 t s l).1)) (hp D (f_X3_fill_32 n x3 x4 t s l).2.1 (f_X3_fill_32 n x3 x4 t s l).2.2)) := by
  intro n
  induction n with
  | zero => intro x3 x4 s l hk; exact hk.elim
  | succ n ih =>
    intro x3 x4 s l hk
    generalize he : f_X3_fill_32 (n + 1) x3 x4 t s l = res
    unfold f_X3_fill_32 at he
    unfold p_X3_fill_32 at hk
    refine r_iload rfl rfl ?_
    refine r_sipush_ (a := 400) rfl (by decide) ?_
    refine r_icmp_gt rfl (fun c_37 => ?_) (fun c_37 => ?_)
    · rw [if_pos c_37] at he
      replace hk := hk.1 c_37
      refine r_aload_n rfl rfl ?_
      refine q_getfield rfl (cc_3 _) rfl ?_
      refine r_if_ne rfl (fun c_98 => ?_) (fun c_98 => ?_)
      · rw [if_neg c_98] at he
        replace hk := hk.2 c_98
        refine r_aload_n rfl rfl ?_
        refine q_getfield rfl (cc_3 _) rfl ?_
        refine r_iret rfl rfl rfl ?_
        subst he
        exact ⟨rfl, rfl⟩
      · rw [if_pos c_98] at he
        replace hk := hk.1 c_98
        refine r_aload_n rfl rfl ?_
        refine q_getfield rfl (cc_3 _) rfl ?_
        refine r_if_eq rfl (fun c_105 => ?_) (fun c_105 => ?_)
        · rw [if_pos c_105] at he
          replace hk := hk.1 c_105
          refine r_aload_n rfl rfl ?_
          refine q_getfield rfl (cc_3 _) rfl ?_
          refine r_iret rfl rfl rfl ?_
          subst he
          exact ⟨rfl, rfl⟩
        · rw [if_neg c_105] at he
          replace hk := hk.2 c_105
          refine r_aload_n rfl rfl ?_
          refine r_aload_n rfl rfl ?_
          refine q_getfield rfl (cc_3 _) rfl ?_
          refine w_put rfl (cc_3 _) ff_3_3 ft_3_3 (Nat.le_of_ble_eq_true rfl) rfl ?_
          refine r_aload_n rfl rfl ?_
          refine r_aload_n rfl rfl ?_
          refine q_getfield rfl (cc_3 _) rfl ?_
          refine w_put rfl (cc_3 _) ff_3_0 ft_3_0 (Nat.le_of_ble_eq_true rfl) rfl ?_
          refine r_aload_n rfl rfl ?_
          refine q_getfield rfl (cc_3 _) rfl ?_
          refine r_iret rfl rfl rfl ?_
          subst he
          exact ⟨rfl, rfl⟩
    · rw [if_neg c_37] at he
      replace hk := hk.2 c_37
      refine r_iload_n rfl rfl ?_
      refine r_if_eq rfl (fun c_41 => ?_) (fun c_41 => ?_)
      · rw [if_pos c_41] at he
        replace hk := hk.1 c_41
        refine r_aload_n rfl rfl ?_
        refine q_getfield rfl (cc_3 _) rfl ?_
        refine r_if_ne rfl (fun c_98 => ?_) (fun c_98 => ?_)
        · rw [if_neg c_98] at he
          replace hk := hk.2 c_98
          refine r_aload_n rfl rfl ?_
          refine q_getfield rfl (cc_3 _) rfl ?_
          refine r_iret rfl rfl rfl ?_
          subst he
          exact ⟨rfl, rfl⟩
        · rw [if_pos c_98] at he
          replace hk := hk.1 c_98
          refine r_aload_n rfl rfl ?_
          refine q_getfield rfl (cc_3 _) rfl ?_
          refine r_if_eq rfl (fun c_105 => ?_) (fun c_105 => ?_)
          · rw [if_pos c_105] at he
            replace hk := hk.1 c_105
            refine r_aload_n rfl rfl ?_
            refine q_getfield rfl (cc_3 _) rfl ?_
            refine r_iret rfl rfl rfl ?_
            subst he
            exact ⟨rfl, rfl⟩
          · rw [if_neg c_105] at he
            replace hk := hk.2 c_105
            refine r_aload_n rfl rfl ?_
            refine r_aload_n rfl rfl ?_
            refine q_getfield rfl (cc_3 _) rfl ?_
            refine w_put rfl (cc_3 _) ff_3_3 ft_3_3 (Nat.le_of_ble_eq_true rfl) rfl ?_
            refine r_aload_n rfl rfl ?_
            refine r_aload_n rfl rfl ?_
            refine q_getfield rfl (cc_3 _) rfl ?_
            refine w_put rfl (cc_3 _) ff_3_0 ft_3_0 (Nat.le_of_ble_eq_true rfl) rfl ?_
            refine r_aload_n rfl rfl ?_
            refine q_getfield rfl (cc_3 _) rfl ?_
            refine r_iret rfl rfl rfl ?_
            subst he
            exact ⟨rfl, rfl⟩
      · rw [if_neg c_41] at he
        replace hk := hk.2 c_41
        refine r_aload_n rfl rfl ?_
        obtain ⟨hb2, hk⟩ := hk
        refine q_callV0 [] _ rfl kY_X3_kindNow kT_X3_kindNow rfl rfl (Nat.le_of_ble_eq_true rfl) (Nat.le_of_ble_eq_true rfl) (cc_3 _) (s_X3_kindNow hb2) (fun r h q => ?_)
        obtain ⟨rfl, rfl⟩ := q
        simp only [Option.toList, List.cons_append, List.nil_append]
        refine r_if_eq rfl (fun c_48 => ?_) (fun c_48 => ?_)
        · rw [if_pos c_48] at he
          replace hk := hk.1 c_48
          refine r_aload_n rfl rfl ?_
          refine q_getfield rfl (cc_3 _) rfl ?_
          refine r_if_ne rfl (fun c_98 => ?_) (fun c_98 => ?_)
          · rw [if_neg c_98] at he
            replace hk := hk.2 c_98
            refine r_aload_n rfl rfl ?_
            refine q_getfield rfl (cc_3 _) rfl ?_
            refine r_iret rfl rfl rfl ?_
            subst he
            exact ⟨rfl, rfl⟩
          · rw [if_pos c_98] at he
            replace hk := hk.1 c_98
            refine r_aload_n rfl rfl ?_
            refine q_getfield rfl (cc_3 _) rfl ?_
            refine r_if_eq rfl (fun c_105 => ?_) (fun c_105 => ?_)
            · rw [if_pos c_105] at he
              replace hk := hk.1 c_105
              refine r_aload_n rfl rfl ?_
              refine q_getfield rfl (cc_3 _) rfl ?_
              refine r_iret rfl rfl rfl ?_
              subst he
              exact ⟨rfl, rfl⟩
            · rw [if_neg c_105] at he
              replace hk := hk.2 c_105
              refine r_aload_n rfl rfl ?_
              refine r_aload_n rfl rfl ?_
              refine q_getfield rfl (cc_3 _) rfl ?_
              refine w_put rfl (cc_3 _) ff_3_3 ft_3_3 (Nat.le_of_ble_eq_true rfl) rfl ?_
              refine r_aload_n rfl rfl ?_
              refine r_aload_n rfl rfl ?_
              refine q_getfield rfl (cc_3 _) rfl ?_
              refine w_put rfl (cc_3 _) ff_3_0 ft_3_0 (Nat.le_of_ble_eq_true rfl) rfl ?_
              refine r_aload_n rfl rfl ?_
              refine q_getfield rfl (cc_3 _) rfl ?_
              refine r_iret rfl rfl rfl ?_
              subst he
              exact ⟨rfl, rfl⟩
        · rw [if_neg c_48] at he
          replace hk := hk.2 c_48
          refine r_aload_n rfl rfl ?_
          obtain ⟨hb3, hk⟩ := hk
          refine q_callV0 [] _ rfl kY_X3_kindNow kT_X3_kindNow rfl rfl (Nat.le_of_ble_eq_true rfl) (Nat.le_of_ble_eq_true rfl) (cc_3 _) (s_X3_kindNow hb3) (fun r h q => ?_)
          obtain ⟨rfl, rfl⟩ := q
          simp only [Option.toList, List.cons_append, List.nil_append]
          refine r_sipush_ (a := 259) rfl (by decide) ?_
          refine r_isub rfl ?_
          refine r_istore rfl (Nat.le_of_ble_eq_true rfl) rfl ?_
          refine r_iload rfl rfl ?_
          refine r_if_lt rfl (fun c_63 => ?_) (fun c_63 => ?_)
          · rw [if_pos c_63] at he
            replace hk := hk.1 c_63
            refine r_aload_n rfl rfl ?_
            refine r_aload_n rfl rfl ?_
            obtain ⟨hb4, hk⟩ := hk
            refine q_callV0 [_] _ rfl kY_X3_plainTold kT_X3_plainTold rfl rfl (Nat.le_of_ble_eq_true rfl) (Nat.le_of_ble_eq_true rfl) (cc_3 _) (s_X3_plainTold htt hb4) (fun r h q => ?_)
            obtain ⟨rfl, rfl⟩ := q
            simp only [Option.toList, List.cons_append, List.nil_append]
            refine r_istore_n rfl (Nat.le_of_ble_eq_true rfl) rfl ?_
            refine r_iinc (b := x4 + 1) rfl rfl rfl (Nat.le_of_ble_eq_true rfl) rfl ?_
            refine r_goto rfl ?_
            subst he
            exact r_weak (L1 := [some (.ref 3), some (.ref t), none, some (.int (f_X3_plainTold t s l).1), some (.int (x4 + 1)), none]) ⟨rfl, rfl, rfl, rfl, trivial⟩ (ih _ _ _ _ hk)
          · rw [if_neg c_63] at he
            replace hk := hk.2 c_63
            refine r_iload rfl rfl ?_
            refine r_iconst_ (a := 3) rfl (by decide) ?_
            refine r_icmp_ge rfl (fun c_69 => ?_) (fun c_69 => ?_)
            · rw [if_pos c_69] at he
              replace hk := hk.1 c_69
              refine r_aload_n rfl rfl ?_
              refine r_aload_n rfl rfl ?_
              obtain ⟨hb5, hk⟩ := hk
              refine q_callV0 [_] _ rfl kY_X3_plainTold kT_X3_plainTold rfl rfl (Nat.le_of_ble_eq_true rfl) (Nat.le_of_ble_eq_true rfl) (cc_3 _) (s_X3_plainTold htt hb5) (fun r h q => ?_)
              obtain ⟨rfl, rfl⟩ := q
              simp only [Option.toList, List.cons_append, List.nil_append]
              refine r_istore_n rfl (Nat.le_of_ble_eq_true rfl) rfl ?_
              refine r_iinc (b := x4 + 1) rfl rfl rfl (Nat.le_of_ble_eq_true rfl) rfl ?_
              refine r_goto rfl ?_
              subst he
              exact r_weak (L1 := [some (.ref 3), some (.ref t), none, some (.int (f_X3_plainTold t s l).1), some (.int (x4 + 1)), none]) ⟨rfl, rfl, rfl, rfl, trivial⟩ (ih _ _ _ _ hk)
            · rw [if_neg c_69] at he
              replace hk := hk.2 c_69
              refine r_aload_n rfl rfl ?_
              refine r_aload_n rfl rfl ?_
              refine r_iload rfl rfl ?_
              obtain ⟨hb6, hk⟩ := hk
              refine q_callV0 [_, _] _ rfl kY_X3_lawTold kT_X3_lawTold rfl rfl (Nat.le_of_ble_eq_true rfl) (Nat.le_of_ble_eq_true rfl) (cc_3 _) (s_X3_lawTold htt hb6) (fun r h q => ?_)
              obtain ⟨rfl, rfl⟩ := q
              simp only [Option.toList, List.cons_append, List.nil_append]
              refine r_goto rfl ?_
              refine r_istore_n rfl (Nat.le_of_ble_eq_true rfl) rfl ?_
              refine r_iinc (b := x4 + 1) rfl rfl rfl (Nat.le_of_ble_eq_true rfl) rfl ?_
              refine r_goto rfl ?_
              subst he
              exact r_weak (L1 := [some (.ref 3), some (.ref t), none, some (.int (f_X3_lawTold ((f_X3_kindNow s l) - (259 : Int32)) t s l).1), some (.int (x4 + 1)), none]) ⟨rfl, rfl, rfl, rfl, trivial⟩ (ih _ _ _ _ hk)

def f_X3_fill (t : Nat) (s : fl_I) (l : fl_L) : Int32 × fl_I × fl_L :=
  f_X3_fill_32 fu (1 : Int32) (0 : Int32) t (f_X6_split (wi (wi (wi (f_X5_clear t s l).1 3 2 (0 : Int32)) 3 3 (0 : Int32)) 3 4 (0 : Int32)) (f_X5_clear t s l).2).1 (f_X6_split (wi (wi (wi (f_X5_clear t s l).1 3 2 (0 : Int32)) 3 3 (0 : Int32)) 3 4 (0 : Int32)) (f_X5_clear t s l).2).2

def p_X3_fill (t : Nat) (s : fl_I) (l : fl_L) : Prop :=
  (p_X5_clear t s l) ∧ (p_X6_split (wi (wi (wi (f_X5_clear t s l).1 3 2 (0 : Int32)) 3 3 (0 : Int32)) 3 4 (0 : Int32)) (f_X5_clear t s l).2) ∧ p_X3_fill_32 fu (1 : Int32) (0 : Int32) t (f_X6_split (wi (wi (wi (f_X5_clear t s l).1 3 2 (0 : Int32)) 3 3 (0 : Int32)) 3 4 (0 : Int32)) (f_X5_clear t s l).2).1 (f_X6_split (wi (wi (wi (f_X5_clear t s l).1 3 2 (0 : Int32)) 3 3 (0 : Int32)) 3 4 (0 : Int32)) (f_X5_clear t s l).2).2

set_option maxRecDepth 100000 in
set_option maxHeartbeats 4000000 in
theorem s_X3_fill {G : ab_G} {d : Nat} {D : fl_D} {s : fl_I} {l : fl_L} {t : Nat} (htt : isT t)  (hk : p_X3_fill t s l) : ab_C G (d + 35) 0 0 M_X3_fill 0 (ab_ent [.ref 3, .ref t, .ref 1]) [] (hp D s l) (rt (some (.int (f_X3_fill t s l).1)) (hp D (f_X3_fill t s l).2.1 (f_X3_fill t s l).2.2)) := by
  generalize he : (f_X3_fill t s l) = res
  unfold f_X3_fill at he
  unfold p_X3_fill at hk
  refine r_weak (L1 := [some (.ref 3), some (.ref t), some (.ref 1), none, none, none]) ⟨rfl, rfl, rfl, trivial⟩ ?_
  refine r_aload_n rfl rfl ?_
  obtain ⟨hb0, hk⟩ := hk
  refine q_callV0 [] _ rfl kY_X5_clear kT_X5_clear rfl rfl (Nat.le_of_ble_eq_true rfl) (Nat.le_of_ble_eq_true rfl) (cT_0 htt) (s_X5_clear htt hb0) (fun r h q => ?_)
  obtain ⟨rfl, rfl⟩ := q
  simp only [Option.toList, List.cons_append, List.nil_append]
  refine r_aload_n rfl rfl ?_
  refine r_iconst_ (a := 0) rfl (by decide) ?_
  refine w_put rfl (cc_3 _) ff_3_2 ft_3_2 (Nat.le_of_ble_eq_true rfl) rfl ?_
  refine r_aload_n rfl rfl ?_
  refine r_iconst_ (a := 0) rfl (by decide) ?_
  refine w_put rfl (cc_3 _) ff_3_3 ft_3_3 (Nat.le_of_ble_eq_true rfl) rfl ?_
  refine r_aload_n rfl rfl ?_
  refine r_iconst_ (a := 0) rfl (by decide) ?_
  refine w_put rfl (cc_3 _) ff_3_4 ft_3_4 (Nat.le_of_ble_eq_true rfl) rfl ?_
  refine r_aload_n rfl rfl ?_
  refine q_getfield rfl (cc_3 _) rfl ?_
  refine r_aload_n rfl rfl ?_
  obtain ⟨hb1, hk⟩ := hk
  refine q_callV0 [_] _ rfl kY_X6_split kT_X6_split rfl rfl (Nat.le_of_ble_eq_true rfl) (Nat.le_of_ble_eq_true rfl) (cc_4 _) (s_X6_split hb1) (fun r h q => ?_)
  obtain ⟨rfl, rfl⟩ := q
  simp only [Option.toList, List.cons_append, List.nil_append]
  refine r_iconst_ (a := 1) rfl (by decide) ?_
  refine r_istore_n rfl (Nat.le_of_ble_eq_true rfl) rfl ?_
  refine r_iconst_ (a := 0) rfl (by decide) ?_
  refine r_istore rfl (Nat.le_of_ble_eq_true rfl) rfl ?_
  subst he
  exact r_weak (L1 := [some (.ref 3), some (.ref t), none, some (.int (1 : Int32)), some (.int (0 : Int32)), none]) ⟨rfl, rfl, rfl, rfl, trivial⟩ (lp_X3_fill_32 htt fu _ _ _ _ hk)

def f_X12_picker (v0 : Int32) (v1 : Int32) (s : fl_I) (l : fl_L) : Int32 × fl_I × fl_L :=
  if ((f_X12_isPicker v0 s l) = 0) then ((-1 : Int32), s, l) else if (v1 = 0) then (((f_X12_copies s l).1 95 ((128 : Int32) + v0).toNatClampNeg), (f_X12_copies s l).1, (f_X12_copies s l).2) else if (v1 = 1) then (((f_X12_copies s l).1 95 ((132 : Int32) + v0).toNatClampNeg), (f_X12_copies s l).1, (f_X12_copies s l).2) else if (v1 = 2) then (((f_X12_copies s l).1 78 (((4 : Int32) * ((f_X12_copies s l).1 60 18)) + v0).toNatClampNeg), (f_X12_copies s l).1, (f_X12_copies s l).2) else if (v1 = 3) then ((f_X12_inHat v0 (f_X12_copies s l).1 (f_X12_copies s l).2), (f_X12_copies s l).1, (f_X12_copies s l).2) else if (v1 = 4) then if (0 ≤ ((f_X12_copies s l).1 95 ((136 : Int32) + v0).toNatClampNeg)) then ((((f_X12_copies s l).1 95 ((136 : Int32) + v0).toNatClampNeg) - ((f_X12_copies s l).1 95 ((136 : Int32) + v0).toNatClampNeg) / (10 : Int32) * (10 : Int32)), (f_X12_copies s l).1, (f_X12_copies s l).2) else ((-2 : Int32), (f_X12_copies s l).1, (f_X12_copies s l).2) else if (v1 = 5) then if (0 ≤ ((f_X12_copies s l).1 95 ((136 : Int32) + v0).toNatClampNeg)) then ((((f_X12_copies s l).1 95 ((136 : Int32) + v0).toNatClampNeg) / (10 : Int32)), (f_X12_copies s l).1, (f_X12_copies s l).2) else ((-2 : Int32), (f_X12_copies s l).1, (f_X12_copies s l).2) else if (v1 = 6) then ((f_X12_owedTo v0 (f_X12_copies s l).1 (f_X12_copies s l).2).1, (f_X12_owedTo v0 (f_X12_copies s l).1 (f_X12_copies s l).2).2.1, (f_X12_owedTo v0 (f_X12_copies s l).1 (f_X12_copies s l).2).2.2) else ((-1 : Int32), (f_X12_copies s l).1, (f_X12_copies s l).2)

def p_X12_picker (v0 : Int32) (v1 : Int32) (s : fl_I) (l : fl_L) : Prop :=
  (p_X12_isPicker v0 s l) ∧ ((((f_X12_isPicker v0 s l) = 0) → True) ∧ (¬ ((f_X12_isPicker v0 s l) = 0) → (p_X12_copies s l) ∧ (vp_in ((136 : Int32) + v0) 141) ∧ (((v1 = 0) → (vp_in ((128 : Int32) + v0) 141) ∧ True) ∧ (¬ (v1 = 0) → (((v1 = 1) → (vp_in ((132 : Int32) + v0) 141) ∧ True) ∧ (¬ (v1 = 1) → (((v1 = 2) → (vp_in (((4 : Int32) * ((f_X12_copies s l).1 60 18)) + v0) 8) ∧ True) ∧ (¬ (v1 = 2) → (((v1 = 3) → (p_X12_inHat v0 (f_X12_copies s l).1 (f_X12_copies s l).2) ∧ True) ∧ (¬ (v1 = 3) → (((v1 = 4) → (((0 ≤ ((f_X12_copies s l).1 95 ((136 : Int32) + v0).toNatClampNeg)) → True) ∧ (¬ (0 ≤ ((f_X12_copies s l).1 95 ((136 : Int32) + v0).toNatClampNeg)) → True))) ∧ (¬ (v1 = 4) → (((v1 = 5) → (((0 ≤ ((f_X12_copies s l).1 95 ((136 : Int32) + v0).toNatClampNeg)) → True) ∧ (¬ (0 ≤ ((f_X12_copies s l).1 95 ((136 : Int32) + v0).toNatClampNeg)) → True))) ∧ (¬ (v1 = 5) → (((v1 = 6) → (p_X12_owedTo v0 (f_X12_copies s l).1 (f_X12_copies s l).2) ∧ True) ∧ (¬ (v1 = 6) → True))))))))))))))))

set_option maxRecDepth 100000 in
set_option maxHeartbeats 4000000 in
theorem s_X12_picker {G : ab_G} {d : Nat} {D : fl_D} {s : fl_I} {l : fl_L} {v0 : Int32} {v1 : Int32} (hk : p_X12_picker v0 v1 s l) : ab_C G (d + 4) 0 0 M_X12_picker 0 (ab_ent [.ref 60, .int v0, .int v1]) [] (hp D s l) (rt (some (.int (f_X12_picker v0 v1 s l).1)) (hp D (f_X12_picker v0 v1 s l).2.1 (f_X12_picker v0 v1 s l).2.2)) := by
  generalize he : (f_X12_picker v0 v1 s l) = res
  unfold f_X12_picker at he
  unfold p_X12_picker at hk
  refine r_weak (L1 := [some (.ref 60), some (.int v0), some (.int v1), none]) ⟨rfl, rfl, rfl, trivial⟩ ?_
  refine r_aload_n rfl rfl ?_
  refine r_iload_n rfl rfl ?_
  obtain ⟨hb0, hk⟩ := hk
  refine q_callV0 [_] _ rfl kY_X12_isPicker kT_X12_isPicker rfl rfl (Nat.le_of_ble_eq_true rfl) (Nat.le_of_ble_eq_true rfl) (cc_60 _) (s_X12_isPicker hb0) (fun r h q => ?_)
  obtain ⟨rfl, rfl⟩ := q
  simp only [Option.toList, List.cons_append, List.nil_append]
  refine r_if_ne rfl (fun c_5 => ?_) (fun c_5 => ?_)
  · rw [if_neg c_5] at he
    replace hk := hk.2 c_5
    refine r_aload_n rfl rfl ?_
    obtain ⟨hb1, hk⟩ := hk
    refine q_callV0 [] _ rfl kY_X12_copies kT_X12_copies rfl rfl (Nat.le_of_ble_eq_true rfl) (Nat.le_of_ble_eq_true rfl) (cc_60 _) (s_X12_copies hb1) (fun r h q => ?_)
    obtain ⟨rfl, rfl⟩ := q
    simp only [Option.toList, List.cons_append, List.nil_append]
    refine r_aload_n rfl rfl ?_
    refine q_getfield rfl (cc_60 _) rfl ?_
    refine r_sipush_ (a := 136) rfl (by decide) ?_
    refine r_iload_n rfl rfl ?_
    refine r_iadd rfl ?_
    obtain ⟨hb2, hk⟩ := hk
    refine q_iald rfl (cc_95 _) hb2 ?_
    refine r_istore_n rfl (Nat.le_of_ble_eq_true rfl) rfl ?_
    refine r_iload_n rfl rfl ?_
    by_cases c_26_0 : (v1 = 0)
    · rw [if_pos c_26_0] at he
      replace hk := hk.1 c_26_0
      refine r_tableIn (tgt := 68) rfl (by rw [c_26_0]; decide) (by rw [c_26_0]; decide) (by rw [c_26_0]; rfl) (by decide) ?_
      refine r_aload_n rfl rfl ?_
      refine q_getfield rfl (cc_60 _) rfl ?_
      refine r_sipush_ (a := 128) rfl (by decide) ?_
      refine r_iload_n rfl rfl ?_
      refine r_iadd rfl ?_
      obtain ⟨hb3, hk⟩ := hk
      refine q_iald rfl (cc_95 _) hb3 ?_
      refine r_iret rfl rfl rfl ?_
      subst he
      exact ⟨rfl, rfl⟩
    · rw [if_neg c_26_0] at he
      replace hk := hk.2 c_26_0
      by_cases c_26_1 : (v1 = 1)
      · rw [if_pos c_26_1] at he
        replace hk := hk.1 c_26_1
        refine r_tableIn (tgt := 79) rfl (by rw [c_26_1]; decide) (by rw [c_26_1]; decide) (by rw [c_26_1]; rfl) (by decide) ?_
        refine r_aload_n rfl rfl ?_
        refine q_getfield rfl (cc_60 _) rfl ?_
        refine r_sipush_ (a := 132) rfl (by decide) ?_
        refine r_iload_n rfl rfl ?_
        refine r_iadd rfl ?_
        obtain ⟨hb4, hk⟩ := hk
        refine q_iald rfl (cc_95 _) hb4 ?_
        refine r_iret rfl rfl rfl ?_
        subst he
        exact ⟨rfl, rfl⟩
      · rw [if_neg c_26_1] at he
        replace hk := hk.2 c_26_1
        by_cases c_26_2 : (v1 = 2)
        · rw [if_pos c_26_2] at he
          replace hk := hk.1 c_26_2
          refine r_tableIn (tgt := 90) rfl (by rw [c_26_2]; decide) (by rw [c_26_2]; decide) (by rw [c_26_2]; rfl) (by decide) ?_
          refine r_aload_n rfl rfl ?_
          refine q_getfield rfl (cc_60 _) rfl ?_
          refine r_iconst_ (a := 4) rfl (by decide) ?_
          refine r_aload_n rfl rfl ?_
          refine q_getfield rfl (cc_60 _) rfl ?_
          refine r_imul rfl ?_
          refine r_iload_n rfl rfl ?_
          refine r_iadd rfl ?_
          obtain ⟨hb5, hk⟩ := hk
          refine q_iald rfl (cc_78 _) hb5 ?_
          refine r_iret rfl rfl rfl ?_
          subst he
          exact ⟨rfl, rfl⟩
        · rw [if_neg c_26_2] at he
          replace hk := hk.2 c_26_2
          by_cases c_26_3 : (v1 = 3)
          · rw [if_pos c_26_3] at he
            replace hk := hk.1 c_26_3
            refine r_tableIn (tgt := 104) rfl (by rw [c_26_3]; decide) (by rw [c_26_3]; decide) (by rw [c_26_3]; rfl) (by decide) ?_
            refine r_aload_n rfl rfl ?_
            refine r_iload_n rfl rfl ?_
            obtain ⟨hb6, hk⟩ := hk
            refine q_callV0 [_] _ rfl kY_X12_inHat kT_X12_inHat rfl rfl (Nat.le_of_ble_eq_true rfl) (Nat.le_of_ble_eq_true rfl) (cc_60 _) (s_X12_inHat hb6) (fun r h q => ?_)
            obtain ⟨rfl, rfl⟩ := q
            simp only [Option.toList, List.cons_append, List.nil_append]
            refine r_iret rfl rfl rfl ?_
            subst he
            exact ⟨rfl, rfl⟩
          · rw [if_neg c_26_3] at he
            replace hk := hk.2 c_26_3
            by_cases c_26_4 : (v1 = 4)
            · rw [if_pos c_26_4] at he
              replace hk := hk.1 c_26_4
              refine r_tableIn (tgt := 110) rfl (by rw [c_26_4]; decide) (by rw [c_26_4]; decide) (by rw [c_26_4]; rfl) (by decide) ?_
              refine r_iload_n rfl rfl ?_
              refine r_if_ge rfl (fun c_111 => ?_) (fun c_111 => ?_)
              · rw [if_pos c_111] at he
                replace hk := hk.1 c_111
                refine r_iload_n rfl rfl ?_
                refine r_bipush_ (a := 10) rfl (by decide) ?_
                refine r_irem rfl (by decide) ?_
                refine r_iret rfl rfl rfl ?_
                subst he
                exact ⟨rfl, rfl⟩
              · rw [if_neg c_111] at he
                replace hk := hk.2 c_111
                refine r_bipush_ (a := -2) rfl (by decide) ?_
                refine r_goto rfl ?_
                refine r_iret rfl rfl rfl ?_
                subst he
                exact ⟨rfl, rfl⟩
            · rw [if_neg c_26_4] at he
              replace hk := hk.2 c_26_4
              by_cases c_26_5 : (v1 = 5)
              · rw [if_pos c_26_5] at he
                replace hk := hk.1 c_26_5
                refine r_tableIn (tgt := 124) rfl (by rw [c_26_5]; decide) (by rw [c_26_5]; decide) (by rw [c_26_5]; rfl) (by decide) ?_
                refine r_iload_n rfl rfl ?_
                refine r_if_ge rfl (fun c_125 => ?_) (fun c_125 => ?_)
                · rw [if_pos c_125] at he
                  replace hk := hk.1 c_125
                  refine r_iload_n rfl rfl ?_
                  refine r_bipush_ (a := 10) rfl (by decide) ?_
                  refine r_idiv rfl (by decide) ?_
                  refine r_iret rfl rfl rfl ?_
                  subst he
                  exact ⟨rfl, rfl⟩
                · rw [if_neg c_125] at he
                  replace hk := hk.2 c_125
                  refine r_bipush_ (a := -2) rfl (by decide) ?_
                  refine r_goto rfl ?_
                  refine r_iret rfl rfl rfl ?_
                  subst he
                  exact ⟨rfl, rfl⟩
              · rw [if_neg c_26_5] at he
                replace hk := hk.2 c_26_5
                by_cases c_26_6 : (v1 = 6)
                · rw [if_pos c_26_6] at he
                  replace hk := hk.1 c_26_6
                  refine r_tableIn (tgt := 138) rfl (by rw [c_26_6]; decide) (by rw [c_26_6]; decide) (by rw [c_26_6]; rfl) (by decide) ?_
                  refine r_aload_n rfl rfl ?_
                  refine r_iload_n rfl rfl ?_
                  obtain ⟨hb7, hk⟩ := hk
                  refine q_callV0 [_] _ rfl kY_X12_owedTo kT_X12_owedTo rfl rfl (Nat.le_of_ble_eq_true rfl) (Nat.le_of_ble_eq_true rfl) (cc_60 _) (s_X12_owedTo hb7) (fun r h q => ?_)
                  obtain ⟨rfl, rfl⟩ := q
                  simp only [Option.toList, List.cons_append, List.nil_append]
                  refine r_iret rfl rfl rfl ?_
                  subst he
                  exact ⟨rfl, rfl⟩
                · rw [if_neg c_26_6] at he
                  replace hk := hk.2 c_26_6
                  refine r_tableOut (tgt := 144) rfl (by simp only [Int32.lt_iff_toInt_lt, Int32.le_iff_toInt_le, ← Int32.toInt_inj, ti_0, ti_1, ti_2, ti_3, ti_4, ti_5, ti_6, ti_7, ti_8, ti_9, ti_10, ti_11, ti_12, ti_13, ti_14, ti_15, ti_16, ti_17, ti_18, ti_19, ti_20, ti_21, ti_22, ti_23, ti_24, ti_25, ti_26, ti_27, ti_28, ti_29, ti_30, ti_31, ti_32, ti_33, ti_34, ti_35, ti_36, ti_37, ti_38, ti_39, ti_40, ti_41, ti_42, ti_43, ti_44, ti_45, ti_46, ti_47, ti_48, ti_49, ti_50, ti_51, ti_52, ti_53, ti_54, ti_55, ti_56, ti_57, ti_58, ti_59, ti_60, ti_61, ti_62, ti_63, ti_64, ti_79, ti_80, ti_90, ti_96, ti_97, ti_99, ti_100, ti_122, ti_128, ti_132, ti_136, ti_140, ti_141, ti_145, ti_255, ti_256, ti_257, ti_258, ti_259, ti_262, ti_263, ti_264, ti_265, ti_266, ti_267, ti_268, ti_276, ti_277, ti_400, ti_401, ti_408, ti_420, ti_840, ti_999, ti_1980, ti_2000, ti_9999, ti_10000, ti_10240, ti_1000000, ti_m1, ti_m2, ti_m3, ti_m4, ti_m5, ti_m6, ti_m7] at c_26_0 c_26_1 c_26_2 c_26_3 c_26_4 c_26_5 c_26_6; omega) (by decide) ?_
                  refine r_iconst_ (a := -1) rfl (by decide) ?_
                  refine r_iret rfl rfl rfl ?_
                  subst he
                  exact ⟨rfl, rfl⟩
  · rw [if_pos c_5] at he
    replace hk := hk.1 c_5
    refine r_iconst_ (a := -1) rfl (by decide) ?_
    refine r_iret rfl rfl rfl ?_
    subst he
    exact ⟨rfl, rfl⟩

def f_X11_count (v0 : Int32) (D : fl_D) (s : fl_I) (l : fl_L) : Int32 × fl_I × fl_L :=
  if (v0 = 0) then ((s (if D.2.2.1 then 20 else 9) 0), s, l) else if (v0 = 1) then ((s (if D.2.2.1 then 20 else 9) 3), s, l) else if (v0 = 2) then ((s (if D.2.2.1 then 20 else 9) 1), s, l) else if (v0 = 3) then ((s (if D.2.2.1 then 20 else 9) 2), s, l) else if (v0 = 4) then ((s 31 0), s, l) else if (v0 = 5) then ((f_X10_countLying 31 s l), s, l) else if (v0 = 6) then ((f_X10_countCells 31 59 s l).1, (f_X10_countCells 31 59 s l).2.1, (f_X10_countCells 31 59 s l).2.2) else if (v0 = 7) then ((f_X11_owedToAll D s l).1, (f_X11_owedToAll D s l).2.1, (f_X11_owedToAll D s l).2.2) else if (v0 = 8) then ((s 1 1), s, l) else if (v0 = 9) then ((s 43 0), s, l) else if (v0 = 10) then ((s 57 0), s, l) else if (v0 = 11) then ((f_J6_bitCount_0f7a4 (s 0 8)), s, l) else if (v0 = 12) then if ((f_X11_rains (s (if D.2.2.1 then 20 else 9) 18) (s 31 0) (if D.2.2.1 then 20 else 9) s l) = 0) then ((0 : Int32), s, l) else ((1 : Int32), s, l) else if (v0 = 13) then ((f_X11_pickersWithGoal s l), s, l) else if (v0 = 14) then ((f_X11_pickersWithFullHat D s l), s, l) else ((-1 : Int32), s, l)

def p_X11_count (v0 : Int32) (D : fl_D) (s : fl_I) (l : fl_L) : Prop :=
  (((v0 = 0) → True) ∧ (¬ (v0 = 0) → (((v0 = 1) → True) ∧ (¬ (v0 = 1) → (((v0 = 2) → True) ∧ (¬ (v0 = 2) → (((v0 = 3) → True) ∧ (¬ (v0 = 3) → (((v0 = 4) → True) ∧ (¬ (v0 = 4) → (((v0 = 5) → (p_X10_countLying 31 s l) ∧ True) ∧ (¬ (v0 = 5) → (((v0 = 6) → (p_X10_countCells 31 59 s l) ∧ True) ∧ (¬ (v0 = 6) → (((v0 = 7) → (p_X11_owedToAll D s l) ∧ True) ∧ (¬ (v0 = 7) → (((v0 = 8) → True) ∧ (¬ (v0 = 8) → (((v0 = 9) → True) ∧ (¬ (v0 = 9) → (((v0 = 10) → True) ∧ (¬ (v0 = 10) → (((v0 = 11) → (p_J6_bitCount_0f7a4 (s 0 8)) ∧ True) ∧ (¬ (v0 = 11) → (((v0 = 12) → (p_X11_rains (s (if D.2.2.1 then 20 else 9) 18) (s 31 0) (if D.2.2.1 then 20 else 9) s l) ∧ ((((f_X11_rains (s (if D.2.2.1 then 20 else 9) 18) (s 31 0) (if D.2.2.1 then 20 else 9) s l) = 0) → True) ∧ (¬ ((f_X11_rains (s (if D.2.2.1 then 20 else 9) 18) (s 31 0) (if D.2.2.1 then 20 else 9) s l) = 0) → True))) ∧ (¬ (v0 = 12) → (((v0 = 13) → (p_X11_pickersWithGoal s l) ∧ True) ∧ (¬ (v0 = 13) → (((v0 = 14) → (p_X11_pickersWithFullHat D s l) ∧ True) ∧ (¬ (v0 = 14) → True))))))))))))))))))))))))))))))

set_option maxRecDepth 100000 in
set_option maxHeartbeats 4000000 in
theorem s_X11_count {G : ab_G} {d : Nat} {D : fl_D} {s : fl_I} {l : fl_L} {v0 : Int32} (hk : p_X11_count v0 D s l) : ab_C G (d + 5) 0 0 M_X11_count 0 (ab_ent [.ref 0, .int v0]) [] (hp D s l) (rt (some (.int (f_X11_count v0 D s l).1)) (hp D (f_X11_count v0 D s l).2.1 (f_X11_count v0 D s l).2.2)) := by
  generalize he : (f_X11_count v0 D s l) = res
  unfold f_X11_count at he
  unfold p_X11_count at hk
  refine r_weak (L1 := [some (.ref 0), some (.int v0)]) ⟨rfl, rfl, trivial⟩ ?_
  refine r_iload_n rfl rfl ?_
  by_cases c_1_0 : (v0 = 0)
  · rw [if_pos c_1_0] at he
    replace hk := hk.1 c_1_0
    refine r_tableIn (tgt := 76) rfl (by rw [c_1_0]; decide) (by rw [c_1_0]; decide) (by rw [c_1_0]; rfl) (by decide) ?_
    refine r_aload_n rfl rfl ?_
    refine q_getfield rfl (cc_0 _) rfl ?_
    refine q_getfield rfl (cT_0 (isT_l _)) rfl ?_
    refine r_iret rfl rfl rfl ?_
    subst he
    exact ⟨rfl, rfl⟩
  · rw [if_neg c_1_0] at he
    replace hk := hk.2 c_1_0
    by_cases c_1_1 : (v0 = 1)
    · rw [if_pos c_1_1] at he
      replace hk := hk.1 c_1_1
      refine r_tableIn (tgt := 84) rfl (by rw [c_1_1]; decide) (by rw [c_1_1]; decide) (by rw [c_1_1]; rfl) (by decide) ?_
      refine r_aload_n rfl rfl ?_
      refine q_getfield rfl (cc_0 _) rfl ?_
      refine q_getfield rfl (cT_0 (isT_l _)) rfl ?_
      refine r_iret rfl rfl rfl ?_
      subst he
      exact ⟨rfl, rfl⟩
    · rw [if_neg c_1_1] at he
      replace hk := hk.2 c_1_1
      by_cases c_1_2 : (v0 = 2)
      · rw [if_pos c_1_2] at he
        replace hk := hk.1 c_1_2
        refine r_tableIn (tgt := 92) rfl (by rw [c_1_2]; decide) (by rw [c_1_2]; decide) (by rw [c_1_2]; rfl) (by decide) ?_
        refine r_aload_n rfl rfl ?_
        refine q_getfield rfl (cc_0 _) rfl ?_
        refine q_getfield rfl (cT_0 (isT_l _)) rfl ?_
        refine r_iret rfl rfl rfl ?_
        subst he
        exact ⟨rfl, rfl⟩
      · rw [if_neg c_1_2] at he
        replace hk := hk.2 c_1_2
        by_cases c_1_3 : (v0 = 3)
        · rw [if_pos c_1_3] at he
          replace hk := hk.1 c_1_3
          refine r_tableIn (tgt := 100) rfl (by rw [c_1_3]; decide) (by rw [c_1_3]; decide) (by rw [c_1_3]; rfl) (by decide) ?_
          refine r_aload_n rfl rfl ?_
          refine q_getfield rfl (cc_0 _) rfl ?_
          refine q_getfield rfl (cT_0 (isT_l _)) rfl ?_
          refine r_iret rfl rfl rfl ?_
          subst he
          exact ⟨rfl, rfl⟩
        · rw [if_neg c_1_3] at he
          replace hk := hk.2 c_1_3
          by_cases c_1_4 : (v0 = 4)
          · rw [if_pos c_1_4] at he
            replace hk := hk.1 c_1_4
            refine r_tableIn (tgt := 108) rfl (by rw [c_1_4]; decide) (by rw [c_1_4]; decide) (by rw [c_1_4]; rfl) (by decide) ?_
            refine r_aload_n rfl rfl ?_
            refine q_getfield rfl (cc_0 _) rfl ?_
            refine q_getfield rfl (cc_31 _) rfl ?_
            refine r_iret rfl rfl rfl ?_
            subst he
            exact ⟨rfl, rfl⟩
          · rw [if_neg c_1_4] at he
            replace hk := hk.2 c_1_4
            by_cases c_1_5 : (v0 = 5)
            · rw [if_pos c_1_5] at he
              replace hk := hk.1 c_1_5
              refine r_tableIn (tgt := 116) rfl (by rw [c_1_5]; decide) (by rw [c_1_5]; decide) (by rw [c_1_5]; rfl) (by decide) ?_
              refine r_aload_n rfl rfl ?_
              refine q_getfield rfl (cc_0 _) rfl ?_
              obtain ⟨hb0, hk⟩ := hk
              refine q_callV0 [] _ rfl kY_X10_countLying kT_X10_countLying rfl rfl (Nat.le_of_ble_eq_true rfl) (Nat.le_of_ble_eq_true rfl) (cc_31 _) (s_X10_countLying (Or.inl rfl) hb0) (fun r h q => ?_)
              obtain ⟨rfl, rfl⟩ := q
              simp only [Option.toList, List.cons_append, List.nil_append]
              refine r_iret rfl rfl rfl ?_
              subst he
              exact ⟨rfl, rfl⟩
            · rw [if_neg c_1_5] at he
              replace hk := hk.2 c_1_5
              by_cases c_1_6 : (v0 = 6)
              · rw [if_pos c_1_6] at he
                replace hk := hk.1 c_1_6
                refine r_tableIn (tgt := 124) rfl (by rw [c_1_6]; decide) (by rw [c_1_6]; decide) (by rw [c_1_6]; rfl) (by decide) ?_
                refine r_aload_n rfl rfl ?_
                refine q_getfield rfl (cc_0 _) rfl ?_
                refine r_aload_n rfl rfl ?_
                refine q_getfield rfl (cc_0 _) rfl ?_
                obtain ⟨hb1, hk⟩ := hk
                refine q_callV0 [_] _ rfl kY_X10_countCells kT_X10_countCells rfl rfl (Nat.le_of_ble_eq_true rfl) (Nat.le_of_ble_eq_true rfl) (cc_31 _) (s_X10_countCells (Or.inl rfl) (cc_59 _) hb1) (fun r h q => ?_)
                obtain ⟨rfl, rfl⟩ := q
                simp only [Option.toList, List.cons_append, List.nil_append]
                refine r_iret rfl rfl rfl ?_
                subst he
                exact ⟨rfl, rfl⟩
              · rw [if_neg c_1_6] at he
                replace hk := hk.2 c_1_6
                by_cases c_1_7 : (v0 = 7)
                · rw [if_pos c_1_7] at he
                  replace hk := hk.1 c_1_7
                  refine r_tableIn (tgt := 136) rfl (by rw [c_1_7]; decide) (by rw [c_1_7]; decide) (by rw [c_1_7]; rfl) (by decide) ?_
                  refine r_aload_n rfl rfl ?_
                  obtain ⟨hb2, hk⟩ := hk
                  refine q_callV0 [] _ rfl kY_X11_owedToAll kT_X11_owedToAll rfl rfl (Nat.le_of_ble_eq_true rfl) (Nat.le_of_ble_eq_true rfl) (cc_0 _) (s_X11_owedToAll hb2) (fun r h q => ?_)
                  obtain ⟨rfl, rfl⟩ := q
                  simp only [Option.toList, List.cons_append, List.nil_append]
                  refine r_iret rfl rfl rfl ?_
                  subst he
                  exact ⟨rfl, rfl⟩
                · rw [if_neg c_1_7] at he
                  replace hk := hk.2 c_1_7
                  by_cases c_1_8 : (v0 = 8)
                  · rw [if_pos c_1_8] at he
                    replace hk := hk.1 c_1_8
                    refine r_tableIn (tgt := 141) rfl (by rw [c_1_8]; decide) (by rw [c_1_8]; decide) (by rw [c_1_8]; rfl) (by decide) ?_
                    refine r_aload_n rfl rfl ?_
                    refine q_getfield rfl (cc_0 _) rfl ?_
                    refine q_getfield rfl (cc_1 _) rfl ?_
                    refine r_iret rfl rfl rfl ?_
                    subst he
                    exact ⟨rfl, rfl⟩
                  · rw [if_neg c_1_8] at he
                    replace hk := hk.2 c_1_8
                    by_cases c_1_9 : (v0 = 9)
                    · rw [if_pos c_1_9] at he
                      replace hk := hk.1 c_1_9
                      refine r_tableIn (tgt := 149) rfl (by rw [c_1_9]; decide) (by rw [c_1_9]; decide) (by rw [c_1_9]; rfl) (by decide) ?_
                      refine r_aload_n rfl rfl ?_
                      refine q_getfield rfl (cc_0 _) rfl ?_
                      refine q_getfield rfl (cc_43 _) rfl ?_
                      refine r_iret rfl rfl rfl ?_
                      subst he
                      exact ⟨rfl, rfl⟩
                    · rw [if_neg c_1_9] at he
                      replace hk := hk.2 c_1_9
                      by_cases c_1_10 : (v0 = 10)
                      · rw [if_pos c_1_10] at he
                        replace hk := hk.1 c_1_10
                        refine r_tableIn (tgt := 157) rfl (by rw [c_1_10]; decide) (by rw [c_1_10]; decide) (by rw [c_1_10]; rfl) (by decide) ?_
                        refine r_aload_n rfl rfl ?_
                        refine q_getfield rfl (cc_0 _) rfl ?_
                        refine q_getfield rfl (cc_57 _) rfl ?_
                        refine r_iret rfl rfl rfl ?_
                        subst he
                        exact ⟨rfl, rfl⟩
                      · rw [if_neg c_1_10] at he
                        replace hk := hk.2 c_1_10
                        by_cases c_1_11 : (v0 = 11)
                        · rw [if_pos c_1_11] at he
                          replace hk := hk.1 c_1_11
                          refine r_tableIn (tgt := 165) rfl (by rw [c_1_11]; decide) (by rw [c_1_11]; decide) (by rw [c_1_11]; rfl) (by decide) ?_
                          refine r_aload_n rfl rfl ?_
                          refine q_getfield rfl (cc_0 _) rfl ?_
                          obtain ⟨hb3, hk⟩ := hk
                          refine r_callS0 [_] _ rfl kY_J6_bitCount_0f7a4 kT_J6_bitCount_0f7a4 rfl rfl (Nat.le_of_ble_eq_true rfl) (Nat.le_of_ble_eq_true rfl) (s_J6_bitCount_0f7a4 hb3) (fun r h q => ?_)
                          obtain ⟨rfl, rfl⟩ := q
                          simp only [Option.toList, List.cons_append, List.nil_append]
                          refine r_iret rfl rfl rfl ?_
                          subst he
                          exact ⟨rfl, rfl⟩
                        · rw [if_neg c_1_11] at he
                          replace hk := hk.2 c_1_11
                          by_cases c_1_12 : (v0 = 12)
                          · rw [if_pos c_1_12] at he
                            replace hk := hk.1 c_1_12
                            refine r_tableIn (tgt := 173) rfl (by rw [c_1_12]; decide) (by rw [c_1_12]; decide) (by rw [c_1_12]; rfl) (by decide) ?_
                            refine r_aload_n rfl rfl ?_
                            refine q_getfield rfl (cc_0 _) rfl ?_
                            refine r_aload_n rfl rfl ?_
                            refine q_getfield rfl (cc_0 _) rfl ?_
                            refine q_getfield rfl (cT_0 (isT_l _)) rfl ?_
                            refine r_aload_n rfl rfl ?_
                            refine q_getfield rfl (cc_0 _) rfl ?_
                            refine q_getfield rfl (cc_31 _) rfl ?_
                            obtain ⟨hb4, hk⟩ := hk
                            refine r_callS0 [_, _, _] _ rfl kY_X11_rains kT_X11_rains rfl rfl (Nat.le_of_ble_eq_true rfl) (Nat.le_of_ble_eq_true rfl) (s_X11_rains (isT_l _) hb4) (fun r h q => ?_)
                            obtain ⟨rfl, rfl⟩ := q
                            simp only [Option.toList, List.cons_append, List.nil_append]
                            refine r_if_eq rfl (fun c_194 => ?_) (fun c_194 => ?_)
                            · rw [if_pos c_194] at he
                              replace hk := hk.1 c_194
                              refine r_iconst_ (a := 0) rfl (by decide) ?_
                              refine r_iret rfl rfl rfl ?_
                              subst he
                              exact ⟨rfl, rfl⟩
                            · rw [if_neg c_194] at he
                              replace hk := hk.2 c_194
                              refine r_iconst_ (a := 1) rfl (by decide) ?_
                              refine r_goto rfl ?_
                              refine r_iret rfl rfl rfl ?_
                              subst he
                              exact ⟨rfl, rfl⟩
                          · rw [if_neg c_1_12] at he
                            replace hk := hk.2 c_1_12
                            by_cases c_1_13 : (v0 = 13)
                            · rw [if_pos c_1_13] at he
                              replace hk := hk.1 c_1_13
                              refine r_tableIn (tgt := 203) rfl (by rw [c_1_13]; decide) (by rw [c_1_13]; decide) (by rw [c_1_13]; rfl) (by decide) ?_
                              refine r_aload_n rfl rfl ?_
                              obtain ⟨hb5, hk⟩ := hk
                              refine q_callV0 [] _ rfl kY_X11_pickersWithGoal kT_X11_pickersWithGoal rfl rfl (Nat.le_of_ble_eq_true rfl) (Nat.le_of_ble_eq_true rfl) (cc_0 _) (s_X11_pickersWithGoal hb5) (fun r h q => ?_)
                              obtain ⟨rfl, rfl⟩ := q
                              simp only [Option.toList, List.cons_append, List.nil_append]
                              refine r_iret rfl rfl rfl ?_
                              subst he
                              exact ⟨rfl, rfl⟩
                            · rw [if_neg c_1_13] at he
                              replace hk := hk.2 c_1_13
                              by_cases c_1_14 : (v0 = 14)
                              · rw [if_pos c_1_14] at he
                                replace hk := hk.1 c_1_14
                                refine r_tableIn (tgt := 208) rfl (by rw [c_1_14]; decide) (by rw [c_1_14]; decide) (by rw [c_1_14]; rfl) (by decide) ?_
                                refine r_aload_n rfl rfl ?_
                                obtain ⟨hb6, hk⟩ := hk
                                refine q_callV0 [] _ rfl kY_X11_pickersWithFullHat kT_X11_pickersWithFullHat rfl rfl (Nat.le_of_ble_eq_true rfl) (Nat.le_of_ble_eq_true rfl) (cc_0 _) (s_X11_pickersWithFullHat hb6) (fun r h q => ?_)
                                obtain ⟨rfl, rfl⟩ := q
                                simp only [Option.toList, List.cons_append, List.nil_append]
                                refine r_iret rfl rfl rfl ?_
                                subst he
                                exact ⟨rfl, rfl⟩
                              · rw [if_neg c_1_14] at he
                                replace hk := hk.2 c_1_14
                                refine r_tableOut (tgt := 213) rfl (by simp only [Int32.lt_iff_toInt_lt, Int32.le_iff_toInt_le, ← Int32.toInt_inj, ti_0, ti_1, ti_2, ti_3, ti_4, ti_5, ti_6, ti_7, ti_8, ti_9, ti_10, ti_11, ti_12, ti_13, ti_14, ti_15, ti_16, ti_17, ti_18, ti_19, ti_20, ti_21, ti_22, ti_23, ti_24, ti_25, ti_26, ti_27, ti_28, ti_29, ti_30, ti_31, ti_32, ti_33, ti_34, ti_35, ti_36, ti_37, ti_38, ti_39, ti_40, ti_41, ti_42, ti_43, ti_44, ti_45, ti_46, ti_47, ti_48, ti_49, ti_50, ti_51, ti_52, ti_53, ti_54, ti_55, ti_56, ti_57, ti_58, ti_59, ti_60, ti_61, ti_62, ti_63, ti_64, ti_79, ti_80, ti_90, ti_96, ti_97, ti_99, ti_100, ti_122, ti_128, ti_132, ti_136, ti_140, ti_141, ti_145, ti_255, ti_256, ti_257, ti_258, ti_259, ti_262, ti_263, ti_264, ti_265, ti_266, ti_267, ti_268, ti_276, ti_277, ti_400, ti_401, ti_408, ti_420, ti_840, ti_999, ti_1980, ti_2000, ti_9999, ti_10000, ti_10240, ti_1000000, ti_m1, ti_m2, ti_m3, ti_m4, ti_m5, ti_m6, ti_m7] at c_1_0 c_1_1 c_1_2 c_1_3 c_1_4 c_1_5 c_1_6 c_1_7 c_1_8 c_1_9 c_1_10 c_1_11 c_1_12 c_1_13 c_1_14; omega) (by decide) ?_
                                refine r_iconst_ (a := -1) rfl (by decide) ?_
                                refine r_iret rfl rfl rfl ?_
                                subst he
                                exact ⟨rfl, rfl⟩

def f_X12_count_142 : Nat → Int32 → Int32 → fl_I → fl_L → Int32 × fl_I × fl_L
  | 0, x2, x3, s, l => (0, s, l)
  | n + 1, x2, x3, s, l =>
    if ((s 74 (s 60 18).toNatClampNeg) ≤ x3) then (x2, s, l) else f_X12_count_142 n (x2 + (f_X12_owedTo x3 s l).1) (x3 + 1) (f_X12_owedTo x3 s l).2.1 (f_X12_owedTo x3 s l).2.2

def p_X12_count_142 : Nat → Int32 → Int32 → fl_I → fl_L → Prop
  | 0, _, _, _, _ => False
  | n + 1, x2, x3, s, l =>
    (vp_in (s 60 18) 2) ∧ ((((s 74 (s 60 18).toNatClampNeg) ≤ x3) → True) ∧ (¬ ((s 74 (s 60 18).toNatClampNeg) ≤ x3) → (p_X12_owedTo x3 s l) ∧ p_X12_count_142 n (x2 + (f_X12_owedTo x3 s l).1) (x3 + 1) (f_X12_owedTo x3 s l).2.1 (f_X12_owedTo x3 s l).2.2))

set_option maxRecDepth 100000 in
set_option maxHeartbeats 4000000 in
theorem lp_X12_count_142 {G : ab_G} {d : Nat} {D : fl_D} : ∀ (n : Nat) (x2 : Int32) (x3 : Int32) (s : fl_I) (l : fl_L), p_X12_count_142 n x2 x3 s l → ab_C G (d + 4) 0 0 M_X12_count 142 [some (.ref 60), none, some (.int x2), some (.int x3)] [] (hp D s l) (rt (some (.int (f_X12_count_142 n x2 x3 s l).1)) (hp D (f_X12_count_142 n x2 x3 s l).2.1 (f_X12_count_142 n x2 x3 s l).2.2)) := by
  intro n
  induction n with
  | zero => intro x2 x3 s l hk; exact hk.elim
  | succ n ih =>
    intro x2 x3 s l hk
    generalize he : f_X12_count_142 (n + 1) x2 x3 s l = res
    unfold f_X12_count_142 at he
    unfold p_X12_count_142 at hk
    refine r_iload_n rfl rfl ?_
    refine r_aload_n rfl rfl ?_
    refine q_getfield rfl (cc_60 _) rfl ?_
    refine r_aload_n rfl rfl ?_
    refine q_getfield rfl (cc_60 _) rfl ?_
    obtain ⟨hb6, hk⟩ := hk
    refine q_iald rfl (cc_74 _) hb6 ?_
    refine r_icmp_ge rfl (fun c_152 => ?_) (fun c_152 => ?_)
    · rw [if_pos c_152] at he
      replace hk := hk.1 c_152
      refine r_iload_n rfl rfl ?_
      refine r_iret rfl rfl rfl ?_
      subst he
      exact ⟨rfl, rfl⟩
    · rw [if_neg c_152] at he
      replace hk := hk.2 c_152
      refine r_iload_n rfl rfl ?_
      refine r_aload_n rfl rfl ?_
      refine r_iload_n rfl rfl ?_
      obtain ⟨hb7, hk⟩ := hk
      refine q_callV0 [_] _ rfl kY_X12_owedTo kT_X12_owedTo rfl rfl (Nat.le_of_ble_eq_true rfl) (Nat.le_of_ble_eq_true rfl) (cc_60 _) (s_X12_owedTo hb7) (fun r h q => ?_)
      obtain ⟨rfl, rfl⟩ := q
      simp only [Option.toList, List.cons_append, List.nil_append]
      refine r_iadd rfl ?_
      refine r_istore_n rfl (Nat.le_of_ble_eq_true rfl) rfl ?_
      refine r_iinc (b := x3 + 1) rfl rfl rfl (Nat.le_of_ble_eq_true rfl) rfl ?_
      refine r_goto rfl ?_
      subst he
      exact r_weak (L1 := [some (.ref 60), none, some (.int (x2 + (f_X12_owedTo x3 s l).1)), some (.int (x3 + 1))]) ⟨rfl, rfl, rfl, trivial⟩ (ih _ _ _ _ hk)

def f_X12_count_246 : Nat → Int32 → Int32 → fl_I → fl_L → Int32 × fl_I × fl_L
  | 0, x2, x3, s, l => (0, s, l)
  | n + 1, x2, x3, s, l =>
    if ((s 74 (s 60 18).toNatClampNeg) ≤ x3) then (x2, s, l) else if ((s 95 ((136 : Int32) + x3).toNatClampNeg) < 0) then f_X12_count_246 n x2 (x3 + 1) s l else f_X12_count_246 n (x2 ||| ((1 : Int32) <<< (x3 &&& 31))) (x3 + 1) s l

def p_X12_count_246 : Nat → Int32 → Int32 → fl_I → fl_L → Prop
  | 0, _, _, _, _ => False
  | n + 1, x2, x3, s, l =>
    (vp_in (s 60 18) 2) ∧ ((((s 74 (s 60 18).toNatClampNeg) ≤ x3) → True) ∧ (¬ ((s 74 (s 60 18).toNatClampNeg) ≤ x3) → (vp_in ((136 : Int32) + x3) 141) ∧ ((((s 95 ((136 : Int32) + x3).toNatClampNeg) < 0) → p_X12_count_246 n x2 (x3 + 1) s l) ∧ (¬ ((s 95 ((136 : Int32) + x3).toNatClampNeg) < 0) → p_X12_count_246 n (x2 ||| ((1 : Int32) <<< (x3 &&& 31))) (x3 + 1) s l))))

set_option maxRecDepth 100000 in
set_option maxHeartbeats 4000000 in
theorem lp_X12_count_246 {G : ab_G} {d : Nat} {D : fl_D} : ∀ (n : Nat) (x2 : Int32) (x3 : Int32) (s : fl_I) (l : fl_L), p_X12_count_246 n x2 x3 s l → ab_C G (d + 4) 0 0 M_X12_count 246 [some (.ref 60), none, some (.int x2), some (.int x3)] [] (hp D s l) (rt (some (.int (f_X12_count_246 n x2 x3 s l).1)) (hp D (f_X12_count_246 n x2 x3 s l).2.1 (f_X12_count_246 n x2 x3 s l).2.2)) := by
  intro n
  induction n with
  | zero => intro x2 x3 s l hk; exact hk.elim
  | succ n ih =>
    intro x2 x3 s l hk
    generalize he : f_X12_count_246 (n + 1) x2 x3 s l = res
    unfold f_X12_count_246 at he
    unfold p_X12_count_246 at hk
    refine r_iload_n rfl rfl ?_
    refine r_aload_n rfl rfl ?_
    refine q_getfield rfl (cc_60 _) rfl ?_
    refine r_aload_n rfl rfl ?_
    refine q_getfield rfl (cc_60 _) rfl ?_
    obtain ⟨hb9, hk⟩ := hk
    refine q_iald rfl (cc_74 _) hb9 ?_
    refine r_icmp_ge rfl (fun c_256 => ?_) (fun c_256 => ?_)
    · rw [if_pos c_256] at he
      replace hk := hk.1 c_256
      refine r_iload_n rfl rfl ?_
      refine r_iret rfl rfl rfl ?_
      subst he
      exact ⟨rfl, rfl⟩
    · rw [if_neg c_256] at he
      replace hk := hk.2 c_256
      refine r_aload_n rfl rfl ?_
      refine q_getfield rfl (cc_60 _) rfl ?_
      refine r_sipush_ (a := 136) rfl (by decide) ?_
      refine r_iload_n rfl rfl ?_
      refine r_iadd rfl ?_
      obtain ⟨hb10, hk⟩ := hk
      refine q_iald rfl (cc_95 _) hb10 ?_
      refine r_if_lt rfl (fun c_269 => ?_) (fun c_269 => ?_)
      · rw [if_pos c_269] at he
        replace hk := hk.1 c_269
        refine r_iinc (b := x3 + 1) rfl rfl rfl (Nat.le_of_ble_eq_true rfl) rfl ?_
        refine r_goto rfl ?_
        subst he
        exact r_weak (L1 := [some (.ref 60), none, some (.int x2), some (.int (x3 + 1))]) ⟨rfl, rfl, rfl, trivial⟩ (ih _ _ _ _ hk)
      · rw [if_neg c_269] at he
        replace hk := hk.2 c_269
        refine r_iload_n rfl rfl ?_
        refine r_iconst_ (a := 1) rfl (by decide) ?_
        refine r_iload_n rfl rfl ?_
        refine r_ishl rfl ?_
        refine r_ior rfl ?_
        refine r_istore_n rfl (Nat.le_of_ble_eq_true rfl) rfl ?_
        refine r_iinc (b := x3 + 1) rfl rfl rfl (Nat.le_of_ble_eq_true rfl) rfl ?_
        refine r_goto rfl ?_
        subst he
        exact r_weak (L1 := [some (.ref 60), none, some (.int (x2 ||| ((1 : Int32) <<< (x3 &&& 31)))), some (.int (x3 + 1))]) ⟨rfl, rfl, rfl, trivial⟩ (ih _ _ _ _ hk)

def f_X12_count_288 : Nat → Int32 → Int32 → fl_I → fl_L → Int32 × fl_I × fl_L
  | 0, x2, x3, s, l => (0, s, l)
  | n + 1, x2, x3, s, l =>
    if ((s 74 (s 60 18).toNatClampNeg) ≤ x3) then (x2, s, l) else if ((f_X12_inHat x3 s l) = (s 78 (((4 : Int32) * (s 60 18)) + x3).toNatClampNeg)) then f_X12_count_288 n (x2 ||| ((1 : Int32) <<< (x3 &&& 31))) (x3 + 1) s l else f_X12_count_288 n x2 (x3 + 1) s l

def p_X12_count_288 : Nat → Int32 → Int32 → fl_I → fl_L → Prop
  | 0, _, _, _, _ => False
  | n + 1, x2, x3, s, l =>
    (vp_in (s 60 18) 2) ∧ ((((s 74 (s 60 18).toNatClampNeg) ≤ x3) → True) ∧ (¬ ((s 74 (s 60 18).toNatClampNeg) ≤ x3) → (p_X12_inHat x3 s l) ∧ (vp_in (((4 : Int32) * (s 60 18)) + x3) 8) ∧ ((((f_X12_inHat x3 s l) = (s 78 (((4 : Int32) * (s 60 18)) + x3).toNatClampNeg)) → p_X12_count_288 n (x2 ||| ((1 : Int32) <<< (x3 &&& 31))) (x3 + 1) s l) ∧ (¬ ((f_X12_inHat x3 s l) = (s 78 (((4 : Int32) * (s 60 18)) + x3).toNatClampNeg)) → p_X12_count_288 n x2 (x3 + 1) s l))))

set_option maxRecDepth 100000 in
set_option maxHeartbeats 4000000 in
theorem lp_X12_count_288 {G : ab_G} {d : Nat} {D : fl_D} : ∀ (n : Nat) (x2 : Int32) (x3 : Int32) (s : fl_I) (l : fl_L), p_X12_count_288 n x2 x3 s l → ab_C G (d + 4) 0 0 M_X12_count 288 [some (.ref 60), none, some (.int x2), some (.int x3)] [] (hp D s l) (rt (some (.int (f_X12_count_288 n x2 x3 s l).1)) (hp D (f_X12_count_288 n x2 x3 s l).2.1 (f_X12_count_288 n x2 x3 s l).2.2)) := by
  intro n
  induction n with
  | zero => intro x2 x3 s l hk; exact hk.elim
  | succ n ih =>
    intro x2 x3 s l hk
    generalize he : f_X12_count_288 (n + 1) x2 x3 s l = res
    unfold f_X12_count_288 at he
    unfold p_X12_count_288 at hk
    refine r_iload_n rfl rfl ?_
    refine r_aload_n rfl rfl ?_
    refine q_getfield rfl (cc_60 _) rfl ?_
    refine r_aload_n rfl rfl ?_
    refine q_getfield rfl (cc_60 _) rfl ?_
    obtain ⟨hb11, hk⟩ := hk
    refine q_iald rfl (cc_74 _) hb11 ?_
    refine r_icmp_ge rfl (fun c_298 => ?_) (fun c_298 => ?_)
    · rw [if_pos c_298] at he
      replace hk := hk.1 c_298
      refine r_iload_n rfl rfl ?_
      refine r_iret rfl rfl rfl ?_
      subst he
      exact ⟨rfl, rfl⟩
    · rw [if_neg c_298] at he
      replace hk := hk.2 c_298
      refine r_aload_n rfl rfl ?_
      refine r_iload_n rfl rfl ?_
      obtain ⟨hb12, hk⟩ := hk
      refine q_callV0 [_] _ rfl kY_X12_inHat kT_X12_inHat rfl rfl (Nat.le_of_ble_eq_true rfl) (Nat.le_of_ble_eq_true rfl) (cc_60 _) (s_X12_inHat hb12) (fun r h q => ?_)
      obtain ⟨rfl, rfl⟩ := q
      simp only [Option.toList, List.cons_append, List.nil_append]
      refine r_aload_n rfl rfl ?_
      refine q_getfield rfl (cc_60 _) rfl ?_
      refine r_iconst_ (a := 4) rfl (by decide) ?_
      refine r_aload_n rfl rfl ?_
      refine q_getfield rfl (cc_60 _) rfl ?_
      refine r_imul rfl ?_
      refine r_iload_n rfl rfl ?_
      refine r_iadd rfl ?_
      obtain ⟨hb13, hk⟩ := hk
      refine q_iald rfl (cc_78 _) hb13 ?_
      refine r_icmp_ne rfl (fun c_319 => ?_) (fun c_319 => ?_)
      · rw [if_neg c_319] at he
        replace hk := hk.2 c_319
        refine r_iinc (b := x3 + 1) rfl rfl rfl (Nat.le_of_ble_eq_true rfl) rfl ?_
        refine r_goto rfl ?_
        subst he
        exact r_weak (L1 := [some (.ref 60), none, some (.int x2), some (.int (x3 + 1))]) ⟨rfl, rfl, rfl, trivial⟩ (ih _ _ _ _ hk)
      · rw [if_pos c_319] at he
        replace hk := hk.1 c_319
        refine r_iload_n rfl rfl ?_
        refine r_iconst_ (a := 1) rfl (by decide) ?_
        refine r_iload_n rfl rfl ?_
        refine r_ishl rfl ?_
        refine r_ior rfl ?_
        refine r_istore_n rfl (Nat.le_of_ble_eq_true rfl) rfl ?_
        refine r_iinc (b := x3 + 1) rfl rfl rfl (Nat.le_of_ble_eq_true rfl) rfl ?_
        refine r_goto rfl ?_
        subst he
        exact r_weak (L1 := [some (.ref 60), none, some (.int (x2 ||| ((1 : Int32) <<< (x3 &&& 31)))), some (.int (x3 + 1))]) ⟨rfl, rfl, rfl, trivial⟩ (ih _ _ _ _ hk)

def f_X12_count (v0 : Int32) (s : fl_I) (l : fl_L) : Int32 × fl_I × fl_L :=
  if (v0 = 0) then (((f_X12_copies s l).1 68 ((f_X12_copies s l).1 60 18).toNatClampNeg), (f_X12_copies s l).1, (f_X12_copies s l).2) else if (v0 = 1) then (((f_X12_copies s l).1 60 54), (f_X12_copies s l).1, (f_X12_copies s l).2) else if (v0 = 2) then (((f_X12_copies s l).1 72 ((f_X12_copies s l).1 60 18).toNatClampNeg), (f_X12_copies s l).1, (f_X12_copies s l).2) else if (v0 = 3) then (((f_X12_copies s l).1 74 ((f_X12_copies s l).1 60 18).toNatClampNeg), (f_X12_copies s l).1, (f_X12_copies s l).2) else if (v0 = 4) then (((f_X12_copies s l).1 95 (140 : Int32).toNatClampNeg), (f_X12_copies s l).1, (f_X12_copies s l).2) else if (v0 = 5) then ((f_X12_lieMany (f_X12_copies s l).1 (f_X12_copies s l).2), (f_X12_copies s l).1, (f_X12_copies s l).2) else if (v0 = 6) then (((f_X12_fillsCells (-1 : Int32) (-1 : Int32) (f_X12_copies s l).1 (f_X12_copies s l).2).1 60 60), (f_X12_fillsCells (-1 : Int32) (-1 : Int32) (f_X12_copies s l).1 (f_X12_copies s l).2).1, (f_X12_fillsCells (-1 : Int32) (-1 : Int32) (f_X12_copies s l).1 (f_X12_copies s l).2).2) else if (v0 = 7) then f_X12_count_142 fu (0 : Int32) (0 : Int32) (f_X12_copies s l).1 (f_X12_copies s l).2 else if (v0 = 8) then (((f_X12_copies s l).1 60 2), (f_X12_copies s l).1, (f_X12_copies s l).2) else if (v0 = 9) then (((f_X12_copies s l).1 60 58), (f_X12_copies s l).1, (f_X12_copies s l).2) else if (v0 = 10) then (((f_X12_copies s l).1 60 65), (f_X12_copies s l).1, (f_X12_copies s l).2) else if (v0 = 11) then if (((f_X12_copies s l).1 105 (0 : Int32).toNatClampNeg) = 0) then if (((f_X12_copies s l).1 105 (1 : Int32).toNatClampNeg) = 0) then if (((f_X12_copies s l).1 105 (2 : Int32).toNatClampNeg) = 0) then ((((0 : Int32) + (0 : Int32)) + (0 : Int32)), (f_X12_copies s l).1, (f_X12_copies s l).2) else ((((0 : Int32) + (0 : Int32)) + (1 : Int32)), (f_X12_copies s l).1, (f_X12_copies s l).2) else if (((f_X12_copies s l).1 105 (2 : Int32).toNatClampNeg) = 0) then ((((0 : Int32) + (1 : Int32)) + (0 : Int32)), (f_X12_copies s l).1, (f_X12_copies s l).2) else ((((0 : Int32) + (1 : Int32)) + (1 : Int32)), (f_X12_copies s l).1, (f_X12_copies s l).2) else if (((f_X12_copies s l).1 105 (1 : Int32).toNatClampNeg) = 0) then if (((f_X12_copies s l).1 105 (2 : Int32).toNatClampNeg) = 0) then ((((1 : Int32) + (0 : Int32)) + (0 : Int32)), (f_X12_copies s l).1, (f_X12_copies s l).2) else ((((1 : Int32) + (0 : Int32)) + (1 : Int32)), (f_X12_copies s l).1, (f_X12_copies s l).2) else if (((f_X12_copies s l).1 105 (2 : Int32).toNatClampNeg) = 0) then ((((1 : Int32) + (1 : Int32)) + (0 : Int32)), (f_X12_copies s l).1, (f_X12_copies s l).2) else ((((1 : Int32) + (1 : Int32)) + (1 : Int32)), (f_X12_copies s l).1, (f_X12_copies s l).2) else if (v0 = 12) then if ((f_X12_isRain (f_X12_copies s l).1 (f_X12_copies s l).2) = 0) then ((0 : Int32), (f_X12_copies s l).1, (f_X12_copies s l).2) else ((1 : Int32), (f_X12_copies s l).1, (f_X12_copies s l).2) else if (v0 = 13) then f_X12_count_246 fu (0 : Int32) (0 : Int32) (f_X12_copies s l).1 (f_X12_copies s l).2 else if (v0 = 14) then f_X12_count_288 fu (0 : Int32) (0 : Int32) (f_X12_copies s l).1 (f_X12_copies s l).2 else ((-1 : Int32), (f_X12_copies s l).1, (f_X12_copies s l).2)

def p_X12_count (v0 : Int32) (s : fl_I) (l : fl_L) : Prop :=
  (p_X12_copies s l) ∧ (((v0 = 0) → (vp_in ((f_X12_copies s l).1 60 18) 2) ∧ True) ∧ (¬ (v0 = 0) → (((v0 = 1) → True) ∧ (¬ (v0 = 1) → (((v0 = 2) → (vp_in ((f_X12_copies s l).1 60 18) 2) ∧ True) ∧ (¬ (v0 = 2) → (((v0 = 3) → (vp_in ((f_X12_copies s l).1 60 18) 2) ∧ True) ∧ (¬ (v0 = 3) → (((v0 = 4) → True) ∧ (¬ (v0 = 4) → (((v0 = 5) → (p_X12_lieMany (f_X12_copies s l).1 (f_X12_copies s l).2) ∧ True) ∧ (¬ (v0 = 5) → (((v0 = 6) → (p_X12_fillsCells (-1 : Int32) (-1 : Int32) (f_X12_copies s l).1 (f_X12_copies s l).2) ∧ True) ∧ (¬ (v0 = 6) → (((v0 = 7) → p_X12_count_142 fu (0 : Int32) (0 : Int32) (f_X12_copies s l).1 (f_X12_copies s l).2) ∧ (¬ (v0 = 7) → (((v0 = 8) → True) ∧ (¬ (v0 = 8) → (((v0 = 9) → True) ∧ (¬ (v0 = 9) → (((v0 = 10) → True) ∧ (¬ (v0 = 10) → (((v0 = 11) → (((((f_X12_copies s l).1 105 (0 : Int32).toNatClampNeg) = 0) → (((((f_X12_copies s l).1 105 (1 : Int32).toNatClampNeg) = 0) → (((((f_X12_copies s l).1 105 (2 : Int32).toNatClampNeg) = 0) → True) ∧ (¬ (((f_X12_copies s l).1 105 (2 : Int32).toNatClampNeg) = 0) → True))) ∧ (¬ (((f_X12_copies s l).1 105 (1 : Int32).toNatClampNeg) = 0) → (((((f_X12_copies s l).1 105 (2 : Int32).toNatClampNeg) = 0) → True) ∧ (¬ (((f_X12_copies s l).1 105 (2 : Int32).toNatClampNeg) = 0) → True))))) ∧ (¬ (((f_X12_copies s l).1 105 (0 : Int32).toNatClampNeg) = 0) → (((((f_X12_copies s l).1 105 (1 : Int32).toNatClampNeg) = 0) → (((((f_X12_copies s l).1 105 (2 : Int32).toNatClampNeg) = 0) → True) ∧ (¬ (((f_X12_copies s l).1 105 (2 : Int32).toNatClampNeg) = 0) → True))) ∧ (¬ (((f_X12_copies s l).1 105 (1 : Int32).toNatClampNeg) = 0) → (((((f_X12_copies s l).1 105 (2 : Int32).toNatClampNeg) = 0) → True) ∧ (¬ (((f_X12_copies s l).1 105 (2 : Int32).toNatClampNeg) = 0) → True))))))) ∧ (¬ (v0 = 11) → (((v0 = 12) → (p_X12_isRain (f_X12_copies s l).1 (f_X12_copies s l).2) ∧ ((((f_X12_isRain (f_X12_copies s l).1 (f_X12_copies s l).2) = 0) → True) ∧ (¬ ((f_X12_isRain (f_X12_copies s l).1 (f_X12_copies s l).2) = 0) → True))) ∧ (¬ (v0 = 12) → (((v0 = 13) → p_X12_count_246 fu (0 : Int32) (0 : Int32) (f_X12_copies s l).1 (f_X12_copies s l).2) ∧ (¬ (v0 = 13) → (((v0 = 14) → p_X12_count_288 fu (0 : Int32) (0 : Int32) (f_X12_copies s l).1 (f_X12_copies s l).2) ∧ (¬ (v0 = 14) → True))))))))))))))))))))))))))))))

set_option maxRecDepth 100000 in
set_option maxHeartbeats 4000000 in
theorem s_X12_count {G : ab_G} {d : Nat} {D : fl_D} {s : fl_I} {l : fl_L} {v0 : Int32} (hk : p_X12_count v0 s l) : ab_C G (d + 4) 0 0 M_X12_count 0 (ab_ent [.ref 60, .int v0]) [] (hp D s l) (rt (some (.int (f_X12_count v0 s l).1)) (hp D (f_X12_count v0 s l).2.1 (f_X12_count v0 s l).2.2)) := by
  generalize he : (f_X12_count v0 s l) = res
  unfold f_X12_count at he
  unfold p_X12_count at hk
  refine r_weak (L1 := [some (.ref 60), some (.int v0), none, none]) ⟨rfl, rfl, trivial⟩ ?_
  refine r_aload_n rfl rfl ?_
  obtain ⟨hb0, hk⟩ := hk
  refine q_callV0 [] _ rfl kY_X12_copies kT_X12_copies rfl rfl (Nat.le_of_ble_eq_true rfl) (Nat.le_of_ble_eq_true rfl) (cc_60 _) (s_X12_copies hb0) (fun r h q => ?_)
  obtain ⟨rfl, rfl⟩ := q
  simp only [Option.toList, List.cons_append, List.nil_append]
  refine r_iconst_ (a := 0) rfl (by decide) ?_
  refine r_istore_n rfl (Nat.le_of_ble_eq_true rfl) rfl ?_
  refine r_iload_n rfl rfl ?_
  by_cases c_7_0 : (v0 = 0)
  · rw [if_pos c_7_0] at he
    replace hk := hk.1 c_7_0
    refine r_tableIn (tgt := 80) rfl (by rw [c_7_0]; decide) (by rw [c_7_0]; decide) (by rw [c_7_0]; rfl) (by decide) ?_
    refine r_aload_n rfl rfl ?_
    refine q_getfield rfl (cc_60 _) rfl ?_
    refine r_aload_n rfl rfl ?_
    refine q_getfield rfl (cc_60 _) rfl ?_
    obtain ⟨hb1, hk⟩ := hk
    refine q_iald rfl (cc_68 _) hb1 ?_
    refine r_iret rfl rfl rfl ?_
    subst he
    exact ⟨rfl, rfl⟩
  · rw [if_neg c_7_0] at he
    replace hk := hk.2 c_7_0
    by_cases c_7_1 : (v0 = 1)
    · rw [if_pos c_7_1] at he
      replace hk := hk.1 c_7_1
      refine r_tableIn (tgt := 90) rfl (by rw [c_7_1]; decide) (by rw [c_7_1]; decide) (by rw [c_7_1]; rfl) (by decide) ?_
      refine r_aload_n rfl rfl ?_
      refine q_getfield rfl (cc_60 _) rfl ?_
      refine r_iret rfl rfl rfl ?_
      subst he
      exact ⟨rfl, rfl⟩
    · rw [if_neg c_7_1] at he
      replace hk := hk.2 c_7_1
      by_cases c_7_2 : (v0 = 2)
      · rw [if_pos c_7_2] at he
        replace hk := hk.1 c_7_2
        refine r_tableIn (tgt := 95) rfl (by rw [c_7_2]; decide) (by rw [c_7_2]; decide) (by rw [c_7_2]; rfl) (by decide) ?_
        refine r_aload_n rfl rfl ?_
        refine q_getfield rfl (cc_60 _) rfl ?_
        refine r_aload_n rfl rfl ?_
        refine q_getfield rfl (cc_60 _) rfl ?_
        obtain ⟨hb2, hk⟩ := hk
        refine q_iald rfl (cc_72 _) hb2 ?_
        refine r_iret rfl rfl rfl ?_
        subst he
        exact ⟨rfl, rfl⟩
      · rw [if_neg c_7_2] at he
        replace hk := hk.2 c_7_2
        by_cases c_7_3 : (v0 = 3)
        · rw [if_pos c_7_3] at he
          replace hk := hk.1 c_7_3
          refine r_tableIn (tgt := 105) rfl (by rw [c_7_3]; decide) (by rw [c_7_3]; decide) (by rw [c_7_3]; rfl) (by decide) ?_
          refine r_aload_n rfl rfl ?_
          refine q_getfield rfl (cc_60 _) rfl ?_
          refine r_aload_n rfl rfl ?_
          refine q_getfield rfl (cc_60 _) rfl ?_
          obtain ⟨hb3, hk⟩ := hk
          refine q_iald rfl (cc_74 _) hb3 ?_
          refine r_iret rfl rfl rfl ?_
          subst he
          exact ⟨rfl, rfl⟩
        · rw [if_neg c_7_3] at he
          replace hk := hk.2 c_7_3
          by_cases c_7_4 : (v0 = 4)
          · rw [if_pos c_7_4] at he
            replace hk := hk.1 c_7_4
            refine r_tableIn (tgt := 115) rfl (by rw [c_7_4]; decide) (by rw [c_7_4]; decide) (by rw [c_7_4]; rfl) (by decide) ?_
            refine r_aload_n rfl rfl ?_
            refine q_getfield rfl (cc_60 _) rfl ?_
            refine r_sipush_ (a := 140) rfl (by decide) ?_
            refine q_iald rfl (cc_95 _) (by unfold vp_in; decide) ?_
            refine r_iret rfl rfl rfl ?_
            subst he
            exact ⟨rfl, rfl⟩
          · rw [if_neg c_7_4] at he
            replace hk := hk.2 c_7_4
            by_cases c_7_5 : (v0 = 5)
            · rw [if_pos c_7_5] at he
              replace hk := hk.1 c_7_5
              refine r_tableIn (tgt := 124) rfl (by rw [c_7_5]; decide) (by rw [c_7_5]; decide) (by rw [c_7_5]; rfl) (by decide) ?_
              refine r_aload_n rfl rfl ?_
              obtain ⟨hb4, hk⟩ := hk
              refine q_callV0 [] _ rfl kY_X12_lieMany kT_X12_lieMany rfl rfl (Nat.le_of_ble_eq_true rfl) (Nat.le_of_ble_eq_true rfl) (cc_60 _) (s_X12_lieMany hb4) (fun r h q => ?_)
              obtain ⟨rfl, rfl⟩ := q
              simp only [Option.toList, List.cons_append, List.nil_append]
              refine r_iret rfl rfl rfl ?_
              subst he
              exact ⟨rfl, rfl⟩
            · rw [if_neg c_7_5] at he
              replace hk := hk.2 c_7_5
              by_cases c_7_6 : (v0 = 6)
              · rw [if_pos c_7_6] at he
                replace hk := hk.1 c_7_6
                refine r_tableIn (tgt := 129) rfl (by rw [c_7_6]; decide) (by rw [c_7_6]; decide) (by rw [c_7_6]; rfl) (by decide) ?_
                refine r_aload_n rfl rfl ?_
                refine r_iconst_ (a := -1) rfl (by decide) ?_
                refine r_iconst_ (a := -1) rfl (by decide) ?_
                obtain ⟨hb5, hk⟩ := hk
                refine q_callV0 [_, _] _ rfl kY_X12_fillsCells kT_X12_fillsCells rfl rfl (Nat.le_of_ble_eq_true rfl) (Nat.le_of_ble_eq_true rfl) (cc_60 _) (s_X12_fillsCells hb5) (fun r h q => ?_)
                obtain ⟨rfl, rfl⟩ := q
                simp only [Option.toList, List.cons_append, List.nil_append]
                refine r_aload_n rfl rfl ?_
                refine q_getfield rfl (cc_60 _) rfl ?_
                refine r_iret rfl rfl rfl ?_
                subst he
                exact ⟨rfl, rfl⟩
              · rw [if_neg c_7_6] at he
                replace hk := hk.2 c_7_6
                by_cases c_7_7 : (v0 = 7)
                · rw [if_pos c_7_7] at he
                  replace hk := hk.1 c_7_7
                  refine r_tableIn (tgt := 140) rfl (by rw [c_7_7]; decide) (by rw [c_7_7]; decide) (by rw [c_7_7]; rfl) (by decide) ?_
                  refine r_iconst_ (a := 0) rfl (by decide) ?_
                  refine r_istore_n rfl (Nat.le_of_ble_eq_true rfl) rfl ?_
                  subst he
                  exact r_weak (L1 := [some (.ref 60), none, some (.int (0 : Int32)), some (.int (0 : Int32))]) ⟨rfl, rfl, rfl, trivial⟩ (lp_X12_count_142 fu _ _ _ _ hk)
                · rw [if_neg c_7_7] at he
                  replace hk := hk.2 c_7_7
                  by_cases c_7_8 : (v0 = 8)
                  · rw [if_pos c_7_8] at he
                    replace hk := hk.1 c_7_8
                    refine r_tableIn (tgt := 171) rfl (by rw [c_7_8]; decide) (by rw [c_7_8]; decide) (by rw [c_7_8]; rfl) (by decide) ?_
                    refine r_aload_n rfl rfl ?_
                    refine q_getfield rfl (cc_60 _) rfl ?_
                    refine r_iret rfl rfl rfl ?_
                    subst he
                    exact ⟨rfl, rfl⟩
                  · rw [if_neg c_7_8] at he
                    replace hk := hk.2 c_7_8
                    by_cases c_7_9 : (v0 = 9)
                    · rw [if_pos c_7_9] at he
                      replace hk := hk.1 c_7_9
                      refine r_tableIn (tgt := 176) rfl (by rw [c_7_9]; decide) (by rw [c_7_9]; decide) (by rw [c_7_9]; rfl) (by decide) ?_
                      refine r_aload_n rfl rfl ?_
                      refine q_getfield rfl (cc_60 _) rfl ?_
                      refine r_iret rfl rfl rfl ?_
                      subst he
                      exact ⟨rfl, rfl⟩
                    · rw [if_neg c_7_9] at he
                      replace hk := hk.2 c_7_9
                      by_cases c_7_10 : (v0 = 10)
                      · rw [if_pos c_7_10] at he
                        replace hk := hk.1 c_7_10
                        refine r_tableIn (tgt := 181) rfl (by rw [c_7_10]; decide) (by rw [c_7_10]; decide) (by rw [c_7_10]; rfl) (by decide) ?_
                        refine r_aload_n rfl rfl ?_
                        refine q_getfield rfl (cc_60 _) rfl ?_
                        refine r_iret rfl rfl rfl ?_
                        subst he
                        exact ⟨rfl, rfl⟩
                      · rw [if_neg c_7_10] at he
                        replace hk := hk.2 c_7_10
                        by_cases c_7_11 : (v0 = 11)
                        · rw [if_pos c_7_11] at he
                          replace hk := hk.1 c_7_11
                          refine r_tableIn (tgt := 186) rfl (by rw [c_7_11]; decide) (by rw [c_7_11]; decide) (by rw [c_7_11]; rfl) (by decide) ?_
                          refine r_aload_n rfl rfl ?_
                          refine q_getfield rfl (cc_60 _) rfl ?_
                          refine r_iconst_ (a := 0) rfl (by decide) ?_
                          refine q_zald rfl (cc_105 _) (by unfold vp_in; decide) ?_
                          refine r_if_eq rfl (fun c_192 => ?_) (fun c_192 => ?_)
                          · rw [if_pos c_192] at he
                            replace hk := hk.1 c_192
                            refine r_iconst_ (a := 0) rfl (by decide) ?_
                            refine r_aload_n rfl rfl ?_
                            refine q_getfield rfl (cc_60 _) rfl ?_
                            refine r_iconst_ (a := 1) rfl (by decide) ?_
                            refine q_zald rfl (cc_105 _) (by unfold vp_in; decide) ?_
                            refine r_if_eq rfl (fun c_206 => ?_) (fun c_206 => ?_)
                            · rw [if_pos c_206] at he
                              replace hk := hk.1 c_206
                              refine r_iconst_ (a := 0) rfl (by decide) ?_
                              refine r_iadd rfl ?_
                              refine r_aload_n rfl rfl ?_
                              refine q_getfield rfl (cc_60 _) rfl ?_
                              refine r_iconst_ (a := 2) rfl (by decide) ?_
                              refine q_zald rfl (cc_105 _) (by unfold vp_in; decide) ?_
                              refine r_if_eq rfl (fun c_221 => ?_) (fun c_221 => ?_)
                              · rw [if_pos c_221] at he
                                replace hk := hk.1 c_221
                                refine r_iconst_ (a := 0) rfl (by decide) ?_
                                refine r_iadd rfl ?_
                                refine r_iret rfl rfl rfl ?_
                                subst he
                                exact ⟨rfl, rfl⟩
                              · rw [if_neg c_221] at he
                                replace hk := hk.2 c_221
                                refine r_iconst_ (a := 1) rfl (by decide) ?_
                                refine r_goto rfl ?_
                                refine r_iadd rfl ?_
                                refine r_iret rfl rfl rfl ?_
                                subst he
                                exact ⟨rfl, rfl⟩
                            · rw [if_neg c_206] at he
                              replace hk := hk.2 c_206
                              refine r_iconst_ (a := 1) rfl (by decide) ?_
                              refine r_goto rfl ?_
                              refine r_iadd rfl ?_
                              refine r_aload_n rfl rfl ?_
                              refine q_getfield rfl (cc_60 _) rfl ?_
                              refine r_iconst_ (a := 2) rfl (by decide) ?_
                              refine q_zald rfl (cc_105 _) (by unfold vp_in; decide) ?_
                              refine r_if_eq rfl (fun c_221 => ?_) (fun c_221 => ?_)
                              · rw [if_pos c_221] at he
                                replace hk := hk.1 c_221
                                refine r_iconst_ (a := 0) rfl (by decide) ?_
                                refine r_iadd rfl ?_
                                refine r_iret rfl rfl rfl ?_
                                subst he
                                exact ⟨rfl, rfl⟩
                              · rw [if_neg c_221] at he
                                replace hk := hk.2 c_221
                                refine r_iconst_ (a := 1) rfl (by decide) ?_
                                refine r_goto rfl ?_
                                refine r_iadd rfl ?_
                                refine r_iret rfl rfl rfl ?_
                                subst he
                                exact ⟨rfl, rfl⟩
                          · rw [if_neg c_192] at he
                            replace hk := hk.2 c_192
                            refine r_iconst_ (a := 1) rfl (by decide) ?_
                            refine r_goto rfl ?_
                            refine r_aload_n rfl rfl ?_
                            refine q_getfield rfl (cc_60 _) rfl ?_
                            refine r_iconst_ (a := 1) rfl (by decide) ?_
                            refine q_zald rfl (cc_105 _) (by unfold vp_in; decide) ?_
                            refine r_if_eq rfl (fun c_206 => ?_) (fun c_206 => ?_)
                            · rw [if_pos c_206] at he
                              replace hk := hk.1 c_206
                              refine r_iconst_ (a := 0) rfl (by decide) ?_
                              refine r_iadd rfl ?_
                              refine r_aload_n rfl rfl ?_
                              refine q_getfield rfl (cc_60 _) rfl ?_
                              refine r_iconst_ (a := 2) rfl (by decide) ?_
                              refine q_zald rfl (cc_105 _) (by unfold vp_in; decide) ?_
                              refine r_if_eq rfl (fun c_221 => ?_) (fun c_221 => ?_)
                              · rw [if_pos c_221] at he
                                replace hk := hk.1 c_221
                                refine r_iconst_ (a := 0) rfl (by decide) ?_
                                refine r_iadd rfl ?_
                                refine r_iret rfl rfl rfl ?_
                                subst he
                                exact ⟨rfl, rfl⟩
                              · rw [if_neg c_221] at he
                                replace hk := hk.2 c_221
                                refine r_iconst_ (a := 1) rfl (by decide) ?_
                                refine r_goto rfl ?_
                                refine r_iadd rfl ?_
                                refine r_iret rfl rfl rfl ?_
                                subst he
                                exact ⟨rfl, rfl⟩
                            · rw [if_neg c_206] at he
                              replace hk := hk.2 c_206
                              refine r_iconst_ (a := 1) rfl (by decide) ?_
                              refine r_goto rfl ?_
                              refine r_iadd rfl ?_
                              refine r_aload_n rfl rfl ?_
                              refine q_getfield rfl (cc_60 _) rfl ?_
                              refine r_iconst_ (a := 2) rfl (by decide) ?_
                              refine q_zald rfl (cc_105 _) (by unfold vp_in; decide) ?_
                              refine r_if_eq rfl (fun c_221 => ?_) (fun c_221 => ?_)
                              · rw [if_pos c_221] at he
                                replace hk := hk.1 c_221
                                refine r_iconst_ (a := 0) rfl (by decide) ?_
                                refine r_iadd rfl ?_
                                refine r_iret rfl rfl rfl ?_
                                subst he
                                exact ⟨rfl, rfl⟩
                              · rw [if_neg c_221] at he
                                replace hk := hk.2 c_221
                                refine r_iconst_ (a := 1) rfl (by decide) ?_
                                refine r_goto rfl ?_
                                refine r_iadd rfl ?_
                                refine r_iret rfl rfl rfl ?_
                                subst he
                                exact ⟨rfl, rfl⟩
                        · rw [if_neg c_7_11] at he
                          replace hk := hk.2 c_7_11
                          by_cases c_7_12 : (v0 = 12)
                          · rw [if_pos c_7_12] at he
                            replace hk := hk.1 c_7_12
                            refine r_tableIn (tgt := 231) rfl (by rw [c_7_12]; decide) (by rw [c_7_12]; decide) (by rw [c_7_12]; rfl) (by decide) ?_
                            refine r_aload_n rfl rfl ?_
                            obtain ⟨hb8, hk⟩ := hk
                            refine q_callV0 [] _ rfl kY_X12_isRain kT_X12_isRain rfl rfl (Nat.le_of_ble_eq_true rfl) (Nat.le_of_ble_eq_true rfl) (cc_60 _) (s_X12_isRain hb8) (fun r h q => ?_)
                            obtain ⟨rfl, rfl⟩ := q
                            simp only [Option.toList, List.cons_append, List.nil_append]
                            refine r_if_eq rfl (fun c_235 => ?_) (fun c_235 => ?_)
                            · rw [if_pos c_235] at he
                              replace hk := hk.1 c_235
                              refine r_iconst_ (a := 0) rfl (by decide) ?_
                              refine r_iret rfl rfl rfl ?_
                              subst he
                              exact ⟨rfl, rfl⟩
                            · rw [if_neg c_235] at he
                              replace hk := hk.2 c_235
                              refine r_iconst_ (a := 1) rfl (by decide) ?_
                              refine r_goto rfl ?_
                              refine r_iret rfl rfl rfl ?_
                              subst he
                              exact ⟨rfl, rfl⟩
                          · rw [if_neg c_7_12] at he
                            replace hk := hk.2 c_7_12
                            by_cases c_7_13 : (v0 = 13)
                            · rw [if_pos c_7_13] at he
                              replace hk := hk.1 c_7_13
                              refine r_tableIn (tgt := 244) rfl (by rw [c_7_13]; decide) (by rw [c_7_13]; decide) (by rw [c_7_13]; rfl) (by decide) ?_
                              refine r_iconst_ (a := 0) rfl (by decide) ?_
                              refine r_istore_n rfl (Nat.le_of_ble_eq_true rfl) rfl ?_
                              subst he
                              exact r_weak (L1 := [some (.ref 60), none, some (.int (0 : Int32)), some (.int (0 : Int32))]) ⟨rfl, rfl, rfl, trivial⟩ (lp_X12_count_246 fu _ _ _ _ hk)
                            · rw [if_neg c_7_13] at he
                              replace hk := hk.2 c_7_13
                              by_cases c_7_14 : (v0 = 14)
                              · rw [if_pos c_7_14] at he
                                replace hk := hk.1 c_7_14
                                refine r_tableIn (tgt := 286) rfl (by rw [c_7_14]; decide) (by rw [c_7_14]; decide) (by rw [c_7_14]; rfl) (by decide) ?_
                                refine r_iconst_ (a := 0) rfl (by decide) ?_
                                refine r_istore_n rfl (Nat.le_of_ble_eq_true rfl) rfl ?_
                                subst he
                                exact r_weak (L1 := [some (.ref 60), none, some (.int (0 : Int32)), some (.int (0 : Int32))]) ⟨rfl, rfl, rfl, trivial⟩ (lp_X12_count_288 fu _ _ _ _ hk)
                              · rw [if_neg c_7_14] at he
                                replace hk := hk.2 c_7_14
                                refine r_tableOut (tgt := 336) rfl (by simp only [Int32.lt_iff_toInt_lt, Int32.le_iff_toInt_le, ← Int32.toInt_inj, ti_0, ti_1, ti_2, ti_3, ti_4, ti_5, ti_6, ti_7, ti_8, ti_9, ti_10, ti_11, ti_12, ti_13, ti_14, ti_15, ti_16, ti_17, ti_18, ti_19, ti_20, ti_21, ti_22, ti_23, ti_24, ti_25, ti_26, ti_27, ti_28, ti_29, ti_30, ti_31, ti_32, ti_33, ti_34, ti_35, ti_36, ti_37, ti_38, ti_39, ti_40, ti_41, ti_42, ti_43, ti_44, ti_45, ti_46, ti_47, ti_48, ti_49, ti_50, ti_51, ti_52, ti_53, ti_54, ti_55, ti_56, ti_57, ti_58, ti_59, ti_60, ti_61, ti_62, ti_63, ti_64, ti_79, ti_80, ti_90, ti_96, ti_97, ti_99, ti_100, ti_122, ti_128, ti_132, ti_136, ti_140, ti_141, ti_145, ti_255, ti_256, ti_257, ti_258, ti_259, ti_262, ti_263, ti_264, ti_265, ti_266, ti_267, ti_268, ti_276, ti_277, ti_400, ti_401, ti_408, ti_420, ti_840, ti_999, ti_1980, ti_2000, ti_9999, ti_10000, ti_10240, ti_1000000, ti_m1, ti_m2, ti_m3, ti_m4, ti_m5, ti_m6, ti_m7] at c_7_0 c_7_1 c_7_2 c_7_3 c_7_4 c_7_5 c_7_6 c_7_7 c_7_8 c_7_9 c_7_10 c_7_11 c_7_12 c_7_13 c_7_14; omega) (by decide) ?_
                                refine r_iconst_ (a := -1) rfl (by decide) ?_
                                refine r_iret rfl rfl rfl ?_
                                subst he
                                exact ⟨rfl, rfl⟩

def f_X12_goes_2 : Nat → Int32 → Int32 → fl_I → fl_L → fl_I × fl_L
  | 0, x1, x2, s, l => (s, l)
  | n + 1, x1, x2, s, l =>
    if (x1 ≤ x2) then (s, l) else f_X12_goes_2 n x1 (x2 + 1) (f_X12_hourGoes s l).1 (f_X12_hourGoes s l).2

def p_X12_goes_2 : Nat → Int32 → Int32 → fl_I → fl_L → Prop
  | 0, _, _, _, _ => False
  | n + 1, x1, x2, s, l =>
    (((x1 ≤ x2) → True) ∧ (¬ (x1 ≤ x2) → (p_X12_hourGoes s l) ∧ p_X12_goes_2 n x1 (x2 + 1) (f_X12_hourGoes s l).1 (f_X12_hourGoes s l).2))

set_option maxRecDepth 100000 in
set_option maxHeartbeats 4000000 in
theorem lp_X12_goes_2 {G : ab_G} {d : Nat} {D : fl_D} : ∀ (n : Nat) (x1 : Int32) (x2 : Int32) (s : fl_I) (l : fl_L), p_X12_goes_2 n x1 x2 s l → ab_C G (d + 6) 0 0 M_X12_goes 2 [some (.ref 60), some (.int x1), some (.int x2)] [] (hp D s l) (rt none (hp D (f_X12_goes_2 n x1 x2 s l).1 (f_X12_goes_2 n x1 x2 s l).2)) := by
  intro n
  induction n with
  | zero => intro x1 x2 s l hk; exact hk.elim
  | succ n ih =>
    intro x1 x2 s l hk
    generalize he : f_X12_goes_2 (n + 1) x1 x2 s l = res
    unfold f_X12_goes_2 at he
    unfold p_X12_goes_2 at hk
    refine r_iload_n rfl rfl ?_
    refine r_iload_n rfl rfl ?_
    refine r_icmp_ge rfl (fun c_4 => ?_) (fun c_4 => ?_)
    · rw [if_pos c_4] at he
      replace hk := hk.1 c_4
      refine r_ret rfl rfl ?_
      subst he
      exact ⟨rfl, rfl⟩
    · rw [if_neg c_4] at he
      replace hk := hk.2 c_4
      refine r_aload_n rfl rfl ?_
      obtain ⟨hb0, hk⟩ := hk
      refine q_callV0 [] _ rfl kY_X12_hourGoes kT_X12_hourGoes rfl rfl (Nat.le_of_ble_eq_true rfl) (Nat.le_of_ble_eq_true rfl) (cc_60 _) (s_X12_hourGoes hb0) (fun r h q => ?_)
      obtain ⟨rfl, rfl⟩ := q
      simp only [Option.toList, List.cons_append, List.nil_append]
      refine r_iinc (b := x2 + 1) rfl rfl rfl (Nat.le_of_ble_eq_true rfl) rfl ?_
      refine r_goto rfl ?_
      subst he
      exact r_weak (L1 := [some (.ref 60), some (.int x1), some (.int (x2 + 1))]) ⟨rfl, rfl, rfl, trivial⟩ (ih _ _ _ _ hk)

def f_X12_goes (v0 : Int32) (s : fl_I) (l : fl_L) : fl_I × fl_L :=
  f_X12_goes_2 fu v0 (0 : Int32) s l

def p_X12_goes (v0 : Int32) (s : fl_I) (l : fl_L) : Prop :=
  p_X12_goes_2 fu v0 (0 : Int32) s l

set_option maxRecDepth 100000 in
set_option maxHeartbeats 4000000 in
theorem s_X12_goes {G : ab_G} {d : Nat} {D : fl_D} {s : fl_I} {l : fl_L} {v0 : Int32} (hk : p_X12_goes v0 s l) : ab_C G (d + 6) 0 0 M_X12_goes 0 (ab_ent [.ref 60, .int v0]) [] (hp D s l) (rt none (hp D (f_X12_goes v0 s l).1 (f_X12_goes v0 s l).2)) := by
  generalize he : (f_X12_goes v0 s l) = res
  unfold f_X12_goes at he
  unfold p_X12_goes at hk
  refine r_weak (L1 := [some (.ref 60), some (.int v0), none]) ⟨rfl, rfl, trivial⟩ ?_
  refine r_iconst_ (a := 0) rfl (by decide) ?_
  refine r_istore_n rfl (Nat.le_of_ble_eq_true rfl) rfl ?_
  subst he
  exact r_weak (L1 := [some (.ref 60), some (.int v0), some (.int (0 : Int32))]) ⟨rfl, rfl, rfl, trivial⟩ (lp_X12_goes_2 fu _ _ _ _ hk)

def f_X12_loss (v0 : Int32) (s : fl_I) (l : fl_L) : Int32 × fl_I × fl_L :=
  if ((f_X12_isLong v0) = 0) then ((-1 : Int32), s, l) else ((f_X12_lossNow (f_X12_goes v0 (f_X12_copiesStill s l).1 (f_X12_copiesStill s l).2).1 (f_X12_goes v0 (f_X12_copiesStill s l).1 (f_X12_copiesStill s l).2).2).1, (f_X12_lossNow (f_X12_goes v0 (f_X12_copiesStill s l).1 (f_X12_copiesStill s l).2).1 (f_X12_goes v0 (f_X12_copiesStill s l).1 (f_X12_copiesStill s l).2).2).2.1, (f_X12_lossNow (f_X12_goes v0 (f_X12_copiesStill s l).1 (f_X12_copiesStill s l).2).1 (f_X12_goes v0 (f_X12_copiesStill s l).1 (f_X12_copiesStill s l).2).2).2.2)

def p_X12_loss (v0 : Int32) (s : fl_I) (l : fl_L) : Prop :=
  (p_X12_isLong v0) ∧ ((((f_X12_isLong v0) = 0) → True) ∧ (¬ ((f_X12_isLong v0) = 0) → (p_X12_copiesStill s l) ∧ (p_X12_goes v0 (f_X12_copiesStill s l).1 (f_X12_copiesStill s l).2) ∧ (p_X12_lossNow (f_X12_goes v0 (f_X12_copiesStill s l).1 (f_X12_copiesStill s l).2).1 (f_X12_goes v0 (f_X12_copiesStill s l).1 (f_X12_copiesStill s l).2).2) ∧ True))

set_option maxRecDepth 100000 in
set_option maxHeartbeats 4000000 in
theorem s_X12_loss {G : ab_G} {d : Nat} {D : fl_D} {s : fl_I} {l : fl_L} {v0 : Int32} (hk : p_X12_loss v0 s l) : ab_C G (d + 7) 0 0 M_X12_loss 0 (ab_ent [.ref 60, .int v0]) [] (hp D s l) (rt (some (.int (f_X12_loss v0 s l).1)) (hp D (f_X12_loss v0 s l).2.1 (f_X12_loss v0 s l).2.2)) := by
  generalize he : (f_X12_loss v0 s l) = res
  unfold f_X12_loss at he
  unfold p_X12_loss at hk
  refine r_weak (L1 := [some (.ref 60), some (.int v0)]) ⟨rfl, rfl, trivial⟩ ?_
  refine r_iload_n rfl rfl ?_
  obtain ⟨hb0, hk⟩ := hk
  refine r_callS0 [_] _ rfl kY_X12_isLong kT_X12_isLong rfl rfl (Nat.le_of_ble_eq_true rfl) (Nat.le_of_ble_eq_true rfl) (s_X12_isLong hb0) (fun r h q => ?_)
  obtain ⟨rfl, rfl⟩ := q
  simp only [Option.toList, List.cons_append, List.nil_append]
  refine r_if_ne rfl (fun c_4 => ?_) (fun c_4 => ?_)
  · rw [if_neg c_4] at he
    replace hk := hk.2 c_4
    refine r_aload_n rfl rfl ?_
    obtain ⟨hb1, hk⟩ := hk
    refine q_callV0 [] _ rfl kY_X12_copiesStill kT_X12_copiesStill rfl rfl (Nat.le_of_ble_eq_true rfl) (Nat.le_of_ble_eq_true rfl) (cc_60 _) (s_X12_copiesStill hb1) (fun r h q => ?_)
    obtain ⟨rfl, rfl⟩ := q
    simp only [Option.toList, List.cons_append, List.nil_append]
    refine r_aload_n rfl rfl ?_
    refine r_iload_n rfl rfl ?_
    obtain ⟨hb2, hk⟩ := hk
    refine q_callV0 [_] _ rfl kY_X12_goes kT_X12_goes rfl rfl (Nat.le_of_ble_eq_true rfl) (Nat.le_of_ble_eq_true rfl) (cc_60 _) (s_X12_goes hb2) (fun r h q => ?_)
    obtain ⟨rfl, rfl⟩ := q
    simp only [Option.toList, List.cons_append, List.nil_append]
    refine r_aload_n rfl rfl ?_
    obtain ⟨hb3, hk⟩ := hk
    refine q_callV0 [] _ rfl kY_X12_lossNow kT_X12_lossNow rfl rfl (Nat.le_of_ble_eq_true rfl) (Nat.le_of_ble_eq_true rfl) (cc_60 _) (s_X12_lossNow hb3) (fun r h q => ?_)
    obtain ⟨rfl, rfl⟩ := q
    simp only [Option.toList, List.cons_append, List.nil_append]
    refine r_iret rfl rfl rfl ?_
    subst he
    exact ⟨rfl, rfl⟩
  · rw [if_pos c_4] at he
    replace hk := hk.1 c_4
    refine r_iconst_ (a := -1) rfl (by decide) ?_
    refine r_iret rfl rfl rfl ?_
    subst he
    exact ⟨rfl, rfl⟩

