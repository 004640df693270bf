def f_X12_blows_69 (fu : Nat) : Nat → Int32 → fl_I → fl_L → fl_I × fl_L
  | 0, x2, s, l => (s, l)
  | n + 1, x2, s, l =>
    if ((s 60 54) ≤ x2) then (s, l) else if ((f_X12_doesLie fu x2 s l) = 0) then f_X12_blows_69 fu n (x2 + 1) s l else if ((s 98 x2.toNatClampNeg) = 0) then f_X12_blows_69 fu n (x2 + 1) (wi s 95 ((96 : Int32) + x2).toNatClampNeg (f_X12_within fu ((s 95 ((96 : Int32) + x2).toNatClampNeg) + (1 : Int32)) (0 : Int32) (999 : Int32))) l else f_X12_blows_69 fu n (x2 + 1) (wi (wi (wi s 95 x2.toNatClampNeg (f_X12_within fu ((s 95 x2.toNatClampNeg) + (s 79 ((2 : Int32) * (s 60 18)).toNatClampNeg)) (0 : Int32) (9 : Int32))) 95 ((32 : Int32) + x2).toNatClampNeg (f_X12_within fu (((wi s 95 x2.toNatClampNeg (f_X12_within fu ((s 95 x2.toNatClampNeg) + (s 79 ((2 : Int32) * (s 60 18)).toNatClampNeg)) (0 : Int32) (9 : Int32))) 95 ((32 : Int32) + x2).toNatClampNeg) + ((wi s 95 x2.toNatClampNeg (f_X12_within fu ((s 95 x2.toNatClampNeg) + (s 79 ((2 : Int32) * (s 60 18)).toNatClampNeg)) (0 : Int32) (9 : Int32))) 79 (((2 : Int32) * ((wi s 95 x2.toNatClampNeg (f_X12_within fu ((s 95 x2.toNatClampNeg) + (s 79 ((2 : Int32) * (s 60 18)).toNatClampNeg)) (0 : Int32) (9 : Int32))) 60 18)) + (1 : Int32)).toNatClampNeg)) (0 : Int32) (7 : Int32))) 95 ((96 : Int32) + x2).toNatClampNeg (0 : Int32)) l

def p_X12_blows_69 (fu : Nat) : Nat → Int32 → fl_I → fl_L → Prop
  | 0, _, _, _ => False
  | n + 1, x2, s, l =>
    ((((s 60 54) ≤ x2) → True) ∧ (¬ ((s 60 54) ≤ x2) → (p_X12_doesLie fu x2 s l) ∧ ((((f_X12_doesLie fu x2 s l) = 0) → p_X12_blows_69 fu n (x2 + 1) s l) ∧ (¬ ((f_X12_doesLie fu x2 s l) = 0) → (vp_in x2 32) ∧ ((((s 98 x2.toNatClampNeg) = 0) → (vp_in ((96 : Int32) + x2) 141) ∧ (p_X12_within fu ((s 95 ((96 : Int32) + x2).toNatClampNeg) + (1 : Int32)) (0 : Int32) (999 : Int32)) ∧ (vp_in ((96 : Int32) + x2) 141) ∧ p_X12_blows_69 fu n (x2 + 1) (wi s 95 ((96 : Int32) + x2).toNatClampNeg (f_X12_within fu ((s 95 ((96 : Int32) + x2).toNatClampNeg) + (1 : Int32)) (0 : Int32) (999 : Int32))) l) ∧ (¬ ((s 98 x2.toNatClampNeg) = 0) → (vp_in x2 141) ∧ (vp_in ((2 : Int32) * (s 60 18)) 4) ∧ (p_X12_within fu ((s 95 x2.toNatClampNeg) + (s 79 ((2 : Int32) * (s 60 18)).toNatClampNeg)) (0 : Int32) (9 : Int32)) ∧ (vp_in x2 141) ∧ (vp_in ((32 : Int32) + x2) 141) ∧ (vp_in (((2 : Int32) * ((wi s 95 x2.toNatClampNeg (f_X12_within fu ((s 95 x2.toNatClampNeg) + (s 79 ((2 : Int32) * (s 60 18)).toNatClampNeg)) (0 : Int32) (9 : Int32))) 60 18)) + (1 : Int32)) 4) ∧ (p_X12_within fu (((wi s 95 x2.toNatClampNeg (f_X12_within fu ((s 95 x2.toNatClampNeg) + (s 79 ((2 : Int32) * (s 60 18)).toNatClampNeg)) (0 : Int32) (9 : Int32))) 95 ((32 : Int32) + x2).toNatClampNeg) + ((wi s 95 x2.toNatClampNeg (f_X12_within fu ((s 95 x2.toNatClampNeg) + (s 79 ((2 : Int32) * (s 60 18)).toNatClampNeg)) (0 : Int32) (9 : Int32))) 79 (((2 : Int32) * ((wi s 95 x2.toNatClampNeg (f_X12_within fu ((s 95 x2.toNatClampNeg) + (s 79 ((2 : Int32) * (s 60 18)).toNatClampNeg)) (0 : Int32) (9 : Int32))) 60 18)) + (1 : Int32)).toNatClampNeg)) (0 : Int32) (7 : Int32)) ∧ (vp_in ((32 : Int32) + x2) 141) ∧ (vp_in ((96 : Int32) + x2) 141) ∧ p_X12_blows_69 fu n (x2 + 1) (wi (wi (wi s 95 x2.toNatClampNeg (f_X12_within fu ((s 95 x2.toNatClampNeg) + (s 79 ((2 : Int32) * (s 60 18)).toNatClampNeg)) (0 : Int32) (9 : Int32))) 95 ((32 : Int32) + x2).toNatClampNeg (f_X12_within fu (((wi s 95 x2.toNatClampNeg (f_X12_within fu ((s 95 x2.toNatClampNeg) + (s 79 ((2 : Int32) * (s 60 18)).toNatClampNeg)) (0 : Int32) (9 : Int32))) 95 ((32 : Int32) + x2).toNatClampNeg) + ((wi s 95 x2.toNatClampNeg (f_X12_within fu ((s 95 x2.toNatClampNeg) + (s 79 ((2 : Int32) * (s 60 18)).toNatClampNeg)) (0 : Int32) (9 : Int32))) 79 (((2 : Int32) * ((wi s 95 x2.toNatClampNeg (f_X12_within fu ((s 95 x2.toNatClampNeg) + (s 79 ((2 : Int32) * (s 60 18)).toNatClampNeg)) (0 : Int32) (9 : Int32))) 60 18)) + (1 : Int32)).toNatClampNeg)) (0 : Int32) (7 : Int32))) 95 ((96 : Int32) + x2).toNatClampNeg (0 : Int32)) l))))))

set_option maxRecDepth 100000 in
set_option maxHeartbeats 1000000 in
theorem lp_X12_blows_69 {G : ab_G} {fu : Nat} {d : Nat} {D : fl_D} : ∀ (n : Nat) (x2 : Int32) (s : fl_I) (l : fl_L), p_X12_blows_69 fu n x2 s l → ab_C G (d + 4) 0 0 M_X12_blows 69 [some (.ref 60), none, some (.int x2)] [] (hp D s l) (rt none (hp D (f_X12_blows_69 fu n x2 s l).1 (f_X12_blows_69 fu n x2 s l).2)) := by
  intro n
  induction n with
  | zero => intro x2 s l hk; exact hk.elim
  | succ n ih =>
    intro x2 s l hk
    generalize he : f_X12_blows_69 fu (n + 1) x2 s l = res
    unfold f_X12_blows_69 at he
    unfold p_X12_blows_69 at hk
    refine r_iload_n rfl rfl ?_
    refine r_aload_n rfl rfl ?_
    refine q_getfield rfl (cc_60 _) rfl ?_
    refine r_icmp_ge rfl (fun c_74 => ?_) (fun c_74 => ?_)
    · rw [if_pos c_74] at he
      replace hk := hk.1 c_74
      refine r_ret rfl rfl ?_
      first | with_reducible exact fin_v he | exact fin_v he
    · rw [if_neg c_74] at he
      replace hk := hk.2 c_74
      refine r_aload_n rfl rfl ?_
      refine r_iload_n rfl rfl ?_
      obtain ⟨hb0, hk⟩ := hk
      refine q_callV0 [_] _ rfl kY_X12_doesLie kT_X12_doesLie rfl rfl (Nat.le_of_ble_eq_true rfl) (Nat.le_of_ble_eq_true rfl) (cc_60 _) (s_X12_doesLie hb0) (fun r h q => ?_)
      obtain ⟨rfl, rfl⟩ := q
      simp only [Option.toList, List.cons_append, List.nil_append]
      refine r_if_ne rfl (fun c_82 => ?_) (fun c_82 => ?_)
      · rw [if_neg c_82] at he
        replace hk := hk.2 c_82
        refine r_aload_n rfl rfl ?_
        refine q_getfield rfl (cc_60 _) rfl ?_
        refine r_iload_n rfl rfl ?_
        obtain ⟨hb1, hk⟩ := hk
        refine q_zald rfl (cc_98 _) hb1 ?_
        refine r_if_eq rfl (fun c_94 => ?_) (fun c_94 => ?_)
        · rw [if_pos c_94] at he
          replace hk := hk.1 c_94
          refine r_aload_n rfl rfl ?_
          refine q_getfield rfl (cc_60 _) rfl ?_
          refine r_bipush_ (a := 96) rfl (by decide) ?_
          refine r_iload_n rfl rfl ?_
          refine r_iadd rfl ?_
          refine r_aload_n rfl rfl ?_
          refine q_getfield rfl (cc_60 _) rfl ?_
          refine r_bipush_ (a := 96) rfl (by decide) ?_
          refine r_iload_n rfl rfl ?_
          refine r_iadd rfl ?_
          obtain ⟨hb2, hk⟩ := hk
          refine q_iald rfl (cc_95 _) hb2 ?_
          refine r_iconst_ (a := 1) rfl (by decide) ?_
          refine r_iadd rfl ?_
          refine r_iconst_ (a := 0) rfl (by decide) ?_
          refine r_sipush_ (a := 999) rfl (by decide) ?_
          obtain ⟨hb3, hk⟩ := hk
          refine r_callS0 [_, _, _] _ rfl kY_X12_within kT_X12_within rfl rfl (Nat.le_of_ble_eq_true rfl) (Nat.le_of_ble_eq_true rfl) (s_X12_within hb3) (fun r h q => ?_)
          obtain ⟨rfl, rfl⟩ := q
          simp only [Option.toList, List.cons_append, List.nil_append]
          obtain ⟨hb4, hk⟩ := hk
          refine w_iast rfl (cc_95 _) hb4 ?_
          refine r_iinc (b := x2 + 1) rfl rfl rfl (Nat.le_of_ble_eq_true rfl) rfl ?_
          refine r_goto rfl ?_
          subst he
          exact r_weak (L1 := [some (.ref 60), none, some (.int (x2 + 1))]) ⟨rfl, rfl, trivial⟩ (ih _ _ _ hk)
        · rw [if_neg c_94] at he
          replace hk := hk.2 c_94
          refine r_aload_n rfl rfl ?_
          refine q_getfield rfl (cc_60 _) rfl ?_
          refine r_iload_n rfl rfl ?_
          refine r_aload_n rfl rfl ?_
          refine q_getfield rfl (cc_60 _) rfl ?_
          refine r_iload_n rfl rfl ?_
          obtain ⟨hb5, hk⟩ := hk
          refine q_iald rfl (cc_95 _) hb5 ?_
          refine r_aload_n rfl rfl ?_
          refine q_getfield rfl (cc_60 _) rfl ?_
          refine r_iconst_ (a := 2) rfl (by decide) ?_
          refine r_aload_n rfl rfl ?_
          refine q_getfield rfl (cc_60 _) rfl ?_
          refine r_imul rfl ?_
          obtain ⟨hb6, hk⟩ := hk
          refine q_iald rfl (cc_79 _) hb6 ?_
          refine r_iadd rfl ?_
          refine r_iconst_ (a := 0) rfl (by decide) ?_
          refine r_bipush_ (a := 9) rfl (by decide) ?_
          obtain ⟨hb7, hk⟩ := hk
          refine r_callS0 [_, _, _] _ rfl kY_X12_within kT_X12_within rfl rfl (Nat.le_of_ble_eq_true rfl) (Nat.le_of_ble_eq_true rfl) (s_X12_within hb7) (fun r h q => ?_)
          obtain ⟨rfl, rfl⟩ := q
          simp only [Option.toList, List.cons_append, List.nil_append]
          obtain ⟨hb8, hk⟩ := hk
          refine w_iast rfl (cc_95 _) hb8 ?_
          refine r_aload_n rfl rfl ?_
          refine q_getfield rfl (cc_60 _) rfl ?_
          refine r_bipush_ (a := 32) rfl (by decide) ?_
          refine r_iload_n rfl rfl ?_
          refine r_iadd rfl ?_
          refine r_aload_n rfl rfl ?_
          refine q_getfield rfl (cc_60 _) rfl ?_
          refine r_bipush_ (a := 32) rfl (by decide) ?_
          refine r_iload_n rfl rfl ?_
          refine r_iadd rfl ?_
          obtain ⟨hb9, hk⟩ := hk
          refine q_iald rfl (cc_95 _) hb9 ?_
          refine r_aload_n rfl rfl ?_
          refine q_getfield rfl (cc_60 _) rfl ?_
          refine r_iconst_ (a := 2) rfl (by decide) ?_
          refine r_aload_n rfl rfl ?_
          refine q_getfield rfl (cc_60 _) rfl ?_
          refine r_imul rfl ?_
          refine r_iconst_ (a := 1) rfl (by decide) ?_
          refine r_iadd rfl ?_
          obtain ⟨hb10, hk⟩ := hk
          refine q_iald rfl (cc_79 _) hb10 ?_
          refine r_iadd rfl ?_
          refine r_iconst_ (a := 0) rfl (by decide) ?_
          refine r_bipush_ (a := 7) rfl (by decide) ?_
          obtain ⟨hb11, hk⟩ := hk
          refine r_callS0 [_, _, _] _ rfl kY_X12_within kT_X12_within rfl rfl (Nat.le_of_ble_eq_true rfl) (Nat.le_of_ble_eq_true rfl) (s_X12_within hb11) (fun r h q => ?_)
          obtain ⟨rfl, rfl⟩ := q
          simp only [Option.toList, List.cons_append, List.nil_append]
          obtain ⟨hb12, hk⟩ := hk
          refine w_iast rfl (cc_95 _) hb12 ?_
          refine r_aload_n rfl rfl ?_
          refine q_getfield rfl (cc_60 _) rfl ?_
          refine r_bipush_ (a := 96) rfl (by decide) ?_
          refine r_iload_n rfl rfl ?_
          refine r_iadd rfl ?_
          refine r_iconst_ (a := 0) rfl (by decide) ?_
          obtain ⟨hb13, hk⟩ := hk
          refine w_iast rfl (cc_95 _) hb13 ?_
          refine r_goto rfl ?_
          refine r_iinc (b := x2 + 1) rfl rfl rfl (Nat.le_of_ble_eq_true rfl) rfl ?_
          refine r_goto rfl ?_
          subst he
          exact r_weak (L1 := [some (.ref 60), none, some (.int (x2 + 1))]) ⟨rfl, rfl, trivial⟩ (ih _ _ _ hk)
      · rw [if_pos c_82] at he
        replace hk := hk.1 c_82
        refine r_goto rfl ?_
        refine r_iinc (b := x2 + 1) rfl rfl rfl (Nat.le_of_ble_eq_true rfl) rfl ?_
        refine r_goto rfl ?_
        subst he
        exact r_weak (L1 := [some (.ref 60), none, some (.int (x2 + 1))]) ⟨rfl, rfl, trivial⟩ (ih _ _ _ hk)

def f_X12_blows_22 (fu : Nat) : Nat → Int32 → Int32 → fl_I → fl_L → fl_I × fl_L
  | 0, x1, x2, s, l => (s, l)
  | n + 1, x1, x2, s, l =>
    if ((s 60 54) ≤ x2) then f_X12_blows_69 fu fu (0 : Int32) s l else if (x1 = 0) then f_X12_blows_22 fu n x1 (x2 + 1) (wi s 98 x2.toNatClampNeg (vp_nar .boolean (0 : Int32))) l else if ((f_X12_doesLie fu x2 s l) = 0) then f_X12_blows_22 fu n x1 (x2 + 1) (wi s 98 x2.toNatClampNeg (vp_nar .boolean (0 : Int32))) l else if ((f_X12_isBlown fu x2 s l).1 = 0) then f_X12_blows_22 fu n x1 (x2 + 1) (wi (f_X12_isBlown fu x2 s l).2.1 98 x2.toNatClampNeg (vp_nar .boolean (0 : Int32))) (f_X12_isBlown fu x2 s l).2.2 else f_X12_blows_22 fu n x1 (x2 + 1) (wi (f_X12_isBlown fu x2 s l).2.1 98 x2.toNatClampNeg (vp_nar .boolean (1 : Int32))) (f_X12_isBlown fu x2 s l).2.2

def p_X12_blows_22 (fu : Nat) : Nat → Int32 → Int32 → fl_I → fl_L → Prop
  | 0, _, _, _, _ => False
  | n + 1, x1, x2, s, l =>
    ((((s 60 54) ≤ x2) → p_X12_blows_69 fu fu (0 : Int32) s l) ∧ (¬ ((s 60 54) ≤ x2) → (((x1 = 0) → (vp_in x2 32) ∧ p_X12_blows_22 fu n x1 (x2 + 1) (wi s 98 x2.toNatClampNeg (vp_nar .boolean (0 : Int32))) l) ∧ (¬ (x1 = 0) → (p_X12_doesLie fu x2 s l) ∧ ((((f_X12_doesLie fu x2 s l) = 0) → (vp_in x2 32) ∧ p_X12_blows_22 fu n x1 (x2 + 1) (wi s 98 x2.toNatClampNeg (vp_nar .boolean (0 : Int32))) l) ∧ (¬ ((f_X12_doesLie fu x2 s l) = 0) → (p_X12_isBlown fu x2 s l) ∧ ((((f_X12_isBlown fu x2 s l).1 = 0) → (vp_in x2 32) ∧ p_X12_blows_22 fu n x1 (x2 + 1) (wi (f_X12_isBlown fu x2 s l).2.1 98 x2.toNatClampNeg (vp_nar .boolean (0 : Int32))) (f_X12_isBlown fu x2 s l).2.2) ∧ (¬ ((f_X12_isBlown fu x2 s l).1 = 0) → (vp_in x2 32) ∧ p_X12_blows_22 fu n x1 (x2 + 1) (wi (f_X12_isBlown fu x2 s l).2.1 98 x2.toNatClampNeg (vp_nar .boolean (1 : Int32))) (f_X12_isBlown fu x2 s l).2.2))))))))

set_option maxRecDepth 100000 in
set_option maxHeartbeats 1000000 in
theorem lp_X12_blows_22 {G : ab_G} {fu : Nat} {d : Nat} {D : fl_D} : ∀ (n : Nat) (x1 : Int32) (x2 : Int32) (s : fl_I) (l : fl_L), p_X12_blows_22 fu n x1 x2 s l → ab_C G (d + 4) 0 0 M_X12_blows 22 [some (.ref 60), some (.int x1), some (.int x2)] [] (hp D s l) (rt none (hp D (f_X12_blows_22 fu n x1 x2 s l).1 (f_X12_blows_22 fu n x1 x2 s l).2)) := by
  intro n
  induction n with
  | zero => intro x1 x2 s l hk; exact hk.elim
  | succ n ih =>
    intro x1 x2 s l hk
    generalize he : f_X12_blows_22 fu (n + 1) x1 x2 s l = res
    unfold f_X12_blows_22 at he
    unfold p_X12_blows_22 at hk
    refine r_iload_n rfl rfl ?_
    refine r_aload_n rfl rfl ?_
    refine q_getfield rfl (cc_60 _) rfl ?_
    refine r_icmp_ge rfl (fun c_27 => ?_) (fun c_27 => ?_)
    · rw [if_pos c_27] at he
      replace hk := hk.1 c_27
      refine r_iconst_ (a := 0) rfl (by decide) ?_
      refine r_istore_n rfl (Nat.le_of_ble_eq_true rfl) rfl ?_
      subst he
      exact r_weak (L1 := [some (.ref 60), none, some (.int (0 : Int32))]) ⟨rfl, rfl, trivial⟩ (lp_X12_blows_69 fu _ _ _ hk)
    · rw [if_neg c_27] at he
      replace hk := hk.2 c_27
      refine r_aload_n rfl rfl ?_
      refine q_getfield rfl (cc_60 _) rfl ?_
      refine r_iload_n rfl rfl ?_
      refine r_iload_n rfl rfl ?_
      refine r_if_eq rfl (fun c_36 => ?_) (fun c_36 => ?_)
      · rw [if_pos c_36] at he
        replace hk := hk.1 c_36
        refine r_iconst_ (a := 0) rfl (by decide) ?_
        obtain ⟨hb14, hk⟩ := hk
        refine w_zast rfl (cc_98 _) hb14 ?_
        refine r_iinc (b := x2 + 1) rfl rfl rfl (Nat.le_of_ble_eq_true rfl) rfl ?_
        refine r_goto rfl ?_
        subst he
        exact r_weak (L1 := [some (.ref 60), some (.int x1), some (.int (x2 + 1))]) ⟨rfl, rfl, rfl, trivial⟩ (ih _ _ _ _ hk)
      · rw [if_neg c_36] at he
        replace hk := hk.2 c_36
        refine r_aload_n rfl rfl ?_
        refine r_iload_n rfl rfl ?_
        obtain ⟨hb15, hk⟩ := hk
        refine q_callV0 [_] _ rfl kY_X12_doesLie kT_X12_doesLie rfl rfl (Nat.le_of_ble_eq_true rfl) (Nat.le_of_ble_eq_true rfl) (cc_60 _) (s_X12_doesLie hb15) (fun r h q => ?_)
        obtain ⟨rfl, rfl⟩ := q
        simp only [Option.toList, List.cons_append, List.nil_append]
        refine r_if_eq rfl (fun c_44 => ?_) (fun c_44 => ?_)
        · rw [if_pos c_44] at he
          replace hk := hk.1 c_44
          refine r_iconst_ (a := 0) rfl (by decide) ?_
          obtain ⟨hb16, hk⟩ := hk
          refine w_zast rfl (cc_98 _) hb16 ?_
          refine r_iinc (b := x2 + 1) rfl rfl rfl (Nat.le_of_ble_eq_true rfl) rfl ?_
          refine r_goto rfl ?_
          subst he
          exact r_weak (L1 := [some (.ref 60), some (.int x1), some (.int (x2 + 1))]) ⟨rfl, rfl, rfl, trivial⟩ (ih _ _ _ _ hk)
        · rw [if_neg c_44] at he
          replace hk := hk.2 c_44
          refine r_aload_n rfl rfl ?_
          refine r_iload_n rfl rfl ?_
          obtain ⟨hb17, hk⟩ := hk
          refine q_callV0 [_] _ rfl kY_X12_isBlown kT_X12_isBlown rfl rfl (Nat.le_of_ble_eq_true rfl) (Nat.le_of_ble_eq_true rfl) (cc_60 _) (s_X12_isBlown hb17) (fun r h q => ?_)
          obtain ⟨rfl, rfl⟩ := q
          simp only [Option.toList, List.cons_append, List.nil_append]
          refine r_if_eq rfl (fun c_52 => ?_) (fun c_52 => ?_)
          · rw [if_pos c_52] at he
            replace hk := hk.1 c_52
            refine r_iconst_ (a := 0) rfl (by decide) ?_
            obtain ⟨hb18, hk⟩ := hk
            refine w_zast rfl (cc_98 _) hb18 ?_
            refine r_iinc (b := x2 + 1) rfl rfl rfl (Nat.le_of_ble_eq_true rfl) rfl ?_
            refine r_goto rfl ?_
            subst he
            exact r_weak (L1 := [some (.ref 60), some (.int x1), some (.int (x2 + 1))]) ⟨rfl, rfl, rfl, trivial⟩ (ih _ _ _ _ hk)
          · rw [if_neg c_52] at he
            replace hk := hk.2 c_52
            refine r_iconst_ (a := 1) rfl (by decide) ?_
            refine r_goto rfl ?_
            obtain ⟨hb19, hk⟩ := hk
            refine w_zast rfl (cc_98 _) hb19 ?_
            refine r_iinc (b := x2 + 1) rfl rfl rfl (Nat.le_of_ble_eq_true rfl) rfl ?_
            refine r_goto rfl ?_
            subst he
            exact r_weak (L1 := [some (.ref 60), some (.int x1), some (.int (x2 + 1))]) ⟨rfl, rfl, rfl, trivial⟩ (ih _ _ _ _ hk)

def f_X12_blows (fu : Nat) (s : fl_I) (l : fl_L) : fl_I × fl_L :=
  if ((s 60 53) = 0) then if ((f_X12_isRain fu s l) = 0) then f_X12_blows_22 fu fu (1 : Int32) (0 : Int32) s l else f_X12_blows_22 fu fu (0 : Int32) (0 : Int32) s l else f_X12_blows_22 fu fu (1 : Int32) (0 : Int32) s l

def p_X12_blows (fu : Nat) (s : fl_I) (l : fl_L) : Prop :=
  ((((s 60 53) = 0) → (p_X12_isRain fu s l) ∧ ((((f_X12_isRain fu s l) = 0) → p_X12_blows_22 fu fu (1 : Int32) (0 : Int32) s l) ∧ (¬ ((f_X12_isRain fu s l) = 0) → p_X12_blows_22 fu fu (0 : Int32) (0 : Int32) s l))) ∧ (¬ ((s 60 53) = 0) → p_X12_blows_22 fu fu (1 : Int32) (0 : Int32) s l))

set_option maxRecDepth 100000 in
set_option maxHeartbeats 1000000 in
theorem s_X12_blows {G : ab_G} {fu : Nat} {d : Nat} {D : fl_D} {s : fl_I} {l : fl_L}  (hk : p_X12_blows fu s l) : ab_C G (d + 4) 0 0 M_X12_blows 0 (ab_ent [.ref 60]) [] (hp D s l) (rt none (hp D (f_X12_blows fu s l).1 (f_X12_blows fu s l).2)) := by
  generalize he : (f_X12_blows fu s l) = res
  unfold f_X12_blows at he
  unfold p_X12_blows at hk
  refine r_weak (L1 := [some (.ref 60), none, none]) ⟨rfl, trivial⟩ ?_
  refine r_aload_n rfl rfl ?_
  refine q_getfield rfl (cc_60 _) rfl ?_
  refine r_if_ne rfl (fun c_4 => ?_) (fun c_4 => ?_)
  · rw [if_neg c_4] at he
    replace hk := hk.2 c_4
    refine r_iconst_ (a := 1) rfl (by decide) ?_
    refine r_goto rfl ?_
    refine r_istore_n rfl (Nat.le_of_ble_eq_true rfl) rfl ?_
    refine r_iconst_ (a := 0) rfl (by decide) ?_
    refine r_istore_n rfl (Nat.le_of_ble_eq_true rfl) rfl ?_
    subst he
    exact r_weak (L1 := [some (.ref 60), some (.int (1 : Int32)), some (.int (0 : Int32))]) ⟨rfl, rfl, rfl, trivial⟩ (lp_X12_blows_22 fu _ _ _ _ hk)
  · rw [if_pos c_4] at he
    replace hk := hk.1 c_4
    refine r_aload_n rfl rfl ?_
    obtain ⟨hb20, hk⟩ := hk
    refine q_callV0 [] _ rfl kY_X12_isRain kT_X12_isRain rfl rfl (Nat.le_of_ble_eq_true rfl) (Nat.le_of_ble_eq_true rfl) (cc_60 _) (s_X12_isRain hb20) (fun r h q => ?_)
    obtain ⟨rfl, rfl⟩ := q
    simp only [Option.toList, List.cons_append, List.nil_append]
    refine r_if_ne rfl (fun c_11 => ?_) (fun c_11 => ?_)
    · rw [if_neg c_11] at he
      replace hk := hk.2 c_11
      refine r_iconst_ (a := 0) rfl (by decide) ?_
      refine r_istore_n rfl (Nat.le_of_ble_eq_true rfl) rfl ?_
      refine r_iconst_ (a := 0) rfl (by decide) ?_
      refine r_istore_n rfl (Nat.le_of_ble_eq_true rfl) rfl ?_
      subst he
      exact r_weak (L1 := [some (.ref 60), some (.int (0 : Int32)), some (.int (0 : Int32))]) ⟨rfl, rfl, rfl, trivial⟩ (lp_X12_blows_22 fu _ _ _ _ hk)
    · rw [if_pos c_11] at he
      replace hk := hk.1 c_11
      refine r_iconst_ (a := 1) rfl (by decide) ?_
      refine r_goto rfl ?_
      refine r_istore_n rfl (Nat.le_of_ble_eq_true rfl) rfl ?_
      refine r_iconst_ (a := 0) rfl (by decide) ?_
      refine r_istore_n rfl (Nat.le_of_ble_eq_true rfl) rfl ?_
      subst he
      exact r_weak (L1 := [some (.ref 60), some (.int (1 : Int32)), some (.int (0 : Int32))]) ⟨rfl, rfl, rfl, trivial⟩ (lp_X12_blows_22 fu _ _ _ _ hk)

