def f_X12_stand_38 (fu : Nat) : Nat → Int32 → Int32 → Int32 → Int32 → Int32 → Int32 → fl_I → fl_L → Int32 × fl_I × fl_L
  | 0, x1, x2, x3, x4, x5, x6, s, l => (0, s, l)
  | n + 1, x1, x2, x3, x4, x5, x6, s, l =>
    if ((80 : Int32) ≤ x6) then if (x3 = 0) then (x4, s, l) else (x5, s, l) else if (x4 < 0) then f_X12_stand_38 fu n x1 x2 x3 x6 (f_X12_lossNow fu (f_X12_goes fu x2 (wi (f_X12_copiesStill fu s l).1 95 ((136 : Int32) + x1).toNatClampNeg (f_X12_goalAt fu x1 x6 (f_X12_copiesStill fu s l).1 (f_X12_copiesStill fu s l).2)) (f_X12_copiesStill fu s l).2).1 (f_X12_goes fu x2 (wi (f_X12_copiesStill fu s l).1 95 ((136 : Int32) + x1).toNatClampNeg (f_X12_goalAt fu x1 x6 (f_X12_copiesStill fu s l).1 (f_X12_copiesStill fu s l).2)) (f_X12_copiesStill fu s l).2).2).1 (x6 + 1) (f_X12_lossNow fu (f_X12_goes fu x2 (wi (f_X12_copiesStill fu s l).1 95 ((136 : Int32) + x1).toNatClampNeg (f_X12_goalAt fu x1 x6 (f_X12_copiesStill fu s l).1 (f_X12_copiesStill fu s l).2)) (f_X12_copiesStill fu s l).2).1 (f_X12_goes fu x2 (wi (f_X12_copiesStill fu s l).1 95 ((136 : Int32) + x1).toNatClampNeg (f_X12_goalAt fu x1 x6 (f_X12_copiesStill fu s l).1 (f_X12_copiesStill fu s l).2)) (f_X12_copiesStill fu s l).2).2).2.1 (f_X12_lossNow fu (f_X12_goes fu x2 (wi (f_X12_copiesStill fu s l).1 95 ((136 : Int32) + x1).toNatClampNeg (f_X12_goalAt fu x1 x6 (f_X12_copiesStill fu s l).1 (f_X12_copiesStill fu s l).2)) (f_X12_copiesStill fu s l).2).1 (f_X12_goes fu x2 (wi (f_X12_copiesStill fu s l).1 95 ((136 : Int32) + x1).toNatClampNeg (f_X12_goalAt fu x1 x6 (f_X12_copiesStill fu s l).1 (f_X12_copiesStill fu s l).2)) (f_X12_copiesStill fu s l).2).2).2.2 else if ((f_X12_lossNow fu (f_X12_goes fu x2 (wi (f_X12_copiesStill fu s l).1 95 ((136 : Int32) + x1).toNatClampNeg (f_X12_goalAt fu x1 x6 (f_X12_copiesStill fu s l).1 (f_X12_copiesStill fu s l).2)) (f_X12_copiesStill fu s l).2).1 (f_X12_goes fu x2 (wi (f_X12_copiesStill fu s l).1 95 ((136 : Int32) + x1).toNatClampNeg (f_X12_goalAt fu x1 x6 (f_X12_copiesStill fu s l).1 (f_X12_copiesStill fu s l).2)) (f_X12_copiesStill fu s l).2).2).1 < x5) then f_X12_stand_38 fu n x1 x2 x3 x6 (f_X12_lossNow fu (f_X12_goes fu x2 (wi (f_X12_copiesStill fu s l).1 95 ((136 : Int32) + x1).toNatClampNeg (f_X12_goalAt fu x1 x6 (f_X12_copiesStill fu s l).1 (f_X12_copiesStill fu s l).2)) (f_X12_copiesStill fu s l).2).1 (f_X12_goes fu x2 (wi (f_X12_copiesStill fu s l).1 95 ((136 : Int32) + x1).toNatClampNeg (f_X12_goalAt fu x1 x6 (f_X12_copiesStill fu s l).1 (f_X12_copiesStill fu s l).2)) (f_X12_copiesStill fu s l).2).2).1 (x6 + 1) (f_X12_lossNow fu (f_X12_goes fu x2 (wi (f_X12_copiesStill fu s l).1 95 ((136 : Int32) + x1).toNatClampNeg (f_X12_goalAt fu x1 x6 (f_X12_copiesStill fu s l).1 (f_X12_copiesStill fu s l).2)) (f_X12_copiesStill fu s l).2).1 (f_X12_goes fu x2 (wi (f_X12_copiesStill fu s l).1 95 ((136 : Int32) + x1).toNatClampNeg (f_X12_goalAt fu x1 x6 (f_X12_copiesStill fu s l).1 (f_X12_copiesStill fu s l).2)) (f_X12_copiesStill fu s l).2).2).2.1 (f_X12_lossNow fu (f_X12_goes fu x2 (wi (f_X12_copiesStill fu s l).1 95 ((136 : Int32) + x1).toNatClampNeg (f_X12_goalAt fu x1 x6 (f_X12_copiesStill fu s l).1 (f_X12_copiesStill fu s l).2)) (f_X12_copiesStill fu s l).2).1 (f_X12_goes fu x2 (wi (f_X12_copiesStill fu s l).1 95 ((136 : Int32) + x1).toNatClampNeg (f_X12_goalAt fu x1 x6 (f_X12_copiesStill fu s l).1 (f_X12_copiesStill fu s l).2)) (f_X12_copiesStill fu s l).2).2).2.2 else f_X12_stand_38 fu n x1 x2 x3 x4 x5 (x6 + 1) (f_X12_lossNow fu (f_X12_goes fu x2 (wi (f_X12_copiesStill fu s l).1 95 ((136 : Int32) + x1).toNatClampNeg (f_X12_goalAt fu x1 x6 (f_X12_copiesStill fu s l).1 (f_X12_copiesStill fu s l).2)) (f_X12_copiesStill fu s l).2).1 (f_X12_goes fu x2 (wi (f_X12_copiesStill fu s l).1 95 ((136 : Int32) + x1).toNatClampNeg (f_X12_goalAt fu x1 x6 (f_X12_copiesStill fu s l).1 (f_X12_copiesStill fu s l).2)) (f_X12_copiesStill fu s l).2).2).2.1 (f_X12_lossNow fu (f_X12_goes fu x2 (wi (f_X12_copiesStill fu s l).1 95 ((136 : Int32) + x1).toNatClampNeg (f_X12_goalAt fu x1 x6 (f_X12_copiesStill fu s l).1 (f_X12_copiesStill fu s l).2)) (f_X12_copiesStill fu s l).2).1 (f_X12_goes fu x2 (wi (f_X12_copiesStill fu s l).1 95 ((136 : Int32) + x1).toNatClampNeg (f_X12_goalAt fu x1 x6 (f_X12_copiesStill fu s l).1 (f_X12_copiesStill fu s l).2)) (f_X12_copiesStill fu s l).2).2).2.2

def p_X12_stand_38 (fu : Nat) : Nat → Int32 → Int32 → Int32 → Int32 → Int32 → Int32 → fl_I → fl_L → Prop
  | 0, _, _, _, _, _, _, _, _ => False
  | n + 1, x1, x2, x3, x4, x5, x6, s, l =>
    ((((80 : Int32) ≤ x6) → (((x3 = 0) → True) ∧ (¬ (x3 = 0) → True))) ∧ (¬ ((80 : Int32) ≤ x6) → (p_X12_copiesStill fu s l) ∧ (p_X12_goalAt fu x1 x6 (f_X12_copiesStill fu s l).1 (f_X12_copiesStill fu s l).2) ∧ (vp_in ((136 : Int32) + x1) 141) ∧ (p_X12_goes fu x2 (wi (f_X12_copiesStill fu s l).1 95 ((136 : Int32) + x1).toNatClampNeg (f_X12_goalAt fu x1 x6 (f_X12_copiesStill fu s l).1 (f_X12_copiesStill fu s l).2)) (f_X12_copiesStill fu s l).2) ∧ (p_X12_lossNow fu (f_X12_goes fu x2 (wi (f_X12_copiesStill fu s l).1 95 ((136 : Int32) + x1).toNatClampNeg (f_X12_goalAt fu x1 x6 (f_X12_copiesStill fu s l).1 (f_X12_copiesStill fu s l).2)) (f_X12_copiesStill fu s l).2).1 (f_X12_goes fu x2 (wi (f_X12_copiesStill fu s l).1 95 ((136 : Int32) + x1).toNatClampNeg (f_X12_goalAt fu x1 x6 (f_X12_copiesStill fu s l).1 (f_X12_copiesStill fu s l).2)) (f_X12_copiesStill fu s l).2).2) ∧ (((x4 < 0) → p_X12_stand_38 fu n x1 x2 x3 x6 (f_X12_lossNow fu (f_X12_goes fu x2 (wi (f_X12_copiesStill fu s l).1 95 ((136 : Int32) + x1).toNatClampNeg (f_X12_goalAt fu x1 x6 (f_X12_copiesStill fu s l).1 (f_X12_copiesStill fu s l).2)) (f_X12_copiesStill fu s l).2).1 (f_X12_goes fu x2 (wi (f_X12_copiesStill fu s l).1 95 ((136 : Int32) + x1).toNatClampNeg (f_X12_goalAt fu x1 x6 (f_X12_copiesStill fu s l).1 (f_X12_copiesStill fu s l).2)) (f_X12_copiesStill fu s l).2).2).1 (x6 + 1) (f_X12_lossNow fu (f_X12_goes fu x2 (wi (f_X12_copiesStill fu s l).1 95 ((136 : Int32) + x1).toNatClampNeg (f_X12_goalAt fu x1 x6 (f_X12_copiesStill fu s l).1 (f_X12_copiesStill fu s l).2)) (f_X12_copiesStill fu s l).2).1 (f_X12_goes fu x2 (wi (f_X12_copiesStill fu s l).1 95 ((136 : Int32) + x1).toNatClampNeg (f_X12_goalAt fu x1 x6 (f_X12_copiesStill fu s l).1 (f_X12_copiesStill fu s l).2)) (f_X12_copiesStill fu s l).2).2).2.1 (f_X12_lossNow fu (f_X12_goes fu x2 (wi (f_X12_copiesStill fu s l).1 95 ((136 : Int32) + x1).toNatClampNeg (f_X12_goalAt fu x1 x6 (f_X12_copiesStill fu s l).1 (f_X12_copiesStill fu s l).2)) (f_X12_copiesStill fu s l).2).1 (f_X12_goes fu x2 (wi (f_X12_copiesStill fu s l).1 95 ((136 : Int32) + x1).toNatClampNeg (f_X12_goalAt fu x1 x6 (f_X12_copiesStill fu s l).1 (f_X12_copiesStill fu s l).2)) (f_X12_copiesStill fu s l).2).2).2.2) ∧ (¬ (x4 < 0) → ((((f_X12_lossNow fu (f_X12_goes fu x2 (wi (f_X12_copiesStill fu s l).1 95 ((136 : Int32) + x1).toNatClampNeg (f_X12_goalAt fu x1 x6 (f_X12_copiesStill fu s l).1 (f_X12_copiesStill fu s l).2)) (f_X12_copiesStill fu s l).2).1 (f_X12_goes fu x2 (wi (f_X12_copiesStill fu s l).1 95 ((136 : Int32) + x1).toNatClampNeg (f_X12_goalAt fu x1 x6 (f_X12_copiesStill fu s l).1 (f_X12_copiesStill fu s l).2)) (f_X12_copiesStill fu s l).2).2).1 < x5) → p_X12_stand_38 fu n x1 x2 x3 x6 (f_X12_lossNow fu (f_X12_goes fu x2 (wi (f_X12_copiesStill fu s l).1 95 ((136 : Int32) + x1).toNatClampNeg (f_X12_goalAt fu x1 x6 (f_X12_copiesStill fu s l).1 (f_X12_copiesStill fu s l).2)) (f_X12_copiesStill fu s l).2).1 (f_X12_goes fu x2 (wi (f_X12_copiesStill fu s l).1 95 ((136 : Int32) + x1).toNatClampNeg (f_X12_goalAt fu x1 x6 (f_X12_copiesStill fu s l).1 (f_X12_copiesStill fu s l).2)) (f_X12_copiesStill fu s l).2).2).1 (x6 + 1) (f_X12_lossNow fu (f_X12_goes fu x2 (wi (f_X12_copiesStill fu s l).1 95 ((136 : Int32) + x1).toNatClampNeg (f_X12_goalAt fu x1 x6 (f_X12_copiesStill fu s l).1 (f_X12_copiesStill fu s l).2)) (f_X12_copiesStill fu s l).2).1 (f_X12_goes fu x2 (wi (f_X12_copiesStill fu s l).1 95 ((136 : Int32) + x1).toNatClampNeg (f_X12_goalAt fu x1 x6 (f_X12_copiesStill fu s l).1 (f_X12_copiesStill fu s l).2)) (f_X12_copiesStill fu s l).2).2).2.1 (f_X12_lossNow fu (f_X12_goes fu x2 (wi (f_X12_copiesStill fu s l).1 95 ((136 : Int32) + x1).toNatClampNeg (f_X12_goalAt fu x1 x6 (f_X12_copiesStill fu s l).1 (f_X12_copiesStill fu s l).2)) (f_X12_copiesStill fu s l).2).1 (f_X12_goes fu x2 (wi (f_X12_copiesStill fu s l).1 95 ((136 : Int32) + x1).toNatClampNeg (f_X12_goalAt fu x1 x6 (f_X12_copiesStill fu s l).1 (f_X12_copiesStill fu s l).2)) (f_X12_copiesStill fu s l).2).2).2.2) ∧ (¬ ((f_X12_lossNow fu (f_X12_goes fu x2 (wi (f_X12_copiesStill fu s l).1 95 ((136 : Int32) + x1).toNatClampNeg (f_X12_goalAt fu x1 x6 (f_X12_copiesStill fu s l).1 (f_X12_copiesStill fu s l).2)) (f_X12_copiesStill fu s l).2).1 (f_X12_goes fu x2 (wi (f_X12_copiesStill fu s l).1 95 ((136 : Int32) + x1).toNatClampNeg (f_X12_goalAt fu x1 x6 (f_X12_copiesStill fu s l).1 (f_X12_copiesStill fu s l).2)) (f_X12_copiesStill fu s l).2).2).1 < x5) → p_X12_stand_38 fu n x1 x2 x3 x4 x5 (x6 + 1) (f_X12_lossNow fu (f_X12_goes fu x2 (wi (f_X12_copiesStill fu s l).1 95 ((136 : Int32) + x1).toNatClampNeg (f_X12_goalAt fu x1 x6 (f_X12_copiesStill fu s l).1 (f_X12_copiesStill fu s l).2)) (f_X12_copiesStill fu s l).2).1 (f_X12_goes fu x2 (wi (f_X12_copiesStill fu s l).1 95 ((136 : Int32) + x1).toNatClampNeg (f_X12_goalAt fu x1 x6 (f_X12_copiesStill fu s l).1 (f_X12_copiesStill fu s l).2)) (f_X12_copiesStill fu s l).2).2).2.1 (f_X12_lossNow fu (f_X12_goes fu x2 (wi (f_X12_copiesStill fu s l).1 95 ((136 : Int32) + x1).toNatClampNeg (f_X12_goalAt fu x1 x6 (f_X12_copiesStill fu s l).1 (f_X12_copiesStill fu s l).2)) (f_X12_copiesStill fu s l).2).1 (f_X12_goes fu x2 (wi (f_X12_copiesStill fu s l).1 95 ((136 : Int32) + x1).toNatClampNeg (f_X12_goalAt fu x1 x6 (f_X12_copiesStill fu s l).1 (f_X12_copiesStill fu s l).2)) (f_X12_copiesStill fu s l).2).2).2.2))))))

set_option maxRecDepth 100000 in
set_option maxHeartbeats 1000000 in
theorem lp_X12_stand_38 {G : ab_G} {fu : Nat} {d : Nat} {D : fl_D} : ∀ (n : Nat) (x1 : Int32) (x2 : Int32) (x3 : Int32) (x4 : Int32) (x5 : Int32) (x6 : Int32) (s : fl_I) (l : fl_L), p_X12_stand_38 fu n x1 x2 x3 x4 x5 x6 s l → ab_C G (d + 7) 0 0 M_X12_stand 38 [some (.ref 60), some (.int x1), some (.int x2), some (.int x3), some (.int x4), some (.int x5), some (.int x6), none] [] (hp D s l) (rt (some (.int (f_X12_stand_38 fu n x1 x2 x3 x4 x5 x6 s l).1)) (hp D (f_X12_stand_38 fu n x1 x2 x3 x4 x5 x6 s l).2.1 (f_X12_stand_38 fu n x1 x2 x3 x4 x5 x6 s l).2.2)) := by
  intro n
  induction n with
  | zero => intro x1 x2 x3 x4 x5 x6 s l hk; exact hk.elim
  | succ n ih =>
    intro x1 x2 x3 x4 x5 x6 s l hk
    generalize he : f_X12_stand_38 fu (n + 1) x1 x2 x3 x4 x5 x6 s l = res
    unfold f_X12_stand_38 at he
    unfold p_X12_stand_38 at hk
    refine r_iload rfl rfl ?_
    refine r_bipush_ (a := 80) rfl (by decide) ?_
    refine r_icmp_ge rfl (fun c_42 => ?_) (fun c_42 => ?_)
    · rw [if_pos c_42] at he
      replace hk := hk.1 c_42
      refine r_iload_n rfl rfl ?_
      refine r_if_ne rfl (fun c_107 => ?_) (fun c_107 => ?_)
      · rw [if_neg c_107] at he
        replace hk := hk.2 c_107
        refine r_iload rfl rfl ?_
        refine r_iret rfl rfl rfl ?_
        first | with_reducible exact fin_i he | exact fin_i he
      · rw [if_pos c_107] at he
        replace hk := hk.1 c_107
        refine r_iload rfl rfl ?_
        refine r_goto rfl ?_
        refine r_iret rfl rfl rfl ?_
        first | with_reducible exact fin_i he | exact fin_i he
    · rw [if_neg c_42] at he
      replace hk := hk.2 c_42
      refine r_aload_n rfl rfl ?_
      obtain ⟨hb3, hk⟩ := hk
      refine q_callV0 [] _ rfl kY_X12_copiesStill kT_X12_copiesStill rfl rfl (Nat.le_of_ble_eq_true rfl) (Nat.le_of_ble_eq_true rfl) (cc_60 _) (s_X12_copiesStill hb3) (fun r h q => ?_)
      obtain ⟨rfl, rfl⟩ := q
      simp only [Option.toList, List.cons_append, List.nil_append]
      refine r_aload_n rfl rfl ?_
      refine q_getfield rfl (cc_60 _) rfl ?_
      refine r_sipush_ (a := 136) rfl (by decide) ?_
      refine r_iload_n rfl rfl ?_
      refine r_iadd rfl ?_
      refine r_aload_n rfl rfl ?_
      refine r_iload_n rfl rfl ?_
      refine r_iload rfl rfl ?_
      obtain ⟨hb4, hk⟩ := hk
      refine q_callV0 [_, _] _ rfl kY_X12_goalAt kT_X12_goalAt rfl rfl (Nat.le_of_ble_eq_true rfl) (Nat.le_of_ble_eq_true rfl) (cc_60 _) (s_X12_goalAt hb4) (fun r h q => ?_)
      obtain ⟨rfl, rfl⟩ := q
      simp only [Option.toList, List.cons_append, List.nil_append]
      obtain ⟨hb5, hk⟩ := hk
      refine w_iast rfl (cc_95 _) hb5 ?_
      refine r_aload_n rfl rfl ?_
      refine r_iload_n rfl rfl ?_
      obtain ⟨hb6, hk⟩ := hk
      refine q_callV0 [_] _ rfl kY_X12_goes kT_X12_goes rfl rfl (Nat.le_of_ble_eq_true rfl) (Nat.le_of_ble_eq_true rfl) (cc_60 _) (s_X12_goes hb6) (fun r h q => ?_)
      obtain ⟨rfl, rfl⟩ := q
      simp only [Option.toList, List.cons_append, List.nil_append]
      refine r_aload_n rfl rfl ?_
      obtain ⟨hb7, hk⟩ := hk
      refine q_callV0 [] _ rfl kY_X12_lossNow kT_X12_lossNow rfl rfl (Nat.le_of_ble_eq_true rfl) (Nat.le_of_ble_eq_true rfl) (cc_60 _) (s_X12_lossNow hb7) (fun r h q => ?_)
      obtain ⟨rfl, rfl⟩ := q
      simp only [Option.toList, List.cons_append, List.nil_append]
      refine r_istore rfl (Nat.le_of_ble_eq_true rfl) rfl ?_
      refine r_iload rfl rfl ?_
      refine r_if_lt rfl (fun c_79 => ?_) (fun c_79 => ?_)
      · rw [if_pos c_79] at he
        replace hk := hk.1 c_79
        refine r_iload rfl rfl ?_
        refine r_istore rfl (Nat.le_of_ble_eq_true rfl) rfl ?_
        refine r_iload rfl rfl ?_
        refine r_istore rfl (Nat.le_of_ble_eq_true rfl) rfl ?_
        refine r_iinc (b := x6 + 1) rfl rfl rfl (Nat.le_of_ble_eq_true rfl) rfl ?_
        refine r_goto rfl ?_
        subst he
        exact r_weak (L1 := [some (.ref 60), some (.int x1), some (.int x2), some (.int x3), some (.int x6), some (.int (f_X12_lossNow fu (f_X12_goes fu x2 (wi (f_X12_copiesStill fu s l).1 95 ((136 : Int32) + x1).toNatClampNeg (f_X12_goalAt fu x1 x6 (f_X12_copiesStill fu s l).1 (f_X12_copiesStill fu s l).2)) (f_X12_copiesStill fu s l).2).1 (f_X12_goes fu x2 (wi (f_X12_copiesStill fu s l).1 95 ((136 : Int32) + x1).toNatClampNeg (f_X12_goalAt fu x1 x6 (f_X12_copiesStill fu s l).1 (f_X12_copiesStill fu s l).2)) (f_X12_copiesStill fu s l).2).2).1), some (.int (x6 + 1)), none]) ⟨rfl, rfl, rfl, rfl, rfl, rfl, rfl, trivial⟩ (ih _ _ _ _ _ _ _ _ hk)
      · rw [if_neg c_79] at he
        replace hk := hk.2 c_79
        refine r_iload rfl rfl ?_
        refine r_iload rfl rfl ?_
        refine r_icmp_lt rfl (fun c_86 => ?_) (fun c_86 => ?_)
        · rw [if_pos c_86] at he
          replace hk := hk.1 c_86
          refine r_iload rfl rfl ?_
          refine r_istore rfl (Nat.le_of_ble_eq_true rfl) rfl ?_
          refine r_iload rfl rfl ?_
          refine r_istore rfl (Nat.le_of_ble_eq_true rfl) rfl ?_
          refine r_iinc (b := x6 + 1) rfl rfl rfl (Nat.le_of_ble_eq_true rfl) rfl ?_
          refine r_goto rfl ?_
          subst he
          exact r_weak (L1 := [some (.ref 60), some (.int x1), some (.int x2), some (.int x3), some (.int x6), some (.int (f_X12_lossNow fu (f_X12_goes fu x2 (wi (f_X12_copiesStill fu s l).1 95 ((136 : Int32) + x1).toNatClampNeg (f_X12_goalAt fu x1 x6 (f_X12_copiesStill fu s l).1 (f_X12_copiesStill fu s l).2)) (f_X12_copiesStill fu s l).2).1 (f_X12_goes fu x2 (wi (f_X12_copiesStill fu s l).1 95 ((136 : Int32) + x1).toNatClampNeg (f_X12_goalAt fu x1 x6 (f_X12_copiesStill fu s l).1 (f_X12_copiesStill fu s l).2)) (f_X12_copiesStill fu s l).2).2).1), some (.int (x6 + 1)), none]) ⟨rfl, rfl, rfl, rfl, rfl, rfl, rfl, trivial⟩ (ih _ _ _ _ _ _ _ _ hk)
        · rw [if_neg c_86] at he
          replace hk := hk.2 c_86
          refine r_goto rfl ?_
          refine r_iinc (b := x6 + 1) rfl rfl rfl (Nat.le_of_ble_eq_true rfl) rfl ?_
          refine r_goto rfl ?_
          subst he
          exact r_weak (L1 := [some (.ref 60), some (.int x1), some (.int x2), some (.int x3), some (.int x4), some (.int x5), some (.int (x6 + 1)), none]) ⟨rfl, rfl, rfl, rfl, rfl, rfl, rfl, trivial⟩ (ih _ _ _ _ _ _ _ _ hk)

def f_X12_stand (fu : Nat) (v0 : Int32) (v1 : Int32) (v2 : Int32) (s : fl_I) (l : fl_L) : Int32 × fl_I × fl_L :=
  if ((f_X12_isPicker fu v0 s l) = 0) then ((-1 : Int32), s, l) else if ((f_X12_in fu v1 (1 : Int32) (12 : Int32)) = 0) then ((-1 : Int32), s, l) else if ((f_X12_in fu v2 (0 : Int32) (1 : Int32)) = 0) then ((-1 : Int32), s, l) else f_X12_stand_38 fu fu v0 v1 v2 (-1 : Int32) (0 : Int32) (0 : Int32) s l

def p_X12_stand (fu : Nat) (v0 : Int32) (v1 : Int32) (v2 : Int32) (s : fl_I) (l : fl_L) : Prop :=
  (p_X12_isPicker fu v0 s l) ∧ ((((f_X12_isPicker fu v0 s l) = 0) → True) ∧ (¬ ((f_X12_isPicker fu v0 s l) = 0) → (p_X12_in fu v1 (1 : Int32) (12 : Int32)) ∧ ((((f_X12_in fu v1 (1 : Int32) (12 : Int32)) = 0) → True) ∧ (¬ ((f_X12_in fu v1 (1 : Int32) (12 : Int32)) = 0) → (p_X12_in fu v2 (0 : Int32) (1 : Int32)) ∧ ((((f_X12_in fu v2 (0 : Int32) (1 : Int32)) = 0) → True) ∧ (¬ ((f_X12_in fu v2 (0 : Int32) (1 : Int32)) = 0) → p_X12_stand_38 fu fu v0 v1 v2 (-1 : Int32) (0 : Int32) (0 : Int32) s l))))))

set_option maxRecDepth 100000 in
set_option maxHeartbeats 1000000 in
theorem s_X12_stand {G : ab_G} {fu : Nat} {d : Nat} {D : fl_D} {s : fl_I} {l : fl_L} {v0 : Int32} {v1 : Int32} {v2 : Int32} (hk : p_X12_stand fu v0 v1 v2 s l) : ab_C G (d + 7) 0 0 M_X12_stand 0 (ab_ent [.ref 60, .int v0, .int v1, .int v2]) [] (hp D s l) (rt (some (.int (f_X12_stand fu v0 v1 v2 s l).1)) (hp D (f_X12_stand fu v0 v1 v2 s l).2.1 (f_X12_stand fu v0 v1 v2 s l).2.2)) := by
  generalize he : (f_X12_stand fu v0 v1 v2 s l) = res
  unfold f_X12_stand at he
  unfold p_X12_stand at hk
  refine r_weak (L1 := [some (.ref 60), some (.int v0), some (.int v1), some (.int v2), none, none, none, none]) ⟨rfl, rfl, rfl, rfl, trivial⟩ ?_
  refine r_aload_n rfl rfl ?_
  refine r_iload_n rfl rfl ?_
  obtain ⟨hb0, hk⟩ := hk
  refine q_callV0 [_] _ rfl kY_X12_isPicker kT_X12_isPicker rfl rfl (Nat.le_of_ble_eq_true rfl) (Nat.le_of_ble_eq_true rfl) (cc_60 _) (s_X12_isPicker hb0) (fun r h q => ?_)
  obtain ⟨rfl, rfl⟩ := q
  simp only [Option.toList, List.cons_append, List.nil_append]
  refine r_if_eq rfl (fun c_5 => ?_) (fun c_5 => ?_)
  · rw [if_pos c_5] at he
    replace hk := hk.1 c_5
    refine r_iconst_ (a := -1) rfl (by decide) ?_
    refine r_iret rfl rfl rfl ?_
    first | with_reducible exact fin_i he | exact fin_i he
  · rw [if_neg c_5] at he
    replace hk := hk.2 c_5
    refine r_iload_n rfl rfl ?_
    refine r_iconst_ (a := 1) rfl (by decide) ?_
    refine r_bipush_ (a := 12) rfl (by decide) ?_
    obtain ⟨hb1, hk⟩ := hk
    refine r_callS0 [_, _, _] _ rfl kY_X12_in kT_X12_in rfl rfl (Nat.le_of_ble_eq_true rfl) (Nat.le_of_ble_eq_true rfl) (s_X12_in hb1) (fun r h q => ?_)
    obtain ⟨rfl, rfl⟩ := q
    simp only [Option.toList, List.cons_append, List.nil_append]
    refine r_if_eq rfl (fun c_15 => ?_) (fun c_15 => ?_)
    · rw [if_pos c_15] at he
      replace hk := hk.1 c_15
      refine r_iconst_ (a := -1) rfl (by decide) ?_
      refine r_iret rfl rfl rfl ?_
      first | with_reducible exact fin_i he | exact fin_i he
    · rw [if_neg c_15] at he
      replace hk := hk.2 c_15
      refine r_iload_n rfl rfl ?_
      refine r_iconst_ (a := 0) rfl (by decide) ?_
      refine r_iconst_ (a := 1) rfl (by decide) ?_
      obtain ⟨hb2, hk⟩ := hk
      refine r_callS0 [_, _, _] _ rfl kY_X12_in kT_X12_in rfl rfl (Nat.le_of_ble_eq_true rfl) (Nat.le_of_ble_eq_true rfl) (s_X12_in hb2) (fun r h q => ?_)
      obtain ⟨rfl, rfl⟩ := q
      simp only [Option.toList, List.cons_append, List.nil_append]
      refine r_if_ne rfl (fun c_24 => ?_) (fun c_24 => ?_)
      · rw [if_neg c_24] at he
        replace hk := hk.2 c_24
        refine r_iconst_ (a := -1) rfl (by decide) ?_
        refine r_istore rfl (Nat.le_of_ble_eq_true rfl) rfl ?_
        refine r_iconst_ (a := 0) rfl (by decide) ?_
        refine r_istore rfl (Nat.le_of_ble_eq_true rfl) rfl ?_
        refine r_iconst_ (a := 0) rfl (by decide) ?_
        refine r_istore rfl (Nat.le_of_ble_eq_true rfl) rfl ?_
        subst he
        exact r_weak (L1 := [some (.ref 60), some (.int v0), some (.int v1), some (.int v2), some (.int (-1 : Int32)), some (.int (0 : Int32)), some (.int (0 : Int32)), none]) ⟨rfl, rfl, rfl, rfl, rfl, rfl, rfl, trivial⟩ (lp_X12_stand_38 fu _ _ _ _ _ _ _ _ hk)
      · rw [if_pos c_24] at he
        replace hk := hk.1 c_24
        refine r_iconst_ (a := -1) rfl (by decide) ?_
        refine r_iret rfl rfl rfl ?_
        first | with_reducible exact fin_i he | exact fin_i he

