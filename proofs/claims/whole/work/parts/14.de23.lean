def f_X3_lawTold_34 (fu : Nat) : Nat → Int32 → Int32 → Int32 → Int32 → Nat → fl_I → fl_L → Int32 × fl_I × fl_L
  | 0, x2, x3, x4, x5, t, s, l => (0, s, l)
  | n + 1, x2, x3, x4, x5, t, s, l =>
    if ((4 : Int32) < x5) then if (x4 = 0) then ((0 : Int32), s, l) else if ((f_sumD fu 8 (0 : Int32) t s l).1 = 0) then ((0 : Int32), (f_sumD fu 8 (0 : Int32) t s l).2.1, (f_sumD fu 8 (0 : Int32) t s l).2.2) else if ((f_X3_take fu (59 : Int32) (f_sumD fu 8 (0 : Int32) t s l).2.1 (f_sumD fu 8 (0 : Int32) t s l).2.2).1 = 0) then ((0 : Int32), (f_X3_take fu (59 : Int32) (f_sumD fu 8 (0 : Int32) t s l).2.1 (f_sumD fu 8 (0 : Int32) t s l).2.2).2.1, (f_X3_take fu (59 : Int32) (f_sumD fu 8 (0 : Int32) t s l).2.1 (f_sumD fu 8 (0 : Int32) t s l).2.2).2.2) else ((1 : Int32), (wi (f_X5_addCode fu (-6 : Int32) t (f_X3_take fu (59 : Int32) (f_sumD fu 8 (0 : Int32) t s l).2.1 (f_sumD fu 8 (0 : Int32) t s l).2.2).2.1 (f_X3_take fu (59 : Int32) (f_sumD fu 8 (0 : Int32) t s l).2.1 (f_sumD fu 8 (0 : Int32) t s l).2.2).2.2).1 (t + 10) x2.toNatClampNeg x3), (f_X5_addCode fu (-6 : Int32) t (f_X3_take fu (59 : Int32) (f_sumD fu 8 (0 : Int32) t s l).2.1 (f_sumD fu 8 (0 : Int32) t s l).2.2).2.1 (f_X3_take fu (59 : Int32) (f_sumD fu 8 (0 : Int32) t s l).2.1 (f_sumD fu 8 (0 : Int32) t s l).2.2).2.2).2) else if (x4 = 0) then if (x4 = 0) then ((0 : Int32), s, l) else if ((f_sumD fu 8 (0 : Int32) t s l).1 = 0) then ((0 : Int32), (f_sumD fu 8 (0 : Int32) t s l).2.1, (f_sumD fu 8 (0 : Int32) t s l).2.2) else if ((f_X3_take fu (59 : Int32) (f_sumD fu 8 (0 : Int32) t s l).2.1 (f_sumD fu 8 (0 : Int32) t s l).2.2).1 = 0) then ((0 : Int32), (f_X3_take fu (59 : Int32) (f_sumD fu 8 (0 : Int32) t s l).2.1 (f_sumD fu 8 (0 : Int32) t s l).2.2).2.1, (f_X3_take fu (59 : Int32) (f_sumD fu 8 (0 : Int32) t s l).2.1 (f_sumD fu 8 (0 : Int32) t s l).2.2).2.2) else ((1 : Int32), (wi (f_X5_addCode fu (-6 : Int32) t (f_X3_take fu (59 : Int32) (f_sumD fu 8 (0 : Int32) t s l).2.1 (f_sumD fu 8 (0 : Int32) t s l).2.2).2.1 (f_X3_take fu (59 : Int32) (f_sumD fu 8 (0 : Int32) t s l).2.1 (f_sumD fu 8 (0 : Int32) t s l).2.2).2.2).1 (t + 10) x2.toNatClampNeg x3), (f_X5_addCode fu (-6 : Int32) t (f_X3_take fu (59 : Int32) (f_sumD fu 8 (0 : Int32) t s l).2.1 (f_sumD fu 8 (0 : Int32) t s l).2.2).2.1 (f_X3_take fu (59 : Int32) (f_sumD fu 8 (0 : Int32) t s l).2.1 (f_sumD fu 8 (0 : Int32) t s l).2.2).2.2).2) else if ((f_X3_kindNow fu s l) = (265 : Int32)) then if (x5 = (4 : Int32)) then f_X3_lawTold_34 fu n x2 x3 (f_X3_stop fu (2 : Int32) s l).1 (x5 + 1) t (f_X3_stop fu (2 : Int32) s l).2.1 (f_X3_stop fu (2 : Int32) s l).2.2 else f_X3_lawTold_34 fu n x2 x3 (f_X3_ifTold fu t s l).1 (x5 + 1) t (f_X3_ifTold fu t s l).2.1 (f_X3_ifTold fu t s l).2.2 else if (x4 = 0) then ((0 : Int32), s, l) else if ((f_sumD fu 8 (0 : Int32) t s l).1 = 0) then ((0 : Int32), (f_sumD fu 8 (0 : Int32) t s l).2.1, (f_sumD fu 8 (0 : Int32) t s l).2.2) else if ((f_X3_take fu (59 : Int32) (f_sumD fu 8 (0 : Int32) t s l).2.1 (f_sumD fu 8 (0 : Int32) t s l).2.2).1 = 0) then ((0 : Int32), (f_X3_take fu (59 : Int32) (f_sumD fu 8 (0 : Int32) t s l).2.1 (f_sumD fu 8 (0 : Int32) t s l).2.2).2.1, (f_X3_take fu (59 : Int32) (f_sumD fu 8 (0 : Int32) t s l).2.1 (f_sumD fu 8 (0 : Int32) t s l).2.2).2.2) else ((1 : Int32), (wi (f_X5_addCode fu (-6 : Int32) t (f_X3_take fu (59 : Int32) (f_sumD fu 8 (0 : Int32) t s l).2.1 (f_sumD fu 8 (0 : Int32) t s l).2.2).2.1 (f_X3_take fu (59 : Int32) (f_sumD fu 8 (0 : Int32) t s l).2.1 (f_sumD fu 8 (0 : Int32) t s l).2.2).2.2).1 (t + 10) x2.toNatClampNeg x3), (f_X5_addCode fu (-6 : Int32) t (f_X3_take fu (59 : Int32) (f_sumD fu 8 (0 : Int32) t s l).2.1 (f_sumD fu 8 (0 : Int32) t s l).2.2).2.1 (f_X3_take fu (59 : Int32) (f_sumD fu 8 (0 : Int32) t s l).2.1 (f_sumD fu 8 (0 : Int32) t s l).2.2).2.2).2)

def p_X3_lawTold_34 (fu : Nat) : Nat → Int32 → Int32 → Int32 → Int32 → Nat → fl_I → fl_L → Prop
  | 0, _, _, _, _, _, _, _ => False
  | n + 1, x2, x3, x4, x5, t, s, l =>
    ((((4 : Int32) < x5) → (((x4 = 0) → True) ∧ (¬ (x4 = 0) → (p_sumD fu 8 (0 : Int32) t s l) ∧ ((((f_sumD fu 8 (0 : Int32) t s l).1 = 0) → True) ∧ (¬ ((f_sumD fu 8 (0 : Int32) t s l).1 = 0) → (p_X3_take fu (59 : Int32) (f_sumD fu 8 (0 : Int32) t s l).2.1 (f_sumD fu 8 (0 : Int32) t s l).2.2) ∧ ((((f_X3_take fu (59 : Int32) (f_sumD fu 8 (0 : Int32) t s l).2.1 (f_sumD fu 8 (0 : Int32) t s l).2.2).1 = 0) → True) ∧ (¬ ((f_X3_take fu (59 : Int32) (f_sumD fu 8 (0 : Int32) t s l).2.1 (f_sumD fu 8 (0 : Int32) t s l).2.2).1 = 0) → (p_X5_addCode fu (-6 : Int32) t (f_X3_take fu (59 : Int32) (f_sumD fu 8 (0 : Int32) t s l).2.1 (f_sumD fu 8 (0 : Int32) t s l).2.2).2.1 (f_X3_take fu (59 : Int32) (f_sumD fu 8 (0 : Int32) t s l).2.1 (f_sumD fu 8 (0 : Int32) t s l).2.2).2.2) ∧ (vp_in x2 3) ∧ True))))))) ∧ (¬ ((4 : Int32) < x5) → (((x4 = 0) → (((x4 = 0) → True) ∧ (¬ (x4 = 0) → (p_sumD fu 8 (0 : Int32) t s l) ∧ ((((f_sumD fu 8 (0 : Int32) t s l).1 = 0) → True) ∧ (¬ ((f_sumD fu 8 (0 : Int32) t s l).1 = 0) → (p_X3_take fu (59 : Int32) (f_sumD fu 8 (0 : Int32) t s l).2.1 (f_sumD fu 8 (0 : Int32) t s l).2.2) ∧ ((((f_X3_take fu (59 : Int32) (f_sumD fu 8 (0 : Int32) t s l).2.1 (f_sumD fu 8 (0 : Int32) t s l).2.2).1 = 0) → True) ∧ (¬ ((f_X3_take fu (59 : Int32) (f_sumD fu 8 (0 : Int32) t s l).2.1 (f_sumD fu 8 (0 : Int32) t s l).2.2).1 = 0) → (p_X5_addCode fu (-6 : Int32) t (f_X3_take fu (59 : Int32) (f_sumD fu 8 (0 : Int32) t s l).2.1 (f_sumD fu 8 (0 : Int32) t s l).2.2).2.1 (f_X3_take fu (59 : Int32) (f_sumD fu 8 (0 : Int32) t s l).2.1 (f_sumD fu 8 (0 : Int32) t s l).2.2).2.2) ∧ (vp_in x2 3) ∧ True))))))) ∧ (¬ (x4 = 0) → (p_X3_kindNow fu s l) ∧ ((((f_X3_kindNow fu s l) = (265 : Int32)) → (((x5 = (4 : Int32)) → (p_X3_stop fu (2 : Int32) s l) ∧ p_X3_lawTold_34 fu n x2 x3 (f_X3_stop fu (2 : Int32) s l).1 (x5 + 1) t (f_X3_stop fu (2 : Int32) s l).2.1 (f_X3_stop fu (2 : Int32) s l).2.2) ∧ (¬ (x5 = (4 : Int32)) → (p_X3_ifTold fu t s l) ∧ p_X3_lawTold_34 fu n x2 x3 (f_X3_ifTold fu t s l).1 (x5 + 1) t (f_X3_ifTold fu t s l).2.1 (f_X3_ifTold fu t s l).2.2))) ∧ (¬ ((f_X3_kindNow fu s l) = (265 : Int32)) → (((x4 = 0) → True) ∧ (¬ (x4 = 0) → (p_sumD fu 8 (0 : Int32) t s l) ∧ ((((f_sumD fu 8 (0 : Int32) t s l).1 = 0) → True) ∧ (¬ ((f_sumD fu 8 (0 : Int32) t s l).1 = 0) → (p_X3_take fu (59 : Int32) (f_sumD fu 8 (0 : Int32) t s l).2.1 (f_sumD fu 8 (0 : Int32) t s l).2.2) ∧ ((((f_X3_take fu (59 : Int32) (f_sumD fu 8 (0 : Int32) t s l).2.1 (f_sumD fu 8 (0 : Int32) t s l).2.2).1 = 0) → True) ∧ (¬ ((f_X3_take fu (59 : Int32) (f_sumD fu 8 (0 : Int32) t s l).2.1 (f_sumD fu 8 (0 : Int32) t s l).2.2).1 = 0) → (p_X5_addCode fu (-6 : Int32) t (f_X3_take fu (59 : Int32) (f_sumD fu 8 (0 : Int32) t s l).2.1 (f_sumD fu 8 (0 : Int32) t s l).2.2).2.1 (f_X3_take fu (59 : Int32) (f_sumD fu 8 (0 : Int32) t s l).2.1 (f_sumD fu 8 (0 : Int32) t s l).2.2).2.2) ∧ (vp_in x2 3) ∧ True))))))))))))

set_option maxRecDepth 100000 in
set_option maxHeartbeats 1000000 in
theorem lp_X3_lawTold_34 {G : ab_G} {fu : Nat} {d : Nat} {D : fl_D} {t : Nat} (htt : isT t) : ∀ (n : Nat) (x2 : Int32) (x3 : Int32) (x4 : Int32) (x5 : Int32) (s : fl_I) (l : fl_L), p_X3_lawTold_34 fu n x2 x3 x4 x5 t s l → ab_C G (d + 34) 0 0 M_X3_lawTold 34 [some (.ref 3), some (.ref t), some (.int x2), some (.int x3), some (.int x4), some (.int x5)] [] (hp D s l) (rt (some (.int (f_X3_lawTold_34 fu n x2 x3 x4 x5 t s l).1)) (hp D (f_X3_lawTold_34 fu n x2 x3 x4 x5 t s l).2.1 (f_X3_lawTold_34 fu n x2 x3 x4 x5 t s l).2.2)) := by
  intro n
  induction n with
  | zero => intro x2 x3 x4 x5 s l hk; exact hk.elim
  | succ n ih =>
    intro x2 x3 x4 x5 s l hk
    generalize he : f_X3_lawTold_34 fu (n + 1) x2 x3 x4 x5 t s l = res
    unfold f_X3_lawTold_34 at he
    unfold p_X3_lawTold_34 at hk
    refine r_iload rfl rfl ?_
    refine r_iconst_ (a := 4) rfl (by decide) ?_
    refine r_icmp_gt rfl (fun c_37 => ?_) (fun c_37 => ?_)
    · rw [if_pos c_37] at he
      replace hk := hk.1 c_37
      refine r_iload rfl rfl ?_
      refine r_if_eq rfl (fun c_84 => ?_) (fun c_84 => ?_)
      · rw [if_pos c_84] at he
        replace hk := hk.1 c_84
        refine r_iconst_ (a := 0) rfl (by decide) ?_
        refine r_iret rfl rfl rfl ?_
        first | with_reducible exact fin_i he | exact fin_i he
      · rw [if_neg c_84] at he
        replace hk := hk.2 c_84
        refine r_aload_n rfl rfl ?_
        refine r_aload_n rfl rfl ?_
        refine r_iconst_ (a := 0) rfl (by decide) ?_
        obtain ⟨hb2, hk⟩ := hk
        refine q_callV0 [_, _] _ rfl kY_X3_sum kT_X3_sum rfl rfl (Nat.le_of_ble_eq_true rfl) (Nat.le_of_ble_eq_true rfl) (cc_3 _) (s_sum8 htt hb2) (fun r h q => ?_)
        obtain ⟨rfl, rfl⟩ := q
        simp only [Option.toList, List.cons_append, List.nil_append]
        refine r_if_eq rfl (fun c_93 => ?_) (fun c_93 => ?_)
        · rw [if_pos c_93] at he
          replace hk := hk.1 c_93
          refine r_iconst_ (a := 0) rfl (by decide) ?_
          refine r_iret rfl rfl rfl ?_
          first | with_reducible exact fin_i he | exact fin_i he
        · rw [if_neg c_93] at he
          replace hk := hk.2 c_93
          refine r_aload_n rfl rfl ?_
          refine r_bipush_ (a := 59) rfl (by decide) ?_
          obtain ⟨hb3, hk⟩ := hk
          refine q_callV0 [_] _ rfl kY_X3_take kT_X3_take rfl rfl (Nat.le_of_ble_eq_true rfl) (Nat.le_of_ble_eq_true rfl) (cc_3 _) (s_X3_take hb3) (fun r h q => ?_)
          obtain ⟨rfl, rfl⟩ := q
          simp only [Option.toList, List.cons_append, List.nil_append]
          refine r_if_ne rfl (fun c_102 => ?_) (fun c_102 => ?_)
          · rw [if_neg c_102] at he
            replace hk := hk.2 c_102
            refine r_aload_n rfl rfl ?_
            refine r_bipush_ (a := -6) rfl (by decide) ?_
            obtain ⟨hb4, hk⟩ := hk
            refine q_callV0 [_] _ rfl kY_X5_addCode kT_X5_addCode rfl rfl (Nat.le_of_ble_eq_true rfl) (Nat.le_of_ble_eq_true rfl) (cT_0 htt) (s_X5_addCode htt hb4) (fun r h q => ?_)
            obtain ⟨rfl, rfl⟩ := q
            simp only [Option.toList, List.cons_append, List.nil_append]
            refine r_aload_n rfl rfl ?_
            refine q_getfield rfl (cT_0 htt) rfl ?_
            refine r_iload_n rfl rfl ?_
            refine r_iload_n rfl rfl ?_
            obtain ⟨hb5, hk⟩ := hk
            refine w_iast rfl (cT_10 htt) hb5 ?_
            refine r_iconst_ (a := 1) rfl (by decide) ?_
            refine r_iret rfl rfl rfl ?_
            first | with_reducible exact fin_i he | exact fin_i he
          · rw [if_pos c_102] at he
            replace hk := hk.1 c_102
            refine r_iconst_ (a := 0) rfl (by decide) ?_
            refine r_iret rfl rfl rfl ?_
            first | with_reducible exact fin_i he | exact fin_i he
    · rw [if_neg c_37] at he
      replace hk := hk.2 c_37
      refine r_iload rfl rfl ?_
      refine r_if_eq rfl (fun c_42 => ?_) (fun c_42 => ?_)
      · rw [if_pos c_42] at he
        replace hk := hk.1 c_42
        refine r_iload rfl rfl ?_
        refine r_if_eq rfl (fun c_84 => ?_) (fun c_84 => ?_)
        · rw [if_pos c_84] at he
          replace hk := hk.1 c_84
          refine r_iconst_ (a := 0) rfl (by decide) ?_
          refine r_iret rfl rfl rfl ?_
          first | with_reducible exact fin_i he | exact fin_i he
        · rw [if_neg c_84] at he
          replace hk := hk.2 c_84
          refine r_aload_n rfl rfl ?_
          refine r_aload_n rfl rfl ?_
          refine r_iconst_ (a := 0) rfl (by decide) ?_
          obtain ⟨hb6, hk⟩ := hk
          refine q_callV0 [_, _] _ rfl kY_X3_sum kT_X3_sum rfl rfl (Nat.le_of_ble_eq_true rfl) (Nat.le_of_ble_eq_true rfl) (cc_3 _) (s_sum8 htt hb6) (fun r h q => ?_)
          obtain ⟨rfl, rfl⟩ := q
          simp only [Option.toList, List.cons_append, List.nil_append]
          refine r_if_eq rfl (fun c_93 => ?_) (fun c_93 => ?_)
          · rw [if_pos c_93] at he
            replace hk := hk.1 c_93
            refine r_iconst_ (a := 0) rfl (by decide) ?_
            refine r_iret rfl rfl rfl ?_
            first | with_reducible exact fin_i he | exact fin_i he
          · rw [if_neg c_93] at he
            replace hk := hk.2 c_93
            refine r_aload_n rfl rfl ?_
            refine r_bipush_ (a := 59) rfl (by decide) ?_
            obtain ⟨hb7, hk⟩ := hk
            refine q_callV0 [_] _ rfl kY_X3_take kT_X3_take rfl rfl (Nat.le_of_ble_eq_true rfl) (Nat.le_of_ble_eq_true rfl) (cc_3 _) (s_X3_take hb7) (fun r h q => ?_)
            obtain ⟨rfl, rfl⟩ := q
            simp only [Option.toList, List.cons_append, List.nil_append]
            refine r_if_ne rfl (fun c_102 => ?_) (fun c_102 => ?_)
            · rw [if_neg c_102] at he
              replace hk := hk.2 c_102
              refine r_aload_n rfl rfl ?_
              refine r_bipush_ (a := -6) rfl (by decide) ?_
              obtain ⟨hb8, hk⟩ := hk
              refine q_callV0 [_] _ rfl kY_X5_addCode kT_X5_addCode rfl rfl (Nat.le_of_ble_eq_true rfl) (Nat.le_of_ble_eq_true rfl) (cT_0 htt) (s_X5_addCode htt hb8) (fun r h q => ?_)
              obtain ⟨rfl, rfl⟩ := q
              simp only [Option.toList, List.cons_append, List.nil_append]
              refine r_aload_n rfl rfl ?_
              refine q_getfield rfl (cT_0 htt) rfl ?_
              refine r_iload_n rfl rfl ?_
              refine r_iload_n rfl rfl ?_
              obtain ⟨hb9, hk⟩ := hk
              refine w_iast rfl (cT_10 htt) hb9 ?_
              refine r_iconst_ (a := 1) rfl (by decide) ?_
              refine r_iret rfl rfl rfl ?_
              first | with_reducible exact fin_i he | exact fin_i he
            · rw [if_pos c_102] at he
              replace hk := hk.1 c_102
              refine r_iconst_ (a := 0) rfl (by decide) ?_
              refine r_iret rfl rfl rfl ?_
              first | with_reducible exact fin_i he | exact fin_i he
      · rw [if_neg c_42] at he
        replace hk := hk.2 c_42
        refine r_aload_n rfl rfl ?_
        obtain ⟨hb10, hk⟩ := hk
        refine q_callV0 [] _ rfl kY_X3_kindNow kT_X3_kindNow rfl rfl (Nat.le_of_ble_eq_true rfl) (Nat.le_of_ble_eq_true rfl) (cc_3 _) (s_X3_kindNow hb10) (fun r h q => ?_)
        obtain ⟨rfl, rfl⟩ := q
        simp only [Option.toList, List.cons_append, List.nil_append]
        refine r_sipush_ (a := 265) rfl (by decide) ?_
        refine r_icmp_ne rfl (fun c_52 => ?_) (fun c_52 => ?_)
        · rw [if_neg c_52] at he
          replace hk := hk.2 c_52
          refine r_iload rfl rfl ?_
          refine r_if_eq rfl (fun c_84 => ?_) (fun c_84 => ?_)
          · rw [if_pos c_84] at he
            replace hk := hk.1 c_84
            refine r_iconst_ (a := 0) rfl (by decide) ?_
            refine r_iret rfl rfl rfl ?_
            first | with_reducible exact fin_i he | exact fin_i he
          · rw [if_neg c_84] at he
            replace hk := hk.2 c_84
            refine r_aload_n rfl rfl ?_
            refine r_aload_n rfl rfl ?_
            refine r_iconst_ (a := 0) rfl (by decide) ?_
            obtain ⟨hb11, hk⟩ := hk
            refine q_callV0 [_, _] _ rfl kY_X3_sum kT_X3_sum rfl rfl (Nat.le_of_ble_eq_true rfl) (Nat.le_of_ble_eq_true rfl) (cc_3 _) (s_sum8 htt hb11) (fun r h q => ?_)
            obtain ⟨rfl, rfl⟩ := q
            simp only [Option.toList, List.cons_append, List.nil_append]
            refine r_if_eq rfl (fun c_93 => ?_) (fun c_93 => ?_)
            · rw [if_pos c_93] at he
              replace hk := hk.1 c_93
              refine r_iconst_ (a := 0) rfl (by decide) ?_
              refine r_iret rfl rfl rfl ?_
              first | with_reducible exact fin_i he | exact fin_i he
            · rw [if_neg c_93] at he
              replace hk := hk.2 c_93
              refine r_aload_n rfl rfl ?_
              refine r_bipush_ (a := 59) rfl (by decide) ?_
              obtain ⟨hb12, hk⟩ := hk
              refine q_callV0 [_] _ rfl kY_X3_take kT_X3_take rfl rfl (Nat.le_of_ble_eq_true rfl) (Nat.le_of_ble_eq_true rfl) (cc_3 _) (s_X3_take hb12) (fun r h q => ?_)
              obtain ⟨rfl, rfl⟩ := q
              simp only [Option.toList, List.cons_append, List.nil_append]
              refine r_if_ne rfl (fun c_102 => ?_) (fun c_102 => ?_)
              · rw [if_neg c_102] at he
                replace hk := hk.2 c_102
                refine r_aload_n rfl rfl ?_
                refine r_bipush_ (a := -6) rfl (by decide) ?_
                obtain ⟨hb13, hk⟩ := hk
                refine q_callV0 [_] _ rfl kY_X5_addCode kT_X5_addCode rfl rfl (Nat.le_of_ble_eq_true rfl) (Nat.le_of_ble_eq_true rfl) (cT_0 htt) (s_X5_addCode htt hb13) (fun r h q => ?_)
                obtain ⟨rfl, rfl⟩ := q
                simp only [Option.toList, List.cons_append, List.nil_append]
                refine r_aload_n rfl rfl ?_
                refine q_getfield rfl (cT_0 htt) rfl ?_
                refine r_iload_n rfl rfl ?_
                refine r_iload_n rfl rfl ?_
                obtain ⟨hb14, hk⟩ := hk
                refine w_iast rfl (cT_10 htt) hb14 ?_
                refine r_iconst_ (a := 1) rfl (by decide) ?_
                refine r_iret rfl rfl rfl ?_
                first | with_reducible exact fin_i he | exact fin_i he
              · rw [if_pos c_102] at he
                replace hk := hk.1 c_102
                refine r_iconst_ (a := 0) rfl (by decide) ?_
                refine r_iret rfl rfl rfl ?_
                first | with_reducible exact fin_i he | exact fin_i he
        · rw [if_pos c_52] at he
          replace hk := hk.1 c_52
          refine r_iload rfl rfl ?_
          refine r_iconst_ (a := 4) rfl (by decide) ?_
          refine r_icmp_ne rfl (fun c_58 => ?_) (fun c_58 => ?_)
          · rw [if_neg c_58] at he
            replace hk := hk.2 c_58
            refine r_aload_n rfl rfl ?_
            refine r_aload_n rfl rfl ?_
            obtain ⟨hb15, hk⟩ := hk
            refine q_callV0 [_] _ rfl kY_X3_ifTold kT_X3_ifTold rfl rfl (Nat.le_of_ble_eq_true rfl) (Nat.le_of_ble_eq_true rfl) (cc_3 _) (s_X3_ifTold htt hb15) (fun r h q => ?_)
            obtain ⟨rfl, rfl⟩ := q
            simp only [Option.toList, List.cons_append, List.nil_append]
            refine r_istore rfl (Nat.le_of_ble_eq_true rfl) rfl ?_
            refine r_iinc (b := x5 + 1) rfl rfl rfl (Nat.le_of_ble_eq_true rfl) rfl ?_
            refine r_goto rfl ?_
            subst he
            exact r_weak (L1 := [some (.ref 3), some (.ref t), some (.int x2), some (.int x3), some (.int (f_X3_ifTold fu t s l).1), some (.int (x5 + 1))]) ⟨rfl, rfl, rfl, rfl, rfl, rfl, trivial⟩ (ih _ _ _ _ _ _ hk)
          · rw [if_pos c_58] at he
            replace hk := hk.1 c_58
            refine r_aload_n rfl rfl ?_
            refine r_iconst_ (a := 2) rfl (by decide) ?_
            obtain ⟨hb16, hk⟩ := hk
            refine q_callV0 [_] _ rfl kY_X3_stop kT_X3_stop rfl rfl (Nat.le_of_ble_eq_true rfl) (Nat.le_of_ble_eq_true rfl) (cc_3 _) (s_X3_stop hb16) (fun r h q => ?_)
            obtain ⟨rfl, rfl⟩ := q
            simp only [Option.toList, List.cons_append, List.nil_append]
            refine r_goto rfl ?_
            refine r_istore rfl (Nat.le_of_ble_eq_true rfl) rfl ?_
            refine r_iinc (b := x5 + 1) rfl rfl rfl (Nat.le_of_ble_eq_true rfl) rfl ?_
            refine r_goto rfl ?_
            subst he
            exact r_weak (L1 := [some (.ref 3), some (.ref t), some (.int x2), some (.int x3), some (.int (f_X3_stop fu (2 : Int32) s l).1), some (.int (x5 + 1))]) ⟨rfl, rfl, rfl, rfl, rfl, rfl, trivial⟩ (ih _ _ _ _ _ _ hk)

def f_X3_lawTold (fu : Nat) (v1 : Int32) (t : Nat) (s : fl_I) (l : fl_L) : Int32 × fl_I × fl_L :=
  if ((f_X3_take fu ((259 : Int32) + v1) s l).1 = 0) then ((0 : Int32), (f_X3_take fu ((259 : Int32) + v1) s l).2.1, (f_X3_take fu ((259 : Int32) + v1) s l).2.2) else if ((f_X3_take fu (61 : Int32) (f_X3_take fu ((259 : Int32) + v1) s l).2.1 (f_X3_take fu ((259 : Int32) + v1) s l).2.2).1 = 0) then ((0 : Int32), (f_X3_take fu (61 : Int32) (f_X3_take fu ((259 : Int32) + v1) s l).2.1 (f_X3_take fu ((259 : Int32) + v1) s l).2.2).2.1, (f_X3_take fu (61 : Int32) (f_X3_take fu ((259 : Int32) + v1) s l).2.1 (f_X3_take fu ((259 : Int32) + v1) s l).2.2).2.2) else f_X3_lawTold_34 fu fu v1 ((f_X3_take fu (61 : Int32) (f_X3_take fu ((259 : Int32) + v1) s l).2.1 (f_X3_take fu ((259 : Int32) + v1) s l).2.2).2.1 t 14) (1 : Int32) (0 : Int32) t (f_X3_take fu (61 : Int32) (f_X3_take fu ((259 : Int32) + v1) s l).2.1 (f_X3_take fu ((259 : Int32) + v1) s l).2.2).2.1 (f_X3_take fu (61 : Int32) (f_X3_take fu ((259 : Int32) + v1) s l).2.1 (f_X3_take fu ((259 : Int32) + v1) s l).2.2).2.2

def p_X3_lawTold (fu : Nat) (v1 : Int32) (t : Nat) (s : fl_I) (l : fl_L) : Prop :=
  (p_X3_take fu ((259 : Int32) + v1) s l) ∧ ((((f_X3_take fu ((259 : Int32) + v1) s l).1 = 0) → True) ∧ (¬ ((f_X3_take fu ((259 : Int32) + v1) s l).1 = 0) → (p_X3_take fu (61 : Int32) (f_X3_take fu ((259 : Int32) + v1) s l).2.1 (f_X3_take fu ((259 : Int32) + v1) s l).2.2) ∧ ((((f_X3_take fu (61 : Int32) (f_X3_take fu ((259 : Int32) + v1) s l).2.1 (f_X3_take fu ((259 : Int32) + v1) s l).2.2).1 = 0) → True) ∧ (¬ ((f_X3_take fu (61 : Int32) (f_X3_take fu ((259 : Int32) + v1) s l).2.1 (f_X3_take fu ((259 : Int32) + v1) s l).2.2).1 = 0) → p_X3_lawTold_34 fu fu v1 ((f_X3_take fu (61 : Int32) (f_X3_take fu ((259 : Int32) + v1) s l).2.1 (f_X3_take fu ((259 : Int32) + v1) s l).2.2).2.1 t 14) (1 : Int32) (0 : Int32) t (f_X3_take fu (61 : Int32) (f_X3_take fu ((259 : Int32) + v1) s l).2.1 (f_X3_take fu ((259 : Int32) + v1) s l).2.2).2.1 (f_X3_take fu (61 : Int32) (f_X3_take fu ((259 : Int32) + v1) s l).2.1 (f_X3_take fu ((259 : Int32) + v1) s l).2.2).2.2))))

set_option maxRecDepth 100000 in
set_option maxHeartbeats 1000000 in
theorem s_X3_lawTold {G : ab_G} {fu : Nat} {d : Nat} {D : fl_D} {s : fl_I} {l : fl_L} {t : Nat} (htt : isT t) {v1 : Int32} (hk : p_X3_lawTold fu v1 t s l) : ab_C G (d + 34) 0 0 M_X3_lawTold 0 (ab_ent [.ref 3, .ref t, .int v1]) [] (hp D s l) (rt (some (.int (f_X3_lawTold fu v1 t s l).1)) (hp D (f_X3_lawTold fu v1 t s l).2.1 (f_X3_lawTold fu v1 t s l).2.2)) := by
  generalize he : (f_X3_lawTold fu v1 t s l) = res
  unfold f_X3_lawTold at he
  unfold p_X3_lawTold at hk
  refine r_weak (L1 := [some (.ref 3), some (.ref t), some (.int v1), none, none, none]) ⟨rfl, rfl, rfl, trivial⟩ ?_
  refine r_aload_n rfl rfl ?_
  refine r_sipush_ (a := 259) rfl (by decide) ?_
  refine r_iload_n rfl rfl ?_
  refine r_iadd rfl ?_
  obtain ⟨hb0, hk⟩ := hk
  refine q_callV0 [_] _ rfl kY_X3_take kT_X3_take rfl rfl (Nat.le_of_ble_eq_true rfl) (Nat.le_of_ble_eq_true rfl) (cc_3 _) (s_X3_take hb0) (fun r h q => ?_)
  obtain ⟨rfl, rfl⟩ := q
  simp only [Option.toList, List.cons_append, List.nil_append]
  refine r_if_eq rfl (fun c_9 => ?_) (fun c_9 => ?_)
  · rw [if_pos c_9] at he
    replace hk := hk.1 c_9
    refine r_iconst_ (a := 0) rfl (by decide) ?_
    refine r_iret rfl rfl rfl ?_
    first | with_reducible exact fin_i he | exact fin_i he
  · rw [if_neg c_9] at he
    replace hk := hk.2 c_9
    refine r_aload_n rfl rfl ?_
    refine r_bipush_ (a := 61) rfl (by decide) ?_
    obtain ⟨hb1, hk⟩ := hk
    refine q_callV0 [_] _ rfl kY_X3_take kT_X3_take rfl rfl (Nat.le_of_ble_eq_true rfl) (Nat.le_of_ble_eq_true rfl) (cc_3 _) (s_X3_take hb1) (fun r h q => ?_)
    obtain ⟨rfl, rfl⟩ := q
    simp only [Option.toList, List.cons_append, List.nil_append]
    refine r_if_ne rfl (fun c_18 => ?_) (fun c_18 => ?_)
    · rw [if_neg c_18] at he
      replace hk := hk.2 c_18
      refine r_aload_n rfl rfl ?_
      refine q_getfield rfl (cT_0 htt) rfl ?_
      refine r_istore_n rfl (Nat.le_of_ble_eq_true rfl) rfl ?_
      refine r_iconst_ (a := 1) rfl (by decide) ?_
      refine r_istore rfl (Nat.le_of_ble_eq_true rfl) rfl ?_
      refine r_iconst_ (a := 0) rfl (by decide) ?_
      refine r_istore rfl (Nat.le_of_ble_eq_true rfl) rfl ?_
      subst he
      exact r_weak (L1 := [some (.ref 3), some (.ref t), some (.int v1), some (.int ((f_X3_take fu (61 : Int32) (f_X3_take fu ((259 : Int32) + v1) s l).2.1 (f_X3_take fu ((259 : Int32) + v1) s l).2.2).2.1 t 14)), some (.int (1 : Int32)), some (.int (0 : Int32))]) ⟨rfl, rfl, rfl, rfl, rfl, rfl, trivial⟩ (lp_X3_lawTold_34 htt fu _ _ _ _ _ _ hk)
    · rw [if_pos c_18] at he
      replace hk := hk.1 c_18
      refine r_iconst_ (a := 0) rfl (by decide) ?_
      refine r_iret rfl rfl rfl ?_
      first | with_reducible exact fin_i he | exact fin_i he

def f_X12_drop (fu : Nat) (v0 : Int32) (s : fl_I) (l : fl_L) : Int32 × fl_I × fl_L :=
  if ((f_X12_isPiece fu v0 s l) = 0) then ((0 : Int32), s, l) else if (0 ≤ (s 94 ((64 : Int32) + v0).toNatClampNeg)) then ((1 : Int32), (f_X12_records fu (wi (wi (wi (wi (f_X12_copies fu s l).1 95 v0.toNatClampNeg ((f_X12_copies fu s l).1 95 ((128 : Int32) + ((f_X12_copies fu s l).1 94 ((64 : Int32) + v0).toNatClampNeg)).toNatClampNeg)) 95 ((32 : Int32) + v0).toNatClampNeg ((wi (f_X12_copies fu s l).1 95 v0.toNatClampNeg ((f_X12_copies fu s l).1 95 ((128 : Int32) + ((f_X12_copies fu s l).1 94 ((64 : Int32) + v0).toNatClampNeg)).toNatClampNeg)) 95 ((132 : Int32) + ((wi (f_X12_copies fu s l).1 95 v0.toNatClampNeg ((f_X12_copies fu s l).1 95 ((128 : Int32) + ((f_X12_copies fu s l).1 94 ((64 : Int32) + v0).toNatClampNeg)).toNatClampNeg)) 94 ((64 : Int32) + v0).toNatClampNeg)).toNatClampNeg)) 95 ((64 : Int32) + v0).toNatClampNeg (-2 : Int32)) 95 ((96 : Int32) + v0).toNatClampNeg (0 : Int32)) (f_X12_copies fu s l).2).1, (f_X12_records fu (wi (wi (wi (wi (f_X12_copies fu s l).1 95 v0.toNatClampNeg ((f_X12_copies fu s l).1 95 ((128 : Int32) + ((f_X12_copies fu s l).1 94 ((64 : Int32) + v0).toNatClampNeg)).toNatClampNeg)) 95 ((32 : Int32) + v0).toNatClampNeg ((wi (f_X12_copies fu s l).1 95 v0.toNatClampNeg ((f_X12_copies fu s l).1 95 ((128 : Int32) + ((f_X12_copies fu s l).1 94 ((64 : Int32) + v0).toNatClampNeg)).toNatClampNeg)) 95 ((132 : Int32) + ((wi (f_X12_copies fu s l).1 95 v0.toNatClampNeg ((f_X12_copies fu s l).1 95 ((128 : Int32) + ((f_X12_copies fu s l).1 94 ((64 : Int32) + v0).toNatClampNeg)).toNatClampNeg)) 94 ((64 : Int32) + v0).toNatClampNeg)).toNatClampNeg)) 95 ((64 : Int32) + v0).toNatClampNeg (-2 : Int32)) 95 ((96 : Int32) + v0).toNatClampNeg (0 : Int32)) (f_X12_copies fu s l).2).2) else ((0 : Int32), s, l)

def p_X12_drop (fu : Nat) (v0 : Int32) (s : fl_I) (l : fl_L) : Prop :=
  (p_X12_isPiece fu v0 s l) ∧ ((((f_X12_isPiece fu v0 s l) = 0) → True) ∧ (¬ ((f_X12_isPiece fu v0 s l) = 0) → (vp_in ((64 : Int32) + v0) 141) ∧ (((0 ≤ (s 94 ((64 : Int32) + v0).toNatClampNeg)) → (p_X12_copies fu s l) ∧ (vp_in ((64 : Int32) + v0) 141) ∧ (vp_in ((128 : Int32) + ((f_X12_copies fu s l).1 94 ((64 : Int32) + v0).toNatClampNeg)) 141) ∧ (vp_in v0 141) ∧ (vp_in ((64 : Int32) + v0) 141) ∧ (vp_in ((132 : Int32) + ((wi (f_X12_copies fu s l).1 95 v0.toNatClampNeg ((f_X12_copies fu s l).1 95 ((128 : Int32) + ((f_X12_copies fu s l).1 94 ((64 : Int32) + v0).toNatClampNeg)).toNatClampNeg)) 94 ((64 : Int32) + v0).toNatClampNeg)) 141) ∧ (vp_in ((32 : Int32) + v0) 141) ∧ (vp_in ((64 : Int32) + v0) 141) ∧ (vp_in ((96 : Int32) + v0) 141) ∧ (p_X12_records fu (wi (wi (wi (wi (f_X12_copies fu s l).1 95 v0.toNatClampNeg ((f_X12_copies fu s l).1 95 ((128 : Int32) + ((f_X12_copies fu s l).1 94 ((64 : Int32) + v0).toNatClampNeg)).toNatClampNeg)) 95 ((32 : Int32) + v0).toNatClampNeg ((wi (f_X12_copies fu s l).1 95 v0.toNatClampNeg ((f_X12_copies fu s l).1 95 ((128 : Int32) + ((f_X12_copies fu s l).1 94 ((64 : Int32) + v0).toNatClampNeg)).toNatClampNeg)) 95 ((132 : Int32) + ((wi (f_X12_copies fu s l).1 95 v0.toNatClampNeg ((f_X12_copies fu s l).1 95 ((128 : Int32) + ((f_X12_copies fu s l).1 94 ((64 : Int32) + v0).toNatClampNeg)).toNatClampNeg)) 94 ((64 : Int32) + v0).toNatClampNeg)).toNatClampNeg)) 95 ((64 : Int32) + v0).toNatClampNeg (-2 : Int32)) 95 ((96 : Int32) + v0).toNatClampNeg (0 : Int32)) (f_X12_copies fu s l).2) ∧ True) ∧ (¬ (0 ≤ (s 94 ((64 : Int32) + v0).toNatClampNeg)) → True))))

set_option maxRecDepth 100000 in
set_option maxHeartbeats 1000000 in
theorem s_X12_drop {G : ab_G} {fu : Nat} {d : Nat} {D : fl_D} {s : fl_I} {l : fl_L} {v0 : Int32} (hk : p_X12_drop fu v0 s l) : ab_C G (d + 2) 0 0 M_X12_drop 0 (ab_ent [.ref 60, .int v0]) [] (hp D s l) (rt (some (.int (f_X12_drop fu v0 s l).1)) (hp D (f_X12_drop fu v0 s l).2.1 (f_X12_drop fu v0 s l).2.2)) := by
  generalize he : (f_X12_drop fu v0 s l) = res
  unfold f_X12_drop at he
  unfold p_X12_drop at hk
  refine r_weak (L1 := [some (.ref 60), some (.int v0)]) ⟨rfl, rfl, trivial⟩ ?_
  refine r_aload_n rfl rfl ?_
  refine r_iload_n rfl rfl ?_
  obtain ⟨hb0, hk⟩ := hk
  refine q_callV0 [_] _ rfl kY_X12_isPiece kT_X12_isPiece rfl rfl (Nat.le_of_ble_eq_true rfl) (Nat.le_of_ble_eq_true rfl) (cc_60 _) (s_X12_isPiece hb0) (fun r h q => ?_)
  obtain ⟨rfl, rfl⟩ := q
  simp only [Option.toList, List.cons_append, List.nil_append]
  refine r_if_eq rfl (fun c_5 => ?_) (fun c_5 => ?_)
  · rw [if_pos c_5] at he
    replace hk := hk.1 c_5
    refine r_iconst_ (a := 0) rfl (by decide) ?_
    refine r_iret rfl rfl rfl ?_
    first | with_reducible exact fin_i he | exact fin_i he
  · rw [if_neg c_5] at he
    replace hk := hk.2 c_5
    refine r_aload_n rfl rfl ?_
    refine q_getfield rfl (cc_60 _) rfl ?_
    refine r_bipush_ (a := 64) rfl (by decide) ?_
    refine r_iload_n rfl rfl ?_
    refine r_iadd rfl ?_
    obtain ⟨hb1, hk⟩ := hk
    refine q_iald rfl (cc_94 _) hb1 ?_
    refine r_if_ge rfl (fun c_17 => ?_) (fun c_17 => ?_)
    · rw [if_pos c_17] at he
      replace hk := hk.1 c_17
      refine r_aload_n rfl rfl ?_
      obtain ⟨hb2, hk⟩ := hk
      refine q_callV0 [] _ rfl kY_X12_copies kT_X12_copies rfl rfl (Nat.le_of_ble_eq_true rfl) (Nat.le_of_ble_eq_true rfl) (cc_60 _) (s_X12_copies hb2) (fun r h q => ?_)
      obtain ⟨rfl, rfl⟩ := q
      simp only [Option.toList, List.cons_append, List.nil_append]
      refine r_aload_n rfl rfl ?_
      refine q_getfield rfl (cc_60 _) rfl ?_
      refine r_iload_n rfl rfl ?_
      refine r_aload_n rfl rfl ?_
      refine q_getfield rfl (cc_60 _) rfl ?_
      refine r_sipush_ (a := 128) rfl (by decide) ?_
      refine r_aload_n rfl rfl ?_
      refine q_getfield rfl (cc_60 _) rfl ?_
      refine r_bipush_ (a := 64) rfl (by decide) ?_
      refine r_iload_n rfl rfl ?_
      refine r_iadd rfl ?_
      obtain ⟨hb3, hk⟩ := hk
      refine q_iald rfl (cc_94 _) hb3 ?_
      refine r_iadd rfl ?_
      obtain ⟨hb4, hk⟩ := hk
      refine q_iald rfl (cc_95 _) hb4 ?_
      obtain ⟨hb5, hk⟩ := hk
      refine w_iast rfl (cc_95 _) hb5 ?_
      refine r_aload_n rfl rfl ?_
      refine q_getfield rfl (cc_60 _) rfl ?_
      refine r_bipush_ (a := 32) rfl (by decide) ?_
      refine r_iload_n rfl rfl ?_
      refine r_iadd rfl ?_
      refine r_aload_n rfl rfl ?_
      refine q_getfield rfl (cc_60 _) rfl ?_
      refine r_sipush_ (a := 132) rfl (by decide) ?_
      refine r_aload_n rfl rfl ?_
      refine q_getfield rfl (cc_60 _) rfl ?_
      refine r_bipush_ (a := 64) rfl (by decide) ?_
      refine r_iload_n rfl rfl ?_
      refine r_iadd rfl ?_
      obtain ⟨hb6, hk⟩ := hk
      refine q_iald rfl (cc_94 _) hb6 ?_
      refine r_iadd rfl ?_
      obtain ⟨hb7, hk⟩ := hk
      refine q_iald rfl (cc_95 _) hb7 ?_
      obtain ⟨hb8, hk⟩ := hk
      refine w_iast rfl (cc_95 _) hb8 ?_
      refine r_aload_n rfl rfl ?_
      refine q_getfield rfl (cc_60 _) rfl ?_
      refine r_bipush_ (a := 64) rfl (by decide) ?_
      refine r_iload_n rfl rfl ?_
      refine r_iadd rfl ?_
      refine r_bipush_ (a := -2) rfl (by decide) ?_
      obtain ⟨hb9, hk⟩ := hk
      refine w_iast rfl (cc_95 _) hb9 ?_
      refine r_aload_n rfl rfl ?_
      refine q_getfield rfl (cc_60 _) rfl ?_
      refine r_bipush_ (a := 96) rfl (by decide) ?_
      refine r_iload_n rfl rfl ?_
      refine r_iadd rfl ?_
      refine r_iconst_ (a := 0) rfl (by decide) ?_
      obtain ⟨hb10, hk⟩ := hk
      refine w_iast rfl (cc_95 _) hb10 ?_
      refine r_aload_n rfl rfl ?_
      obtain ⟨hb11, hk⟩ := hk
      refine q_callV0 [] _ rfl kY_X12_records kT_X12_records rfl rfl (Nat.le_of_ble_eq_true rfl) (Nat.le_of_ble_eq_true rfl) (cc_60 _) (s_X12_records hb11) (fun r h q => ?_)
      obtain ⟨rfl, rfl⟩ := q
      simp only [Option.toList, List.cons_append, List.nil_append]
      refine r_iconst_ (a := 1) rfl (by decide) ?_
      refine r_iret rfl rfl rfl ?_
      first | with_reducible exact fin_i he | exact fin_i he
    · rw [if_neg c_17] at he
      replace hk := hk.2 c_17
      refine r_iconst_ (a := 0) rfl (by decide) ?_
      refine r_iret rfl rfl rfl ?_
      first | with_reducible exact fin_i he | exact fin_i he

def f_X1_ofPiece (fu : Nat) (v0 : Int32) (v3 : Int32) (v4 : Int32) (t : Nat) (a : Nat) (s : fl_I) (l : fl_L) : Int32 × fl_I × fl_L :=
  ((f_X1_value fu v0 t (wi (wi (wi (wi (wi (wi (wi (wi (wi s 48 (0 : Int32).toNatClampNeg (s (t + 4) v3.toNatClampNeg)) 48 (1 : Int32).toNatClampNeg ((s (a + 1) v3.toNatClampNeg) - (s (a + 1) v3.toNatClampNeg) / (10 : Int32) * (10 : Int32))) 48 (2 : Int32).toNatClampNeg ((s (a + 1) v3.toNatClampNeg) / (10 : Int32))) 48 (3 : Int32).toNatClampNeg ((wi (wi (wi s 48 (0 : Int32).toNatClampNeg (s (t + 4) v3.toNatClampNeg)) 48 (1 : Int32).toNatClampNeg ((s (a + 1) v3.toNatClampNeg) - (s (a + 1) v3.toNatClampNeg) / (10 : Int32) * (10 : Int32))) 48 (2 : Int32).toNatClampNeg ((s (a + 1) v3.toNatClampNeg) / (10 : Int32))) a 0)) 48 (4 : Int32).toNatClampNeg ((wi (wi (wi (wi s 48 (0 : Int32).toNatClampNeg (s (t + 4) v3.toNatClampNeg)) 48 (1 : Int32).toNatClampNeg ((s (a + 1) v3.toNatClampNeg) - (s (a + 1) v3.toNatClampNeg) / (10 : Int32) * (10 : Int32))) 48 (2 : Int32).toNatClampNeg ((s (a + 1) v3.toNatClampNeg) / (10 : Int32))) 48 (3 : Int32).toNatClampNeg ((wi (wi (wi s 48 (0 : Int32).toNatClampNeg (s (t + 4) v3.toNatClampNeg)) 48 (1 : Int32).toNatClampNeg ((s (a + 1) v3.toNatClampNeg) - (s (a + 1) v3.toNatClampNeg) / (10 : Int32) * (10 : Int32))) 48 (2 : Int32).toNatClampNeg ((s (a + 1) v3.toNatClampNeg) / (10 : Int32))) a 0)) (a + 2) v3.toNatClampNeg)) 48 (5 : Int32).toNatClampNeg (0 : Int32)) 48 (6 : Int32).toNatClampNeg (0 : Int32)) 48 (7 : Int32).toNatClampNeg v4) 48 (8 : Int32).toNatClampNeg v3) l).1, (f_X1_value fu v0 t (wi (wi (wi (wi (wi (wi (wi (wi (wi s 48 (0 : Int32).toNatClampNeg (s (t + 4) v3.toNatClampNeg)) 48 (1 : Int32).toNatClampNeg ((s (a + 1) v3.toNatClampNeg) - (s (a + 1) v3.toNatClampNeg) / (10 : Int32) * (10 : Int32))) 48 (2 : Int32).toNatClampNeg ((s (a + 1) v3.toNatClampNeg) / (10 : Int32))) 48 (3 : Int32).toNatClampNeg ((wi (wi (wi s 48 (0 : Int32).toNatClampNeg (s (t + 4) v3.toNatClampNeg)) 48 (1 : Int32).toNatClampNeg ((s (a + 1) v3.toNatClampNeg) - (s (a + 1) v3.toNatClampNeg) / (10 : Int32) * (10 : Int32))) 48 (2 : Int32).toNatClampNeg ((s (a + 1) v3.toNatClampNeg) / (10 : Int32))) a 0)) 48 (4 : Int32).toNatClampNeg ((wi (wi (wi (wi s 48 (0 : Int32).toNatClampNeg (s (t + 4) v3.toNatClampNeg)) 48 (1 : Int32).toNatClampNeg ((s (a + 1) v3.toNatClampNeg) - (s (a + 1) v3.toNatClampNeg) / (10 : Int32) * (10 : Int32))) 48 (2 : Int32).toNatClampNeg ((s (a + 1) v3.toNatClampNeg) / (10 : Int32))) 48 (3 : Int32).toNatClampNeg ((wi (wi (wi s 48 (0 : Int32).toNatClampNeg (s (t + 4) v3.toNatClampNeg)) 48 (1 : Int32).toNatClampNeg ((s (a + 1) v3.toNatClampNeg) - (s (a + 1) v3.toNatClampNeg) / (10 : Int32) * (10 : Int32))) 48 (2 : Int32).toNatClampNeg ((s (a + 1) v3.toNatClampNeg) / (10 : Int32))) a 0)) (a + 2) v3.toNatClampNeg)) 48 (5 : Int32).toNatClampNeg (0 : Int32)) 48 (6 : Int32).toNatClampNeg (0 : Int32)) 48 (7 : Int32).toNatClampNeg v4) 48 (8 : Int32).toNatClampNeg v3) l).2.1, (f_X1_value fu v0 t (wi (wi (wi (wi (wi (wi (wi (wi (wi s 48 (0 : Int32).toNatClampNeg (s (t + 4) v3.toNatClampNeg)) 48 (1 : Int32).toNatClampNeg ((s (a + 1) v3.toNatClampNeg) - (s (a + 1) v3.toNatClampNeg) / (10 : Int32) * (10 : Int32))) 48 (2 : Int32).toNatClampNeg ((s (a + 1) v3.toNatClampNeg) / (10 : Int32))) 48 (3 : Int32).toNatClampNeg ((wi (wi (wi s 48 (0 : Int32).toNatClampNeg (s (t + 4) v3.toNatClampNeg)) 48 (1 : Int32).toNatClampNeg ((s (a + 1) v3.toNatClampNeg) - (s (a + 1) v3.toNatClampNeg) / (10 : Int32) * (10 : Int32))) 48 (2 : Int32).toNatClampNeg ((s (a + 1) v3.toNatClampNeg) / (10 : Int32))) a 0)) 48 (4 : Int32).toNatClampNeg ((wi (wi (wi (wi s 48 (0 : Int32).toNatClampNeg (s (t + 4) v3.toNatClampNeg)) 48 (1 : Int32).toNatClampNeg ((s (a + 1) v3.toNatClampNeg) - (s (a + 1) v3.toNatClampNeg) / (10 : Int32) * (10 : Int32))) 48 (2 : Int32).toNatClampNeg ((s (a + 1) v3.toNatClampNeg) / (10 : Int32))) 48 (3 : Int32).toNatClampNeg ((wi (wi (wi s 48 (0 : Int32).toNatClampNeg (s (t + 4) v3.toNatClampNeg)) 48 (1 : Int32).toNatClampNeg ((s (a + 1) v3.toNatClampNeg) - (s (a + 1) v3.toNatClampNeg) / (10 : Int32) * (10 : Int32))) 48 (2 : Int32).toNatClampNeg ((s (a + 1) v3.toNatClampNeg) / (10 : Int32))) a 0)) (a + 2) v3.toNatClampNeg)) 48 (5 : Int32).toNatClampNeg (0 : Int32)) 48 (6 : Int32).toNatClampNeg (0 : Int32)) 48 (7 : Int32).toNatClampNeg v4) 48 (8 : Int32).toNatClampNeg v3) l).2.2)

def p_X1_ofPiece (fu : Nat) (v0 : Int32) (v3 : Int32) (v4 : Int32) (t : Nat) (a : Nat) (s : fl_I) (l : fl_L) : Prop :=
  (vp_in v3 32) ∧ (vp_in v3 32) ∧ (vp_in v3 32) ∧ (p_X1_value fu v0 t (wi (wi (wi (wi (wi (wi (wi (wi (wi s 48 (0 : Int32).toNatClampNeg (s (t + 4) v3.toNatClampNeg)) 48 (1 : Int32).toNatClampNeg ((s (a + 1) v3.toNatClampNeg) - (s (a + 1) v3.toNatClampNeg) / (10 : Int32) * (10 : Int32))) 48 (2 : Int32).toNatClampNeg ((s (a + 1) v3.toNatClampNeg) / (10 : Int32))) 48 (3 : Int32).toNatClampNeg ((wi (wi (wi s 48 (0 : Int32).toNatClampNeg (s (t + 4) v3.toNatClampNeg)) 48 (1 : Int32).toNatClampNeg ((s (a + 1) v3.toNatClampNeg) - (s (a + 1) v3.toNatClampNeg) / (10 : Int32) * (10 : Int32))) 48 (2 : Int32).toNatClampNeg ((s (a + 1) v3.toNatClampNeg) / (10 : Int32))) a 0)) 48 (4 : Int32).toNatClampNeg ((wi (wi (wi (wi s 48 (0 : Int32).toNatClampNeg (s (t + 4) v3.toNatClampNeg)) 48 (1 : Int32).toNatClampNeg ((s (a + 1) v3.toNatClampNeg) - (s (a + 1) v3.toNatClampNeg) / (10 : Int32) * (10 : Int32))) 48 (2 : Int32).toNatClampNeg ((s (a + 1) v3.toNatClampNeg) / (10 : Int32))) 48 (3 : Int32).toNatClampNeg ((wi (wi (wi s 48 (0 : Int32).toNatClampNeg (s (t + 4) v3.toNatClampNeg)) 48 (1 : Int32).toNatClampNeg ((s (a + 1) v3.toNatClampNeg) - (s (a + 1) v3.toNatClampNeg) / (10 : Int32) * (10 : Int32))) 48 (2 : Int32).toNatClampNeg ((s (a + 1) v3.toNatClampNeg) / (10 : Int32))) a 0)) (a + 2) v3.toNatClampNeg)) 48 (5 : Int32).toNatClampNeg (0 : Int32)) 48 (6 : Int32).toNatClampNeg (0 : Int32)) 48 (7 : Int32).toNatClampNeg v4) 48 (8 : Int32).toNatClampNeg v3) l) ∧ True

set_option maxRecDepth 100000 in
set_option maxHeartbeats 1000000 in
theorem s_X1_ofPiece {G : ab_G} {fu : Nat} {d : Nat} {D : fl_D} {s : fl_I} {l : fl_L} {t : Nat} (htt : isT t) {a : Nat} (hya : isY D a) {v0 : Int32} {v3 : Int32} {v4 : Int32} (hk : p_X1_ofPiece fu v0 v3 v4 t a s l) : ab_C G (d + 2) 0 0 M_X1_ofPiece 0 (ab_ent [.ref 47, .int v0, .ref t, .ref a, .int v3, .int v4]) [] (hp D s l) (rt (some (.int (f_X1_ofPiece fu v0 v3 v4 t a s l).1)) (hp D (f_X1_ofPiece fu v0 v3 v4 t a s l).2.1 (f_X1_ofPiece fu v0 v3 v4 t a s l).2.2)) := by
  generalize he : (f_X1_ofPiece fu v0 v3 v4 t a s l) = res
  unfold f_X1_ofPiece at he
  unfold p_X1_ofPiece at hk
  refine r_weak (L1 := [some (.ref 47), some (.int v0), some (.ref t), some (.ref a), some (.int v3), some (.int v4), none]) ⟨rfl, rfl, rfl, rfl, rfl, rfl, trivial⟩ ?_
  refine r_aload_n rfl rfl ?_
  refine q_getfield rfl (cY_0 hya) rfl ?_
  refine r_iload rfl rfl ?_
  obtain ⟨hb0, hk⟩ := hk
  refine q_iald rfl (cY_1 hya) hb0 ?_
  refine r_istore rfl (Nat.le_of_ble_eq_true rfl) rfl ?_
  refine r_aload_n rfl rfl ?_
  refine q_getfield rfl (cc_47 _) rfl ?_
  refine r_iconst_ (a := 0) rfl (by decide) ?_
  refine r_aload_n rfl rfl ?_
  refine q_getfield rfl (cT_0 htt) rfl ?_
  refine r_iload rfl rfl ?_
  obtain ⟨hb1, hk⟩ := hk
  refine q_iald rfl (cT_4 htt) hb1 ?_
  refine w_iast rfl (cc_48 _) (by unfold vp_in; decide) ?_
  refine r_aload_n rfl rfl ?_
  refine q_getfield rfl (cc_47 _) rfl ?_
  refine r_iconst_ (a := 1) rfl (by decide) ?_
  refine r_iload rfl rfl ?_
  refine r_bipush_ (a := 10) rfl (by decide) ?_
  refine r_irem rfl (by decide) ?_
  refine w_iast rfl (cc_48 _) (by unfold vp_in; decide) ?_
  refine r_aload_n rfl rfl ?_
  refine q_getfield rfl (cc_47 _) rfl ?_
  refine r_iconst_ (a := 2) rfl (by decide) ?_
  refine r_iload rfl rfl ?_
  refine r_bipush_ (a := 10) rfl (by decide) ?_
  refine r_idiv rfl (by decide) ?_
  refine w_iast rfl (cc_48 _) (by unfold vp_in; decide) ?_
  refine r_aload_n rfl rfl ?_
  refine q_getfield rfl (cc_47 _) rfl ?_
  refine r_iconst_ (a := 3) rfl (by decide) ?_
  refine r_aload_n rfl rfl ?_
  refine q_getfield rfl (cY_0 hya) rfl ?_
  refine w_iast rfl (cc_48 _) (by unfold vp_in; decide) ?_
  refine r_aload_n rfl rfl ?_
  refine q_getfield rfl (cc_47 _) rfl ?_
  refine r_iconst_ (a := 4) rfl (by decide) ?_
  refine r_aload_n rfl rfl ?_
  refine q_getfield rfl (cY_0 hya) rfl ?_
  refine r_iload rfl rfl ?_
  obtain ⟨hb2, hk⟩ := hk
  refine q_iald rfl (cY_2 hya) hb2 ?_
  refine w_iast rfl (cc_48 _) (by unfold vp_in; decide) ?_
  refine r_aload_n rfl rfl ?_
  refine q_getfield rfl (cc_47 _) rfl ?_
  refine r_iconst_ (a := 5) rfl (by decide) ?_
  refine r_iconst_ (a := 0) rfl (by decide) ?_
  refine w_iast rfl (cc_48 _) (by unfold vp_in; decide) ?_
  refine r_aload_n rfl rfl ?_
  refine q_getfield rfl (cc_47 _) rfl ?_
  refine r_bipush_ (a := 6) rfl (by decide) ?_
  refine r_iconst_ (a := 0) rfl (by decide) ?_
  refine w_iast rfl (cc_48 _) (by unfold vp_in; decide) ?_
  refine r_aload_n rfl rfl ?_
  refine q_getfield rfl (cc_47 _) rfl ?_
  refine r_bipush_ (a := 7) rfl (by decide) ?_
  refine r_iload rfl rfl ?_
  refine w_iast rfl (cc_48 _) (by unfold vp_in; decide) ?_
  refine r_aload_n rfl rfl ?_
  refine q_getfield rfl (cc_47 _) rfl ?_
  refine r_bipush_ (a := 8) rfl (by decide) ?_
  refine r_iload rfl rfl ?_
  refine w_iast rfl (cc_48 _) (by unfold vp_in; decide) ?_
  refine r_aload_n rfl rfl ?_
  refine r_aload_n rfl rfl ?_
  refine r_iload_n rfl rfl ?_
  obtain ⟨hb3, hk⟩ := hk
  refine q_callV0 [_, _] _ rfl kY_X1_value kT_X1_value rfl rfl (Nat.le_of_ble_eq_true rfl) (Nat.le_of_ble_eq_true rfl) (cc_47 _) (s_X1_value htt hb3) (fun r h q => ?_)
  obtain ⟨rfl, rfl⟩ := q
  simp only [Option.toList, List.cons_append, List.nil_append]
  refine r_iret rfl rfl rfl ?_
  first | with_reducible exact fin_i he | exact fin_i he

