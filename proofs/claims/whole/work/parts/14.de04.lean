def f_X3_unit (KS : Int32 → Nat → fl_I → fl_L → Int32 × fl_I × fl_L) (v1 : Int32) (t : Nat) (s : fl_I) (l : fl_L) : Int32 × fl_I × fl_L :=
  if ((f_X3_kindNow s l) = (40 : Int32)) then if (v1 < (6 : Int32)) then if ((f_X3_take (40 : Int32) s l).1 = 0) then ((0 : Int32), (f_X3_take (40 : Int32) s l).2.1, (f_X3_take (40 : Int32) s l).2.2) else if ((KS (v1 + (1 : Int32)) t (f_X3_take (40 : Int32) s l).2.1 (f_X3_take (40 : Int32) s l).2.2).1 = 0) then ((0 : Int32), (KS (v1 + (1 : Int32)) t (f_X3_take (40 : Int32) s l).2.1 (f_X3_take (40 : Int32) s l).2.2).2.1, (KS (v1 + (1 : Int32)) t (f_X3_take (40 : Int32) s l).2.1 (f_X3_take (40 : Int32) s l).2.2).2.2) else if ((f_X3_take (41 : Int32) (KS (v1 + (1 : Int32)) t (f_X3_take (40 : Int32) s l).2.1 (f_X3_take (40 : Int32) s l).2.2).2.1 (KS (v1 + (1 : Int32)) t (f_X3_take (40 : Int32) s l).2.1 (f_X3_take (40 : Int32) s l).2.2).2.2).1 = 0) then ((0 : Int32), (f_X3_take (41 : Int32) (KS (v1 + (1 : Int32)) t (f_X3_take (40 : Int32) s l).2.1 (f_X3_take (40 : Int32) s l).2.2).2.1 (KS (v1 + (1 : Int32)) t (f_X3_take (40 : Int32) s l).2.1 (f_X3_take (40 : Int32) s l).2.2).2.2).2.1, (f_X3_take (41 : Int32) (KS (v1 + (1 : Int32)) t (f_X3_take (40 : Int32) s l).2.1 (f_X3_take (40 : Int32) s l).2.2).2.1 (KS (v1 + (1 : Int32)) t (f_X3_take (40 : Int32) s l).2.1 (f_X3_take (40 : Int32) s l).2.2).2.2).2.2) else ((1 : Int32), (f_X3_take (41 : Int32) (KS (v1 + (1 : Int32)) t (f_X3_take (40 : Int32) s l).2.1 (f_X3_take (40 : Int32) s l).2.2).2.1 (KS (v1 + (1 : Int32)) t (f_X3_take (40 : Int32) s l).2.1 (f_X3_take (40 : Int32) s l).2.2).2.2).2.1, (f_X3_take (41 : Int32) (KS (v1 + (1 : Int32)) t (f_X3_take (40 : Int32) s l).2.1 (f_X3_take (40 : Int32) s l).2.2).2.1 (KS (v1 + (1 : Int32)) t (f_X3_take (40 : Int32) s l).2.1 (f_X3_take (40 : Int32) s l).2.2).2.2).2.2) else ((f_X3_stop (2 : Int32) s l).1, (f_X3_stop (2 : Int32) s l).2.1, (f_X3_stop (2 : Int32) s l).2.2) else if ((f_X3_kindNow s l) < (268 : Int32)) then ((f_X3_take (3 : Int32) (f_X5_addCode (f_X3_valueNow s l).toInt32 t s l).1 (f_X5_addCode (f_X3_valueNow s l).toInt32 t s l).2).1, (f_X3_take (3 : Int32) (f_X5_addCode (f_X3_valueNow s l).toInt32 t s l).1 (f_X5_addCode (f_X3_valueNow s l).toInt32 t s l).2).2.1, (f_X3_take (3 : Int32) (f_X5_addCode (f_X3_valueNow s l).toInt32 t s l).1 (f_X5_addCode (f_X3_valueNow s l).toInt32 t s l).2).2.2) else if ((277 : Int32) ≤ (f_X3_kindNow s l)) then ((f_X3_take (3 : Int32) (f_X5_addCode (f_X3_valueNow s l).toInt32 t s l).1 (f_X5_addCode (f_X3_valueNow s l).toInt32 t s l).2).1, (f_X3_take (3 : Int32) (f_X5_addCode (f_X3_valueNow s l).toInt32 t s l).1 (f_X5_addCode (f_X3_valueNow s l).toInt32 t s l).2).2.1, (f_X3_take (3 : Int32) (f_X5_addCode (f_X3_valueNow s l).toInt32 t s l).1 (f_X5_addCode (f_X3_valueNow s l).toInt32 t s l).2).2.2) else ((f_X3_take (f_X3_kindNow s l) (f_X5_addCode ((-7 : Int32) - ((f_X3_kindNow s l) - (268 : Int32))) t s l).1 (f_X5_addCode ((-7 : Int32) - ((f_X3_kindNow s l) - (268 : Int32))) t s l).2).1, (f_X3_take (f_X3_kindNow s l) (f_X5_addCode ((-7 : Int32) - ((f_X3_kindNow s l) - (268 : Int32))) t s l).1 (f_X5_addCode ((-7 : Int32) - ((f_X3_kindNow s l) - (268 : Int32))) t s l).2).2.1, (f_X3_take (f_X3_kindNow s l) (f_X5_addCode ((-7 : Int32) - ((f_X3_kindNow s l) - (268 : Int32))) t s l).1 (f_X5_addCode ((-7 : Int32) - ((f_X3_kindNow s l) - (268 : Int32))) t s l).2).2.2)

def p_X3_unit (KS : Int32 → Nat → fl_I → fl_L → Int32 × fl_I × fl_L) (KP : Int32 → Nat → fl_I → fl_L → Prop) (v1 : Int32) (t : Nat) (s : fl_I) (l : fl_L) : Prop :=
  (p_X3_kindNow s l) ∧ ((((f_X3_kindNow s l) = (40 : Int32)) → (((v1 < (6 : Int32)) → (p_X3_take (40 : Int32) s l) ∧ ((((f_X3_take (40 : Int32) s l).1 = 0) → True) ∧ (¬ ((f_X3_take (40 : Int32) s l).1 = 0) → (KP (v1 + (1 : Int32)) t (f_X3_take (40 : Int32) s l).2.1 (f_X3_take (40 : Int32) s l).2.2) ∧ ((((KS (v1 + (1 : Int32)) t (f_X3_take (40 : Int32) s l).2.1 (f_X3_take (40 : Int32) s l).2.2).1 = 0) → True) ∧ (¬ ((KS (v1 + (1 : Int32)) t (f_X3_take (40 : Int32) s l).2.1 (f_X3_take (40 : Int32) s l).2.2).1 = 0) → (p_X3_take (41 : Int32) (KS (v1 + (1 : Int32)) t (f_X3_take (40 : Int32) s l).2.1 (f_X3_take (40 : Int32) s l).2.2).2.1 (KS (v1 + (1 : Int32)) t (f_X3_take (40 : Int32) s l).2.1 (f_X3_take (40 : Int32) s l).2.2).2.2) ∧ ((((f_X3_take (41 : Int32) (KS (v1 + (1 : Int32)) t (f_X3_take (40 : Int32) s l).2.1 (f_X3_take (40 : Int32) s l).2.2).2.1 (KS (v1 + (1 : Int32)) t (f_X3_take (40 : Int32) s l).2.1 (f_X3_take (40 : Int32) s l).2.2).2.2).1 = 0) → True) ∧ (¬ ((f_X3_take (41 : Int32) (KS (v1 + (1 : Int32)) t (f_X3_take (40 : Int32) s l).2.1 (f_X3_take (40 : Int32) s l).2.2).2.1 (KS (v1 + (1 : Int32)) t (f_X3_take (40 : Int32) s l).2.1 (f_X3_take (40 : Int32) s l).2.2).2.2).1 = 0) → True))))))) ∧ (¬ (v1 < (6 : Int32)) → (p_X3_stop (2 : Int32) s l) ∧ ((f_X3_stop (2 : Int32) s l).1 = 0 ∨ (f_X3_stop (2 : Int32) s l).1 = 1) ∧ True))) ∧ (¬ ((f_X3_kindNow s l) = (40 : Int32)) → ((((f_X3_kindNow s l) < (268 : Int32)) → (p_X3_valueNow s l) ∧ (p_X5_addCode (f_X3_valueNow s l).toInt32 t s l) ∧ (p_X3_take (3 : Int32) (f_X5_addCode (f_X3_valueNow s l).toInt32 t s l).1 (f_X5_addCode (f_X3_valueNow s l).toInt32 t s l).2) ∧ ((f_X3_take (3 : Int32) (f_X5_addCode (f_X3_valueNow s l).toInt32 t s l).1 (f_X5_addCode (f_X3_valueNow s l).toInt32 t s l).2).1 = 0 ∨ (f_X3_take (3 : Int32) (f_X5_addCode (f_X3_valueNow s l).toInt32 t s l).1 (f_X5_addCode (f_X3_valueNow s l).toInt32 t s l).2).1 = 1) ∧ True) ∧ (¬ ((f_X3_kindNow s l) < (268 : Int32)) → ((((277 : Int32) ≤ (f_X3_kindNow s l)) → (p_X3_valueNow s l) ∧ (p_X5_addCode (f_X3_valueNow s l).toInt32 t s l) ∧ (p_X3_take (3 : Int32) (f_X5_addCode (f_X3_valueNow s l).toInt32 t s l).1 (f_X5_addCode (f_X3_valueNow s l).toInt32 t s l).2) ∧ ((f_X3_take (3 : Int32) (f_X5_addCode (f_X3_valueNow s l).toInt32 t s l).1 (f_X5_addCode (f_X3_valueNow s l).toInt32 t s l).2).1 = 0 ∨ (f_X3_take (3 : Int32) (f_X5_addCode (f_X3_valueNow s l).toInt32 t s l).1 (f_X5_addCode (f_X3_valueNow s l).toInt32 t s l).2).1 = 1) ∧ True) ∧ (¬ ((277 : Int32) ≤ (f_X3_kindNow s l)) → (p_X5_addCode ((-7 : Int32) - ((f_X3_kindNow s l) - (268 : Int32))) t s l) ∧ (p_X3_take (f_X3_kindNow s l) (f_X5_addCode ((-7 : Int32) - ((f_X3_kindNow s l) - (268 : Int32))) t s l).1 (f_X5_addCode ((-7 : Int32) - ((f_X3_kindNow s l) - (268 : Int32))) t s l).2) ∧ ((f_X3_take (f_X3_kindNow s l) (f_X5_addCode ((-7 : Int32) - ((f_X3_kindNow s l) - (268 : Int32))) t s l).1 (f_X5_addCode ((-7 : Int32) - ((f_X3_kindNow s l) - (268 : Int32))) t s l).2).1 = 0 ∨ (f_X3_take (f_X3_kindNow s l) (f_X5_addCode ((-7 : Int32) - ((f_X3_kindNow s l) - (268 : Int32))) t s l).1 (f_X5_addCode ((-7 : Int32) - ((f_X3_kindNow s l) - (268 : Int32))) t s l).2).1 = 1) ∧ True))))))

set_option maxRecDepth 100000 in
set_option maxHeartbeats 4000000 in
theorem s_X3_unit {G : ab_G} {d : Nat} {D : fl_D} (KS : Int32 → Nat → fl_I → fl_L → Int32 × fl_I × fl_L) (KP : Int32 → Nat → fl_I → fl_L → Prop) (hKS : ∀ {t : Nat} (_ : isT t) {v : Int32} {s : fl_I} {l : fl_L}, KP v t s l → ab_C G d 0 0 M_X3_sum 0 (ab_ent [.ref 3, .ref t, .int v]) [] (hp D s l) (rt (some (.int (KS v t s l).1)) (hp D (KS v t s l).2.1 (KS v t s l).2.2))) {s : fl_I} {l : fl_L} {t : Nat} (htt : isT t) {v1 : Int32} (hk : p_X3_unit KS KP v1 t s l) : ab_C G (d + 2) 0 0 M_X3_unit 0 (ab_ent [.ref 3, .ref t, .int v1]) [] (hp D s l) (rt (some (.int (f_X3_unit KS v1 t s l).1)) (hp D (f_X3_unit KS v1 t s l).2.1 (f_X3_unit KS v1 t s l).2.2)) := by
  generalize he : (f_X3_unit KS v1 t s l) = res
  unfold f_X3_unit at he
  unfold p_X3_unit at hk
  refine r_weak (L1 := [some (.ref 3), some (.ref t), some (.int v1), none]) ⟨rfl, rfl, rfl, trivial⟩ ?_
  refine r_aload_n rfl rfl ?_
  obtain ⟨hb0, hk⟩ := hk
  refine q_callV0 [] _ rfl kY_X3_kindNow kT_X3_kindNow rfl rfl (Nat.le_of_ble_eq_true rfl) (Nat.le_of_ble_eq_true rfl) (cc_3 _) (s_X3_kindNow hb0) (fun r h q => ?_)
  obtain ⟨rfl, rfl⟩ := q
  simp only [Option.toList, List.cons_append, List.nil_append]
  refine r_istore_n rfl (Nat.le_of_ble_eq_true rfl) rfl ?_
  refine r_iload_n rfl rfl ?_
  refine r_bipush_ (a := 40) rfl (by decide) ?_
  refine r_icmp_ne rfl (fun c_8 => ?_) (fun c_8 => ?_)
  · rw [if_neg c_8] at he
    replace hk := hk.2 c_8
    refine r_iload_n rfl rfl ?_
    refine r_sipush_ (a := 268) rfl (by decide) ?_
    refine r_icmp_lt rfl (fun c_64 => ?_) (fun c_64 => ?_)
    · rw [if_pos c_64] at he
      replace hk := hk.1 c_64
      refine r_aload_n rfl rfl ?_
      refine r_aload_n rfl rfl ?_
      obtain ⟨hb1, hk⟩ := hk
      refine q_callV0 [] _ rfl kY_X3_valueNow kT_X3_valueNow rfl rfl (Nat.le_of_ble_eq_true rfl) (Nat.le_of_ble_eq_true rfl) (cc_3 _) (s_X3_valueNow hb1) (fun r h q => ?_)
      obtain ⟨rfl, rfl⟩ := q
      simp only [Option.toList, List.cons_append, List.nil_append]
      refine r_l2i rfl ?_
      obtain ⟨hb2, hk⟩ := hk
      refine q_callV0 [_] _ rfl kY_X5_addCode kT_X5_addCode rfl rfl (Nat.le_of_ble_eq_true rfl) (Nat.le_of_ble_eq_true rfl) (cT_0 htt) (s_X5_addCode htt hb2) (fun r h q => ?_)
      obtain ⟨rfl, rfl⟩ := q
      simp only [Option.toList, List.cons_append, List.nil_append]
      refine r_aload_n rfl rfl ?_
      refine r_iconst_ (a := 3) rfl (by decide) ?_
      obtain ⟨hb3, hk⟩ := hk
      refine q_callV0 [_] _ rfl kY_X3_take kT_X3_take rfl rfl (Nat.le_of_ble_eq_true rfl) (Nat.le_of_ble_eq_true rfl) (cc_3 _) (s_X3_take hb3) (fun r h q => ?_)
      obtain ⟨rfl, rfl⟩ := q
      simp only [Option.toList, List.cons_append, List.nil_append]
      obtain ⟨hb4, hk⟩ := hk
      refine r_iret rfl rfl (nar_b hb4) ?_
      subst he
      exact ⟨rfl, rfl⟩
    · rw [if_neg c_64] at he
      replace hk := hk.2 c_64
      refine r_iload_n rfl rfl ?_
      refine r_sipush_ (a := 277) rfl (by decide) ?_
      refine r_icmp_ge rfl (fun c_71 => ?_) (fun c_71 => ?_)
      · rw [if_pos c_71] at he
        replace hk := hk.1 c_71
        refine r_aload_n rfl rfl ?_
        refine r_aload_n rfl rfl ?_
        obtain ⟨hb5, hk⟩ := hk
        refine q_callV0 [] _ rfl kY_X3_valueNow kT_X3_valueNow rfl rfl (Nat.le_of_ble_eq_true rfl) (Nat.le_of_ble_eq_true rfl) (cc_3 _) (s_X3_valueNow hb5) (fun r h q => ?_)
        obtain ⟨rfl, rfl⟩ := q
        simp only [Option.toList, List.cons_append, List.nil_append]
        refine r_l2i rfl ?_
        obtain ⟨hb6, hk⟩ := hk
        refine q_callV0 [_] _ rfl kY_X5_addCode kT_X5_addCode rfl rfl (Nat.le_of_ble_eq_true rfl) (Nat.le_of_ble_eq_true rfl) (cT_0 htt) (s_X5_addCode htt hb6) (fun r h q => ?_)
        obtain ⟨rfl, rfl⟩ := q
        simp only [Option.toList, List.cons_append, List.nil_append]
        refine r_aload_n rfl rfl ?_
        refine r_iconst_ (a := 3) rfl (by decide) ?_
        obtain ⟨hb7, hk⟩ := hk
        refine q_callV0 [_] _ rfl kY_X3_take kT_X3_take rfl rfl (Nat.le_of_ble_eq_true rfl) (Nat.le_of_ble_eq_true rfl) (cc_3 _) (s_X3_take hb7) (fun r h q => ?_)
        obtain ⟨rfl, rfl⟩ := q
        simp only [Option.toList, List.cons_append, List.nil_append]
        obtain ⟨hb8, hk⟩ := hk
        refine r_iret rfl rfl (nar_b hb8) ?_
        subst he
        exact ⟨rfl, rfl⟩
      · rw [if_neg c_71] at he
        replace hk := hk.2 c_71
        refine r_aload_n rfl rfl ?_
        refine r_bipush_ (a := -7) rfl (by decide) ?_
        refine r_iload_n rfl rfl ?_
        refine r_sipush_ (a := 268) rfl (by decide) ?_
        refine r_isub rfl ?_
        refine r_isub rfl ?_
        obtain ⟨hb9, hk⟩ := hk
        refine q_callV0 [_] _ rfl kY_X5_addCode kT_X5_addCode rfl rfl (Nat.le_of_ble_eq_true rfl) (Nat.le_of_ble_eq_true rfl) (cT_0 htt) (s_X5_addCode htt hb9) (fun r h q => ?_)
        obtain ⟨rfl, rfl⟩ := q
        simp only [Option.toList, List.cons_append, List.nil_append]
        refine r_aload_n rfl rfl ?_
        refine r_iload_n rfl rfl ?_
        obtain ⟨hb10, hk⟩ := hk
        refine q_callV0 [_] _ rfl kY_X3_take kT_X3_take rfl rfl (Nat.le_of_ble_eq_true rfl) (Nat.le_of_ble_eq_true rfl) (cc_3 _) (s_X3_take hb10) (fun r h q => ?_)
        obtain ⟨rfl, rfl⟩ := q
        simp only [Option.toList, List.cons_append, List.nil_append]
        obtain ⟨hb11, hk⟩ := hk
        refine r_iret rfl rfl (nar_b hb11) ?_
        subst he
        exact ⟨rfl, rfl⟩
  · rw [if_pos c_8] at he
    replace hk := hk.1 c_8
    refine r_iload_n rfl rfl ?_
    refine r_bipush_ (a := 6) rfl (by decide) ?_
    refine r_icmp_lt rfl (fun c_14 => ?_) (fun c_14 => ?_)
    · rw [if_pos c_14] at he
      replace hk := hk.1 c_14
      refine r_aload_n rfl rfl ?_
      refine r_bipush_ (a := 40) rfl (by decide) ?_
      obtain ⟨hb12, hk⟩ := hk
      refine q_callV0 [_] _ rfl kY_X3_take kT_X3_take rfl rfl (Nat.le_of_ble_eq_true rfl) (Nat.le_of_ble_eq_true rfl) (cc_3 _) (s_X3_take hb12) (fun r h q => ?_)
      obtain ⟨rfl, rfl⟩ := q
      simp only [Option.toList, List.cons_append, List.nil_append]
      refine r_if_eq rfl (fun c_31 => ?_) (fun c_31 => ?_)
      · rw [if_pos c_31] at he
        replace hk := hk.1 c_31
        refine r_iconst_ (a := 0) rfl (by decide) ?_
        refine r_iret rfl rfl rfl ?_
        subst he
        exact ⟨rfl, rfl⟩
      · rw [if_neg c_31] at he
        replace hk := hk.2 c_31
        refine r_aload_n rfl rfl ?_
        refine r_aload_n rfl rfl ?_
        refine r_iload_n rfl rfl ?_
        refine r_iconst_ (a := 1) rfl (by decide) ?_
        refine r_iadd rfl ?_
        obtain ⟨hb13, hk⟩ := hk
        refine q_callV0 [_, _] _ rfl kY_X3_sum kT_X3_sum rfl rfl (Nat.le_of_ble_eq_true rfl) (Nat.le_of_ble_eq_true rfl) (cc_3 _) (r_deep (hKS htt hb13) (by omega)) (fun r h q => ?_)
        obtain ⟨rfl, rfl⟩ := q
        simp only [Option.toList, List.cons_append, List.nil_append]
        refine r_if_eq rfl (fun c_42 => ?_) (fun c_42 => ?_)
        · rw [if_pos c_42] at he
          replace hk := hk.1 c_42
          refine r_iconst_ (a := 0) rfl (by decide) ?_
          refine r_iret rfl rfl rfl ?_
          subst he
          exact ⟨rfl, rfl⟩
        · rw [if_neg c_42] at he
          replace hk := hk.2 c_42
          refine r_aload_n rfl rfl ?_
          refine r_bipush_ (a := 41) rfl (by decide) ?_
          obtain ⟨hb14, hk⟩ := hk
          refine q_callV0 [_] _ rfl kY_X3_take kT_X3_take rfl rfl (Nat.le_of_ble_eq_true rfl) (Nat.le_of_ble_eq_true rfl) (cc_3 _) (s_X3_take hb14) (fun r h q => ?_)
          obtain ⟨rfl, rfl⟩ := q
          simp only [Option.toList, List.cons_append, List.nil_append]
          refine r_if_eq rfl (fun c_51 => ?_) (fun c_51 => ?_)
          · rw [if_pos c_51] at he
            replace hk := hk.1 c_51
            refine r_iconst_ (a := 0) rfl (by decide) ?_
            refine r_iret rfl rfl rfl ?_
            subst he
            exact ⟨rfl, rfl⟩
          · rw [if_neg c_51] at he
            replace hk := hk.2 c_51
            refine r_iconst_ (a := 1) rfl (by decide) ?_
            refine r_goto rfl ?_
            refine r_iret rfl rfl rfl ?_
            subst he
            exact ⟨rfl, rfl⟩
    · rw [if_neg c_14] at he
      replace hk := hk.2 c_14
      refine r_aload_n rfl rfl ?_
      refine r_iconst_ (a := 2) rfl (by decide) ?_
      obtain ⟨hb15, hk⟩ := hk
      refine q_callV0 [_] _ rfl kY_X3_stop kT_X3_stop rfl rfl (Nat.le_of_ble_eq_true rfl) (Nat.le_of_ble_eq_true rfl) (cc_3 _) (s_X3_stop hb15) (fun r h q => ?_)
      obtain ⟨rfl, rfl⟩ := q
      simp only [Option.toList, List.cons_append, List.nil_append]
      refine r_goto rfl ?_
      obtain ⟨hb16, hk⟩ := hk
      refine r_iret rfl rfl (nar_b hb16) ?_
      subst he
      exact ⟨rfl, rfl⟩

def f_X3_product_10 (KS : Int32 → Nat → fl_I → fl_L → Int32 × fl_I × fl_L) : Nat → Int32 → Int32 → Int32 → Nat → fl_I → fl_L → Int32 × fl_I × fl_L
  | 0, x2, x3, x4, t, s, l => (0, s, l)
  | n + 1, x2, x3, x4, t, s, l =>
    if ((400 : Int32) < x4) then (x3, s, l) else if (x3 = 0) then (x3, s, l) else if ((f_X3_kindNow s l) = (42 : Int32)) then if ((f_X3_take (f_X3_kindNow s l) s l).1 = 0) then if ((f_X3_kindNow s l) = (42 : Int32)) then f_X3_product_10 KS n x2 (0 : Int32) (x4 + 1) t (f_X5_addCode (-3 : Int32) t (f_X3_take (f_X3_kindNow s l) s l).2.1 (f_X3_take (f_X3_kindNow s l) s l).2.2).1 (f_X5_addCode (-3 : Int32) t (f_X3_take (f_X3_kindNow s l) s l).2.1 (f_X3_take (f_X3_kindNow s l) s l).2.2).2 else f_X3_product_10 KS n x2 (0 : Int32) (x4 + 1) t (f_X5_addCode (-4 : Int32) t (f_X3_take (f_X3_kindNow s l) s l).2.1 (f_X3_take (f_X3_kindNow s l) s l).2.2).1 (f_X5_addCode (-4 : Int32) t (f_X3_take (f_X3_kindNow s l) s l).2.1 (f_X3_take (f_X3_kindNow s l) s l).2.2).2 else if ((f_X3_unit KS x2 t (f_X3_take (f_X3_kindNow s l) s l).2.1 (f_X3_take (f_X3_kindNow s l) s l).2.2).1 = 0) then if ((f_X3_kindNow s l) = (42 : Int32)) then f_X3_product_10 KS n x2 (0 : Int32) (x4 + 1) t (f_X5_addCode (-3 : Int32) t (f_X3_unit KS x2 t (f_X3_take (f_X3_kindNow s l) s l).2.1 (f_X3_take (f_X3_kindNow s l) s l).2.2).2.1 (f_X3_unit KS x2 t (f_X3_take (f_X3_kindNow s l) s l).2.1 (f_X3_take (f_X3_kindNow s l) s l).2.2).2.2).1 (f_X5_addCode (-3 : Int32) t (f_X3_unit KS x2 t (f_X3_take (f_X3_kindNow s l) s l).2.1 (f_X3_take (f_X3_kindNow s l) s l).2.2).2.1 (f_X3_unit KS x2 t (f_X3_take (f_X3_kindNow s l) s l).2.1 (f_X3_take (f_X3_kindNow s l) s l).2.2).2.2).2 else f_X3_product_10 KS n x2 (0 : Int32) (x4 + 1) t (f_X5_addCode (-4 : Int32) t (f_X3_unit KS x2 t (f_X3_take (f_X3_kindNow s l) s l).2.1 (f_X3_take (f_X3_kindNow s l) s l).2.2).2.1 (f_X3_unit KS x2 t (f_X3_take (f_X3_kindNow s l) s l).2.1 (f_X3_take (f_X3_kindNow s l) s l).2.2).2.2).1 (f_X5_addCode (-4 : Int32) t (f_X3_unit KS x2 t (f_X3_take (f_X3_kindNow s l) s l).2.1 (f_X3_take (f_X3_kindNow s l) s l).2.2).2.1 (f_X3_unit KS x2 t (f_X3_take (f_X3_kindNow s l) s l).2.1 (f_X3_take (f_X3_kindNow s l) s l).2.2).2.2).2 else if ((f_X3_kindNow s l) = (42 : Int32)) then f_X3_product_10 KS n x2 (1 : Int32) (x4 + 1) t (f_X5_addCode (-3 : Int32) t (f_X3_unit KS x2 t (f_X3_take (f_X3_kindNow s l) s l).2.1 (f_X3_take (f_X3_kindNow s l) s l).2.2).2.1 (f_X3_unit KS x2 t (f_X3_take (f_X3_kindNow s l) s l).2.1 (f_X3_take (f_X3_kindNow s l) s l).2.2).2.2).1 (f_X5_addCode (-3 : Int32) t (f_X3_unit KS x2 t (f_X3_take (f_X3_kindNow s l) s l).2.1 (f_X3_take (f_X3_kindNow s l) s l).2.2).2.1 (f_X3_unit KS x2 t (f_X3_take (f_X3_kindNow s l) s l).2.1 (f_X3_take (f_X3_kindNow s l) s l).2.2).2.2).2 else f_X3_product_10 KS n x2 (1 : Int32) (x4 + 1) t (f_X5_addCode (-4 : Int32) t (f_X3_unit KS x2 t (f_X3_take (f_X3_kindNow s l) s l).2.1 (f_X3_take (f_X3_kindNow s l) s l).2.2).2.1 (f_X3_unit KS x2 t (f_X3_take (f_X3_kindNow s l) s l).2.1 (f_X3_take (f_X3_kindNow s l) s l).2.2).2.2).1 (f_X5_addCode (-4 : Int32) t (f_X3_unit KS x2 t (f_X3_take (f_X3_kindNow s l) s l).2.1 (f_X3_take (f_X3_kindNow s l) s l).2.2).2.1 (f_X3_unit KS x2 t (f_X3_take (f_X3_kindNow s l) s l).2.1 (f_X3_take (f_X3_kindNow s l) s l).2.2).2.2).2 else if ((f_X3_kindNow s l) = (47 : Int32)) then if ((f_X3_take (f_X3_kindNow s l) s l).1 = 0) then if ((f_X3_kindNow s l) = (42 : Int32)) then f_X3_product_10 KS n x2 (0 : Int32) (x4 + 1) t (f_X5_addCode (-3 : Int32) t (f_X3_take (f_X3_kindNow s l) s l).2.1 (f_X3_take (f_X3_kindNow s l) s l).2.2).1 (f_X5_addCode (-3 : Int32) t (f_X3_take (f_X3_kindNow s l) s l).2.1 (f_X3_take (f_X3_kindNow s l) s l).2.2).2 else f_X3_product_10 KS n x2 (0 : Int32) (x4 + 1) t (f_X5_addCode (-4 : Int32) t (f_X3_take (f_X3_kindNow s l) s l).2.1 (f_X3_take (f_X3_kindNow s l) s l).2.2).1 (f_X5_addCode (-4 : Int32) t (f_X3_take (f_X3_kindNow s l) s l).2.1 (f_X3_take (f_X3_kindNow s l) s l).2.2).2 else if ((f_X3_unit KS x2 t (f_X3_take (f_X3_kindNow s l) s l).2.1 (f_X3_take (f_X3_kindNow s l) s l).2.2).1 = 0) then if ((f_X3_kindNow s l) = (42 : Int32)) then f_X3_product_10 KS n x2 (0 : Int32) (x4 + 1) t (f_X5_addCode (-3 : Int32) t (f_X3_unit KS x2 t (f_X3_take (f_X3_kindNow s l) s l).2.1 (f_X3_take (f_X3_kindNow s l) s l).2.2).2.1 (f_X3_unit KS x2 t (f_X3_take (f_X3_kindNow s l) s l).2.1 (f_X3_take (f_X3_kindNow s l) s l).2.2).2.2).1 (f_X5_addCode (-3 : Int32) t (f_X3_unit KS x2 t (f_X3_take (f_X3_kindNow s l) s l).2.1 (f_X3_take (f_X3_kindNow s l) s l).2.2).2.1 (f_X3_unit KS x2 t (f_X3_take (f_X3_kindNow s l) s l).2.1 (f_X3_take (f_X3_kindNow s l) s l).2.2).2.2).2 else f_X3_product_10 KS n x2 (0 : Int32) (x4 + 1) t (f_X5_addCode (-4 : Int32) t (f_X3_unit KS x2 t (f_X3_take (f_X3_kindNow s l) s l).2.1 (f_X3_take (f_X3_kindNow s l) s l).2.2).2.1 (f_X3_unit KS x2 t (f_X3_take (f_X3_kindNow s l) s l).2.1 (f_X3_take (f_X3_kindNow s l) s l).2.2).2.2).1 (f_X5_addCode (-4 : Int32) t (f_X3_unit KS x2 t (f_X3_take (f_X3_kindNow s l) s l).2.1 (f_X3_take (f_X3_kindNow s l) s l).2.2).2.1 (f_X3_unit KS x2 t (f_X3_take (f_X3_kindNow s l) s l).2.1 (f_X3_take (f_X3_kindNow s l) s l).2.2).2.2).2 else if ((f_X3_kindNow s l) = (42 : Int32)) then f_X3_product_10 KS n x2 (1 : Int32) (x4 + 1) t (f_X5_addCode (-3 : Int32) t (f_X3_unit KS x2 t (f_X3_take (f_X3_kindNow s l) s l).2.1 (f_X3_take (f_X3_kindNow s l) s l).2.2).2.1 (f_X3_unit KS x2 t (f_X3_take (f_X3_kindNow s l) s l).2.1 (f_X3_take (f_X3_kindNow s l) s l).2.2).2.2).1 (f_X5_addCode (-3 : Int32) t (f_X3_unit KS x2 t (f_X3_take (f_X3_kindNow s l) s l).2.1 (f_X3_take (f_X3_kindNow s l) s l).2.2).2.1 (f_X3_unit KS x2 t (f_X3_take (f_X3_kindNow s l) s l).2.1 (f_X3_take (f_X3_kindNow s l) s l).2.2).2.2).2 else f_X3_product_10 KS n x2 (1 : Int32) (x4 + 1) t (f_X5_addCode (-4 : Int32) t (f_X3_unit KS x2 t (f_X3_take (f_X3_kindNow s l) s l).2.1 (f_X3_take (f_X3_kindNow s l) s l).2.2).2.1 (f_X3_unit KS x2 t (f_X3_take (f_X3_kindNow s l) s l).2.1 (f_X3_take (f_X3_kindNow s l) s l).2.2).2.2).1 (f_X5_addCode (-4 : Int32) t (f_X3_unit KS x2 t (f_X3_take (f_X3_kindNow s l) s l).2.1 (f_X3_take (f_X3_kindNow s l) s l).2.2).2.1 (f_X3_unit KS x2 t (f_X3_take (f_X3_kindNow s l) s l).2.1 (f_X3_take (f_X3_kindNow s l) s l).2.2).2.2).2 else (x3, s, l)

def p_X3_product_10 (KS : Int32 → Nat → fl_I → fl_L → Int32 × fl_I × fl_L) (KP : Int32 → Nat → fl_I → fl_L → Prop) : Nat → Int32 → Int32 → Int32 → Nat → fl_I → fl_L → Prop
  | 0, _, _, _, _, _, _ => False
  | n + 1, x2, x3, x4, t, s, l =>
    ((((400 : Int32) < x4) → (x3 = 0 ∨ x3 = 1) ∧ True) ∧ (¬ ((400 : Int32) < x4) → (((x3 = 0) → (x3 = 0 ∨ x3 = 1) ∧ True) ∧ (¬ (x3 = 0) → (p_X3_kindNow s l) ∧ ((((f_X3_kindNow s l) = (42 : Int32)) → (p_X3_kindNow s l) ∧ (p_X3_take (f_X3_kindNow s l) s l) ∧ ((((f_X3_take (f_X3_kindNow s l) s l).1 = 0) → ((((f_X3_kindNow s l) = (42 : Int32)) → (p_X5_addCode (-3 : Int32) t (f_X3_take (f_X3_kindNow s l) s l).2.1 (f_X3_take (f_X3_kindNow s l) s l).2.2) ∧ p_X3_product_10 KS KP n x2 (0 : Int32) (x4 + 1) t (f_X5_addCode (-3 : Int32) t (f_X3_take (f_X3_kindNow s l) s l).2.1 (f_X3_take (f_X3_kindNow s l) s l).2.2).1 (f_X5_addCode (-3 : Int32) t (f_X3_take (f_X3_kindNow s l) s l).2.1 (f_X3_take (f_X3_kindNow s l) s l).2.2).2) ∧ (¬ ((f_X3_kindNow s l) = (42 : Int32)) → (p_X5_addCode (-4 : Int32) t (f_X3_take (f_X3_kindNow s l) s l).2.1 (f_X3_take (f_X3_kindNow s l) s l).2.2) ∧ p_X3_product_10 KS KP n x2 (0 : Int32) (x4 + 1) t (f_X5_addCode (-4 : Int32) t (f_X3_take (f_X3_kindNow s l) s l).2.1 (f_X3_take (f_X3_kindNow s l) s l).2.2).1 (f_X5_addCode (-4 : Int32) t (f_X3_take (f_X3_kindNow s l) s l).2.1 (f_X3_take (f_X3_kindNow s l) s l).2.2).2))) ∧ (¬ ((f_X3_take (f_X3_kindNow s l) s l).1 = 0) → (p_X3_unit KS KP x2 t (f_X3_take (f_X3_kindNow s l) s l).2.1 (f_X3_take (f_X3_kindNow s l) s l).2.2) ∧ ((((f_X3_unit KS x2 t (f_X3_take (f_X3_kindNow s l) s l).2.1 (f_X3_take (f_X3_kindNow s l) s l).2.2).1 = 0) → ((((f_X3_kindNow s l) = (42 : Int32)) → (p_X5_addCode (-3 : Int32) t (f_X3_unit KS x2 t (f_X3_take (f_X3_kindNow s l) s l).2.1 (f_X3_take (f_X3_kindNow s l) s l).2.2).2.1 (f_X3_unit KS x2 t (f_X3_take (f_X3_kindNow s l) s l).2.1 (f_X3_take (f_X3_kindNow s l) s l).2.2).2.2) ∧ p_X3_product_10 KS KP n x2 (0 : Int32) (x4 + 1) t (f_X5_addCode (-3 : Int32) t (f_X3_unit KS x2 t (f_X3_take (f_X3_kindNow s l) s l).2.1 (f_X3_take (f_X3_kindNow s l) s l).2.2).2.1 (f_X3_unit KS x2 t (f_X3_take (f_X3_kindNow s l) s l).2.1 (f_X3_take (f_X3_kindNow s l) s l).2.2).2.2).1 (f_X5_addCode (-3 : Int32) t (f_X3_unit KS x2 t (f_X3_take (f_X3_kindNow s l) s l).2.1 (f_X3_take (f_X3_kindNow s l) s l).2.2).2.1 (f_X3_unit KS x2 t (f_X3_take (f_X3_kindNow s l) s l).2.1 (f_X3_take (f_X3_kindNow s l) s l).2.2).2.2).2) ∧ (¬ ((f_X3_kindNow s l) = (42 : Int32)) → (p_X5_addCode (-4 : Int32) t (f_X3_unit KS x2 t (f_X3_take (f_X3_kindNow s l) s l).2.1 (f_X3_take (f_X3_kindNow s l) s l).2.2).2.1 (f_X3_unit KS x2 t (f_X3_take (f_X3_kindNow s l) s l).2.1 (f_X3_take (f_X3_kindNow s l) s l).2.2).2.2) ∧ p_X3_product_10 KS KP n x2 (0 : Int32) (x4 + 1) t (f_X5_addCode (-4 : Int32) t (f_X3_unit KS x2 t (f_X3_take (f_X3_kindNow s l) s l).2.1 (f_X3_take (f_X3_kindNow s l) s l).2.2).2.1 (f_X3_unit KS x2 t (f_X3_take (f_X3_kindNow s l) s l).2.1 (f_X3_take (f_X3_kindNow s l) s l).2.2).2.2).1 (f_X5_addCode (-4 : Int32) t (f_X3_unit KS x2 t (f_X3_take (f_X3_kindNow s l) s l).2.1 (f_X3_take (f_X3_kindNow s l) s l).2.2).2.1 (f_X3_unit KS x2 t (f_X3_take (f_X3_kindNow s l) s l).2.1 (f_X3_take (f_X3_kindNow s l) s l).2.2).2.2).2))) ∧ (¬ ((f_X3_unit KS x2 t (f_X3_take (f_X3_kindNow s l) s l).2.1 (f_X3_take (f_X3_kindNow s l) s l).2.2).1 = 0) → ((((f_X3_kindNow s l) = (42 : Int32)) → (p_X5_addCode (-3 : Int32) t (f_X3_unit KS x2 t (f_X3_take (f_X3_kindNow s l) s l).2.1 (f_X3_take (f_X3_kindNow s l) s l).2.2).2.1 (f_X3_unit KS x2 t (f_X3_take (f_X3_kindNow s l) s l).2.1 (f_X3_take (f_X3_kindNow s l) s l).2.2).2.2) ∧ p_X3_product_10 KS KP n x2 (1 : Int32) (x4 + 1) t (f_X5_addCode (-3 : Int32) t (f_X3_unit KS x2 t (f_X3_take (f_X3_kindNow s l) s l).2.1 (f_X3_take (f_X3_kindNow s l) s l).2.2).2.1 (f_X3_unit KS x2 t (f_X3_take (f_X3_kindNow s l) s l).2.1 (f_X3_take (f_X3_kindNow s l) s l).2.2).2.2).1 (f_X5_addCode (-3 : Int32) t (f_X3_unit KS x2 t (f_X3_take (f_X3_kindNow s l) s l).2.1 (f_X3_take (f_X3_kindNow s l) s l).2.2).2.1 (f_X3_unit KS x2 t (f_X3_take (f_X3_kindNow s l) s l).2.1 (f_X3_take (f_X3_kindNow s l) s l).2.2).2.2).2) ∧ (¬ ((f_X3_kindNow s l) = (42 : Int32)) → (p_X5_addCode (-4 : Int32) t (f_X3_unit KS x2 t (f_X3_take (f_X3_kindNow s l) s l).2.1 (f_X3_take (f_X3_kindNow s l) s l).2.2).2.1 (f_X3_unit KS x2 t (f_X3_take (f_X3_kindNow s l) s l).2.1 (f_X3_take (f_X3_kindNow s l) s l).2.2).2.2) ∧ p_X3_product_10 KS KP n x2 (1 : Int32) (x4 + 1) t (f_X5_addCode (-4 : Int32) t (f_X3_unit KS x2 t (f_X3_take (f_X3_kindNow s l) s l).2.1 (f_X3_take (f_X3_kindNow s l) s l).2.2).2.1 (f_X3_unit KS x2 t (f_X3_take (f_X3_kindNow s l) s l).2.1 (f_X3_take (f_X3_kindNow s l) s l).2.2).2.2).1 (f_X5_addCode (-4 : Int32) t (f_X3_unit KS x2 t (f_X3_take (f_X3_kindNow s l) s l).2.1 (f_X3_take (f_X3_kindNow s l) s l).2.2).2.1 (f_X3_unit KS x2 t (f_X3_take (f_X3_kindNow s l) s l).2.1 (f_X3_take (f_X3_kindNow s l) s l).2.2).2.2).2))))))) ∧ (¬ ((f_X3_kindNow s l) = (42 : Int32)) → (p_X3_kindNow s l) ∧ ((((f_X3_kindNow s l) = (47 : Int32)) → (p_X3_kindNow s l) ∧ (p_X3_take (f_X3_kindNow s l) s l) ∧ ((((f_X3_take (f_X3_kindNow s l) s l).1 = 0) → ((((f_X3_kindNow s l) = (42 : Int32)) → (p_X5_addCode (-3 : Int32) t (f_X3_take (f_X3_kindNow s l) s l).2.1 (f_X3_take (f_X3_kindNow s l) s l).2.2) ∧ p_X3_product_10 KS KP n x2 (0 : Int32) (x4 + 1) t (f_X5_addCode (-3 : Int32) t (f_X3_take (f_X3_kindNow s l) s l).2.1 (f_X3_take (f_X3_kindNow s l) s l).2.2).1 (f_X5_addCode (-3 : Int32) t (f_X3_take (f_X3_kindNow s l) s l).2.1 (f_X3_take (f_X3_kindNow s l) s l).2.2).2) ∧ (¬ ((f_X3_kindNow s l) = (42 : Int32)) → (p_X5_addCode (-4 : Int32) t (f_X3_take (f_X3_kindNow s l) s l).2.1 (f_X3_take (f_X3_kindNow s l) s l).2.2) ∧ p_X3_product_10 KS KP n x2 (0 : Int32) (x4 + 1) t (f_X5_addCode (-4 : Int32) t (f_X3_take (f_X3_kindNow s l) s l).2.1 (f_X3_take (f_X3_kindNow s l) s l).2.2).1 (f_X5_addCode (-4 : Int32) t (f_X3_take (f_X3_kindNow s l) s l).2.1 (f_X3_take (f_X3_kindNow s l) s l).2.2).2))) ∧ (¬ ((f_X3_take (f_X3_kindNow s l) s l).1 = 0) → (p_X3_unit KS KP x2 t (f_X3_take (f_X3_kindNow s l) s l).2.1 (f_X3_take (f_X3_kindNow s l) s l).2.2) ∧ ((((f_X3_unit KS x2 t (f_X3_take (f_X3_kindNow s l) s l).2.1 (f_X3_take (f_X3_kindNow s l) s l).2.2).1 = 0) → ((((f_X3_kindNow s l) = (42 : Int32)) → (p_X5_addCode (-3 : Int32) t (f_X3_unit KS x2 t (f_X3_take (f_X3_kindNow s l) s l).2.1 (f_X3_take (f_X3_kindNow s l) s l).2.2).2.1 (f_X3_unit KS x2 t (f_X3_take (f_X3_kindNow s l) s l).2.1 (f_X3_take (f_X3_kindNow s l) s l).2.2).2.2) ∧ p_X3_product_10 KS KP n x2 (0 : Int32) (x4 + 1) t (f_X5_addCode (-3 : Int32) t (f_X3_unit KS x2 t (f_X3_take (f_X3_kindNow s l) s l).2.1 (f_X3_take (f_X3_kindNow s l) s l).2.2).2.1 (f_X3_unit KS x2 t (f_X3_take (f_X3_kindNow s l) s l).2.1 (f_X3_take (f_X3_kindNow s l) s l).2.2).2.2).1 (f_X5_addCode (-3 : Int32) t (f_X3_unit KS x2 t (f_X3_take (f_X3_kindNow s l) s l).2.1 (f_X3_take (f_X3_kindNow s l) s l).2.2).2.1 (f_X3_unit KS x2 t (f_X3_take (f_X3_kindNow s l) s l).2.1 (f_X3_take (f_X3_kindNow s l) s l).2.2).2.2).2) ∧ (¬ ((f_X3_kindNow s l) = (42 : Int32)) → (p_X5_addCode (-4 : Int32) t (f_X3_unit KS x2 t (f_X3_take (f_X3_kindNow s l) s l).2.1 (f_X3_take (f_X3_kindNow s l) s l).2.2).2.1 (f_X3_unit KS x2 t (f_X3_take (f_X3_kindNow s l) s l).2.1 (f_X3_take (f_X3_kindNow s l) s l).2.2).2.2) ∧ p_X3_product_10 KS KP n x2 (0 : Int32) (x4 + 1) t (f_X5_addCode (-4 : Int32) t (f_X3_unit KS x2 t (f_X3_take (f_X3_kindNow s l) s l).2.1 (f_X3_take (f_X3_kindNow s l) s l).2.2).2.1 (f_X3_unit KS x2 t (f_X3_take (f_X3_kindNow s l) s l).2.1 (f_X3_take (f_X3_kindNow s l) s l).2.2).2.2).1 (f_X5_addCode (-4 : Int32) t (f_X3_unit KS x2 t (f_X3_take (f_X3_kindNow s l) s l).2.1 (f_X3_take (f_X3_kindNow s l) s l).2.2).2.1 (f_X3_unit KS x2 t (f_X3_take (f_X3_kindNow s l) s l).2.1 (f_X3_take (f_X3_kindNow s l) s l).2.2).2.2).2))) ∧ (¬ ((f_X3_unit KS x2 t (f_X3_take (f_X3_kindNow s l) s l).2.1 (f_X3_take (f_X3_kindNow s l) s l).2.2).1 = 0) → ((((f_X3_kindNow s l) = (42 : Int32)) → (p_X5_addCode (-3 : Int32) t (f_X3_unit KS x2 t (f_X3_take (f_X3_kindNow s l) s l).2.1 (f_X3_take (f_X3_kindNow s l) s l).2.2).2.1 (f_X3_unit KS x2 t (f_X3_take (f_X3_kindNow s l) s l).2.1 (f_X3_take (f_X3_kindNow s l) s l).2.2).2.2) ∧ p_X3_product_10 KS KP n x2 (1 : Int32) (x4 + 1) t (f_X5_addCode (-3 : Int32) t (f_X3_unit KS x2 t (f_X3_take (f_X3_kindNow s l) s l).2.1 (f_X3_take (f_X3_kindNow s l) s l).2.2).2.1 (f_X3_unit KS x2 t (f_X3_take (f_X3_kindNow s l) s l).2.1 (f_X3_take (f_X3_kindNow s l) s l).2.2).2.2).1 (f_X5_addCode (-3 : Int32) t (f_X3_unit KS x2 t (f_X3_take (f_X3_kindNow s l) s l).2.1 (f_X3_take (f_X3_kindNow s l) s l).2.2).2.1 (f_X3_unit KS x2 t (f_X3_take (f_X3_kindNow s l) s l).2.1 (f_X3_take (f_X3_kindNow s l) s l).2.2).2.2).2) ∧ (¬ ((f_X3_kindNow s l) = (42 : Int32)) → (p_X5_addCode (-4 : Int32) t (f_X3_unit KS x2 t (f_X3_take (f_X3_kindNow s l) s l).2.1 (f_X3_take (f_X3_kindNow s l) s l).2.2).2.1 (f_X3_unit KS x2 t (f_X3_take (f_X3_kindNow s l) s l).2.1 (f_X3_take (f_X3_kindNow s l) s l).2.2).2.2) ∧ p_X3_product_10 KS KP n x2 (1 : Int32) (x4 + 1) t (f_X5_addCode (-4 : Int32) t (f_X3_unit KS x2 t (f_X3_take (f_X3_kindNow s l) s l).2.1 (f_X3_take (f_X3_kindNow s l) s l).2.2).2.1 (f_X3_unit KS x2 t (f_X3_take (f_X3_kindNow s l) s l).2.1 (f_X3_take (f_X3_kindNow s l) s l).2.2).2.2).1 (f_X5_addCode (-4 : Int32) t (f_X3_unit KS x2 t (f_X3_take (f_X3_kindNow s l) s l).2.1 (f_X3_take (f_X3_kindNow s l) s l).2.2).2.1 (f_X3_unit KS x2 t (f_X3_take (f_X3_kindNow s l) s l).2.1 (f_X3_take (f_X3_kindNow s l) s l).2.2).2.2).2))))))) ∧ (¬ ((f_X3_kindNow s l) = (47 : Int32)) → (x3 = 0 ∨ x3 = 1) ∧ True))))))))

set_option maxRecDepth 100000 in
set_option maxHeartbeats 4000000 in
theorem lp_X3_product_10 {G : ab_G} {d : Nat} {D : fl_D} (KS : Int32 → Nat → fl_I → fl_L → Int32 × fl_I × fl_L) (KP : Int32 → Nat → fl_I → fl_L → Prop) (hKS : ∀ {t : Nat} (_ : isT t) {v : Int32} {s : fl_I} {l : fl_L}, KP v t s l → ab_C G d 0 0 M_X3_sum 0 (ab_ent [.ref 3, .ref t, .int v]) [] (hp D s l) (rt (some (.int (KS v t s l).1)) (hp D (KS v t s l).2.1 (KS v t s l).2.2))) {t : Nat} (htt : isT t) : ∀ (n : Nat) (x2 : Int32) (x3 : Int32) (x4 : Int32) (s : fl_I) (l : fl_L), p_X3_product_10 KS KP n x2 x3 x4 t s l → ab_C G (d + 3) 0 0 M_X3_product 10 [some (.ref 3), some (.ref t), some (.int x2), some (.int x3), some (.int x4), none] [] (hp D s l) (rt (some (.int (f_X3_product_10 KS n x2 x3 x4 t s l).1)) (hp D (f_X3_product_10 KS n x2 x3 x4 t s l).2.1 (f_X3_product_10 KS n x2 x3 x4 t s l).2.2)) := by
  intro n
  induction n with
  | zero => intro x2 x3 x4 s l hk; exact hk.elim
  | succ n ih =>
    intro x2 x3 x4 s l hk
    generalize he : f_X3_product_10 KS (n + 1) x2 x3 x4 t s l = res
    unfold f_X3_product_10 at he
    unfold p_X3_product_10 at hk
    refine r_iload rfl rfl ?_
    refine r_sipush_ (a := 400) rfl (by decide) ?_
    refine r_icmp_gt rfl (fun c_15 => ?_) (fun c_15 => ?_)
    · rw [if_pos c_15] at he
      replace hk := hk.1 c_15
      refine r_iload_n rfl rfl ?_
      obtain ⟨hb1, hk⟩ := hk
      refine r_iret rfl rfl (nar_b hb1) ?_
      subst he
      exact ⟨rfl, rfl⟩
    · rw [if_neg c_15] at he
      replace hk := hk.2 c_15
      refine r_iload_n rfl rfl ?_
      refine r_if_eq rfl (fun c_19 => ?_) (fun c_19 => ?_)
      · rw [if_pos c_19] at he
        replace hk := hk.1 c_19
        refine r_iload_n rfl rfl ?_
        obtain ⟨hb2, hk⟩ := hk
        refine r_iret rfl rfl (nar_b hb2) ?_
        subst he
        exact ⟨rfl, rfl⟩
      · rw [if_neg c_19] at he
        replace hk := hk.2 c_19
        refine r_aload_n rfl rfl ?_
        obtain ⟨hb3, hk⟩ := hk
        refine q_callV0 [] _ rfl kY_X3_kindNow kT_X3_kindNow rfl rfl (Nat.le_of_ble_eq_true rfl) (Nat.le_of_ble_eq_true rfl) (cc_3 _) (s_X3_kindNow hb3) (fun r h q => ?_)
        obtain ⟨rfl, rfl⟩ := q
        simp only [Option.toList, List.cons_append, List.nil_append]
        refine r_bipush_ (a := 42) rfl (by decide) ?_
        refine r_icmp_eq rfl (fun c_28 => ?_) (fun c_28 => ?_)
        · rw [if_pos c_28] at he
          replace hk := hk.1 c_28
          refine r_aload_n rfl rfl ?_
          obtain ⟨hb4, hk⟩ := hk
          refine q_callV0 [] _ rfl kY_X3_kindNow kT_X3_kindNow rfl rfl (Nat.le_of_ble_eq_true rfl) (Nat.le_of_ble_eq_true rfl) (cc_3 _) (s_X3_kindNow hb4) (fun r h q => ?_)
          obtain ⟨rfl, rfl⟩ := q
          simp only [Option.toList, List.cons_append, List.nil_append]
          refine r_istore rfl (Nat.le_of_ble_eq_true rfl) rfl ?_
          refine r_aload_n rfl rfl ?_
          refine r_iload rfl rfl ?_
          obtain ⟨hb5, hk⟩ := hk
          refine q_callV0 [_] _ rfl kY_X3_take kT_X3_take rfl rfl (Nat.le_of_ble_eq_true rfl) (Nat.le_of_ble_eq_true rfl) (cc_3 _) (s_X3_take hb5) (fun r h q => ?_)
          obtain ⟨rfl, rfl⟩ := q
          simp only [Option.toList, List.cons_append, List.nil_append]
          refine r_if_eq rfl (fun c_52 => ?_) (fun c_52 => ?_)
          · rw [if_pos c_52] at he
            replace hk := hk.1 c_52
            refine r_iconst_ (a := 0) rfl (by decide) ?_
            refine r_istore_n rfl (Nat.le_of_ble_eq_true rfl) rfl ?_
            refine r_aload_n rfl rfl ?_
            refine r_iload rfl rfl ?_
            refine r_bipush_ (a := 42) rfl (by decide) ?_
            refine r_icmp_ne rfl (fun c_75 => ?_) (fun c_75 => ?_)
            · rw [if_neg c_75] at he
              replace hk := hk.2 c_75
              refine r_bipush_ (a := -4) rfl (by decide) ?_
              obtain ⟨hb6, hk⟩ := hk
              refine q_callV0 [_] _ rfl kY_X5_addCode kT_X5_addCode rfl rfl (Nat.le_of_ble_eq_true rfl) (Nat.le_of_ble_eq_true rfl) (cT_0 htt) (s_X5_addCode htt hb6) (fun r h q => ?_)
              obtain ⟨rfl, rfl⟩ := q
              simp only [Option.toList, List.cons_append, List.nil_append]
              refine r_iinc (b := x4 + 1) rfl rfl rfl (Nat.le_of_ble_eq_true rfl) rfl ?_
              refine r_goto rfl ?_
              subst he
              exact r_weak (L1 := [some (.ref 3), some (.ref t), some (.int x2), some (.int (0 : Int32)), some (.int (x4 + 1)), none]) ⟨rfl, rfl, rfl, rfl, rfl, trivial⟩ (ih _ _ _ _ _ hk)
            · rw [if_pos c_75] at he
              replace hk := hk.1 c_75
              refine r_bipush_ (a := -3) rfl (by decide) ?_
              refine r_goto rfl ?_
              obtain ⟨hb7, hk⟩ := hk
              refine q_callV0 [_] _ rfl kY_X5_addCode kT_X5_addCode rfl rfl (Nat.le_of_ble_eq_true rfl) (Nat.le_of_ble_eq_true rfl) (cT_0 htt) (s_X5_addCode htt hb7) (fun r h q => ?_)
              obtain ⟨rfl, rfl⟩ := q
              simp only [Option.toList, List.cons_append, List.nil_append]
              refine r_iinc (b := x4 + 1) rfl rfl rfl (Nat.le_of_ble_eq_true rfl) rfl ?_
              refine r_goto rfl ?_
              subst he
              exact r_weak (L1 := [some (.ref 3), some (.ref t), some (.int x2), some (.int (0 : Int32)), some (.int (x4 + 1)), none]) ⟨rfl, rfl, rfl, rfl, rfl, trivial⟩ (ih _ _ _ _ _ hk)
          · rw [if_neg c_52] at he
            replace hk := hk.2 c_52
            refine r_aload_n rfl rfl ?_
            refine r_aload_n rfl rfl ?_
            refine r_iload_n rfl rfl ?_
            obtain ⟨hb8, hk⟩ := hk
            refine q_callV0 [_, _] _ rfl kY_X3_unit kT_X3_unit rfl rfl (Nat.le_of_ble_eq_true rfl) (Nat.le_of_ble_eq_true rfl) (cc_3 _) (s_X3_unit KS KP hKS htt hb8) (fun r h q => ?_)
            obtain ⟨rfl, rfl⟩ := q
            simp only [Option.toList, List.cons_append, List.nil_append]
            refine r_if_eq rfl (fun c_61 => ?_) (fun c_61 => ?_)
            · rw [if_pos c_61] at he
              replace hk := hk.1 c_61
              refine r_iconst_ (a := 0) rfl (by decide) ?_
              refine r_istore_n rfl (Nat.le_of_ble_eq_true rfl) rfl ?_
              refine r_aload_n rfl rfl ?_
              refine r_iload rfl rfl ?_
              refine r_bipush_ (a := 42) rfl (by decide) ?_
              refine r_icmp_ne rfl (fun c_75 => ?_) (fun c_75 => ?_)
              · rw [if_neg c_75] at he
                replace hk := hk.2 c_75
                refine r_bipush_ (a := -4) rfl (by decide) ?_
                obtain ⟨hb9, hk⟩ := hk
                refine q_callV0 [_] _ rfl kY_X5_addCode kT_X5_addCode rfl rfl (Nat.le_of_ble_eq_true rfl) (Nat.le_of_ble_eq_true rfl) (cT_0 htt) (s_X5_addCode htt hb9) (fun r h q => ?_)
                obtain ⟨rfl, rfl⟩ := q
                simp only [Option.toList, List.cons_append, List.nil_append]
                refine r_iinc (b := x4 + 1) rfl rfl rfl (Nat.le_of_ble_eq_true rfl) rfl ?_
                refine r_goto rfl ?_
                subst he
                exact r_weak (L1 := [some (.ref 3), some (.ref t), some (.int x2), some (.int (0 : Int32)), some (.int (x4 + 1)), none]) ⟨rfl, rfl, rfl, rfl, rfl, trivial⟩ (ih _ _ _ _ _ hk)
              · rw [if_pos c_75] at he
                replace hk := hk.1 c_75
                refine r_bipush_ (a := -3) rfl (by decide) ?_
                refine r_goto rfl ?_
                obtain ⟨hb10, hk⟩ := hk
                refine q_callV0 [_] _ rfl kY_X5_addCode kT_X5_addCode rfl rfl (Nat.le_of_ble_eq_true rfl) (Nat.le_of_ble_eq_true rfl) (cT_0 htt) (s_X5_addCode htt hb10) (fun r h q => ?_)
                obtain ⟨rfl, rfl⟩ := q
                simp only [Option.toList, List.cons_append, List.nil_append]
                refine r_iinc (b := x4 + 1) rfl rfl rfl (Nat.le_of_ble_eq_true rfl) rfl ?_
                refine r_goto rfl ?_
                subst he
                exact r_weak (L1 := [some (.ref 3), some (.ref t), some (.int x2), some (.int (0 : Int32)), some (.int (x4 + 1)), none]) ⟨rfl, rfl, rfl, rfl, rfl, trivial⟩ (ih _ _ _ _ _ hk)
            · rw [if_neg c_61] at he
              replace hk := hk.2 c_61
              refine r_iconst_ (a := 1) rfl (by decide) ?_
              refine r_goto rfl ?_
              refine r_istore_n rfl (Nat.le_of_ble_eq_true rfl) rfl ?_
              refine r_aload_n rfl rfl ?_
              refine r_iload rfl rfl ?_
              refine r_bipush_ (a := 42) rfl (by decide) ?_
              refine r_icmp_ne rfl (fun c_75 => ?_) (fun c_75 => ?_)
              · rw [if_neg c_75] at he
                replace hk := hk.2 c_75
                refine r_bipush_ (a := -4) rfl (by decide) ?_
                obtain ⟨hb11, hk⟩ := hk
                refine q_callV0 [_] _ rfl kY_X5_addCode kT_X5_addCode rfl rfl (Nat.le_of_ble_eq_true rfl) (Nat.le_of_ble_eq_true rfl) (cT_0 htt) (s_X5_addCode htt hb11) (fun r h q => ?_)
                obtain ⟨rfl, rfl⟩ := q
                simp only [Option.toList, List.cons_append, List.nil_append]
                refine r_iinc (b := x4 + 1) rfl rfl rfl (Nat.le_of_ble_eq_true rfl) rfl ?_
                refine r_goto rfl ?_
                subst he
                exact r_weak (L1 := [some (.ref 3), some (.ref t), some (.int x2), some (.int (1 : Int32)), some (.int (x4 + 1)), none]) ⟨rfl, rfl, rfl, rfl, rfl, trivial⟩ (ih _ _ _ _ _ hk)
              · rw [if_pos c_75] at he
                replace hk := hk.1 c_75
                refine r_bipush_ (a := -3) rfl (by decide) ?_
                refine r_goto rfl ?_
                obtain ⟨hb12, hk⟩ := hk
                refine q_callV0 [_] _ rfl kY_X5_addCode kT_X5_addCode rfl rfl (Nat.le_of_ble_eq_true rfl) (Nat.le_of_ble_eq_true rfl) (cT_0 htt) (s_X5_addCode htt hb12) (fun r h q => ?_)
                obtain ⟨rfl, rfl⟩ := q
                simp only [Option.toList, List.cons_append, List.nil_append]
                refine r_iinc (b := x4 + 1) rfl rfl rfl (Nat.le_of_ble_eq_true rfl) rfl ?_
                refine r_goto rfl ?_
                subst he
                exact r_weak (L1 := [some (.ref 3), some (.ref t), some (.int x2), some (.int (1 : Int32)), some (.int (x4 + 1)), none]) ⟨rfl, rfl, rfl, rfl, rfl, trivial⟩ (ih _ _ _ _ _ hk)
        · rw [if_neg c_28] at he
          replace hk := hk.2 c_28
          refine r_aload_n rfl rfl ?_
          obtain ⟨hb13, hk⟩ := hk
          refine q_callV0 [] _ rfl kY_X3_kindNow kT_X3_kindNow rfl rfl (Nat.le_of_ble_eq_true rfl) (Nat.le_of_ble_eq_true rfl) (cc_3 _) (s_X3_kindNow hb13) (fun r h q => ?_)
          obtain ⟨rfl, rfl⟩ := q
          simp only [Option.toList, List.cons_append, List.nil_append]
          refine r_bipush_ (a := 47) rfl (by decide) ?_
          refine r_icmp_ne rfl (fun c_37 => ?_) (fun c_37 => ?_)
          · rw [if_neg c_37] at he
            replace hk := hk.2 c_37
            refine r_iload_n rfl rfl ?_
            obtain ⟨hb14, hk⟩ := hk
            refine r_iret rfl rfl (nar_b hb14) ?_
            subst he
            exact ⟨rfl, rfl⟩
          · rw [if_pos c_37] at he
            replace hk := hk.1 c_37
            refine r_aload_n rfl rfl ?_
            obtain ⟨hb15, hk⟩ := hk
            refine q_callV0 [] _ rfl kY_X3_kindNow kT_X3_kindNow rfl rfl (Nat.le_of_ble_eq_true rfl) (Nat.le_of_ble_eq_true rfl) (cc_3 _) (s_X3_kindNow hb15) (fun r h q => ?_)
            obtain ⟨rfl, rfl⟩ := q
            simp only [Option.toList, List.cons_append, List.nil_append]
            refine r_istore rfl (Nat.le_of_ble_eq_true rfl) rfl ?_
            refine r_aload_n rfl rfl ?_
            refine r_iload rfl rfl ?_
            obtain ⟨hb16, hk⟩ := hk
            refine q_callV0 [_] _ rfl kY_X3_take kT_X3_take rfl rfl (Nat.le_of_ble_eq_true rfl) (Nat.le_of_ble_eq_true rfl) (cc_3 _) (s_X3_take hb16) (fun r h q => ?_)
            obtain ⟨rfl, rfl⟩ := q
            simp only [Option.toList, List.cons_append, List.nil_append]
            refine r_if_eq rfl (fun c_52 => ?_) (fun c_52 => ?_)
            · rw [if_pos c_52] at he
              replace hk := hk.1 c_52
              refine r_iconst_ (a := 0) rfl (by decide) ?_
              refine r_istore_n rfl (Nat.le_of_ble_eq_true rfl) rfl ?_
              refine r_aload_n rfl rfl ?_
              refine r_iload rfl rfl ?_
              refine r_bipush_ (a := 42) rfl (by decide) ?_
              refine r_icmp_ne rfl (fun c_75 => ?_) (fun c_75 => ?_)
              · rw [if_neg c_75] at he
                replace hk := hk.2 c_75
                refine r_bipush_ (a := -4) rfl (by decide) ?_
                obtain ⟨hb17, hk⟩ := hk
                refine q_callV0 [_] _ rfl kY_X5_addCode kT_X5_addCode rfl rfl (Nat.le_of_ble_eq_true rfl) (Nat.le_of_ble_eq_true rfl) (cT_0 htt) (s_X5_addCode htt hb17) (fun r h q => ?_)
                obtain ⟨rfl, rfl⟩ := q
                simp only [Option.toList, List.cons_append, List.nil_append]
                refine r_iinc (b := x4 + 1) rfl rfl rfl (Nat.le_of_ble_eq_true rfl) rfl ?_
                refine r_goto rfl ?_
                subst he
                exact r_weak (L1 := [some (.ref 3), some (.ref t), some (.int x2), some (.int (0 : Int32)), some (.int (x4 + 1)), none]) ⟨rfl, rfl, rfl, rfl, rfl, trivial⟩ (ih _ _ _ _ _ hk)
              · rw [if_pos c_75] at he
                replace hk := hk.1 c_75
                refine r_bipush_ (a := -3) rfl (by decide) ?_
                refine r_goto rfl ?_
                obtain ⟨hb18, hk⟩ := hk
                refine q_callV0 [_] _ rfl kY_X5_addCode kT_X5_addCode rfl rfl (Nat.le_of_ble_eq_true rfl) (Nat.le_of_ble_eq_true rfl) (cT_0 htt) (s_X5_addCode htt hb18) (fun r h q => ?_)
                obtain ⟨rfl, rfl⟩ := q
                simp only [Option.toList, List.cons_append, List.nil_append]
                refine r_iinc (b := x4 + 1) rfl rfl rfl (Nat.le_of_ble_eq_true rfl) rfl ?_
                refine r_goto rfl ?_
                subst he
                exact r_weak (L1 := [some (.ref 3), some (.ref t), some (.int x2), some (.int (0 : Int32)), some (.int (x4 + 1)), none]) ⟨rfl, rfl, rfl, rfl, rfl, trivial⟩ (ih _ _ _ _ _ hk)
            · rw [if_neg c_52] at he
              replace hk := hk.2 c_52
              refine r_aload_n rfl rfl ?_
              refine r_aload_n rfl rfl ?_
              refine r_iload_n rfl rfl ?_
              obtain ⟨hb19, hk⟩ := hk
              refine q_callV0 [_, _] _ rfl kY_X3_unit kT_X3_unit rfl rfl (Nat.le_of_ble_eq_true rfl) (Nat.le_of_ble_eq_true rfl) (cc_3 _) (s_X3_unit KS KP hKS htt hb19) (fun r h q => ?_)
              obtain ⟨rfl, rfl⟩ := q
              simp only [Option.toList, List.cons_append, List.nil_append]
              refine r_if_eq rfl (fun c_61 => ?_) (fun c_61 => ?_)
              · rw [if_pos c_61] at he
                replace hk := hk.1 c_61
                refine r_iconst_ (a := 0) rfl (by decide) ?_
                refine r_istore_n rfl (Nat.le_of_ble_eq_true rfl) rfl ?_
                refine r_aload_n rfl rfl ?_
                refine r_iload rfl rfl ?_
                refine r_bipush_ (a := 42) rfl (by decide) ?_
                refine r_icmp_ne rfl (fun c_75 => ?_) (fun c_75 => ?_)
                · rw [if_neg c_75] at he
                  replace hk := hk.2 c_75
                  refine r_bipush_ (a := -4) rfl (by decide) ?_
                  obtain ⟨hb20, hk⟩ := hk
                  refine q_callV0 [_] _ rfl kY_X5_addCode kT_X5_addCode rfl rfl (Nat.le_of_ble_eq_true rfl) (Nat.le_of_ble_eq_true rfl) (cT_0 htt) (s_X5_addCode htt hb20) (fun r h q => ?_)
                  obtain ⟨rfl, rfl⟩ := q
                  simp only [Option.toList, List.cons_append, List.nil_append]
                  refine r_iinc (b := x4 + 1) rfl rfl rfl (Nat.le_of_ble_eq_true rfl) rfl ?_
                  refine r_goto rfl ?_
                  subst he
                  exact r_weak (L1 := [some (.ref 3), some (.ref t), some (.int x2), some (.int (0 : Int32)), some (.int (x4 + 1)), none]) ⟨rfl, rfl, rfl, rfl, rfl, trivial⟩ (ih _ _ _ _ _ hk)
                · rw [if_pos c_75] at he
                  replace hk := hk.1 c_75
                  refine r_bipush_ (a := -3) rfl (by decide) ?_
                  refine r_goto rfl ?_
                  obtain ⟨hb21, hk⟩ := hk
                  refine q_callV0 [_] _ rfl kY_X5_addCode kT_X5_addCode rfl rfl (Nat.le_of_ble_eq_true rfl) (Nat.le_of_ble_eq_true rfl) (cT_0 htt) (s_X5_addCode htt hb21) (fun r h q => ?_)
                  obtain ⟨rfl, rfl⟩ := q
                  simp only [Option.toList, List.cons_append, List.nil_append]
                  refine r_iinc (b := x4 + 1) rfl rfl rfl (Nat.le_of_ble_eq_true rfl) rfl ?_
                  refine r_goto rfl ?_
                  subst he
                  exact r_weak (L1 := [some (.ref 3), some (.ref t), some (.int x2), some (.int (0 : Int32)), some (.int (x4 + 1)), none]) ⟨rfl, rfl, rfl, rfl, rfl, trivial⟩ (ih _ _ _ _ _ hk)
              · rw [if_neg c_61] at he
                replace hk := hk.2 c_61
                refine r_iconst_ (a := 1) rfl (by decide) ?_
                refine r_goto rfl ?_
                refine r_istore_n rfl (Nat.le_of_ble_eq_true rfl) rfl ?_
                refine r_aload_n rfl rfl ?_
                refine r_iload rfl rfl ?_
                refine r_bipush_ (a := 42) rfl (by decide) ?_
                refine r_icmp_ne rfl (fun c_75 => ?_) (fun c_75 => ?_)
                · rw [if_neg c_75] at he
                  replace hk := hk.2 c_75
                  refine r_bipush_ (a := -4) rfl (by decide) ?_
                  obtain ⟨hb22, hk⟩ := hk
                  refine q_callV0 [_] _ rfl kY_X5_addCode kT_X5_addCode rfl rfl (Nat.le_of_ble_eq_true rfl) (Nat.le_of_ble_eq_true rfl) (cT_0 htt) (s_X5_addCode htt hb22) (fun r h q => ?_)
                  obtain ⟨rfl, rfl⟩ := q
                  simp only [Option.toList, List.cons_append, List.nil_append]
                  refine r_iinc (b := x4 + 1) rfl rfl rfl (Nat.le_of_ble_eq_true rfl) rfl ?_
                  refine r_goto rfl ?_
                  subst he
                  exact r_weak (L1 := [some (.ref 3), some (.ref t), some (.int x2), some (.int (1 : Int32)), some (.int (x4 + 1)), none]) ⟨rfl, rfl, rfl, rfl, rfl, trivial⟩ (ih _ _ _ _ _ hk)
                · rw [if_pos c_75] at he
                  replace hk := hk.1 c_75
                  refine r_bipush_ (a := -3) rfl (by decide) ?_
                  refine r_goto rfl ?_
                  obtain ⟨hb23, hk⟩ := hk
                  refine q_callV0 [_] _ rfl kY_X5_addCode kT_X5_addCode rfl rfl (Nat.le_of_ble_eq_true rfl) (Nat.le_of_ble_eq_true rfl) (cT_0 htt) (s_X5_addCode htt hb23) (fun r h q => ?_)
                  obtain ⟨rfl, rfl⟩ := q
                  simp only [Option.toList, List.cons_append, List.nil_append]
                  refine r_iinc (b := x4 + 1) rfl rfl rfl (Nat.le_of_ble_eq_true rfl) rfl ?_
                  refine r_goto rfl ?_
                  subst he
                  exact r_weak (L1 := [some (.ref 3), some (.ref t), some (.int x2), some (.int (1 : Int32)), some (.int (x4 + 1)), none]) ⟨rfl, rfl, rfl, rfl, rfl, trivial⟩ (ih _ _ _ _ _ hk)

def f_X3_product (KS : Int32 → Nat → fl_I → fl_L → Int32 × fl_I × fl_L) (v1 : Int32) (t : Nat) (s : fl_I) (l : fl_L) : Int32 × fl_I × fl_L :=
  f_X3_product_10 KS fu v1 (f_X3_unit KS v1 t s l).1 (0 : Int32) t (f_X3_unit KS v1 t s l).2.1 (f_X3_unit KS v1 t s l).2.2

def p_X3_product (KS : Int32 → Nat → fl_I → fl_L → Int32 × fl_I × fl_L) (KP : Int32 → Nat → fl_I → fl_L → Prop) (v1 : Int32) (t : Nat) (s : fl_I) (l : fl_L) : Prop :=
  (p_X3_unit KS KP v1 t s l) ∧ p_X3_product_10 KS KP fu v1 (f_X3_unit KS v1 t s l).1 (0 : Int32) t (f_X3_unit KS v1 t s l).2.1 (f_X3_unit KS v1 t s l).2.2

set_option maxRecDepth 100000 in
set_option maxHeartbeats 4000000 in
theorem s_X3_product {G : ab_G} {d : Nat} {D : fl_D} (KS : Int32 → Nat → fl_I → fl_L → Int32 × fl_I × fl_L) (KP : Int32 → Nat → fl_I → fl_L → Prop) (hKS : ∀ {t : Nat} (_ : isT t) {v : Int32} {s : fl_I} {l : fl_L}, KP v t s l → ab_C G d 0 0 M_X3_sum 0 (ab_ent [.ref 3, .ref t, .int v]) [] (hp D s l) (rt (some (.int (KS v t s l).1)) (hp D (KS v t s l).2.1 (KS v t s l).2.2))) {s : fl_I} {l : fl_L} {t : Nat} (htt : isT t) {v1 : Int32} (hk : p_X3_product KS KP v1 t s l) : ab_C G (d + 3) 0 0 M_X3_product 0 (ab_ent [.ref 3, .ref t, .int v1]) [] (hp D s l) (rt (some (.int (f_X3_product KS v1 t s l).1)) (hp D (f_X3_product KS v1 t s l).2.1 (f_X3_product KS v1 t s l).2.2)) := by
  generalize he : (f_X3_product KS v1 t s l) = res
  unfold f_X3_product at he
  unfold p_X3_product at hk
  refine r_weak (L1 := [some (.ref 3), some (.ref t), some (.int v1), none, none, none]) ⟨rfl, rfl, rfl, trivial⟩ ?_
  refine r_aload_n rfl rfl ?_
  refine r_aload_n rfl rfl ?_
  refine r_iload_n rfl rfl ?_
  obtain ⟨hb0, hk⟩ := hk
  refine q_callV0 [_, _] _ rfl kY_X3_unit kT_X3_unit rfl rfl (Nat.le_of_ble_eq_true rfl) (Nat.le_of_ble_eq_true rfl) (cc_3 _) (s_X3_unit KS KP hKS htt hb0) (fun r h q => ?_)
  obtain ⟨rfl, rfl⟩ := q
  simp only [Option.toList, List.cons_append, List.nil_append]
  refine r_istore_n rfl (Nat.le_of_ble_eq_true rfl) rfl ?_
  refine r_iconst_ (a := 0) rfl (by decide) ?_
  refine r_istore rfl (Nat.le_of_ble_eq_true rfl) rfl ?_
  subst he
  exact r_weak (L1 := [some (.ref 3), some (.ref t), some (.int v1), some (.int (f_X3_unit KS v1 t s l).1), some (.int (0 : Int32)), none]) ⟨rfl, rfl, rfl, rfl, rfl, trivial⟩ (lp_X3_product_10 KS KP hKS htt fu _ _ _ _ _ hk)

def f_X3_sum_10 (KS : Int32 → Nat → fl_I → fl_L → Int32 × fl_I × fl_L) : Nat → Int32 → Int32 → Int32 → Nat → fl_I → fl_L → Int32 × fl_I × fl_L
  | 0, x2, x3, x4, t, s, l => (0, s, l)
  | n + 1, x2, x3, x4, t, s, l =>
    if ((400 : Int32) < x4) then (x3, s, l) else if (x3 = 0) then (x3, s, l) else if ((f_X3_kindNow s l) = (43 : Int32)) then if ((f_X3_take (f_X3_kindNow s l) s l).1 = 0) then if ((f_X3_kindNow s l) = (43 : Int32)) then f_X3_sum_10 KS n x2 (0 : Int32) (x4 + 1) t (f_X5_addCode (-1 : Int32) t (f_X3_take (f_X3_kindNow s l) s l).2.1 (f_X3_take (f_X3_kindNow s l) s l).2.2).1 (f_X5_addCode (-1 : Int32) t (f_X3_take (f_X3_kindNow s l) s l).2.1 (f_X3_take (f_X3_kindNow s l) s l).2.2).2 else f_X3_sum_10 KS n x2 (0 : Int32) (x4 + 1) t (f_X5_addCode (-2 : Int32) t (f_X3_take (f_X3_kindNow s l) s l).2.1 (f_X3_take (f_X3_kindNow s l) s l).2.2).1 (f_X5_addCode (-2 : Int32) t (f_X3_take (f_X3_kindNow s l) s l).2.1 (f_X3_take (f_X3_kindNow s l) s l).2.2).2 else if ((f_X3_product KS x2 t (f_X3_take (f_X3_kindNow s l) s l).2.1 (f_X3_take (f_X3_kindNow s l) s l).2.2).1 = 0) then if ((f_X3_kindNow s l) = (43 : Int32)) then f_X3_sum_10 KS n x2 (0 : Int32) (x4 + 1) t (f_X5_addCode (-1 : Int32) t (f_X3_product KS x2 t (f_X3_take (f_X3_kindNow s l) s l).2.1 (f_X3_take (f_X3_kindNow s l) s l).2.2).2.1 (f_X3_product KS x2 t (f_X3_take (f_X3_kindNow s l) s l).2.1 (f_X3_take (f_X3_kindNow s l) s l).2.2).2.2).1 (f_X5_addCode (-1 : Int32) t (f_X3_product KS x2 t (f_X3_take (f_X3_kindNow s l) s l).2.1 (f_X3_take (f_X3_kindNow s l) s l).2.2).2.1 (f_X3_product KS x2 t (f_X3_take (f_X3_kindNow s l) s l).2.1 (f_X3_take (f_X3_kindNow s l) s l).2.2).2.2).2 else f_X3_sum_10 KS n x2 (0 : Int32) (x4 + 1) t (f_X5_addCode (-2 : Int32) t (f_X3_product KS x2 t (f_X3_take (f_X3_kindNow s l) s l).2.1 (f_X3_take (f_X3_kindNow s l) s l).2.2).2.1 (f_X3_product KS x2 t (f_X3_take (f_X3_kindNow s l) s l).2.1 (f_X3_take (f_X3_kindNow s l) s l).2.2).2.2).1 (f_X5_addCode (-2 : Int32) t (f_X3_product KS x2 t (f_X3_take (f_X3_kindNow s l) s l).2.1 (f_X3_take (f_X3_kindNow s l) s l).2.2).2.1 (f_X3_product KS x2 t (f_X3_take (f_X3_kindNow s l) s l).2.1 (f_X3_take (f_X3_kindNow s l) s l).2.2).2.2).2 else if ((f_X3_kindNow s l) = (43 : Int32)) then f_X3_sum_10 KS n x2 (1 : Int32) (x4 + 1) t (f_X5_addCode (-1 : Int32) t (f_X3_product KS x2 t (f_X3_take (f_X3_kindNow s l) s l).2.1 (f_X3_take (f_X3_kindNow s l) s l).2.2).2.1 (f_X3_product KS x2 t (f_X3_take (f_X3_kindNow s l) s l).2.1 (f_X3_take (f_X3_kindNow s l) s l).2.2).2.2).1 (f_X5_addCode (-1 : Int32) t (f_X3_product KS x2 t (f_X3_take (f_X3_kindNow s l) s l).2.1 (f_X3_take (f_X3_kindNow s l) s l).2.2).2.1 (f_X3_product KS x2 t (f_X3_take (f_X3_kindNow s l) s l).2.1 (f_X3_take (f_X3_kindNow s l) s l).2.2).2.2).2 else f_X3_sum_10 KS n x2 (1 : Int32) (x4 + 1) t (f_X5_addCode (-2 : Int32) t (f_X3_product KS x2 t (f_X3_take (f_X3_kindNow s l) s l).2.1 (f_X3_take (f_X3_kindNow s l) s l).2.2).2.1 (f_X3_product KS x2 t (f_X3_take (f_X3_kindNow s l) s l).2.1 (f_X3_take (f_X3_kindNow s l) s l).2.2).2.2).1 (f_X5_addCode (-2 : Int32) t (f_X3_product KS x2 t (f_X3_take (f_X3_kindNow s l) s l).2.1 (f_X3_take (f_X3_kindNow s l) s l).2.2).2.1 (f_X3_product KS x2 t (f_X3_take (f_X3_kindNow s l) s l).2.1 (f_X3_take (f_X3_kindNow s l) s l).2.2).2.2).2 else if ((f_X3_kindNow s l) = (45 : Int32)) then if ((f_X3_take (f_X3_kindNow s l) s l).1 = 0) then if ((f_X3_kindNow s l) = (43 : Int32)) then f_X3_sum_10 KS n x2 (0 : Int32) (x4 + 1) t (f_X5_addCode (-1 : Int32) t (f_X3_take (f_X3_kindNow s l) s l).2.1 (f_X3_take (f_X3_kindNow s l) s l).2.2).1 (f_X5_addCode (-1 : Int32) t (f_X3_take (f_X3_kindNow s l) s l).2.1 (f_X3_take (f_X3_kindNow s l) s l).2.2).2 else f_X3_sum_10 KS n x2 (0 : Int32) (x4 + 1) t (f_X5_addCode (-2 : Int32) t (f_X3_take (f_X3_kindNow s l) s l).2.1 (f_X3_take (f_X3_kindNow s l) s l).2.2).1 (f_X5_addCode (-2 : Int32) t (f_X3_take (f_X3_kindNow s l) s l).2.1 (f_X3_take (f_X3_kindNow s l) s l).2.2).2 else if ((f_X3_product KS x2 t (f_X3_take (f_X3_kindNow s l) s l).2.1 (f_X3_take (f_X3_kindNow s l) s l).2.2).1 = 0) then if ((f_X3_kindNow s l) = (43 : Int32)) then f_X3_sum_10 KS n x2 (0 : Int32) (x4 + 1) t (f_X5_addCode (-1 : Int32) t (f_X3_product KS x2 t (f_X3_take (f_X3_kindNow s l) s l).2.1 (f_X3_take (f_X3_kindNow s l) s l).2.2).2.1 (f_X3_product KS x2 t (f_X3_take (f_X3_kindNow s l) s l).2.1 (f_X3_take (f_X3_kindNow s l) s l).2.2).2.2).1 (f_X5_addCode (-1 : Int32) t (f_X3_product KS x2 t (f_X3_take (f_X3_kindNow s l) s l).2.1 (f_X3_take (f_X3_kindNow s l) s l).2.2).2.1 (f_X3_product KS x2 t (f_X3_take (f_X3_kindNow s l) s l).2.1 (f_X3_take (f_X3_kindNow s l) s l).2.2).2.2).2 else f_X3_sum_10 KS n x2 (0 : Int32) (x4 + 1) t (f_X5_addCode (-2 : Int32) t (f_X3_product KS x2 t (f_X3_take (f_X3_kindNow s l) s l).2.1 (f_X3_take (f_X3_kindNow s l) s l).2.2).2.1 (f_X3_product KS x2 t (f_X3_take (f_X3_kindNow s l) s l).2.1 (f_X3_take (f_X3_kindNow s l) s l).2.2).2.2).1 (f_X5_addCode (-2 : Int32) t (f_X3_product KS x2 t (f_X3_take (f_X3_kindNow s l) s l).2.1 (f_X3_take (f_X3_kindNow s l) s l).2.2).2.1 (f_X3_product KS x2 t (f_X3_take (f_X3_kindNow s l) s l).2.1 (f_X3_take (f_X3_kindNow s l) s l).2.2).2.2).2 else if ((f_X3_kindNow s l) = (43 : Int32)) then f_X3_sum_10 KS n x2 (1 : Int32) (x4 + 1) t (f_X5_addCode (-1 : Int32) t (f_X3_product KS x2 t (f_X3_take (f_X3_kindNow s l) s l).2.1 (f_X3_take (f_X3_kindNow s l) s l).2.2).2.1 (f_X3_product KS x2 t (f_X3_take (f_X3_kindNow s l) s l).2.1 (f_X3_take (f_X3_kindNow s l) s l).2.2).2.2).1 (f_X5_addCode (-1 : Int32) t (f_X3_product KS x2 t (f_X3_take (f_X3_kindNow s l) s l).2.1 (f_X3_take (f_X3_kindNow s l) s l).2.2).2.1 (f_X3_product KS x2 t (f_X3_take (f_X3_kindNow s l) s l).2.1 (f_X3_take (f_X3_kindNow s l) s l).2.2).2.2).2 else f_X3_sum_10 KS n x2 (1 : Int32) (x4 + 1) t (f_X5_addCode (-2 : Int32) t (f_X3_product KS x2 t (f_X3_take (f_X3_kindNow s l) s l).2.1 (f_X3_take (f_X3_kindNow s l) s l).2.2).2.1 (f_X3_product KS x2 t (f_X3_take (f_X3_kindNow s l) s l).2.1 (f_X3_take (f_X3_kindNow s l) s l).2.2).2.2).1 (f_X5_addCode (-2 : Int32) t (f_X3_product KS x2 t (f_X3_take (f_X3_kindNow s l) s l).2.1 (f_X3_take (f_X3_kindNow s l) s l).2.2).2.1 (f_X3_product KS x2 t (f_X3_take (f_X3_kindNow s l) s l).2.1 (f_X3_take (f_X3_kindNow s l) s l).2.2).2.2).2 else (x3, s, l)

def p_X3_sum_10 (KS : Int32 → Nat → fl_I → fl_L → Int32 × fl_I × fl_L) (KP : Int32 → Nat → fl_I → fl_L → Prop) : Nat → Int32 → Int32 → Int32 → Nat → fl_I → fl_L → Prop
  | 0, _, _, _, _, _, _ => False
  | n + 1, x2, x3, x4, t, s, l =>
    ((((400 : Int32) < x4) → (x3 = 0 ∨ x3 = 1) ∧ True) ∧ (¬ ((400 : Int32) < x4) → (((x3 = 0) → (x3 = 0 ∨ x3 = 1) ∧ True) ∧ (¬ (x3 = 0) → (p_X3_kindNow s l) ∧ ((((f_X3_kindNow s l) = (43 : Int32)) → (p_X3_kindNow s l) ∧ (p_X3_take (f_X3_kindNow s l) s l) ∧ ((((f_X3_take (f_X3_kindNow s l) s l).1 = 0) → ((((f_X3_kindNow s l) = (43 : Int32)) → (p_X5_addCode (-1 : Int32) t (f_X3_take (f_X3_kindNow s l) s l).2.1 (f_X3_take (f_X3_kindNow s l) s l).2.2) ∧ p_X3_sum_10 KS KP n x2 (0 : Int32) (x4 + 1) t (f_X5_addCode (-1 : Int32) t (f_X3_take (f_X3_kindNow s l) s l).2.1 (f_X3_take (f_X3_kindNow s l) s l).2.2).1 (f_X5_addCode (-1 : Int32) t (f_X3_take (f_X3_kindNow s l) s l).2.1 (f_X3_take (f_X3_kindNow s l) s l).2.2).2) ∧ (¬ ((f_X3_kindNow s l) = (43 : Int32)) → (p_X5_addCode (-2 : Int32) t (f_X3_take (f_X3_kindNow s l) s l).2.1 (f_X3_take (f_X3_kindNow s l) s l).2.2) ∧ p_X3_sum_10 KS KP n x2 (0 : Int32) (x4 + 1) t (f_X5_addCode (-2 : Int32) t (f_X3_take (f_X3_kindNow s l) s l).2.1 (f_X3_take (f_X3_kindNow s l) s l).2.2).1 (f_X5_addCode (-2 : Int32) t (f_X3_take (f_X3_kindNow s l) s l).2.1 (f_X3_take (f_X3_kindNow s l) s l).2.2).2))) ∧ (¬ ((f_X3_take (f_X3_kindNow s l) s l).1 = 0) → (p_X3_product KS KP x2 t (f_X3_take (f_X3_kindNow s l) s l).2.1 (f_X3_take (f_X3_kindNow s l) s l).2.2) ∧ ((((f_X3_product KS x2 t (f_X3_take (f_X3_kindNow s l) s l).2.1 (f_X3_take (f_X3_kindNow s l) s l).2.2).1 = 0) → ((((f_X3_kindNow s l) = (43 : Int32)) → (p_X5_addCode (-1 : Int32) t (f_X3_product KS x2 t (f_X3_take (f_X3_kindNow s l) s l).2.1 (f_X3_take (f_X3_kindNow s l) s l).2.2).2.1 (f_X3_product KS x2 t (f_X3_take (f_X3_kindNow s l) s l).2.1 (f_X3_take (f_X3_kindNow s l) s l).2.2).2.2) ∧ p_X3_sum_10 KS KP n x2 (0 : Int32) (x4 + 1) t (f_X5_addCode (-1 : Int32) t (f_X3_product KS x2 t (f_X3_take (f_X3_kindNow s l) s l).2.1 (f_X3_take (f_X3_kindNow s l) s l).2.2).2.1 (f_X3_product KS x2 t (f_X3_take (f_X3_kindNow s l) s l).2.1 (f_X3_take (f_X3_kindNow s l) s l).2.2).2.2).1 (f_X5_addCode (-1 : Int32) t (f_X3_product KS x2 t (f_X3_take (f_X3_kindNow s l) s l).2.1 (f_X3_take (f_X3_kindNow s l) s l).2.2).2.1 (f_X3_product KS x2 t (f_X3_take (f_X3_kindNow s l) s l).2.1 (f_X3_take (f_X3_kindNow s l) s l).2.2).2.2).2) ∧ (¬ ((f_X3_kindNow s l) = (43 : Int32)) → (p_X5_addCode (-2 : Int32) t (f_X3_product KS x2 t (f_X3_take (f_X3_kindNow s l) s l).2.1 (f_X3_take (f_X3_kindNow s l) s l).2.2).2.1 (f_X3_product KS x2 t (f_X3_take (f_X3_kindNow s l) s l).2.1 (f_X3_take (f_X3_kindNow s l) s l).2.2).2.2) ∧ p_X3_sum_10 KS KP n x2 (0 : Int32) (x4 + 1) t (f_X5_addCode (-2 : Int32) t (f_X3_product KS x2 t (f_X3_take (f_X3_kindNow s l) s l).2.1 (f_X3_take (f_X3_kindNow s l) s l).2.2).2.1 (f_X3_product KS x2 t (f_X3_take (f_X3_kindNow s l) s l).2.1 (f_X3_take (f_X3_kindNow s l) s l).2.2).2.2).1 (f_X5_addCode (-2 : Int32) t (f_X3_product KS x2 t (f_X3_take (f_X3_kindNow s l) s l).2.1 (f_X3_take (f_X3_kindNow s l) s l).2.2).2.1 (f_X3_product KS x2 t (f_X3_take (f_X3_kindNow s l) s l).2.1 (f_X3_take (f_X3_kindNow s l) s l).2.2).2.2).2))) ∧ (¬ ((f_X3_product KS x2 t (f_X3_take (f_X3_kindNow s l) s l).2.1 (f_X3_take (f_X3_kindNow s l) s l).2.2).1 = 0) → ((((f_X3_kindNow s l) = (43 : Int32)) → (p_X5_addCode (-1 : Int32) t (f_X3_product KS x2 t (f_X3_take (f_X3_kindNow s l) s l).2.1 (f_X3_take (f_X3_kindNow s l) s l).2.2).2.1 (f_X3_product KS x2 t (f_X3_take (f_X3_kindNow s l) s l).2.1 (f_X3_take (f_X3_kindNow s l) s l).2.2).2.2) ∧ p_X3_sum_10 KS KP n x2 (1 : Int32) (x4 + 1) t (f_X5_addCode (-1 : Int32) t (f_X3_product KS x2 t (f_X3_take (f_X3_kindNow s l) s l).2.1 (f_X3_take (f_X3_kindNow s l) s l).2.2).2.1 (f_X3_product KS x2 t (f_X3_take (f_X3_kindNow s l) s l).2.1 (f_X3_take (f_X3_kindNow s l) s l).2.2).2.2).1 (f_X5_addCode (-1 : Int32) t (f_X3_product KS x2 t (f_X3_take (f_X3_kindNow s l) s l).2.1 (f_X3_take (f_X3_kindNow s l) s l).2.2).2.1 (f_X3_product KS x2 t (f_X3_take (f_X3_kindNow s l) s l).2.1 (f_X3_take (f_X3_kindNow s l) s l).2.2).2.2).2) ∧ (¬ ((f_X3_kindNow s l) = (43 : Int32)) → (p_X5_addCode (-2 : Int32) t (f_X3_product KS x2 t (f_X3_take (f_X3_kindNow s l) s l).2.1 (f_X3_take (f_X3_kindNow s l) s l).2.2).2.1 (f_X3_product KS x2 t (f_X3_take (f_X3_kindNow s l) s l).2.1 (f_X3_take (f_X3_kindNow s l) s l).2.2).2.2) ∧ p_X3_sum_10 KS KP n x2 (1 : Int32) (x4 + 1) t (f_X5_addCode (-2 : Int32) t (f_X3_product KS x2 t (f_X3_take (f_X3_kindNow s l) s l).2.1 (f_X3_take (f_X3_kindNow s l) s l).2.2).2.1 (f_X3_product KS x2 t (f_X3_take (f_X3_kindNow s l) s l).2.1 (f_X3_take (f_X3_kindNow s l) s l).2.2).2.2).1 (f_X5_addCode (-2 : Int32) t (f_X3_product KS x2 t (f_X3_take (f_X3_kindNow s l) s l).2.1 (f_X3_take (f_X3_kindNow s l) s l).2.2).2.1 (f_X3_product KS x2 t (f_X3_take (f_X3_kindNow s l) s l).2.1 (f_X3_take (f_X3_kindNow s l) s l).2.2).2.2).2))))))) ∧ (¬ ((f_X3_kindNow s l) = (43 : Int32)) → (p_X3_kindNow s l) ∧ ((((f_X3_kindNow s l) = (45 : Int32)) → (p_X3_kindNow s l) ∧ (p_X3_take (f_X3_kindNow s l) s l) ∧ ((((f_X3_take (f_X3_kindNow s l) s l).1 = 0) → ((((f_X3_kindNow s l) = (43 : Int32)) → (p_X5_addCode (-1 : Int32) t (f_X3_take (f_X3_kindNow s l) s l).2.1 (f_X3_take (f_X3_kindNow s l) s l).2.2) ∧ p_X3_sum_10 KS KP n x2 (0 : Int32) (x4 + 1) t (f_X5_addCode (-1 : Int32) t (f_X3_take (f_X3_kindNow s l) s l).2.1 (f_X3_take (f_X3_kindNow s l) s l).2.2).1 (f_X5_addCode (-1 : Int32) t (f_X3_take (f_X3_kindNow s l) s l).2.1 (f_X3_take (f_X3_kindNow s l) s l).2.2).2) ∧ (¬ ((f_X3_kindNow s l) = (43 : Int32)) → (p_X5_addCode (-2 : Int32) t (f_X3_take (f_X3_kindNow s l) s l).2.1 (f_X3_take (f_X3_kindNow s l) s l).2.2) ∧ p_X3_sum_10 KS KP n x2 (0 : Int32) (x4 + 1) t (f_X5_addCode (-2 : Int32) t (f_X3_take (f_X3_kindNow s l) s l).2.1 (f_X3_take (f_X3_kindNow s l) s l).2.2).1 (f_X5_addCode (-2 : Int32) t (f_X3_take (f_X3_kindNow s l) s l).2.1 (f_X3_take (f_X3_kindNow s l) s l).2.2).2))) ∧ (¬ ((f_X3_take (f_X3_kindNow s l) s l).1 = 0) → (p_X3_product KS KP x2 t (f_X3_take (f_X3_kindNow s l) s l).2.1 (f_X3_take (f_X3_kindNow s l) s l).2.2) ∧ ((((f_X3_product KS x2 t (f_X3_take (f_X3_kindNow s l) s l).2.1 (f_X3_take (f_X3_kindNow s l) s l).2.2).1 = 0) → ((((f_X3_kindNow s l) = (43 : Int32)) → (p_X5_addCode (-1 : Int32) t (f_X3_product KS x2 t (f_X3_take (f_X3_kindNow s l) s l).2.1 (f_X3_take (f_X3_kindNow s l) s l).2.2).2.1 (f_X3_product KS x2 t (f_X3_take (f_X3_kindNow s l) s l).2.1 (f_X3_take (f_X3_kindNow s l) s l).2.2).2.2) ∧ p_X3_sum_10 KS KP n x2 (0 : Int32) (x4 + 1) t (f_X5_addCode (-1 : Int32) t (f_X3_product KS x2 t (f_X3_take (f_X3_kindNow s l) s l).2.1 (f_X3_take (f_X3_kindNow s l) s l).2.2).2.1 (f_X3_product KS x2 t (f_X3_take (f_X3_kindNow s l) s l).2.1 (f_X3_take (f_X3_kindNow s l) s l).2.2).2.2).1 (f_X5_addCode (-1 : Int32) t (f_X3_product KS x2 t (f_X3_take (f_X3_kindNow s l) s l).2.1 (f_X3_take (f_X3_kindNow s l) s l).2.2).2.1 (f_X3_product KS x2 t (f_X3_take (f_X3_kindNow s l) s l).2.1 (f_X3_take (f_X3_kindNow s l) s l).2.2).2.2).2) ∧ (¬ ((f_X3_kindNow s l) = (43 : Int32)) → (p_X5_addCode (-2 : Int32) t (f_X3_product KS x2 t (f_X3_take (f_X3_kindNow s l) s l).2.1 (f_X3_take (f_X3_kindNow s l) s l).2.2).2.1 (f_X3_product KS x2 t (f_X3_take (f_X3_kindNow s l) s l).2.1 (f_X3_take (f_X3_kindNow s l) s l).2.2).2.2) ∧ p_X3_sum_10 KS KP n x2 (0 : Int32) (x4 + 1) t (f_X5_addCode (-2 : Int32) t (f_X3_product KS x2 t (f_X3_take (f_X3_kindNow s l) s l).2.1 (f_X3_take (f_X3_kindNow s l) s l).2.2).2.1 (f_X3_product KS x2 t (f_X3_take (f_X3_kindNow s l) s l).2.1 (f_X3_take (f_X3_kindNow s l) s l).2.2).2.2).1 (f_X5_addCode (-2 : Int32) t (f_X3_product KS x2 t (f_X3_take (f_X3_kindNow s l) s l).2.1 (f_X3_take (f_X3_kindNow s l) s l).2.2).2.1 (f_X3_product KS x2 t (f_X3_take (f_X3_kindNow s l) s l).2.1 (f_X3_take (f_X3_kindNow s l) s l).2.2).2.2).2))) ∧ (¬ ((f_X3_product KS x2 t (f_X3_take (f_X3_kindNow s l) s l).2.1 (f_X3_take (f_X3_kindNow s l) s l).2.2).1 = 0) → ((((f_X3_kindNow s l) = (43 : Int32)) → (p_X5_addCode (-1 : Int32) t (f_X3_product KS x2 t (f_X3_take (f_X3_kindNow s l) s l).2.1 (f_X3_take (f_X3_kindNow s l) s l).2.2).2.1 (f_X3_product KS x2 t (f_X3_take (f_X3_kindNow s l) s l).2.1 (f_X3_take (f_X3_kindNow s l) s l).2.2).2.2) ∧ p_X3_sum_10 KS KP n x2 (1 : Int32) (x4 + 1) t (f_X5_addCode (-1 : Int32) t (f_X3_product KS x2 t (f_X3_take (f_X3_kindNow s l) s l).2.1 (f_X3_take (f_X3_kindNow s l) s l).2.2).2.1 (f_X3_product KS x2 t (f_X3_take (f_X3_kindNow s l) s l).2.1 (f_X3_take (f_X3_kindNow s l) s l).2.2).2.2).1 (f_X5_addCode (-1 : Int32) t (f_X3_product KS x2 t (f_X3_take (f_X3_kindNow s l) s l).2.1 (f_X3_take (f_X3_kindNow s l) s l).2.2).2.1 (f_X3_product KS x2 t (f_X3_take (f_X3_kindNow s l) s l).2.1 (f_X3_take (f_X3_kindNow s l) s l).2.2).2.2).2) ∧ (¬ ((f_X3_kindNow s l) = (43 : Int32)) → (p_X5_addCode (-2 : Int32) t (f_X3_product KS x2 t (f_X3_take (f_X3_kindNow s l) s l).2.1 (f_X3_take (f_X3_kindNow s l) s l).2.2).2.1 (f_X3_product KS x2 t (f_X3_take (f_X3_kindNow s l) s l).2.1 (f_X3_take (f_X3_kindNow s l) s l).2.2).2.2) ∧ p_X3_sum_10 KS KP n x2 (1 : Int32) (x4 + 1) t (f_X5_addCode (-2 : Int32) t (f_X3_product KS x2 t (f_X3_take (f_X3_kindNow s l) s l).2.1 (f_X3_take (f_X3_kindNow s l) s l).2.2).2.1 (f_X3_product KS x2 t (f_X3_take (f_X3_kindNow s l) s l).2.1 (f_X3_take (f_X3_kindNow s l) s l).2.2).2.2).1 (f_X5_addCode (-2 : Int32) t (f_X3_product KS x2 t (f_X3_take (f_X3_kindNow s l) s l).2.1 (f_X3_take (f_X3_kindNow s l) s l).2.2).2.1 (f_X3_product KS x2 t (f_X3_take (f_X3_kindNow s l) s l).2.1 (f_X3_take (f_X3_kindNow s l) s l).2.2).2.2).2))))))) ∧ (¬ ((f_X3_kindNow s l) = (45 : Int32)) → (x3 = 0 ∨ x3 = 1) ∧ True))))))))

set_option maxRecDepth 100000 in
set_option maxHeartbeats 4000000 in
theorem lp_X3_sum_10 {G : ab_G} {d : Nat} {D : fl_D} (KS : Int32 → Nat → fl_I → fl_L → Int32 × fl_I × fl_L) (KP : Int32 → Nat → fl_I → fl_L → Prop) (hKS : ∀ {t : Nat} (_ : isT t) {v : Int32} {s : fl_I} {l : fl_L}, KP v t s l → ab_C G d 0 0 M_X3_sum 0 (ab_ent [.ref 3, .ref t, .int v]) [] (hp D s l) (rt (some (.int (KS v t s l).1)) (hp D (KS v t s l).2.1 (KS v t s l).2.2))) {t : Nat} (htt : isT t) : ∀ (n : Nat) (x2 : Int32) (x3 : Int32) (x4 : Int32) (s : fl_I) (l : fl_L), p_X3_sum_10 KS KP n x2 x3 x4 t s l → ab_C G (d + 4) 0 0 M_X3_sum 10 [some (.ref 3), some (.ref t), some (.int x2), some (.int x3), some (.int x4), none] [] (hp D s l) (rt (some (.int (f_X3_sum_10 KS n x2 x3 x4 t s l).1)) (hp D (f_X3_sum_10 KS n x2 x3 x4 t s l).2.1 (f_X3_sum_10 KS n x2 x3 x4 t s l).2.2)) := by
  intro n
  induction n with
  | zero => intro x2 x3 x4 s l hk; exact hk.elim
  | succ n ih =>
    intro x2 x3 x4 s l hk
    generalize he : f_X3_sum_10 KS (n + 1) x2 x3 x4 t s l = res
    unfold f_X3_sum_10 at he
    unfold p_X3_sum_10 at hk
    refine r_iload rfl rfl ?_
    refine r_sipush_ (a := 400) rfl (by decide) ?_
    refine r_icmp_gt rfl (fun c_15 => ?_) (fun c_15 => ?_)
    · rw [if_pos c_15] at he
      replace hk := hk.1 c_15
      refine r_iload_n rfl rfl ?_
      obtain ⟨hb1, hk⟩ := hk
      refine r_iret rfl rfl (nar_b hb1) ?_
      subst he
      exact ⟨rfl, rfl⟩
    · rw [if_neg c_15] at he
      replace hk := hk.2 c_15
      refine r_iload_n rfl rfl ?_
      refine r_if_eq rfl (fun c_19 => ?_) (fun c_19 => ?_)
      · rw [if_pos c_19] at he
        replace hk := hk.1 c_19
        refine r_iload_n rfl rfl ?_
        obtain ⟨hb2, hk⟩ := hk
        refine r_iret rfl rfl (nar_b hb2) ?_
        subst he
        exact ⟨rfl, rfl⟩
      · rw [if_neg c_19] at he
        replace hk := hk.2 c_19
        refine r_aload_n rfl rfl ?_
        obtain ⟨hb3, hk⟩ := hk
        refine q_callV0 [] _ rfl kY_X3_kindNow kT_X3_kindNow rfl rfl (Nat.le_of_ble_eq_true rfl) (Nat.le_of_ble_eq_true rfl) (cc_3 _) (s_X3_kindNow hb3) (fun r h q => ?_)
        obtain ⟨rfl, rfl⟩ := q
        simp only [Option.toList, List.cons_append, List.nil_append]
        refine r_bipush_ (a := 43) rfl (by decide) ?_
        refine r_icmp_eq rfl (fun c_28 => ?_) (fun c_28 => ?_)
        · rw [if_pos c_28] at he
          replace hk := hk.1 c_28
          refine r_aload_n rfl rfl ?_
          obtain ⟨hb4, hk⟩ := hk
          refine q_callV0 [] _ rfl kY_X3_kindNow kT_X3_kindNow rfl rfl (Nat.le_of_ble_eq_true rfl) (Nat.le_of_ble_eq_true rfl) (cc_3 _) (s_X3_kindNow hb4) (fun r h q => ?_)
          obtain ⟨rfl, rfl⟩ := q
          simp only [Option.toList, List.cons_append, List.nil_append]
          refine r_istore rfl (Nat.le_of_ble_eq_true rfl) rfl ?_
          refine r_aload_n rfl rfl ?_
          refine r_iload rfl rfl ?_
          obtain ⟨hb5, hk⟩ := hk
          refine q_callV0 [_] _ rfl kY_X3_take kT_X3_take rfl rfl (Nat.le_of_ble_eq_true rfl) (Nat.le_of_ble_eq_true rfl) (cc_3 _) (s_X3_take hb5) (fun r h q => ?_)
          obtain ⟨rfl, rfl⟩ := q
          simp only [Option.toList, List.cons_append, List.nil_append]
          refine r_if_eq rfl (fun c_52 => ?_) (fun c_52 => ?_)
          · rw [if_pos c_52] at he
            replace hk := hk.1 c_52
            refine r_iconst_ (a := 0) rfl (by decide) ?_
            refine r_istore_n rfl (Nat.le_of_ble_eq_true rfl) rfl ?_
            refine r_aload_n rfl rfl ?_
            refine r_iload rfl rfl ?_
            refine r_bipush_ (a := 43) rfl (by decide) ?_
            refine r_icmp_ne rfl (fun c_75 => ?_) (fun c_75 => ?_)
            · rw [if_neg c_75] at he
              replace hk := hk.2 c_75
              refine r_bipush_ (a := -2) rfl (by decide) ?_
              obtain ⟨hb6, hk⟩ := hk
              refine q_callV0 [_] _ rfl kY_X5_addCode kT_X5_addCode rfl rfl (Nat.le_of_ble_eq_true rfl) (Nat.le_of_ble_eq_true rfl) (cT_0 htt) (s_X5_addCode htt hb6) (fun r h q => ?_)
              obtain ⟨rfl, rfl⟩ := q
              simp only [Option.toList, List.cons_append, List.nil_append]
              refine r_iinc (b := x4 + 1) rfl rfl rfl (Nat.le_of_ble_eq_true rfl) rfl ?_
              refine r_goto rfl ?_
              subst he
              exact r_weak (L1 := [some (.ref 3), some (.ref t), some (.int x2), some (.int (0 : Int32)), some (.int (x4 + 1)), none]) ⟨rfl, rfl, rfl, rfl, rfl, trivial⟩ (ih _ _ _ _ _ hk)
            · rw [if_pos c_75] at he
              replace hk := hk.1 c_75
              refine r_iconst_ (a := -1) rfl (by decide) ?_
              refine r_goto rfl ?_
              obtain ⟨hb7, hk⟩ := hk
              refine q_callV0 [_] _ rfl kY_X5_addCode kT_X5_addCode rfl rfl (Nat.le_of_ble_eq_true rfl) (Nat.le_of_ble_eq_true rfl) (cT_0 htt) (s_X5_addCode htt hb7) (fun r h q => ?_)
              obtain ⟨rfl, rfl⟩ := q
              simp only [Option.toList, List.cons_append, List.nil_append]
              refine r_iinc (b := x4 + 1) rfl rfl rfl (Nat.le_of_ble_eq_true rfl) rfl ?_
              refine r_goto rfl ?_
              subst he
              exact r_weak (L1 := [some (.ref 3), some (.ref t), some (.int x2), some (.int (0 : Int32)), some (.int (x4 + 1)), none]) ⟨rfl, rfl, rfl, rfl, rfl, trivial⟩ (ih _ _ _ _ _ hk)
          · rw [if_neg c_52] at he
            replace hk := hk.2 c_52
            refine r_aload_n rfl rfl ?_
            refine r_aload_n rfl rfl ?_
            refine r_iload_n rfl rfl ?_
            obtain ⟨hb8, hk⟩ := hk
            refine q_callV0 [_, _] _ rfl kY_X3_product kT_X3_product rfl rfl (Nat.le_of_ble_eq_true rfl) (Nat.le_of_ble_eq_true rfl) (cc_3 _) (s_X3_product KS KP hKS htt hb8) (fun r h q => ?_)
            obtain ⟨rfl, rfl⟩ := q
            simp only [Option.toList, List.cons_append, List.nil_append]
            refine r_if_eq rfl (fun c_61 => ?_) (fun c_61 => ?_)
            · rw [if_pos c_61] at he
              replace hk := hk.1 c_61
              refine r_iconst_ (a := 0) rfl (by decide) ?_
              refine r_istore_n rfl (Nat.le_of_ble_eq_true rfl) rfl ?_
              refine r_aload_n rfl rfl ?_
              refine r_iload rfl rfl ?_
              refine r_bipush_ (a := 43) rfl (by decide) ?_
              refine r_icmp_ne rfl (fun c_75 => ?_) (fun c_75 => ?_)
              · rw [if_neg c_75] at he
                replace hk := hk.2 c_75
                refine r_bipush_ (a := -2) rfl (by decide) ?_
                obtain ⟨hb9, hk⟩ := hk
                refine q_callV0 [_] _ rfl kY_X5_addCode kT_X5_addCode rfl rfl (Nat.le_of_ble_eq_true rfl) (Nat.le_of_ble_eq_true rfl) (cT_0 htt) (s_X5_addCode htt hb9) (fun r h q => ?_)
                obtain ⟨rfl, rfl⟩ := q
                simp only [Option.toList, List.cons_append, List.nil_append]
                refine r_iinc (b := x4 + 1) rfl rfl rfl (Nat.le_of_ble_eq_true rfl) rfl ?_
                refine r_goto rfl ?_
                subst he
                exact r_weak (L1 := [some (.ref 3), some (.ref t), some (.int x2), some (.int (0 : Int32)), some (.int (x4 + 1)), none]) ⟨rfl, rfl, rfl, rfl, rfl, trivial⟩ (ih _ _ _ _ _ hk)
              · rw [if_pos c_75] at he
                replace hk := hk.1 c_75
                refine r_iconst_ (a := -1) rfl (by decide) ?_
                refine r_goto rfl ?_
                obtain ⟨hb10, hk⟩ := hk
                refine q_callV0 [_] _ rfl kY_X5_addCode kT_X5_addCode rfl rfl (Nat.le_of_ble_eq_true rfl) (Nat.le_of_ble_eq_true rfl) (cT_0 htt) (s_X5_addCode htt hb10) (fun r h q => ?_)
                obtain ⟨rfl, rfl⟩ := q
                simp only [Option.toList, List.cons_append, List.nil_append]
                refine r_iinc (b := x4 + 1) rfl rfl rfl (Nat.le_of_ble_eq_true rfl) rfl ?_
                refine r_goto rfl ?_
                subst he
                exact r_weak (L1 := [some (.ref 3), some (.ref t), some (.int x2), some (.int (0 : Int32)), some (.int (x4 + 1)), none]) ⟨rfl, rfl, rfl, rfl, rfl, trivial⟩ (ih _ _ _ _ _ hk)
            · rw [if_neg c_61] at he
              replace hk := hk.2 c_61
              refine r_iconst_ (a := 1) rfl (by decide) ?_
              refine r_goto rfl ?_
              refine r_istore_n rfl (Nat.le_of_ble_eq_true rfl) rfl ?_
              refine r_aload_n rfl rfl ?_
              refine r_iload rfl rfl ?_
              refine r_bipush_ (a := 43) rfl (by decide) ?_
              refine r_icmp_ne rfl (fun c_75 => ?_) (fun c_75 => ?_)
              · rw [if_neg c_75] at he
                replace hk := hk.2 c_75
                refine r_bipush_ (a := -2) rfl (by decide) ?_
                obtain ⟨hb11, hk⟩ := hk
                refine q_callV0 [_] _ rfl kY_X5_addCode kT_X5_addCode rfl rfl (Nat.le_of_ble_eq_true rfl) (Nat.le_of_ble_eq_true rfl) (cT_0 htt) (s_X5_addCode htt hb11) (fun r h q => ?_)
                obtain ⟨rfl, rfl⟩ := q
                simp only [Option.toList, List.cons_append, List.nil_append]
                refine r_iinc (b := x4 + 1) rfl rfl rfl (Nat.le_of_ble_eq_true rfl) rfl ?_
                refine r_goto rfl ?_
                subst he
                exact r_weak (L1 := [some (.ref 3), some (.ref t), some (.int x2), some (.int (1 : Int32)), some (.int (x4 + 1)), none]) ⟨rfl, rfl, rfl, rfl, rfl, trivial⟩ (ih _ _ _ _ _ hk)
              · rw [if_pos c_75] at he
                replace hk := hk.1 c_75
                refine r_iconst_ (a := -1) rfl (by decide) ?_
                refine r_goto rfl ?_
                obtain ⟨hb12, hk⟩ := hk
                refine q_callV0 [_] _ rfl kY_X5_addCode kT_X5_addCode rfl rfl (Nat.le_of_ble_eq_true rfl) (Nat.le_of_ble_eq_true rfl) (cT_0 htt) (s_X5_addCode htt hb12) (fun r h q => ?_)
                obtain ⟨rfl, rfl⟩ := q
                simp only [Option.toList, List.cons_append, List.nil_append]
                refine r_iinc (b := x4 + 1) rfl rfl rfl (Nat.le_of_ble_eq_true rfl) rfl ?_
                refine r_goto rfl ?_
                subst he
                exact r_weak (L1 := [some (.ref 3), some (.ref t), some (.int x2), some (.int (1 : Int32)), some (.int (x4 + 1)), none]) ⟨rfl, rfl, rfl, rfl, rfl, trivial⟩ (ih _ _ _ _ _ hk)
        · rw [if_neg c_28] at he
          replace hk := hk.2 c_28
          refine r_aload_n rfl rfl ?_
          obtain ⟨hb13, hk⟩ := hk
          refine q_callV0 [] _ rfl kY_X3_kindNow kT_X3_kindNow rfl rfl (Nat.le_of_ble_eq_true rfl) (Nat.le_of_ble_eq_true rfl) (cc_3 _) (s_X3_kindNow hb13) (fun r h q => ?_)
          obtain ⟨rfl, rfl⟩ := q
          simp only [Option.toList, List.cons_append, List.nil_append]
          refine r_bipush_ (a := 45) rfl (by decide) ?_
          refine r_icmp_ne rfl (fun c_37 => ?_) (fun c_37 => ?_)
          · rw [if_neg c_37] at he
            replace hk := hk.2 c_37
            refine r_iload_n rfl rfl ?_
            obtain ⟨hb14, hk⟩ := hk
            refine r_iret rfl rfl (nar_b hb14) ?_
            subst he
            exact ⟨rfl, rfl⟩
          · rw [if_pos c_37] at he
            replace hk := hk.1 c_37
            refine r_aload_n rfl rfl ?_
            obtain ⟨hb15, hk⟩ := hk
            refine q_callV0 [] _ rfl kY_X3_kindNow kT_X3_kindNow rfl rfl (Nat.le_of_ble_eq_true rfl) (Nat.le_of_ble_eq_true rfl) (cc_3 _) (s_X3_kindNow hb15) (fun r h q => ?_)
            obtain ⟨rfl, rfl⟩ := q
            simp only [Option.toList, List.cons_append, List.nil_append]
            refine r_istore rfl (Nat.le_of_ble_eq_true rfl) rfl ?_
            refine r_aload_n rfl rfl ?_
            refine r_iload rfl rfl ?_
            obtain ⟨hb16, hk⟩ := hk
            refine q_callV0 [_] _ rfl kY_X3_take kT_X3_take rfl rfl (Nat.le_of_ble_eq_true rfl) (Nat.le_of_ble_eq_true rfl) (cc_3 _) (s_X3_take hb16) (fun r h q => ?_)
            obtain ⟨rfl, rfl⟩ := q
            simp only [Option.toList, List.cons_append, List.nil_append]
            refine r_if_eq rfl (fun c_52 => ?_) (fun c_52 => ?_)
            · rw [if_pos c_52] at he
              replace hk := hk.1 c_52
              refine r_iconst_ (a := 0) rfl (by decide) ?_
              refine r_istore_n rfl (Nat.le_of_ble_eq_true rfl) rfl ?_
              refine r_aload_n rfl rfl ?_
              refine r_iload rfl rfl ?_
              refine r_bipush_ (a := 43) rfl (by decide) ?_
              refine r_icmp_ne rfl (fun c_75 => ?_) (fun c_75 => ?_)
              · rw [if_neg c_75] at he
                replace hk := hk.2 c_75
                refine r_bipush_ (a := -2) rfl (by decide) ?_
                obtain ⟨hb17, hk⟩ := hk
                refine q_callV0 [_] _ rfl kY_X5_addCode kT_X5_addCode rfl rfl (Nat.le_of_ble_eq_true rfl) (Nat.le_of_ble_eq_true rfl) (cT_0 htt) (s_X5_addCode htt hb17) (fun r h q => ?_)
                obtain ⟨rfl, rfl⟩ := q
                simp only [Option.toList, List.cons_append, List.nil_append]
                refine r_iinc (b := x4 + 1) rfl rfl rfl (Nat.le_of_ble_eq_true rfl) rfl ?_
                refine r_goto rfl ?_
                subst he
                exact r_weak (L1 := [some (.ref 3), some (.ref t), some (.int x2), some (.int (0 : Int32)), some (.int (x4 + 1)), none]) ⟨rfl, rfl, rfl, rfl, rfl, trivial⟩ (ih _ _ _ _ _ hk)
              · rw [if_pos c_75] at he
                replace hk := hk.1 c_75
                refine r_iconst_ (a := -1) rfl (by decide) ?_
                refine r_goto rfl ?_
                obtain ⟨hb18, hk⟩ := hk
                refine q_callV0 [_] _ rfl kY_X5_addCode kT_X5_addCode rfl rfl (Nat.le_of_ble_eq_true rfl) (Nat.le_of_ble_eq_true rfl) (cT_0 htt) (s_X5_addCode htt hb18) (fun r h q => ?_)
                obtain ⟨rfl, rfl⟩ := q
                simp only [Option.toList, List.cons_append, List.nil_append]
                refine r_iinc (b := x4 + 1) rfl rfl rfl (Nat.le_of_ble_eq_true rfl) rfl ?_
                refine r_goto rfl ?_
                subst he
                exact r_weak (L1 := [some (.ref 3), some (.ref t), some (.int x2), some (.int (0 : Int32)), some (.int (x4 + 1)), none]) ⟨rfl, rfl, rfl, rfl, rfl, trivial⟩ (ih _ _ _ _ _ hk)
            · rw [if_neg c_52] at he
              replace hk := hk.2 c_52
              refine r_aload_n rfl rfl ?_
              refine r_aload_n rfl rfl ?_
              refine r_iload_n rfl rfl ?_
              obtain ⟨hb19, hk⟩ := hk
              refine q_callV0 [_, _] _ rfl kY_X3_product kT_X3_product rfl rfl (Nat.le_of_ble_eq_true rfl) (Nat.le_of_ble_eq_true rfl) (cc_3 _) (s_X3_product KS KP hKS htt hb19) (fun r h q => ?_)
              obtain ⟨rfl, rfl⟩ := q
              simp only [Option.toList, List.cons_append, List.nil_append]
              refine r_if_eq rfl (fun c_61 => ?_) (fun c_61 => ?_)
              · rw [if_pos c_61] at he
                replace hk := hk.1 c_61
                refine r_iconst_ (a := 0) rfl (by decide) ?_
                refine r_istore_n rfl (Nat.le_of_ble_eq_true rfl) rfl ?_
                refine r_aload_n rfl rfl ?_
                refine r_iload rfl rfl ?_
                refine r_bipush_ (a := 43) rfl (by decide) ?_
                refine r_icmp_ne rfl (fun c_75 => ?_) (fun c_75 => ?_)
                · rw [if_neg c_75] at he
                  replace hk := hk.2 c_75
                  refine r_bipush_ (a := -2) rfl (by decide) ?_
                  obtain ⟨hb20, hk⟩ := hk
                  refine q_callV0 [_] _ rfl kY_X5_addCode kT_X5_addCode rfl rfl (Nat.le_of_ble_eq_true rfl) (Nat.le_of_ble_eq_true rfl) (cT_0 htt) (s_X5_addCode htt hb20) (fun r h q => ?_)
                  obtain ⟨rfl, rfl⟩ := q
                  simp only [Option.toList, List.cons_append, List.nil_append]
                  refine r_iinc (b := x4 + 1) rfl rfl rfl (Nat.le_of_ble_eq_true rfl) rfl ?_
                  refine r_goto rfl ?_
                  subst he
                  exact r_weak (L1 := [some (.ref 3), some (.ref t), some (.int x2), some (.int (0 : Int32)), some (.int (x4 + 1)), none]) ⟨rfl, rfl, rfl, rfl, rfl, trivial⟩ (ih _ _ _ _ _ hk)
                · rw [if_pos c_75] at he
                  replace hk := hk.1 c_75
                  refine r_iconst_ (a := -1) rfl (by decide) ?_
                  refine r_goto rfl ?_
                  obtain ⟨hb21, hk⟩ := hk
                  refine q_callV0 [_] _ rfl kY_X5_addCode kT_X5_addCode rfl rfl (Nat.le_of_ble_eq_true rfl) (Nat.le_of_ble_eq_true rfl) (cT_0 htt) (s_X5_addCode htt hb21) (fun r h q => ?_)
                  obtain ⟨rfl, rfl⟩ := q
                  simp only [Option.toList, List.cons_append, List.nil_append]
                  refine r_iinc (b := x4 + 1) rfl rfl rfl (Nat.le_of_ble_eq_true rfl) rfl ?_
                  refine r_goto rfl ?_
                  subst he
                  exact r_weak (L1 := [some (.ref 3), some (.ref t), some (.int x2), some (.int (0 : Int32)), some (.int (x4 + 1)), none]) ⟨rfl, rfl, rfl, rfl, rfl, trivial⟩ (ih _ _ _ _ _ hk)
              · rw [if_neg c_61] at he
                replace hk := hk.2 c_61
                refine r_iconst_ (a := 1) rfl (by decide) ?_
                refine r_goto rfl ?_
                refine r_istore_n rfl (Nat.le_of_ble_eq_true rfl) rfl ?_
                refine r_aload_n rfl rfl ?_
                refine r_iload rfl rfl ?_
                refine r_bipush_ (a := 43) rfl (by decide) ?_
                refine r_icmp_ne rfl (fun c_75 => ?_) (fun c_75 => ?_)
                · rw [if_neg c_75] at he
                  replace hk := hk.2 c_75
                  refine r_bipush_ (a := -2) rfl (by decide) ?_
                  obtain ⟨hb22, hk⟩ := hk
                  refine q_callV0 [_] _ rfl kY_X5_addCode kT_X5_addCode rfl rfl (Nat.le_of_ble_eq_true rfl) (Nat.le_of_ble_eq_true rfl) (cT_0 htt) (s_X5_addCode htt hb22) (fun r h q => ?_)
                  obtain ⟨rfl, rfl⟩ := q
                  simp only [Option.toList, List.cons_append, List.nil_append]
                  refine r_iinc (b := x4 + 1) rfl rfl rfl (Nat.le_of_ble_eq_true rfl) rfl ?_
                  refine r_goto rfl ?_
                  subst he
                  exact r_weak (L1 := [some (.ref 3), some (.ref t), some (.int x2), some (.int (1 : Int32)), some (.int (x4 + 1)), none]) ⟨rfl, rfl, rfl, rfl, rfl, trivial⟩ (ih _ _ _ _ _ hk)
                · rw [if_pos c_75] at he
                  replace hk := hk.1 c_75
                  refine r_iconst_ (a := -1) rfl (by decide) ?_
                  refine r_goto rfl ?_
                  obtain ⟨hb23, hk⟩ := hk
                  refine q_callV0 [_] _ rfl kY_X5_addCode kT_X5_addCode rfl rfl (Nat.le_of_ble_eq_true rfl) (Nat.le_of_ble_eq_true rfl) (cT_0 htt) (s_X5_addCode htt hb23) (fun r h q => ?_)
                  obtain ⟨rfl, rfl⟩ := q
                  simp only [Option.toList, List.cons_append, List.nil_append]
                  refine r_iinc (b := x4 + 1) rfl rfl rfl (Nat.le_of_ble_eq_true rfl) rfl ?_
                  refine r_goto rfl ?_
                  subst he
                  exact r_weak (L1 := [some (.ref 3), some (.ref t), some (.int x2), some (.int (1 : Int32)), some (.int (x4 + 1)), none]) ⟨rfl, rfl, rfl, rfl, rfl, trivial⟩ (ih _ _ _ _ _ hk)

def f_X3_sum (KS : Int32 → Nat → fl_I → fl_L → Int32 × fl_I × fl_L) (v1 : Int32) (t : Nat) (s : fl_I) (l : fl_L) : Int32 × fl_I × fl_L :=
  f_X3_sum_10 KS fu v1 (f_X3_product KS v1 t s l).1 (0 : Int32) t (f_X3_product KS v1 t s l).2.1 (f_X3_product KS v1 t s l).2.2

def p_X3_sum (KS : Int32 → Nat → fl_I → fl_L → Int32 × fl_I × fl_L) (KP : Int32 → Nat → fl_I → fl_L → Prop) (v1 : Int32) (t : Nat) (s : fl_I) (l : fl_L) : Prop :=
  (p_X3_product KS KP v1 t s l) ∧ p_X3_sum_10 KS KP fu v1 (f_X3_product KS v1 t s l).1 (0 : Int32) t (f_X3_product KS v1 t s l).2.1 (f_X3_product KS v1 t s l).2.2

set_option maxRecDepth 100000 in
set_option maxHeartbeats 4000000 in
theorem s_X3_sum {G : ab_G} {d : Nat} {D : fl_D} (KS : Int32 → Nat → fl_I → fl_L → Int32 × fl_I × fl_L) (KP : Int32 → Nat → fl_I → fl_L → Prop) (hKS : ∀ {t : Nat} (_ : isT t) {v : Int32} {s : fl_I} {l : fl_L}, KP v t s l → ab_C G d 0 0 M_X3_sum 0 (ab_ent [.ref 3, .ref t, .int v]) [] (hp D s l) (rt (some (.int (KS v t s l).1)) (hp D (KS v t s l).2.1 (KS v t s l).2.2))) {s : fl_I} {l : fl_L} {t : Nat} (htt : isT t) {v1 : Int32} (hk : p_X3_sum KS KP v1 t s l) : ab_C G (d + 4) 0 0 M_X3_sum 0 (ab_ent [.ref 3, .ref t, .int v1]) [] (hp D s l) (rt (some (.int (f_X3_sum KS v1 t s l).1)) (hp D (f_X3_sum KS v1 t s l).2.1 (f_X3_sum KS v1 t s l).2.2)) := by
  generalize he : (f_X3_sum KS v1 t s l) = res
  unfold f_X3_sum at he
  unfold p_X3_sum at hk
  refine r_weak (L1 := [some (.ref 3), some (.ref t), some (.int v1), none, none, none]) ⟨rfl, rfl, rfl, trivial⟩ ?_
  refine r_aload_n rfl rfl ?_
  refine r_aload_n rfl rfl ?_
  refine r_iload_n rfl rfl ?_
  obtain ⟨hb0, hk⟩ := hk
  refine q_callV0 [_, _] _ rfl kY_X3_product kT_X3_product rfl rfl (Nat.le_of_ble_eq_true rfl) (Nat.le_of_ble_eq_true rfl) (cc_3 _) (s_X3_product KS KP hKS htt hb0) (fun r h q => ?_)
  obtain ⟨rfl, rfl⟩ := q
  simp only [Option.toList, List.cons_append, List.nil_append]
  refine r_istore_n rfl (Nat.le_of_ble_eq_true rfl) rfl ?_
  refine r_iconst_ (a := 0) rfl (by decide) ?_
  refine r_istore rfl (Nat.le_of_ble_eq_true rfl) rfl ?_
  subst he
  exact r_weak (L1 := [some (.ref 3), some (.ref t), some (.int v1), some (.int (f_X3_product KS v1 t s l).1), some (.int (0 : Int32)), none]) ⟨rfl, rfl, rfl, rfl, rfl, trivial⟩ (lp_X3_sum_10 KS KP hKS htt fu _ _ _ _ _ hk)

/-- a sum with so many ( within one another at most -/
def f_sumD : Nat → Int32 → Nat → fl_I → fl_L → Int32 × fl_I × fl_L
  | 0, _, _, s, l => (0, s, l)
  | m + 1, v, t, s, l => f_X3_sum (f_sumD m) v t s l
def p_sumD : Nat → Int32 → Nat → fl_I → fl_L → Prop
  | 0, _, _, _, _ => False
  | m + 1, v, t, s, l => p_X3_sum (f_sumD m) (p_sumD m) v t s l
theorem s_sumD {G : ab_G} {d : Nat} {D : fl_D} : ∀ (m : Nat) {t : Nat} (_ : isT t) {v : Int32} {s : fl_I} {l : fl_L}, p_sumD m v t s l → ab_C G (d + 4 * m) 0 0 M_X3_sum 0 (ab_ent [.ref 3, .ref t, .int v]) [] (hp D s l) (rt (some (.int (f_sumD m v t s l).1)) (hp D (f_sumD m v t s l).2.1 (f_sumD m v t s l).2.2)) := by
  intro m
  induction m with
  | zero => intro t ht v s l hk; exact hk.elim
  | succ m ih =>
    intro t ht v s l hk
    exact s_X3_sum (d := d + 4 * m) (f_sumD m) (p_sumD m) (fun {t} ht {v} {s} {l} h => ih ht h) ht hk
theorem s_sum8 {G : ab_G} {d : Nat} {D : fl_D} {s : fl_I} {l : fl_L} {t : Nat} (ht : isT t) {v : Int32} (hk : p_sumD 8 v t s l) : ab_C G (d + 32) 0 0 M_X3_sum 0 (ab_ent [.ref 3, .ref t, .int v]) [] (hp D s l) (rt (some (.int (f_sumD 8 v t s l).1)) (hp D (f_sumD 8 v t s l).2.1 (f_sumD 8 v t s l).2.2)) := s_sumD 8 ht hk

def f_X11_money (v0 : Int32) : Int32 :=
  (f_X11_held v0 (99 : Int32))

def p_X11_money (v0 : Int32) : Prop :=
  (p_X11_held v0 (99 : Int32)) ∧ True

set_option maxRecDepth 100000 in
set_option maxHeartbeats 4000000 in
theorem s_X11_money {G : ab_G} {d : Nat} {h : ab_H} {v0 : Int32} (hk : p_X11_money v0) : ab_C G (d + 1) 0 0 M_X11_money 0 (ab_ent [.int v0]) [] h (rt (some (.int (f_X11_money v0))) h) := by
  generalize he : (f_X11_money v0) = res
  unfold f_X11_money at he
  unfold p_X11_money at hk
  refine r_weak (L1 := [some (.int v0)]) ⟨rfl, trivial⟩ ?_
  refine r_iload_n rfl rfl ?_
  refine r_bipush_ (a := 99) rfl (by decide) ?_
  obtain ⟨hb0, hk⟩ := hk
  refine r_callS0 [_, _] _ rfl kY_X11_held kT_X11_held rfl rfl (Nat.le_of_ble_eq_true rfl) (Nat.le_of_ble_eq_true rfl) (s_X11_held hb0) (fun r h q => ?_)
  obtain ⟨rfl, rfl⟩ := q
  simp only [Option.toList, List.cons_append, List.nil_append]
  refine r_iret rfl rfl rfl ?_
  subst he
  exact ⟨rfl, rfl⟩

def f_X12_isLong (v0 : Int32) : Int32 :=
  (f_X12_in v0 (0 : Int32) (40 : Int32))

def p_X12_isLong (v0 : Int32) : Prop :=
  (p_X12_in v0 (0 : Int32) (40 : Int32)) ∧ ((f_X12_in v0 (0 : Int32) (40 : Int32)) = 0 ∨ (f_X12_in v0 (0 : Int32) (40 : Int32)) = 1) ∧ True

set_option maxRecDepth 100000 in
set_option maxHeartbeats 4000000 in
theorem s_X12_isLong {G : ab_G} {d : Nat} {h : ab_H} {v0 : Int32} (hk : p_X12_isLong v0) : ab_C G (d + 1) 0 0 M_X12_isLong 0 (ab_ent [.int v0]) [] h (rt (some (.int (f_X12_isLong v0))) h) := by
  generalize he : (f_X12_isLong v0) = res
  unfold f_X12_isLong at he
  unfold p_X12_isLong at hk
  refine r_weak (L1 := [some (.int v0)]) ⟨rfl, trivial⟩ ?_
  refine r_iload_n rfl rfl ?_
  refine r_iconst_ (a := 0) rfl (by decide) ?_
  refine r_bipush_ (a := 40) rfl (by decide) ?_
  obtain ⟨hb0, hk⟩ := hk
  refine r_callS0 [_, _, _] _ rfl kY_X12_in kT_X12_in rfl rfl (Nat.le_of_ble_eq_true rfl) (Nat.le_of_ble_eq_true rfl) (s_X12_in hb0) (fun r h q => ?_)
  obtain ⟨rfl, rfl⟩ := q
  simp only [Option.toList, List.cons_append, List.nil_append]
  obtain ⟨hb1, hk⟩ := hk
  refine r_iret rfl rfl (nar_b hb1) ?_
  subst he
  exact ⟨rfl, rfl⟩

def f_X12_copiesStill (s : fl_I) (l : fl_L) : fl_I × fl_L :=
  ((wi (f_X12_copies s l).1 60 53 (1 : Int32)), (f_X12_copies s l).2)

def p_X12_copiesStill (s : fl_I) (l : fl_L) : Prop :=
  (p_X12_copies s l) ∧ True

set_option maxRecDepth 100000 in
set_option maxHeartbeats 4000000 in
theorem s_X12_copiesStill {G : ab_G} {d : Nat} {D : fl_D} {s : fl_I} {l : fl_L}  (hk : p_X12_copiesStill s l) : ab_C G (d + 1) 0 0 M_X12_copiesStill 0 (ab_ent [.ref 60]) [] (hp D s l) (rt none (hp D (f_X12_copiesStill s l).1 (f_X12_copiesStill s l).2)) := by
  generalize he : (f_X12_copiesStill s l) = res
  unfold f_X12_copiesStill at he
  unfold p_X12_copiesStill at hk
  refine r_weak (L1 := [some (.ref 60)]) ⟨rfl, trivial⟩ ?_
  refine r_aload_n rfl rfl ?_
  obtain ⟨hb0, hk⟩ := hk
  refine q_callV0 [] _ rfl kY_X12_copies kT_X12_copies rfl rfl (Nat.le_of_ble_eq_true rfl) (Nat.le_of_ble_eq_true rfl) (cc_60 _) (s_X12_copies hb0) (fun r h q => ?_)
  obtain ⟨rfl, rfl⟩ := q
  simp only [Option.toList, List.cons_append, List.nil_append]
  refine r_aload_n rfl rfl ?_
  refine r_iconst_ (a := 1) rfl (by decide) ?_
  refine w_putZ rfl (cc_60 _) ff_12_53 ft_12_53 (by decide) (Nat.le_of_ble_eq_true rfl) rfl ?_
  refine r_ret rfl rfl ?_
  subst he
  exact ⟨rfl, rfl⟩

def f_X12_isPiece (v0 : Int32) (s : fl_I) (l : fl_L) : Int32 :=
  (f_X12_in v0 (0 : Int32) ((s 60 54) - (1 : Int32)))

def p_X12_isPiece (v0 : Int32) (s : fl_I) (l : fl_L) : Prop :=
  (p_X12_in v0 (0 : Int32) ((s 60 54) - (1 : Int32))) ∧ ((f_X12_in v0 (0 : Int32) ((s 60 54) - (1 : Int32))) = 0 ∨ (f_X12_in v0 (0 : Int32) ((s 60 54) - (1 : Int32))) = 1) ∧ True

set_option maxRecDepth 100000 in
set_option maxHeartbeats 4000000 in
theorem s_X12_isPiece {G : ab_G} {d : Nat} {D : fl_D} {s : fl_I} {l : fl_L} {v0 : Int32} (hk : p_X12_isPiece v0 s l) : ab_C G (d + 1) 0 0 M_X12_isPiece 0 (ab_ent [.ref 60, .int v0]) [] (hp D s l) (rt (some (.int (f_X12_isPiece v0 s l))) (hp D s l)) := by
  generalize he : (f_X12_isPiece v0 s l) = res
  unfold f_X12_isPiece at he
  unfold p_X12_isPiece at hk
  refine r_weak (L1 := [some (.ref 60), some (.int v0)]) ⟨rfl, rfl, trivial⟩ ?_
  refine r_iload_n rfl rfl ?_
  refine r_iconst_ (a := 0) rfl (by decide) ?_
  refine r_aload_n rfl rfl ?_
  refine q_getfield rfl (cc_60 _) rfl ?_
  refine r_iconst_ (a := 1) rfl (by decide) ?_
  refine r_isub rfl ?_
  obtain ⟨hb0, hk⟩ := hk
  refine r_callS0 [_, _, _] _ rfl kY_X12_in kT_X12_in rfl rfl (Nat.le_of_ble_eq_true rfl) (Nat.le_of_ble_eq_true rfl) (s_X12_in hb0) (fun r h q => ?_)
  obtain ⟨rfl, rfl⟩ := q
  simp only [Option.toList, List.cons_append, List.nil_append]
  obtain ⟨hb1, hk⟩ := hk
  refine r_iret rfl rfl (nar_b hb1) ?_
  subst he
  exact ⟨rfl, rfl⟩

def f_X12_isThere (v0 : Int32) (v1 : Int32) (s : fl_I) (l : fl_L) : Int32 :=
  if ((f_X12_timesIn (f_X12_wordAt v0 s l) v1) ≤ 0) then (0 : Int32) else (1 : Int32)

def p_X12_isThere (v0 : Int32) (v1 : Int32) (s : fl_I) (l : fl_L) : Prop :=
  (p_X12_wordAt v0 s l) ∧ (p_X12_timesIn (f_X12_wordAt v0 s l) v1) ∧ ((((f_X12_timesIn (f_X12_wordAt v0 s l) v1) ≤ 0) → True) ∧ (¬ ((f_X12_timesIn (f_X12_wordAt v0 s l) v1) ≤ 0) → True))

set_option maxRecDepth 100000 in
set_option maxHeartbeats 4000000 in
theorem s_X12_isThere {G : ab_G} {d : Nat} {D : fl_D} {s : fl_I} {l : fl_L} {v0 : Int32} {v1 : Int32} (hk : p_X12_isThere v0 v1 s l) : ab_C G (d + 1) 0 0 M_X12_isThere 0 (ab_ent [.ref 60, .int v0, .int v1]) [] (hp D s l) (rt (some (.int (f_X12_isThere v0 v1 s l))) (hp D s l)) := by
  generalize he : (f_X12_isThere v0 v1 s l) = res
  unfold f_X12_isThere at he
  unfold p_X12_isThere at hk
  refine r_weak (L1 := [some (.ref 60), some (.int v0), some (.int v1)]) ⟨rfl, rfl, rfl, trivial⟩ ?_
  refine r_aload_n rfl rfl ?_
  refine r_iload_n rfl rfl ?_
  obtain ⟨hb0, hk⟩ := hk
  refine q_callV0 [_] _ rfl kY_X12_wordAt kT_X12_wordAt rfl rfl (Nat.le_of_ble_eq_true rfl) (Nat.le_of_ble_eq_true rfl) (cc_60 _) (s_X12_wordAt hb0) (fun r h q => ?_)
  obtain ⟨rfl, rfl⟩ := q
  simp only [Option.toList, List.cons_append, List.nil_append]
  refine r_iload_n rfl rfl ?_
  obtain ⟨hb1, hk⟩ := hk
  refine r_callS0 [_, _] _ rfl kY_X12_timesIn kT_X12_timesIn rfl rfl (Nat.le_of_ble_eq_true rfl) (Nat.le_of_ble_eq_true rfl) (s_X12_timesIn hb1) (fun r h q => ?_)
  obtain ⟨rfl, rfl⟩ := q
  simp only [Option.toList, List.cons_append, List.nil_append]
  refine r_if_le rfl (fun c_9 => ?_) (fun c_9 => ?_)
  · rw [if_pos c_9] at he
    replace hk := hk.1 c_9
    refine r_iconst_ (a := 0) rfl (by decide) ?_
    refine r_iret rfl rfl rfl ?_
    subst he
    exact ⟨rfl, rfl⟩
  · rw [if_neg c_9] at he
    replace hk := hk.2 c_9
    refine r_iconst_ (a := 1) rfl (by decide) ?_
    refine r_goto rfl ?_
    refine r_iret rfl rfl rfl ?_
    subst he
    exact ⟨rfl, rfl⟩

def f_X12_must (v0 : Int32) (s : fl_I) (l : fl_L) : fl_I × fl_L :=
  if ((f_X12_is v0 s l) = 0) then ((f_X12_fail (1 : Int32) s l).1, (f_X12_fail (1 : Int32) s l).2) else ((f_X12_goesOn s l).1, (f_X12_goesOn s l).2)

def p_X12_must (v0 : Int32) (s : fl_I) (l : fl_L) : Prop :=
  (p_X12_is v0 s l) ∧ ((((f_X12_is v0 s l) = 0) → (p_X12_fail (1 : Int32) s l) ∧ True) ∧ (¬ ((f_X12_is v0 s l) = 0) → (p_X12_goesOn s l) ∧ True))

set_option maxRecDepth 100000 in
set_option maxHeartbeats 4000000 in
theorem s_X12_must {G : ab_G} {d : Nat} {D : fl_D} {s : fl_I} {l : fl_L} {v0 : Int32} (hk : p_X12_must v0 s l) : ab_C G (d + 2) 0 0 M_X12_must 0 (ab_ent [.ref 60, .int v0]) [] (hp D s l) (rt none (hp D (f_X12_must v0 s l).1 (f_X12_must v0 s l).2)) := by
  generalize he : (f_X12_must v0 s l) = res
  unfold f_X12_must at he
  unfold p_X12_must at hk
  refine r_weak (L1 := [some (.ref 60), some (.int v0)]) ⟨rfl, rfl, trivial⟩ ?_
  refine r_aload_n rfl rfl ?_
  refine r_iload_n rfl rfl ?_
  obtain ⟨hb0, hk⟩ := hk
  refine q_callV0 [_] _ rfl kY_X12_is kT_X12_is rfl rfl (Nat.le_of_ble_eq_true rfl) (Nat.le_of_ble_eq_true rfl) (cc_60 _) (s_X12_is hb0) (fun r h q => ?_)
  obtain ⟨rfl, rfl⟩ := q
  simp only [Option.toList, List.cons_append, List.nil_append]
  refine r_if_eq rfl (fun c_5 => ?_) (fun c_5 => ?_)
  · rw [if_pos c_5] at he
    replace hk := hk.1 c_5
    refine r_aload_n rfl rfl ?_
    refine r_iconst_ (a := 1) rfl (by decide) ?_
    obtain ⟨hb1, hk⟩ := hk
    refine q_callV0 [_] _ rfl kY_X12_fail kT_X12_fail rfl rfl (Nat.le_of_ble_eq_true rfl) (Nat.le_of_ble_eq_true rfl) (cc_60 _) (s_X12_fail hb1) (fun r h q => ?_)
    obtain ⟨rfl, rfl⟩ := q
    simp only [Option.toList, List.cons_append, List.nil_append]
    refine r_ret rfl rfl ?_
    subst he
    exact ⟨rfl, rfl⟩
  · rw [if_neg c_5] at he
    replace hk := hk.2 c_5
    refine r_aload_n rfl rfl ?_
    obtain ⟨hb2, hk⟩ := hk
    refine q_callV0 [] _ rfl kY_X12_goesOn kT_X12_goesOn rfl rfl (Nat.le_of_ble_eq_true rfl) (Nat.le_of_ble_eq_true rfl) (cc_60 _) (s_X12_goesOn hb2) (fun r h q => ?_)
    obtain ⟨rfl, rfl⟩ := q
    simp only [Option.toList, List.cons_append, List.nil_append]
    refine r_goto rfl ?_
    refine r_ret rfl rfl ?_
    subst he
    exact ⟨rfl, rfl⟩

def f_X12_roomFor (v0 : Int32) (v1 : Int32) (s : fl_I) (l : fl_L) : fl_I × fl_L :=
  if (v0 = v1) then if (((f_X12_fail (2 : Int32) s l).1 60 13) = 0) then ((f_X12_goesOn (f_X12_fail (2 : Int32) s l).1 (f_X12_fail (2 : Int32) s l).2).1, (f_X12_goesOn (f_X12_fail (2 : Int32) s l).1 (f_X12_fail (2 : Int32) s l).2).2) else ((f_X12_fail (2 : Int32) s l).1, (f_X12_fail (2 : Int32) s l).2) else if ((s 60 13) = 0) then ((f_X12_goesOn s l).1, (f_X12_goesOn s l).2) else (s, l)

def p_X12_roomFor (v0 : Int32) (v1 : Int32) (s : fl_I) (l : fl_L) : Prop :=
  (((v0 = v1) → (p_X12_fail (2 : Int32) s l) ∧ (((((f_X12_fail (2 : Int32) s l).1 60 13) = 0) → (p_X12_goesOn (f_X12_fail (2 : Int32) s l).1 (f_X12_fail (2 : Int32) s l).2) ∧ True) ∧ (¬ (((f_X12_fail (2 : Int32) s l).1 60 13) = 0) → True))) ∧ (¬ (v0 = v1) → ((((s 60 13) = 0) → (p_X12_goesOn s l) ∧ True) ∧ (¬ ((s 60 13) = 0) → True))))

set_option maxRecDepth 100000 in
set_option maxHeartbeats 4000000 in
theorem s_X12_roomFor {G : ab_G} {d : Nat} {D : fl_D} {s : fl_I} {l : fl_L} {v0 : Int32} {v1 : Int32} (hk : p_X12_roomFor v0 v1 s l) : ab_C G (d + 2) 0 0 M_X12_roomFor 0 (ab_ent [.ref 60, .int v0, .int v1]) [] (hp D s l) (rt none (hp D (f_X12_roomFor v0 v1 s l).1 (f_X12_roomFor v0 v1 s l).2)) := by
  generalize he : (f_X12_roomFor v0 v1 s l) = res
  unfold f_X12_roomFor at he
  unfold p_X12_roomFor at hk
  refine r_weak (L1 := [some (.ref 60), some (.int v0), some (.int v1)]) ⟨rfl, rfl, rfl, trivial⟩ ?_
  refine r_iload_n rfl rfl ?_
  refine r_iload_n rfl rfl ?_
  refine r_icmp_ne rfl (fun c_2 => ?_) (fun c_2 => ?_)
  · rw [if_neg c_2] at he
    replace hk := hk.2 c_2
    refine r_aload_n rfl rfl ?_
    refine q_getfield rfl (cc_60 _) rfl ?_
    refine r_if_ne rfl (fun c_14 => ?_) (fun c_14 => ?_)
    · rw [if_neg c_14] at he
      replace hk := hk.2 c_14
      refine r_ret rfl rfl ?_
      subst he
      exact ⟨rfl, rfl⟩
    · rw [if_pos c_14] at he
      replace hk := hk.1 c_14
      refine r_aload_n rfl rfl ?_
      obtain ⟨hb0, hk⟩ := hk
      refine q_callV0 [] _ rfl kY_X12_goesOn kT_X12_goesOn rfl rfl (Nat.le_of_ble_eq_true rfl) (Nat.le_of_ble_eq_true rfl) (cc_60 _) (s_X12_goesOn hb0) (fun r h q => ?_)
      obtain ⟨rfl, rfl⟩ := q
      simp only [Option.toList, List.cons_append, List.nil_append]
      refine r_ret rfl rfl ?_
      subst he
      exact ⟨rfl, rfl⟩
  · rw [if_pos c_2] at he
    replace hk := hk.1 c_2
    refine r_aload_n rfl rfl ?_
    refine r_iconst_ (a := 2) rfl (by decide) ?_
    obtain ⟨hb1, hk⟩ := hk
    refine q_callV0 [_] _ rfl kY_X12_fail kT_X12_fail rfl rfl (Nat.le_of_ble_eq_true rfl) (Nat.le_of_ble_eq_true rfl) (cc_60 _) (s_X12_fail hb1) (fun r h q => ?_)
    obtain ⟨rfl, rfl⟩ := q
    simp only [Option.toList, List.cons_append, List.nil_append]
    refine r_aload_n rfl rfl ?_
    refine q_getfield rfl (cc_60 _) rfl ?_
    refine r_if_ne rfl (fun c_14 => ?_) (fun c_14 => ?_)
    · rw [if_neg c_14] at he
      replace hk := hk.2 c_14
      refine r_ret rfl rfl ?_
      subst he
      exact ⟨rfl, rfl⟩
    · rw [if_pos c_14] at he
      replace hk := hk.1 c_14
      refine r_aload_n rfl rfl ?_
      obtain ⟨hb2, hk⟩ := hk
      refine q_callV0 [] _ rfl kY_X12_goesOn kT_X12_goesOn rfl rfl (Nat.le_of_ble_eq_true rfl) (Nat.le_of_ble_eq_true rfl) (cc_60 _) (s_X12_goesOn hb2) (fun r h q => ?_)
      obtain ⟨rfl, rfl⟩ := q
      simp only [Option.toList, List.cons_append, List.nil_append]
      refine r_ret rfl rfl ?_
      subst he
      exact ⟨rfl, rfl⟩

def f_X12_toldInt (v0 : Int32) (v1 : Int32) (s : fl_I) (l : fl_L) : Int32 × fl_I × fl_L :=
  ((f_X12_bounded v0 v1 (f_X12_goesOn s l).1 (f_X12_goesOn s l).2).1, (f_X12_must (4 : Int32) (f_X12_bounded v0 v1 (f_X12_goesOn s l).1 (f_X12_goesOn s l).2).2.1 (f_X12_bounded v0 v1 (f_X12_goesOn s l).1 (f_X12_goesOn s l).2).2.2).1, (f_X12_must (4 : Int32) (f_X12_bounded v0 v1 (f_X12_goesOn s l).1 (f_X12_goesOn s l).2).2.1 (f_X12_bounded v0 v1 (f_X12_goesOn s l).1 (f_X12_goesOn s l).2).2.2).2)

def p_X12_toldInt (v0 : Int32) (v1 : Int32) (s : fl_I) (l : fl_L) : Prop :=
  (p_X12_goesOn s l) ∧ (p_X12_bounded v0 v1 (f_X12_goesOn s l).1 (f_X12_goesOn s l).2) ∧ (p_X12_must (4 : Int32) (f_X12_bounded v0 v1 (f_X12_goesOn s l).1 (f_X12_goesOn s l).2).2.1 (f_X12_bounded v0 v1 (f_X12_goesOn s l).1 (f_X12_goesOn s l).2).2.2) ∧ True

set_option maxRecDepth 100000 in
set_option maxHeartbeats 4000000 in
theorem s_X12_toldInt {G : ab_G} {d : Nat} {D : fl_D} {s : fl_I} {l : fl_L} {v0 : Int32} {v1 : Int32} (hk : p_X12_toldInt v0 v1 s l) : ab_C G (d + 3) 0 0 M_X12_toldInt 0 (ab_ent [.ref 60, .int v0, .int v1]) [] (hp D s l) (rt (some (.int (f_X12_toldInt v0 v1 s l).1)) (hp D (f_X12_toldInt v0 v1 s l).2.1 (f_X12_toldInt v0 v1 s l).2.2)) := by
  generalize he : (f_X12_toldInt v0 v1 s l) = res
  unfold f_X12_toldInt at he
  unfold p_X12_toldInt at hk
  refine r_weak (L1 := [some (.ref 60), some (.int v0), some (.int v1), none]) ⟨rfl, rfl, rfl, trivial⟩ ?_
  refine r_aload_n rfl rfl ?_
  obtain ⟨hb0, hk⟩ := hk
  refine q_callV0 [] _ rfl kY_X12_goesOn kT_X12_goesOn rfl rfl (Nat.le_of_ble_eq_true rfl) (Nat.le_of_ble_eq_true rfl) (cc_60 _) (s_X12_goesOn hb0) (fun r h q => ?_)
  obtain ⟨rfl, rfl⟩ := q
  simp only [Option.toList, List.cons_append, List.nil_append]
  refine r_aload_n rfl rfl ?_
  refine r_iload_n rfl rfl ?_
  refine r_iload_n rfl rfl ?_
  obtain ⟨hb1, hk⟩ := hk
  refine q_callV0 [_, _] _ rfl kY_X12_bounded kT_X12_bounded rfl rfl (Nat.le_of_ble_eq_true rfl) (Nat.le_of_ble_eq_true rfl) (cc_60 _) (s_X12_bounded hb1) (fun r h q => ?_)
  obtain ⟨rfl, rfl⟩ := q
  simp only [Option.toList, List.cons_append, List.nil_append]
  refine r_istore_n rfl (Nat.le_of_ble_eq_true rfl) rfl ?_
  refine r_aload_n rfl rfl ?_
  refine r_iconst_ (a := 4) rfl (by decide) ?_
  obtain ⟨hb2, hk⟩ := hk
  refine q_callV0 [_] _ rfl kY_X12_must kT_X12_must rfl rfl (Nat.le_of_ble_eq_true rfl) (Nat.le_of_ble_eq_true rfl) (cc_60 _) (s_X12_must hb2) (fun r h q => ?_)
  obtain ⟨rfl, rfl⟩ := q
  simp only [Option.toList, List.cons_append, List.nil_append]
  refine r_iload_n rfl rfl ?_
  refine r_iret rfl rfl rfl ?_
  subst he
  exact ⟨rfl, rfl⟩

def f_X11_rains (v1 : Int32) (v2 : Int32) (t : Nat) (s : fl_I) (l : fl_L) : Int32 :=
  if ((s t 17) ≤ (f_X11_lot (100 : Int32) v1 ((4 : Int32) * v2))) then (0 : Int32) else (1 : Int32)

def p_X11_rains (v1 : Int32) (v2 : Int32) (t : Nat) (s : fl_I) (l : fl_L) : Prop :=
  (p_X11_lot (100 : Int32) v1 ((4 : Int32) * v2)) ∧ ((((s t 17) ≤ (f_X11_lot (100 : Int32) v1 ((4 : Int32) * v2))) → True) ∧ (¬ ((s t 17) ≤ (f_X11_lot (100 : Int32) v1 ((4 : Int32) * v2))) → True))

set_option maxRecDepth 100000 in
set_option maxHeartbeats 4000000 in
theorem s_X11_rains {G : ab_G} {d : Nat} {D : fl_D} {s : fl_I} {l : fl_L} {t : Nat} (htt : isT t) {v1 : Int32} {v2 : Int32} (hk : p_X11_rains v1 v2 t s l) : ab_C G (d + 2) 0 0 M_X11_rains 0 (ab_ent [.ref t, .int v1, .int v2]) [] (hp D s l) (rt (some (.int (f_X11_rains v1 v2 t s l))) (hp D s l)) := by
  generalize he : (f_X11_rains v1 v2 t s l) = res
  unfold f_X11_rains at he
  unfold p_X11_rains at hk
  refine r_weak (L1 := [some (.ref t), some (.int v1), some (.int v2)]) ⟨rfl, rfl, rfl, trivial⟩ ?_
  refine r_bipush_ (a := 100) rfl (by decide) ?_
  refine r_iload_n rfl rfl ?_
  refine r_iconst_ (a := 4) rfl (by decide) ?_
  refine r_iload_n rfl rfl ?_
  refine r_imul rfl ?_
  obtain ⟨hb0, hk⟩ := hk
  refine r_callS0 [_, _, _] _ rfl kY_X11_lot kT_X11_lot rfl rfl (Nat.le_of_ble_eq_true rfl) (Nat.le_of_ble_eq_true rfl) (s_X11_lot hb0) (fun r h q => ?_)
  obtain ⟨rfl, rfl⟩ := q
  simp only [Option.toList, List.cons_append, List.nil_append]
  refine r_aload_n rfl rfl ?_
  refine q_getfield rfl (cT_0 htt) rfl ?_
  refine r_icmp_ge rfl (fun c_13 => ?_) (fun c_13 => ?_)
  · rw [if_pos c_13] at he
    replace hk := hk.1 c_13
    refine r_iconst_ (a := 0) rfl (by decide) ?_
    refine r_iret rfl rfl rfl ?_
    subst he
    exact ⟨rfl, rfl⟩
  · rw [if_neg c_13] at he
    replace hk := hk.2 c_13
    refine r_iconst_ (a := 1) rfl (by decide) ?_
    refine r_goto rfl ?_
    refine r_iret rfl rfl rfl ?_
    subst he
    exact ⟨rfl, rfl⟩

def f_X11_nameLength_2 : Nat → Int64 → Int32 → Int32
  | 0, _, _ => 0
  | n + 1, x0, x2 =>
    if ((8 : Int32) ≤ x2) then x2 else if ((f_X11_signAt x0 x2) = 0) then x2 else f_X11_nameLength_2 n x0 (x2 + 1)

def p_X11_nameLength_2 : Nat → Int64 → Int32 → Prop
  | 0, _, _ => False
  | n + 1, x0, x2 =>
    ((((8 : Int32) ≤ x2) → True) ∧ (¬ ((8 : Int32) ≤ x2) → (p_X11_signAt x0 x2) ∧ ((((f_X11_signAt x0 x2) = 0) → True) ∧ (¬ ((f_X11_signAt x0 x2) = 0) → p_X11_nameLength_2 n x0 (x2 + 1)))))

set_option maxRecDepth 100000 in
set_option maxHeartbeats 4000000 in
theorem lp_X11_nameLength_2 {G : ab_G} {d : Nat} {h : ab_H} : ∀ (n : Nat) (x0 : Int64) (x2 : Int32), p_X11_nameLength_2 n x0 x2 → ab_C G (d + 1) 0 0 M_X11_nameLength 2 [some (.long x0), none, some (.int x2)] [] h (rt (some (.int (f_X11_nameLength_2 n x0 x2))) h) := by
  intro n
  induction n with
  | zero => intro x0 x2 hk; exact hk.elim
  | succ n ih =>
    intro x0 x2 hk
    generalize he : f_X11_nameLength_2 (n + 1) x0 x2 = res
    unfold f_X11_nameLength_2 at he
    unfold p_X11_nameLength_2 at hk
    refine r_iload_n rfl rfl ?_
    refine r_bipush_ (a := 8) rfl (by decide) ?_
    refine r_icmp_ge rfl (fun c_5 => ?_) (fun c_5 => ?_)
    · rw [if_pos c_5] at he
      replace hk := hk.1 c_5
      refine r_iload_n rfl rfl ?_
      refine r_iret rfl rfl rfl ?_
      subst he
      exact ⟨rfl, rfl⟩
    · rw [if_neg c_5] at he
      replace hk := hk.2 c_5
      refine r_lload_n rfl rfl ?_
      refine r_iload_n rfl rfl ?_
      obtain ⟨hb0, hk⟩ := hk
      refine r_callS0 [_, _] _ rfl kY_X11_signAt kT_X11_signAt rfl rfl (Nat.le_of_ble_eq_true rfl) (Nat.le_of_ble_eq_true rfl) (s_X11_signAt hb0) (fun r h q => ?_)
      obtain ⟨rfl, rfl⟩ := q
      simp only [Option.toList, List.cons_append, List.nil_append]
      refine r_if_eq rfl (fun c_13 => ?_) (fun c_13 => ?_)
      · rw [if_pos c_13] at he
        replace hk := hk.1 c_13
        refine r_iload_n rfl rfl ?_
        refine r_iret rfl rfl rfl ?_
        subst he
        exact ⟨rfl, rfl⟩
      · rw [if_neg c_13] at he
        replace hk := hk.2 c_13
        refine r_iinc (b := x2 + 1) rfl rfl rfl (Nat.le_of_ble_eq_true rfl) rfl ?_
        refine r_goto rfl ?_
        subst he
        exact r_weak (L1 := [some (.long x0), none, some (.int (x2 + 1))]) ⟨rfl, rfl, trivial⟩ (ih _ _ hk)

def f_X11_nameLength (v0 : Int64) : Int32 :=
  f_X11_nameLength_2 fu v0 (0 : Int32)

def p_X11_nameLength (v0 : Int64) : Prop :=
  p_X11_nameLength_2 fu v0 (0 : Int32)

set_option maxRecDepth 100000 in
set_option maxHeartbeats 4000000 in
theorem s_X11_nameLength {G : ab_G} {d : Nat} {h : ab_H} {v0 : Int64} (hk : p_X11_nameLength v0) : ab_C G (d + 1) 0 0 M_X11_nameLength 0 (ab_ent [.long v0]) [] h (rt (some (.int (f_X11_nameLength v0))) h) := by
  generalize he : (f_X11_nameLength v0) = res
  unfold f_X11_nameLength at he
  unfold p_X11_nameLength at hk
  refine r_weak (L1 := [some (.long v0), none, none]) ⟨rfl, trivial⟩ ?_
  refine r_iconst_ (a := 0) rfl (by decide) ?_
  refine r_istore_n rfl (Nat.le_of_ble_eq_true rfl) rfl ?_
  subst he
  exact r_weak (L1 := [some (.long v0), none, some (.int (0 : Int32))]) ⟨rfl, rfl, trivial⟩ (lp_X11_nameLength_2 fu _ _ hk)

def f_X11_lies (v0 : Int32) (v1 : Int32) (s : fl_I) (l : fl_L) : Int32 :=
  if ((f_X11_isCell v0 v1) = 0) then (-1 : Int32) else (f_X10_countAt (((10 : Int32) * v1) + v0) 31 s l)

def p_X11_lies (v0 : Int32) (v1 : Int32) (s : fl_I) (l : fl_L) : Prop :=
  (p_X11_isCell v0 v1) ∧ ((((f_X11_isCell v0 v1) = 0) → True) ∧ (¬ ((f_X11_isCell v0 v1) = 0) → (p_X10_countAt (((10 : Int32) * v1) + v0) 31 s l) ∧ True))

set_option maxRecDepth 100000 in
set_option maxHeartbeats 4000000 in
theorem s_X11_lies {G : ab_G} {d : Nat} {D : fl_D} {s : fl_I} {l : fl_L} {v0 : Int32} {v1 : Int32} (hk : p_X11_lies v0 v1 s l) : ab_C G (d + 1) 0 0 M_X11_lies 0 (ab_ent [.ref 0, .int v0, .int v1]) [] (hp D s l) (rt (some (.int (f_X11_lies v0 v1 s l))) (hp D s l)) := by
  generalize he : (f_X11_lies v0 v1 s l) = res
  unfold f_X11_lies at he
  unfold p_X11_lies at hk
  refine r_weak (L1 := [some (.ref 0), some (.int v0), some (.int v1)]) ⟨rfl, rfl, rfl, trivial⟩ ?_
  refine r_iload_n rfl rfl ?_
  refine r_iload_n rfl rfl ?_
  obtain ⟨hb0, hk⟩ := hk
  refine r_callS0 [_, _] _ rfl kY_X11_isCell kT_X11_isCell rfl rfl (Nat.le_of_ble_eq_true rfl) (Nat.le_of_ble_eq_true rfl) (s_X11_isCell hb0) (fun r h q => ?_)
  obtain ⟨rfl, rfl⟩ := q
  simp only [Option.toList, List.cons_append, List.nil_append]
  refine r_if_ne rfl (fun c_5 => ?_) (fun c_5 => ?_)
  · rw [if_neg c_5] at he
    replace hk := hk.2 c_5
    refine r_aload_n rfl rfl ?_
    refine q_getfield rfl (cc_0 _) rfl ?_
    refine r_bipush_ (a := 10) rfl (by decide) ?_
    refine r_iload_n rfl rfl ?_
    refine r_imul rfl ?_
    refine r_iload_n rfl rfl ?_
    refine r_iadd rfl ?_
    obtain ⟨hb1, hk⟩ := hk
    refine q_callV0 [_] _ rfl kY_X10_countAt kT_X10_countAt rfl rfl (Nat.le_of_ble_eq_true rfl) (Nat.le_of_ble_eq_true rfl) (cc_31 _) (s_X10_countAt (Or.inl rfl) hb1) (fun r h q => ?_)
    obtain ⟨rfl, rfl⟩ := q
    simp only [Option.toList, List.cons_append, List.nil_append]
    refine r_iret rfl rfl rfl ?_
    subst he
    exact ⟨rfl, rfl⟩
  · rw [if_pos c_5] at he
    replace hk := hk.1 c_5
    refine r_iconst_ (a := -1) rfl (by decide) ?_
    refine r_iret rfl rfl rfl ?_
    subst he
    exact ⟨rfl, rfl⟩

def f_X7_hasSign_2 : Nat → Int64 → Int32 → Int32 → Int32
  | 0, _, _, _ => 0
  | n + 1, x0, x2, x3 =>
    if ((8 : Int32) ≤ x3) then (0 : Int32) else if ((f_X11_signAt x0 x3) = x2) then (1 : Int32) else f_X7_hasSign_2 n x0 x2 (x3 + 1)

def p_X7_hasSign_2 : Nat → Int64 → Int32 → Int32 → Prop
  | 0, _, _, _ => False
  | n + 1, x0, x2, x3 =>
    ((((8 : Int32) ≤ x3) → True) ∧ (¬ ((8 : Int32) ≤ x3) → (p_X11_signAt x0 x3) ∧ ((((f_X11_signAt x0 x3) = x2) → True) ∧ (¬ ((f_X11_signAt x0 x3) = x2) → p_X7_hasSign_2 n x0 x2 (x3 + 1)))))

set_option maxRecDepth 100000 in
set_option maxHeartbeats 4000000 in
theorem lp_X7_hasSign_2 {G : ab_G} {d : Nat} {h : ab_H} : ∀ (n : Nat) (x0 : Int64) (x2 : Int32) (x3 : Int32), p_X7_hasSign_2 n x0 x2 x3 → ab_C G (d + 1) 0 0 M_X7_hasSign 2 [some (.long x0), none, some (.int x2), some (.int x3)] [] h (rt (some (.int (f_X7_hasSign_2 n x0 x2 x3))) h) := by
  intro n
  induction n with
  | zero => intro x0 x2 x3 hk; exact hk.elim
  | succ n ih =>
    intro x0 x2 x3 hk
    generalize he : f_X7_hasSign_2 (n + 1) x0 x2 x3 = res
    unfold f_X7_hasSign_2 at he
    unfold p_X7_hasSign_2 at hk
    refine r_iload_n rfl rfl ?_
    refine r_bipush_ (a := 8) rfl (by decide) ?_
    refine r_icmp_ge rfl (fun c_5 => ?_) (fun c_5 => ?_)
    · rw [if_pos c_5] at he
      replace hk := hk.1 c_5
      refine r_iconst_ (a := 0) rfl (by decide) ?_
      refine r_iret rfl rfl rfl ?_
      subst he
      exact ⟨rfl, rfl⟩
    · rw [if_neg c_5] at he
      replace hk := hk.2 c_5
      refine r_lload_n rfl rfl ?_
      refine r_iload_n rfl rfl ?_
      obtain ⟨hb0, hk⟩ := hk
      refine r_callSN0 [_, _] _ rfl kY_X11_signAt kT_X11_signAt rfl rfl (Nat.le_of_ble_eq_true rfl) (Nat.le_of_ble_eq_true rfl) (s_X11_signAt hb0) (fun r h q => ?_)
      obtain ⟨rfl, rfl⟩ := q
      simp only [Option.toList, List.cons_append, List.nil_append]
      refine r_iload_n rfl rfl ?_
      refine r_icmp_ne rfl (fun c_14 => ?_) (fun c_14 => ?_)
      · rw [if_neg c_14] at he
        replace hk := hk.2 c_14
        refine r_iinc (b := x3 + 1) rfl rfl rfl (Nat.le_of_ble_eq_true rfl) rfl ?_
        refine r_goto rfl ?_
        subst he
        exact r_weak (L1 := [some (.long x0), none, some (.int x2), some (.int (x3 + 1))]) ⟨rfl, rfl, rfl, trivial⟩ (ih _ _ _ hk)
      · rw [if_pos c_14] at he
        replace hk := hk.1 c_14
        refine r_iconst_ (a := 1) rfl (by decide) ?_
        refine r_iret rfl rfl rfl ?_
        subst he
        exact ⟨rfl, rfl⟩

def f_X7_hasSign (v0 : Int64) (v1 : Int32) : Int32 :=
  f_X7_hasSign_2 fu v0 v1 (0 : Int32)

def p_X7_hasSign (v0 : Int64) (v1 : Int32) : Prop :=
  p_X7_hasSign_2 fu v0 v1 (0 : Int32)

set_option maxRecDepth 100000 in
set_option maxHeartbeats 4000000 in
theorem s_X7_hasSign {G : ab_G} {d : Nat} {h : ab_H} {v0 : Int64} {v1 : Int32} (hk : p_X7_hasSign v0 v1) : ab_C G (d + 1) 0 0 M_X7_hasSign 0 (ab_ent [.long v0, .int v1]) [] h (rt (some (.int (f_X7_hasSign v0 v1))) h) := by
  generalize he : (f_X7_hasSign v0 v1) = res
  unfold f_X7_hasSign at he
  unfold p_X7_hasSign at hk
  refine r_weak (L1 := [some (.long v0), none, some (.int v1), none]) ⟨rfl, rfl, trivial⟩ ?_
  refine r_iconst_ (a := 0) rfl (by decide) ?_
  refine r_istore_n rfl (Nat.le_of_ble_eq_true rfl) rfl ?_
  subst he
  exact r_weak (L1 := [some (.long v0), none, some (.int v1), some (.int (0 : Int32))]) ⟨rfl, rfl, rfl, trivial⟩ (lp_X7_hasSign_2 fu _ _ _ hk)

def f_X12_lies (v0 : Int32) (v1 : Int32) (s : fl_I) (l : fl_L) : Int32 × fl_I × fl_L :=
  if ((f_X12_isCell v0 v1) = 0) then ((-1 : Int32), s, l) else ((f_X12_lieAt (((10 : Int32) * v1) + v0) (f_X12_copies s l).1 (f_X12_copies s l).2), (f_X12_copies s l).1, (f_X12_copies s l).2)

def p_X12_lies (v0 : Int32) (v1 : Int32) (s : fl_I) (l : fl_L) : Prop :=
  (p_X12_isCell v0 v1) ∧ ((((f_X12_isCell v0 v1) = 0) → True) ∧ (¬ ((f_X12_isCell v0 v1) = 0) → (p_X12_copies s l) ∧ (p_X12_lieAt (((10 : Int32) * v1) + v0) (f_X12_copies s l).1 (f_X12_copies s l).2) ∧ True))

set_option maxRecDepth 100000 in
set_option maxHeartbeats 4000000 in
theorem s_X12_lies {G : ab_G} {d : Nat} {D : fl_D} {s : fl_I} {l : fl_L} {v0 : Int32} {v1 : Int32} (hk : p_X12_lies v0 v1 s l) : ab_C G (d + 2) 0 0 M_X12_lies 0 (ab_ent [.ref 60, .int v0, .int v1]) [] (hp D s l) (rt (some (.int (f_X12_lies v0 v1 s l).1)) (hp D (f_X12_lies v0 v1 s l).2.1 (f_X12_lies v0 v1 s l).2.2)) := by
  generalize he : (f_X12_lies v0 v1 s l) = res
  unfold f_X12_lies at he
  unfold p_X12_lies at hk
  refine r_weak (L1 := [some (.ref 60), some (.int v0), some (.int v1)]) ⟨rfl, rfl, rfl, trivial⟩ ?_
  refine r_iload_n rfl rfl ?_
  refine r_iload_n rfl rfl ?_
  obtain ⟨hb0, hk⟩ := hk
  refine r_callS0 [_, _] _ rfl kY_X12_isCell kT_X12_isCell rfl rfl (Nat.le_of_ble_eq_true rfl) (Nat.le_of_ble_eq_true rfl) (s_X12_isCell hb0) (fun r h q => ?_)
  obtain ⟨rfl, rfl⟩ := q
  simp only [Option.toList, List.cons_append, List.nil_append]
  refine r_if_ne rfl (fun c_5 => ?_) (fun c_5 => ?_)
  · rw [if_neg c_5] at he
    replace hk := hk.2 c_5
    refine r_aload_n rfl rfl ?_
    obtain ⟨hb1, hk⟩ := hk
    refine q_callV0 [] _ rfl kY_X12_copies kT_X12_copies rfl rfl (Nat.le_of_ble_eq_true rfl) (Nat.le_of_ble_eq_true rfl) (cc_60 _) (s_X12_copies hb1) (fun r h q => ?_)
    obtain ⟨rfl, rfl⟩ := q
    simp only [Option.toList, List.cons_append, List.nil_append]
    refine r_aload_n rfl rfl ?_
    refine r_bipush_ (a := 10) rfl (by decide) ?_
    refine r_iload_n rfl rfl ?_
    refine r_imul rfl ?_
    refine r_iload_n rfl rfl ?_
    refine r_iadd rfl ?_
    obtain ⟨hb2, hk⟩ := hk
    refine q_callV0 [_] _ rfl kY_X12_lieAt kT_X12_lieAt rfl rfl (Nat.le_of_ble_eq_true rfl) (Nat.le_of_ble_eq_true rfl) (cc_60 _) (s_X12_lieAt hb2) (fun r h q => ?_)
    obtain ⟨rfl, rfl⟩ := q
    simp only [Option.toList, List.cons_append, List.nil_append]
    refine r_iret rfl rfl rfl ?_
    subst he
    exact ⟨rfl, rfl⟩
  · rw [if_pos c_5] at he
    replace hk := hk.1 c_5
    refine r_iconst_ (a := -1) rfl (by decide) ?_
    refine r_iret rfl rfl rfl ?_
    subst he
    exact ⟨rfl, rfl⟩

def f_X12_missing (v0 : Int32) (v1 : Int32) (s : fl_I) (l : fl_L) : Int32 × fl_I × fl_L :=
  if ((f_X12_isWord v0 s l) = 0) then ((-1 : Int32), s, l) else if ((f_X12_isHeap v1 s l) = 0) then ((-1 : Int32), s, l) else ((f_X12_missingOf v0 (f_X12_fillsHeap v1 s l).1 (f_X12_fillsHeap v1 s l).2), (f_X12_fillsHeap v1 s l).1, (f_X12_fillsHeap v1 s l).2)

def p_X12_missing (v0 : Int32) (v1 : Int32) (s : fl_I) (l : fl_L) : Prop :=
  (p_X12_isWord v0 s l) ∧ ((((f_X12_isWord v0 s l) = 0) → True) ∧ (¬ ((f_X12_isWord v0 s l) = 0) → (p_X12_isHeap v1 s l) ∧ ((((f_X12_isHeap v1 s l) = 0) → True) ∧ (¬ ((f_X12_isHeap v1 s l) = 0) → (p_X12_fillsHeap v1 s l) ∧ (p_X12_missingOf v0 (f_X12_fillsHeap v1 s l).1 (f_X12_fillsHeap v1 s l).2) ∧ True))))

set_option maxRecDepth 100000 in
set_option maxHeartbeats 4000000 in
theorem s_X12_missing {G : ab_G} {d : Nat} {D : fl_D} {s : fl_I} {l : fl_L} {v0 : Int32} {v1 : Int32} (hk : p_X12_missing v0 v1 s l) : ab_C G (d + 3) 0 0 M_X12_missing 0 (ab_ent [.ref 60, .int v0, .int v1]) [] (hp D s l) (rt (some (.int (f_X12_missing v0 v1 s l).1)) (hp D (f_X12_missing v0 v1 s l).2.1 (f_X12_missing v0 v1 s l).2.2)) := by
  generalize he : (f_X12_missing v0 v1 s l) = res
  unfold f_X12_missing at he
  unfold p_X12_missing at hk
  refine r_weak (L1 := [some (.ref 60), some (.int v0), some (.int v1)]) ⟨rfl, rfl, rfl, trivial⟩ ?_
  refine r_aload_n rfl rfl ?_
  refine r_iload_n rfl rfl ?_
  obtain ⟨hb0, hk⟩ := hk
  refine q_callV0 [_] _ rfl kY_X12_isWord kT_X12_isWord rfl rfl (Nat.le_of_ble_eq_true rfl) (Nat.le_of_ble_eq_true rfl) (cc_60 _) (s_X12_isWord hb0) (fun r h q => ?_)
  obtain ⟨rfl, rfl⟩ := q
  simp only [Option.toList, List.cons_append, List.nil_append]
  refine r_if_eq rfl (fun c_5 => ?_) (fun c_5 => ?_)
  · rw [if_pos c_5] at he
    replace hk := hk.1 c_5
    refine r_iconst_ (a := -1) rfl (by decide) ?_
    refine r_iret rfl rfl rfl ?_
    subst he
    exact ⟨rfl, rfl⟩
  · rw [if_neg c_5] at he
    replace hk := hk.2 c_5
    refine r_aload_n rfl rfl ?_
    refine r_iload_n rfl rfl ?_
    obtain ⟨hb1, hk⟩ := hk
    refine q_callV0 [_] _ rfl kY_X12_isHeap kT_X12_isHeap rfl rfl (Nat.le_of_ble_eq_true rfl) (Nat.le_of_ble_eq_true rfl) (cc_60 _) (s_X12_isHeap hb1) (fun r h q => ?_)
    obtain ⟨rfl, rfl⟩ := q
    simp only [Option.toList, List.cons_append, List.nil_append]
    refine r_if_ne rfl (fun c_13 => ?_) (fun c_13 => ?_)
    · rw [if_neg c_13] at he
      replace hk := hk.2 c_13
      refine r_aload_n rfl rfl ?_
      refine r_iload_n rfl rfl ?_
      obtain ⟨hb2, hk⟩ := hk
      refine q_callV0 [_] _ rfl kY_X12_fillsHeap kT_X12_fillsHeap rfl rfl (Nat.le_of_ble_eq_true rfl) (Nat.le_of_ble_eq_true rfl) (cc_60 _) (s_X12_fillsHeap hb2) (fun r h q => ?_)
      obtain ⟨rfl, rfl⟩ := q
      simp only [Option.toList, List.cons_append, List.nil_append]
      refine r_aload_n rfl rfl ?_
      refine r_iload_n rfl rfl ?_
      obtain ⟨hb3, hk⟩ := hk
      refine q_callV0 [_] _ rfl kY_X12_missingOf kT_X12_missingOf rfl rfl (Nat.le_of_ble_eq_true rfl) (Nat.le_of_ble_eq_true rfl) (cc_60 _) (s_X12_missingOf hb3) (fun r h q => ?_)
      obtain ⟨rfl, rfl⟩ := q
      simp only [Option.toList, List.cons_append, List.nil_append]
      refine r_iret rfl rfl rfl ?_
      subst he
      exact ⟨rfl, rfl⟩
    · rw [if_pos c_13] at he
      replace hk := hk.1 c_13
      refine r_iconst_ (a := -1) rfl (by decide) ?_
      refine r_iret rfl rfl rfl ?_
      subst he
      exact ⟨rfl, rfl⟩

def f_X11_tell (v0 : Int32) (v1 : Int32) (s : fl_I) (l : fl_L) : Int32 × fl_I × fl_L :=
  if (v0 < (1 : Int32)) then ((-1 : Int32), s, l) else if ((26 : Int32) < v0) then ((-1 : Int32), s, l) else if ((s 57 0) < (20 : Int32)) then ((f_X7_add v0 v1 s l).1, (f_X7_add v0 v1 s l).2.1, (f_X7_add v0 v1 s l).2.2) else ((-1 : Int32), s, l)

def p_X11_tell (v0 : Int32) (v1 : Int32) (s : fl_I) (l : fl_L) : Prop :=
  (((v0 < (1 : Int32)) → True) ∧ (¬ (v0 < (1 : Int32)) → ((((26 : Int32) < v0) → True) ∧ (¬ ((26 : Int32) < v0) → ((((s 57 0) < (20 : Int32)) → (p_X7_add v0 v1 s l) ∧ True) ∧ (¬ ((s 57 0) < (20 : Int32)) → True))))))

set_option maxRecDepth 100000 in
set_option maxHeartbeats 4000000 in
theorem s_X11_tell {G : ab_G} {d : Nat} {D : fl_D} {s : fl_I} {l : fl_L} {v0 : Int32} {v1 : Int32} (hk : p_X11_tell v0 v1 s l) : ab_C G (d + 1) 0 0 M_X11_tell 0 (ab_ent [.ref 0, .int v0, .int v1]) [] (hp D s l) (rt (some (.int (f_X11_tell v0 v1 s l).1)) (hp D (f_X11_tell v0 v1 s l).2.1 (f_X11_tell v0 v1 s l).2.2)) := by
  generalize he : (f_X11_tell v0 v1 s l) = res
  unfold f_X11_tell at he
  unfold p_X11_tell at hk
  refine r_weak (L1 := [some (.ref 0), some (.int v0), some (.int v1)]) ⟨rfl, rfl, rfl, trivial⟩ ?_
  refine r_iload_n rfl rfl ?_
  refine r_iconst_ (a := 1) rfl (by decide) ?_
  refine r_icmp_lt rfl (fun c_2 => ?_) (fun c_2 => ?_)
  · rw [if_pos c_2] at he
    replace hk := hk.1 c_2
    refine r_iconst_ (a := -1) rfl (by decide) ?_
    refine r_iret rfl rfl rfl ?_
    subst he
    exact ⟨rfl, rfl⟩
  · rw [if_neg c_2] at he
    replace hk := hk.2 c_2
    refine r_iload_n rfl rfl ?_
    refine r_bipush_ (a := 26) rfl (by decide) ?_
    refine r_icmp_gt rfl (fun c_8 => ?_) (fun c_8 => ?_)
    · rw [if_pos c_8] at he
      replace hk := hk.1 c_8
      refine r_iconst_ (a := -1) rfl (by decide) ?_
      refine r_iret rfl rfl rfl ?_
      subst he
      exact ⟨rfl, rfl⟩
    · rw [if_neg c_8] at he
      replace hk := hk.2 c_8
      refine r_aload_n rfl rfl ?_
      refine q_getfield rfl (cc_0 _) rfl ?_
      refine q_getfield rfl (cc_57 _) rfl ?_
      refine r_bipush_ (a := 20) rfl (by decide) ?_
      refine r_icmp_lt rfl (fun c_20 => ?_) (fun c_20 => ?_)
      · rw [if_pos c_20] at he
        replace hk := hk.1 c_20
        refine r_aload_n rfl rfl ?_
        refine q_getfield rfl (cc_0 _) rfl ?_
        refine r_iload_n rfl rfl ?_
        refine r_iload_n rfl rfl ?_
        obtain ⟨hb0, hk⟩ := hk
        refine q_callV0 [_, _] _ rfl kY_X7_add kT_X7_add rfl rfl (Nat.le_of_ble_eq_true rfl) (Nat.le_of_ble_eq_true rfl) (cc_57 _) (s_X7_add hb0) (fun r h q => ?_)
        obtain ⟨rfl, rfl⟩ := q
        simp only [Option.toList, List.cons_append, List.nil_append]
        refine r_iret rfl rfl rfl ?_
        subst he
        exact ⟨rfl, rfl⟩
      · rw [if_neg c_20] at he
        replace hk := hk.2 c_20
        refine r_iconst_ (a := -1) rfl (by decide) ?_
        refine r_iret rfl rfl rfl ?_
        subst he
        exact ⟨rfl, rfl⟩

def f_X3_takeInt (v0 : Int32) (v1 : Int32) (s : fl_I) (l : fl_L) : Int32 × fl_I × fl_L :=
  if (((wi s 3 6 (f_X3_valueNow s l).toInt32) 3 6) < v0) then ((f_X3_take (3 : Int32) (f_X3_noteLater (5 : Int32) (wi s 3 6 (f_X3_valueNow s l).toInt32) l).1 (f_X3_noteLater (5 : Int32) (wi s 3 6 (f_X3_valueNow s l).toInt32) l).2).1, (f_X3_take (3 : Int32) (f_X3_noteLater (5 : Int32) (wi s 3 6 (f_X3_valueNow s l).toInt32) l).1 (f_X3_noteLater (5 : Int32) (wi s 3 6 (f_X3_valueNow s l).toInt32) l).2).2.1, (f_X3_take (3 : Int32) (f_X3_noteLater (5 : Int32) (wi s 3 6 (f_X3_valueNow s l).toInt32) l).1 (f_X3_noteLater (5 : Int32) (wi s 3 6 (f_X3_valueNow s l).toInt32) l).2).2.2) else if (((wi s 3 6 (f_X3_valueNow s l).toInt32) 3 6) ≤ v1) then ((f_X3_take (3 : Int32) (wi s 3 6 (f_X3_valueNow s l).toInt32) l).1, (f_X3_take (3 : Int32) (wi s 3 6 (f_X3_valueNow s l).toInt32) l).2.1, (f_X3_take (3 : Int32) (wi s 3 6 (f_X3_valueNow s l).toInt32) l).2.2) else ((f_X3_take (3 : Int32) (f_X3_noteLater (5 : Int32) (wi s 3 6 (f_X3_valueNow s l).toInt32) l).1 (f_X3_noteLater (5 : Int32) (wi s 3 6 (f_X3_valueNow s l).toInt32) l).2).1, (f_X3_take (3 : Int32) (f_X3_noteLater (5 : Int32) (wi s 3 6 (f_X3_valueNow s l).toInt32) l).1 (f_X3_noteLater (5 : Int32) (wi s 3 6 (f_X3_valueNow s l).toInt32) l).2).2.1, (f_X3_take (3 : Int32) (f_X3_noteLater (5 : Int32) (wi s 3 6 (f_X3_valueNow s l).toInt32) l).1 (f_X3_noteLater (5 : Int32) (wi s 3 6 (f_X3_valueNow s l).toInt32) l).2).2.2)

def p_X3_takeInt (v0 : Int32) (v1 : Int32) (s : fl_I) (l : fl_L) : Prop :=
  (p_X3_valueNow s l) ∧ (((((wi s 3 6 (f_X3_valueNow s l).toInt32) 3 6) < v0) → (p_X3_noteLater (5 : Int32) (wi s 3 6 (f_X3_valueNow s l).toInt32) l) ∧ (p_X3_take (3 : Int32) (f_X3_noteLater (5 : Int32) (wi s 3 6 (f_X3_valueNow s l).toInt32) l).1 (f_X3_noteLater (5 : Int32) (wi s 3 6 (f_X3_valueNow s l).toInt32) l).2) ∧ ((f_X3_take (3 : Int32) (f_X3_noteLater (5 : Int32) (wi s 3 6 (f_X3_valueNow s l).toInt32) l).1 (f_X3_noteLater (5 : Int32) (wi s 3 6 (f_X3_valueNow s l).toInt32) l).2).1 = 0 ∨ (f_X3_take (3 : Int32) (f_X3_noteLater (5 : Int32) (wi s 3 6 (f_X3_valueNow s l).toInt32) l).1 (f_X3_noteLater (5 : Int32) (wi s 3 6 (f_X3_valueNow s l).toInt32) l).2).1 = 1) ∧ True) ∧ (¬ (((wi s 3 6 (f_X3_valueNow s l).toInt32) 3 6) < v0) → (((((wi s 3 6 (f_X3_valueNow s l).toInt32) 3 6) ≤ v1) → (p_X3_take (3 : Int32) (wi s 3 6 (f_X3_valueNow s l).toInt32) l) ∧ ((f_X3_take (3 : Int32) (wi s 3 6 (f_X3_valueNow s l).toInt32) l).1 = 0 ∨ (f_X3_take (3 : Int32) (wi s 3 6 (f_X3_valueNow s l).toInt32) l).1 = 1) ∧ True) ∧ (¬ (((wi s 3 6 (f_X3_valueNow s l).toInt32) 3 6) ≤ v1) → (p_X3_noteLater (5 : Int32) (wi s 3 6 (f_X3_valueNow s l).toInt32) l) ∧ (p_X3_take (3 : Int32) (f_X3_noteLater (5 : Int32) (wi s 3 6 (f_X3_valueNow s l).toInt32) l).1 (f_X3_noteLater (5 : Int32) (wi s 3 6 (f_X3_valueNow s l).toInt32) l).2) ∧ ((f_X3_take (3 : Int32) (f_X3_noteLater (5 : Int32) (wi s 3 6 (f_X3_valueNow s l).toInt32) l).1 (f_X3_noteLater (5 : Int32) (wi s 3 6 (f_X3_valueNow s l).toInt32) l).2).1 = 0 ∨ (f_X3_take (3 : Int32) (f_X3_noteLater (5 : Int32) (wi s 3 6 (f_X3_valueNow s l).toInt32) l).1 (f_X3_noteLater (5 : Int32) (wi s 3 6 (f_X3_valueNow s l).toInt32) l).2).1 = 1) ∧ True))))

set_option maxRecDepth 100000 in
set_option maxHeartbeats 4000000 in
theorem s_X3_takeInt {G : ab_G} {d : Nat} {D : fl_D} {s : fl_I} {l : fl_L} {v0 : Int32} {v1 : Int32} (hk : p_X3_takeInt v0 v1 s l) : ab_C G (d + 2) 0 0 M_X3_takeInt 0 (ab_ent [.ref 3, .int v0, .int v1]) [] (hp D s l) (rt (some (.int (f_X3_takeInt v0 v1 s l).1)) (hp D (f_X3_takeInt v0 v1 s l).2.1 (f_X3_takeInt v0 v1 s l).2.2)) := by
  generalize he : (f_X3_takeInt v0 v1 s l) = res
  unfold f_X3_takeInt at he
  unfold p_X3_takeInt at hk
  refine r_weak (L1 := [some (.ref 3), some (.int v0), some (.int v1)]) ⟨rfl, rfl, rfl, trivial⟩ ?_
  refine r_aload_n rfl rfl ?_
  refine r_aload_n rfl rfl ?_
  obtain ⟨hb0, hk⟩ := hk
  refine q_callV0 [] _ rfl kY_X3_valueNow kT_X3_valueNow rfl rfl (Nat.le_of_ble_eq_true rfl) (Nat.le_of_ble_eq_true rfl) (cc_3 _) (s_X3_valueNow hb0) (fun r h q => ?_)
  obtain ⟨rfl, rfl⟩ := q
  simp only [Option.toList, List.cons_append, List.nil_append]
  refine r_l2i rfl ?_
  refine w_put rfl (cc_3 _) ff_3_6 ft_3_6 (Nat.le_of_ble_eq_true rfl) rfl ?_
  refine r_aload_n rfl rfl ?_
  refine q_getfield rfl (cc_3 _) rfl ?_
  refine r_iload_n rfl rfl ?_
  refine r_icmp_lt rfl (fun c_14 => ?_) (fun c_14 => ?_)
  · rw [if_pos c_14] at he
    replace hk := hk.1 c_14
    refine r_aload_n rfl rfl ?_
    refine r_iconst_ (a := 5) rfl (by decide) ?_
    obtain ⟨hb1, hk⟩ := hk
    refine q_callV0 [_] _ rfl kY_X3_noteLater kT_X3_noteLater rfl rfl (Nat.le_of_ble_eq_true rfl) (Nat.le_of_ble_eq_true rfl) (cc_3 _) (s_X3_noteLater hb1) (fun r h q => ?_)
    obtain ⟨rfl, rfl⟩ := q
    simp only [Option.toList, List.cons_append, List.nil_append]
    refine r_aload_n rfl rfl ?_
    refine r_iconst_ (a := 3) rfl (by decide) ?_
    obtain ⟨hb2, hk⟩ := hk
    refine q_callV0 [_] _ rfl kY_X3_take kT_X3_take rfl rfl (Nat.le_of_ble_eq_true rfl) (Nat.le_of_ble_eq_true rfl) (cc_3 _) (s_X3_take hb2) (fun r h q => ?_)
    obtain ⟨rfl, rfl⟩ := q
    simp only [Option.toList, List.cons_append, List.nil_append]
    obtain ⟨hb3, hk⟩ := hk
    refine r_iret rfl rfl (nar_b hb3) ?_
    subst he
    exact ⟨rfl, rfl⟩
  · rw [if_neg c_14] at he
    replace hk := hk.2 c_14
    refine r_aload_n rfl rfl ?_
    refine q_getfield rfl (cc_3 _) rfl ?_
    refine r_iload_n rfl rfl ?_
    refine r_icmp_le rfl (fun c_22 => ?_) (fun c_22 => ?_)
    · rw [if_pos c_22] at he
      replace hk := hk.1 c_22
      refine r_aload_n rfl rfl ?_
      refine r_iconst_ (a := 3) rfl (by decide) ?_
      obtain ⟨hb4, hk⟩ := hk
      refine q_callV0 [_] _ rfl kY_X3_take kT_X3_take rfl rfl (Nat.le_of_ble_eq_true rfl) (Nat.le_of_ble_eq_true rfl) (cc_3 _) (s_X3_take hb4) (fun r h q => ?_)
      obtain ⟨rfl, rfl⟩ := q
      simp only [Option.toList, List.cons_append, List.nil_append]
      obtain ⟨hb5, hk⟩ := hk
      refine r_iret rfl rfl (nar_b hb5) ?_
      subst he
      exact ⟨rfl, rfl⟩
    · rw [if_neg c_22] at he
      replace hk := hk.2 c_22
      refine r_aload_n rfl rfl ?_
      refine r_iconst_ (a := 5) rfl (by decide) ?_
      obtain ⟨hb6, hk⟩ := hk
      refine q_callV0 [_] _ rfl kY_X3_noteLater kT_X3_noteLater rfl rfl (Nat.le_of_ble_eq_true rfl) (Nat.le_of_ble_eq_true rfl) (cc_3 _) (s_X3_noteLater hb6) (fun r h q => ?_)
      obtain ⟨rfl, rfl⟩ := q
      simp only [Option.toList, List.cons_append, List.nil_append]
      refine r_aload_n rfl rfl ?_
      refine r_iconst_ (a := 3) rfl (by decide) ?_
      obtain ⟨hb7, hk⟩ := hk
      refine q_callV0 [_] _ rfl kY_X3_take kT_X3_take rfl rfl (Nat.le_of_ble_eq_true rfl) (Nat.le_of_ble_eq_true rfl) (cc_3 _) (s_X3_take hb7) (fun r h q => ?_)
      obtain ⟨rfl, rfl⟩ := q
      simp only [Option.toList, List.cons_append, List.nil_append]
      obtain ⟨hb8, hk⟩ := hk
      refine r_iret rfl rfl (nar_b hb8) ?_
      subst he
      exact ⟨rfl, rfl⟩

def f_X0_putBack_8 : Nat → Int64 → Int32 → Int32 → fl_I → fl_L → fl_I × fl_L
  | 0, x1, x3, x4, s, l => (s, l)
  | n + 1, x1, x3, x4, s, l =>
    if (x3 ≤ x4) then (s, l) else f_X0_putBack_8 n x1 x3 (x4 + 1) (wi s 56 (f_X11_signAt x1 x4).toNatClampNeg ((s 56 (f_X11_signAt x1 x4).toNatClampNeg) + (1 : Int32))) l

def p_X0_putBack_8 : Nat → Int64 → Int32 → Int32 → fl_I → fl_L → Prop
  | 0, _, _, _, _, _ => False
  | n + 1, x1, x3, x4, s, l =>
    (((x3 ≤ x4) → True) ∧ (¬ (x3 ≤ x4) → (p_X11_signAt x1 x4) ∧ (vp_in (f_X11_signAt x1 x4) 32) ∧ (vp_in (f_X11_signAt x1 x4) 32) ∧ p_X0_putBack_8 n x1 x3 (x4 + 1) (wi s 56 (f_X11_signAt x1 x4).toNatClampNeg ((s 56 (f_X11_signAt x1 x4).toNatClampNeg) + (1 : Int32))) l))

set_option maxRecDepth 100000 in
set_option maxHeartbeats 4000000 in
theorem lp_X0_putBack_8 {G : ab_G} {d : Nat} {D : fl_D} : ∀ (n : Nat) (x1 : Int64) (x3 : Int32) (x4 : Int32) (s : fl_I) (l : fl_L), p_X0_putBack_8 n x1 x3 x4 s l → ab_C G (d + 2) 0 0 M_X0_putBack 8 [some (.ref 55), some (.long x1), none, some (.int x3), some (.int x4)] [] (hp D s l) (rt none (hp D (f_X0_putBack_8 n x1 x3 x4 s l).1 (f_X0_putBack_8 n x1 x3 x4 s l).2)) := by
  intro n
  induction n with
  | zero => intro x1 x3 x4 s l hk; exact hk.elim
  | succ n ih =>
    intro x1 x3 x4 s l hk
    generalize he : f_X0_putBack_8 (n + 1) x1 x3 x4 s l = res
    unfold f_X0_putBack_8 at he
    unfold p_X0_putBack_8 at hk
    refine r_iload rfl rfl ?_
    refine r_iload_n rfl rfl ?_
    refine r_icmp_ge rfl (fun c_11 => ?_) (fun c_11 => ?_)
    · rw [if_pos c_11] at he
      replace hk := hk.1 c_11
      refine r_ret rfl rfl ?_
      subst he
      exact ⟨rfl, rfl⟩
    · rw [if_neg c_11] at he
      replace hk := hk.2 c_11
      refine r_aload_n rfl rfl ?_
      refine q_getfield rfl (cc_55 _) rfl ?_
      refine r_lload_n rfl rfl ?_
      refine r_iload rfl rfl ?_
      obtain ⟨hb1, hk⟩ := hk
      refine r_callSN0 [_, _] _ rfl kY_X11_signAt kT_X11_signAt rfl rfl (Nat.le_of_ble_eq_true rfl) (Nat.le_of_ble_eq_true rfl) (s_X11_signAt hb1) (fun r h q => ?_)
      obtain ⟨rfl, rfl⟩ := q
      simp only [Option.toList, List.cons_append, List.nil_append]
      refine r_dup2 rfl rfl rfl ?_
      obtain ⟨hb2, hk⟩ := hk
      refine q_iald rfl (cc_56 _) hb2 ?_
      refine r_iconst_ (a := 1) rfl (by decide) ?_
      refine r_iadd rfl ?_
      obtain ⟨hb3, hk⟩ := hk
      refine w_iast rfl (cc_56 _) hb3 ?_
      refine r_iinc (b := x4 + 1) rfl rfl rfl (Nat.le_of_ble_eq_true rfl) rfl ?_
      refine r_goto rfl ?_
      subst he
      exact r_weak (L1 := [some (.ref 55), some (.long x1), none, some (.int x3), some (.int (x4 + 1))]) ⟨rfl, rfl, rfl, rfl, trivial⟩ (ih _ _ _ _ _ hk)

def f_X0_putBack (v0 : Int64) (s : fl_I) (l : fl_L) : fl_I × fl_L :=
  f_X0_putBack_8 fu v0 (f_X11_nameLength v0) (0 : Int32) s l

def p_X0_putBack (v0 : Int64) (s : fl_I) (l : fl_L) : Prop :=
  (p_X11_nameLength v0) ∧ p_X0_putBack_8 fu v0 (f_X11_nameLength v0) (0 : Int32) s l

set_option maxRecDepth 100000 in
set_option maxHeartbeats 4000000 in
theorem s_X0_putBack {G : ab_G} {d : Nat} {D : fl_D} {s : fl_I} {l : fl_L} {v0 : Int64} (hk : p_X0_putBack v0 s l) : ab_C G (d + 2) 0 0 M_X0_putBack 0 (ab_ent [.ref 55, .long v0]) [] (hp D s l) (rt none (hp D (f_X0_putBack v0 s l).1 (f_X0_putBack v0 s l).2)) := by
  generalize he : (f_X0_putBack v0 s l) = res
  unfold f_X0_putBack at he
  unfold p_X0_putBack at hk
  refine r_weak (L1 := [some (.ref 55), some (.long v0), none, none, none]) ⟨rfl, rfl, trivial⟩ ?_
  refine r_lload_n rfl rfl ?_
  obtain ⟨hb0, hk⟩ := hk
  refine r_callSN0 [_] _ rfl kY_X11_nameLength kT_X11_nameLength rfl rfl (Nat.le_of_ble_eq_true rfl) (Nat.le_of_ble_eq_true rfl) (s_X11_nameLength hb0) (fun r h q => ?_)
  obtain ⟨rfl, rfl⟩ := q
  simp only [Option.toList, List.cons_append, List.nil_append]
  refine r_istore_n rfl (Nat.le_of_ble_eq_true rfl) rfl ?_
  refine r_iconst_ (a := 0) rfl (by decide) ?_
  refine r_istore rfl (Nat.le_of_ble_eq_true rfl) rfl ?_
  subst he
  exact r_weak (L1 := [some (.ref 55), some (.long v0), none, some (.int (f_X11_nameLength v0)), some (.int (0 : Int32))]) ⟨rfl, rfl, rfl, rfl, trivial⟩ (lp_X0_putBack_8 fu _ _ _ _ _ hk)

def f_X3_rainTold (t : Nat) (s : fl_I) (l : fl_L) : Int32 × fl_I × fl_L :=
  if ((f_X3_take (263 : Int32) s l).1 = 0) then ((0 : Int32), (f_X3_take (263 : Int32) s l).2.1, (f_X3_take (263 : Int32) s l).2.2) else if ((f_X3_takeInt (0 : Int32) (100 : Int32) (f_X3_take (263 : Int32) s l).2.1 (f_X3_take (263 : Int32) s l).2.2).1 = 0) then ((0 : Int32), (f_X3_takeInt (0 : Int32) (100 : Int32) (f_X3_take (263 : Int32) s l).2.1 (f_X3_take (263 : Int32) s l).2.2).2.1, (f_X3_takeInt (0 : Int32) (100 : Int32) (f_X3_take (263 : Int32) s l).2.1 (f_X3_take (263 : Int32) s l).2.2).2.2) else if ((f_X3_take (59 : Int32) (f_X3_takeInt (0 : Int32) (100 : Int32) (f_X3_take (263 : Int32) s l).2.1 (f_X3_take (263 : Int32) s l).2.2).2.1 (f_X3_takeInt (0 : Int32) (100 : Int32) (f_X3_take (263 : Int32) s l).2.1 (f_X3_take (263 : Int32) s l).2.2).2.2).1 = 0) then ((0 : Int32), (f_X3_take (59 : Int32) (f_X3_takeInt (0 : Int32) (100 : Int32) (f_X3_take (263 : Int32) s l).2.1 (f_X3_take (263 : Int32) s l).2.2).2.1 (f_X3_takeInt (0 : Int32) (100 : Int32) (f_X3_take (263 : Int32) s l).2.1 (f_X3_take (263 : Int32) s l).2.2).2.2).2.1, (f_X3_take (59 : Int32) (f_X3_takeInt (0 : Int32) (100 : Int32) (f_X3_take (263 : Int32) s l).2.1 (f_X3_take (263 : Int32) s l).2.2).2.1 (f_X3_takeInt (0 : Int32) (100 : Int32) (f_X3_take (263 : Int32) s l).2.1 (f_X3_take (263 : Int32) s l).2.2).2.2).2.2) else ((1 : Int32), (wi (f_X3_take (59 : Int32) (f_X3_takeInt (0 : Int32) (100 : Int32) (f_X3_take (263 : Int32) s l).2.1 (f_X3_take (263 : Int32) s l).2.2).2.1 (f_X3_takeInt (0 : Int32) (100 : Int32) (f_X3_take (263 : Int32) s l).2.1 (f_X3_take (263 : Int32) s l).2.2).2.2).2.1 t 17 ((f_X3_take (59 : Int32) (f_X3_takeInt (0 : Int32) (100 : Int32) (f_X3_take (263 : Int32) s l).2.1 (f_X3_take (263 : Int32) s l).2.2).2.1 (f_X3_takeInt (0 : Int32) (100 : Int32) (f_X3_take (263 : Int32) s l).2.1 (f_X3_take (263 : Int32) s l).2.2).2.2).2.1 3 6)), (f_X3_take (59 : Int32) (f_X3_takeInt (0 : Int32) (100 : Int32) (f_X3_take (263 : Int32) s l).2.1 (f_X3_take (263 : Int32) s l).2.2).2.1 (f_X3_takeInt (0 : Int32) (100 : Int32) (f_X3_take (263 : Int32) s l).2.1 (f_X3_take (263 : Int32) s l).2.2).2.2).2.2)

def p_X3_rainTold (t : Nat) (s : fl_I) (l : fl_L) : Prop :=
  (p_X3_take (263 : Int32) s l) ∧ ((((f_X3_take (263 : Int32) s l).1 = 0) → True) ∧ (¬ ((f_X3_take (263 : Int32) s l).1 = 0) → (p_X3_takeInt (0 : Int32) (100 : Int32) (f_X3_take (263 : Int32) s l).2.1 (f_X3_take (263 : Int32) s l).2.2) ∧ ((((f_X3_takeInt (0 : Int32) (100 : Int32) (f_X3_take (263 : Int32) s l).2.1 (f_X3_take (263 : Int32) s l).2.2).1 = 0) → True) ∧ (¬ ((f_X3_takeInt (0 : Int32) (100 : Int32) (f_X3_take (263 : Int32) s l).2.1 (f_X3_take (263 : Int32) s l).2.2).1 = 0) → (p_X3_take (59 : Int32) (f_X3_takeInt (0 : Int32) (100 : Int32) (f_X3_take (263 : Int32) s l).2.1 (f_X3_take (263 : Int32) s l).2.2).2.1 (f_X3_takeInt (0 : Int32) (100 : Int32) (f_X3_take (263 : Int32) s l).2.1 (f_X3_take (263 : Int32) s l).2.2).2.2) ∧ ((((f_X3_take (59 : Int32) (f_X3_takeInt (0 : Int32) (100 : Int32) (f_X3_take (263 : Int32) s l).2.1 (f_X3_take (263 : Int32) s l).2.2).2.1 (f_X3_takeInt (0 : Int32) (100 : Int32) (f_X3_take (263 : Int32) s l).2.1 (f_X3_take (263 : Int32) s l).2.2).2.2).1 = 0) → True) ∧ (¬ ((f_X3_take (59 : Int32) (f_X3_takeInt (0 : Int32) (100 : Int32) (f_X3_take (263 : Int32) s l).2.1 (f_X3_take (263 : Int32) s l).2.2).2.1 (f_X3_takeInt (0 : Int32) (100 : Int32) (f_X3_take (263 : Int32) s l).2.1 (f_X3_take (263 : Int32) s l).2.2).2.2).1 = 0) → True))))))

set_option maxRecDepth 100000 in
set_option maxHeartbeats 4000000 in
theorem s_X3_rainTold {G : ab_G} {d : Nat} {D : fl_D} {s : fl_I} {l : fl_L} {t : Nat} (htt : isT t)  (hk : p_X3_rainTold t s l) : ab_C G (d + 3) 0 0 M_X3_rainTold 0 (ab_ent [.ref 3, .ref t]) [] (hp D s l) (rt (some (.int (f_X3_rainTold t s l).1)) (hp D (f_X3_rainTold t s l).2.1 (f_X3_rainTold t s l).2.2)) := by
  generalize he : (f_X3_rainTold t s l) = res
  unfold f_X3_rainTold at he
  unfold p_X3_rainTold at hk
  refine r_weak (L1 := [some (.ref 3), some (.ref t)]) ⟨rfl, rfl, trivial⟩ ?_
  refine r_aload_n rfl rfl ?_
  refine r_sipush_ (a := 263) rfl (by decide) ?_
  obtain ⟨hb0, hk⟩ := hk
  refine q_callV0 [_] _ rfl kY_X3_take kT_X3_take rfl rfl (Nat.le_of_ble_eq_true rfl) (Nat.le_of_ble_eq_true rfl) (cc_3 _) (s_X3_take hb0) (fun r h q => ?_)
  obtain ⟨rfl, rfl⟩ := q
  simp only [Option.toList, List.cons_append, List.nil_append]
  refine r_if_eq rfl (fun c_7 => ?_) (fun c_7 => ?_)
  · rw [if_pos c_7] at he
    replace hk := hk.1 c_7
    refine r_iconst_ (a := 0) rfl (by decide) ?_
    refine r_iret rfl rfl rfl ?_
    subst he
    exact ⟨rfl, rfl⟩
  · rw [if_neg c_7] at he
    replace hk := hk.2 c_7
    refine r_aload_n rfl rfl ?_
    refine r_iconst_ (a := 0) rfl (by decide) ?_
    refine r_bipush_ (a := 100) rfl (by decide) ?_
    obtain ⟨hb1, hk⟩ := hk
    refine q_callV0 [_, _] _ rfl kY_X3_takeInt kT_X3_takeInt rfl rfl (Nat.le_of_ble_eq_true rfl) (Nat.le_of_ble_eq_true rfl) (cc_3 _) (s_X3_takeInt hb1) (fun r h q => ?_)
    obtain ⟨rfl, rfl⟩ := q
    simp only [Option.toList, List.cons_append, List.nil_append]
    refine r_if_eq rfl (fun c_17 => ?_) (fun c_17 => ?_)
    · rw [if_pos c_17] at he
      replace hk := hk.1 c_17
      refine r_iconst_ (a := 0) rfl (by decide) ?_
      refine r_iret rfl rfl rfl ?_
      subst he
      exact ⟨rfl, rfl⟩
    · rw [if_neg c_17] at he
      replace hk := hk.2 c_17
      refine r_aload_n rfl rfl ?_
      refine r_bipush_ (a := 59) rfl (by decide) ?_
      obtain ⟨hb2, hk⟩ := hk
      refine q_callV0 [_] _ rfl kY_X3_take kT_X3_take rfl rfl (Nat.le_of_ble_eq_true rfl) (Nat.le_of_ble_eq_true rfl) (cc_3 _) (s_X3_take hb2) (fun r h q => ?_)
      obtain ⟨rfl, rfl⟩ := q
      simp only [Option.toList, List.cons_append, List.nil_append]
      refine r_if_ne rfl (fun c_26 => ?_) (fun c_26 => ?_)
      · rw [if_neg c_26] at he
        replace hk := hk.2 c_26
        refine r_aload_n rfl rfl ?_
        refine r_aload_n rfl rfl ?_
        refine q_getfield rfl (cc_3 _) rfl ?_
        refine w_put rfl (cT_0 htt) ff_5_17 ft_5_17 (Nat.le_of_ble_eq_true rfl) rfl ?_
        refine r_iconst_ (a := 1) rfl (by decide) ?_
        refine r_iret rfl rfl rfl ?_
        subst he
        exact ⟨rfl, rfl⟩
      · rw [if_pos c_26] at he
        replace hk := hk.1 c_26
        refine r_iconst_ (a := 0) rfl (by decide) ?_
        refine r_iret rfl rfl rfl ?_
        subst he
        exact ⟨rfl, rfl⟩

def f_X3_seedTold (t : Nat) (s : fl_I) (l : fl_L) : Int32 × fl_I × fl_L :=
  if ((f_X3_take (264 : Int32) s l).1 = 0) then ((0 : Int32), (f_X3_take (264 : Int32) s l).2.1, (f_X3_take (264 : Int32) s l).2.2) else if ((f_X3_takeInt (0 : Int32) (9999 : Int32) (f_X3_take (264 : Int32) s l).2.1 (f_X3_take (264 : Int32) s l).2.2).1 = 0) then ((0 : Int32), (f_X3_takeInt (0 : Int32) (9999 : Int32) (f_X3_take (264 : Int32) s l).2.1 (f_X3_take (264 : Int32) s l).2.2).2.1, (f_X3_takeInt (0 : Int32) (9999 : Int32) (f_X3_take (264 : Int32) s l).2.1 (f_X3_take (264 : Int32) s l).2.2).2.2) else if ((f_X3_take (59 : Int32) (f_X3_takeInt (0 : Int32) (9999 : Int32) (f_X3_take (264 : Int32) s l).2.1 (f_X3_take (264 : Int32) s l).2.2).2.1 (f_X3_takeInt (0 : Int32) (9999 : Int32) (f_X3_take (264 : Int32) s l).2.1 (f_X3_take (264 : Int32) s l).2.2).2.2).1 = 0) then ((0 : Int32), (f_X3_take (59 : Int32) (f_X3_takeInt (0 : Int32) (9999 : Int32) (f_X3_take (264 : Int32) s l).2.1 (f_X3_take (264 : Int32) s l).2.2).2.1 (f_X3_takeInt (0 : Int32) (9999 : Int32) (f_X3_take (264 : Int32) s l).2.1 (f_X3_take (264 : Int32) s l).2.2).2.2).2.1, (f_X3_take (59 : Int32) (f_X3_takeInt (0 : Int32) (9999 : Int32) (f_X3_take (264 : Int32) s l).2.1 (f_X3_take (264 : Int32) s l).2.2).2.1 (f_X3_takeInt (0 : Int32) (9999 : Int32) (f_X3_take (264 : Int32) s l).2.1 (f_X3_take (264 : Int32) s l).2.2).2.2).2.2) else ((1 : Int32), (wi (f_X3_take (59 : Int32) (f_X3_takeInt (0 : Int32) (9999 : Int32) (f_X3_take (264 : Int32) s l).2.1 (f_X3_take (264 : Int32) s l).2.2).2.1 (f_X3_takeInt (0 : Int32) (9999 : Int32) (f_X3_take (264 : Int32) s l).2.1 (f_X3_take (264 : Int32) s l).2.2).2.2).2.1 t 18 ((f_X3_take (59 : Int32) (f_X3_takeInt (0 : Int32) (9999 : Int32) (f_X3_take (264 : Int32) s l).2.1 (f_X3_take (264 : Int32) s l).2.2).2.1 (f_X3_takeInt (0 : Int32) (9999 : Int32) (f_X3_take (264 : Int32) s l).2.1 (f_X3_take (264 : Int32) s l).2.2).2.2).2.1 3 6)), (f_X3_take (59 : Int32) (f_X3_takeInt (0 : Int32) (9999 : Int32) (f_X3_take (264 : Int32) s l).2.1 (f_X3_take (264 : Int32) s l).2.2).2.1 (f_X3_takeInt (0 : Int32) (9999 : Int32) (f_X3_take (264 : Int32) s l).2.1 (f_X3_take (264 : Int32) s l).2.2).2.2).2.2)

def p_X3_seedTold (t : Nat) (s : fl_I) (l : fl_L) : Prop :=
  (p_X3_take (264 : Int32) s l) ∧ ((((f_X3_take (264 : Int32) s l).1 = 0) → True) ∧ (¬ ((f_X3_take (264 : Int32) s l).1 = 0) → (p_X3_takeInt (0 : Int32) (9999 : Int32) (f_X3_take (264 : Int32) s l).2.1 (f_X3_take (264 : Int32) s l).2.2) ∧ ((((f_X3_takeInt (0 : Int32) (9999 : Int32) (f_X3_take (264 : Int32) s l).2.1 (f_X3_take (264 : Int32) s l).2.2).1 = 0) → True) ∧ (¬ ((f_X3_takeInt (0 : Int32) (9999 : Int32) (f_X3_take (264 : Int32) s l).2.1 (f_X3_take (264 : Int32) s l).2.2).1 = 0) → (p_X3_take (59 : Int32) (f_X3_takeInt (0 : Int32) (9999 : Int32) (f_X3_take (264 : Int32) s l).2.1 (f_X3_take (264 : Int32) s l).2.2).2.1 (f_X3_takeInt (0 : Int32) (9999 : Int32) (f_X3_take (264 : Int32) s l).2.1 (f_X3_take (264 : Int32) s l).2.2).2.2) ∧ ((((f_X3_take (59 : Int32) (f_X3_takeInt (0 : Int32) (9999 : Int32) (f_X3_take (264 : Int32) s l).2.1 (f_X3_take (264 : Int32) s l).2.2).2.1 (f_X3_takeInt (0 : Int32) (9999 : Int32) (f_X3_take (264 : Int32) s l).2.1 (f_X3_take (264 : Int32) s l).2.2).2.2).1 = 0) → True) ∧ (¬ ((f_X3_take (59 : Int32) (f_X3_takeInt (0 : Int32) (9999 : Int32) (f_X3_take (264 : Int32) s l).2.1 (f_X3_take (264 : Int32) s l).2.2).2.1 (f_X3_takeInt (0 : Int32) (9999 : Int32) (f_X3_take (264 : Int32) s l).2.1 (f_X3_take (264 : Int32) s l).2.2).2.2).1 = 0) → True))))))

set_option maxRecDepth 100000 in
set_option maxHeartbeats 4000000 in
theorem s_X3_seedTold {G : ab_G} {d : Nat} {D : fl_D} {s : fl_I} {l : fl_L} {t : Nat} (htt : isT t)  (hk : p_X3_seedTold t s l) : ab_C G (d + 3) 0 0 M_X3_seedTold 0 (ab_ent [.ref 3, .ref t]) [] (hp D s l) (rt (some (.int (f_X3_seedTold t s l).1)) (hp D (f_X3_seedTold t s l).2.1 (f_X3_seedTold t s l).2.2)) := by
  generalize he : (f_X3_seedTold t s l) = res
  unfold f_X3_seedTold at he
  unfold p_X3_seedTold at hk
  refine r_weak (L1 := [some (.ref 3), some (.ref t)]) ⟨rfl, rfl, trivial⟩ ?_
  refine r_aload_n rfl rfl ?_
  refine r_sipush_ (a := 264) rfl (by decide) ?_
  obtain ⟨hb0, hk⟩ := hk
  refine q_callV0 [_] _ rfl kY_X3_take kT_X3_take rfl rfl (Nat.le_of_ble_eq_true rfl) (Nat.le_of_ble_eq_true rfl) (cc_3 _) (s_X3_take hb0) (fun r h q => ?_)
  obtain ⟨rfl, rfl⟩ := q
  simp only [Option.toList, List.cons_append, List.nil_append]
  refine r_if_eq rfl (fun c_7 => ?_) (fun c_7 => ?_)
  · rw [if_pos c_7] at he
    replace hk := hk.1 c_7
    refine r_iconst_ (a := 0) rfl (by decide) ?_
    refine r_iret rfl rfl rfl ?_
    subst he
    exact ⟨rfl, rfl⟩
  · rw [if_neg c_7] at he
    replace hk := hk.2 c_7
    refine r_aload_n rfl rfl ?_
    refine r_iconst_ (a := 0) rfl (by decide) ?_
    refine r_sipush_ (a := 9999) rfl (by decide) ?_
    obtain ⟨hb1, hk⟩ := hk
    refine q_callV0 [_, _] _ rfl kY_X3_takeInt kT_X3_takeInt rfl rfl (Nat.le_of_ble_eq_true rfl) (Nat.le_of_ble_eq_true rfl) (cc_3 _) (s_X3_takeInt hb1) (fun r h q => ?_)
    obtain ⟨rfl, rfl⟩ := q
    simp only [Option.toList, List.cons_append, List.nil_append]
    refine r_if_eq rfl (fun c_18 => ?_) (fun c_18 => ?_)
    · rw [if_pos c_18] at he
      replace hk := hk.1 c_18
      refine r_iconst_ (a := 0) rfl (by decide) ?_
      refine r_iret rfl rfl rfl ?_
      subst he
      exact ⟨rfl, rfl⟩
    · rw [if_neg c_18] at he
      replace hk := hk.2 c_18
      refine r_aload_n rfl rfl ?_
      refine r_bipush_ (a := 59) rfl (by decide) ?_
      obtain ⟨hb2, hk⟩ := hk
      refine q_callV0 [_] _ rfl kY_X3_take kT_X3_take rfl rfl (Nat.le_of_ble_eq_true rfl) (Nat.le_of_ble_eq_true rfl) (cc_3 _) (s_X3_take hb2) (fun r h q => ?_)
      obtain ⟨rfl, rfl⟩ := q
      simp only [Option.toList, List.cons_append, List.nil_append]
      refine r_if_ne rfl (fun c_27 => ?_) (fun c_27 => ?_)
      · rw [if_neg c_27] at he
        replace hk := hk.2 c_27
        refine r_aload_n rfl rfl ?_
        refine r_aload_n rfl rfl ?_
        refine q_getfield rfl (cc_3 _) rfl ?_
        refine w_put rfl (cT_0 htt) ff_5_18 ft_5_18 (Nat.le_of_ble_eq_true rfl) rfl ?_
        refine r_iconst_ (a := 1) rfl (by decide) ?_
        refine r_iret rfl rfl rfl ?_
        subst he
        exact ⟨rfl, rfl⟩
      · rw [if_pos c_27] at he
        replace hk := hk.1 c_27
        refine r_iconst_ (a := 0) rfl (by decide) ?_
        refine r_iret rfl rfl rfl ?_
        subst he
        exact ⟨rfl, rfl⟩

def f_X12_steps (v0 : Int32) (v1 : Int32) (v2 : Int32) (s : fl_I) (l : fl_L) : Int32 × fl_I × fl_L :=
  if ((f_X12_isPicker v0 s l) = 0) then ((-1 : Int32), s, l) else if ((f_X12_isCell v1 v2) = 0) then ((-1 : Int32), s, l) else ((f_X12_stepsOff (f_X12_cellOfPicker v0 (f_X12_copies s l).1 (f_X12_copies s l).2) (((10 : Int32) * v2) + v1)), (f_X12_copies s l).1, (f_X12_copies s l).2)

def p_X12_steps (v0 : Int32) (v1 : Int32) (v2 : Int32) (s : fl_I) (l : fl_L) : Prop :=
  (p_X12_isPicker v0 s l) ∧ ((((f_X12_isPicker v0 s l) = 0) → True) ∧ (¬ ((f_X12_isPicker v0 s l) = 0) → (p_X12_isCell v1 v2) ∧ ((((f_X12_isCell v1 v2) = 0) → True) ∧ (¬ ((f_X12_isCell v1 v2) = 0) → (p_X12_copies s l) ∧ (p_X12_cellOfPicker v0 (f_X12_copies s l).1 (f_X12_copies s l).2) ∧ (p_X12_stepsOff (f_X12_cellOfPicker v0 (f_X12_copies s l).1 (f_X12_copies s l).2) (((10 : Int32) * v2) + v1)) ∧ True))))

set_option maxRecDepth 100000 in
set_option maxHeartbeats 4000000 in
theorem s_X12_steps {G : ab_G} {d : Nat} {D : fl_D} {s : fl_I} {l : fl_L} {v0 : Int32} {v1 : Int32} {v2 : Int32} (hk : p_X12_steps v0 v1 v2 s l) : ab_C G (d + 2) 0 0 M_X12_steps 0 (ab_ent [.ref 60, .int v0, .int v1, .int v2]) [] (hp D s l) (rt (some (.int (f_X12_steps v0 v1 v2 s l).1)) (hp D (f_X12_steps v0 v1 v2 s l).2.1 (f_X12_steps v0 v1 v2 s l).2.2)) := by
  generalize he : (f_X12_steps v0 v1 v2 s l) = res
  unfold f_X12_steps at he
  unfold p_X12_steps at hk
  refine r_weak (L1 := [some (.ref 60), some (.int v0), some (.int v1), some (.int v2)]) ⟨rfl, rfl, rfl, rfl, trivial⟩ ?_
  refine r_aload_n rfl rfl ?_
  refine r_iload_n rfl rfl ?_
  obtain ⟨hb0, hk⟩ := hk
  refine q_callV0 [_] _ rfl kY_X12_isPicker kT_X12_isPicker rfl rfl (Nat.le_of_ble_eq_true rfl) (Nat.le_of_ble_eq_true rfl) (cc_60 _) (s_X12_isPicker hb0) (fun r h q => ?_)
  obtain ⟨rfl, rfl⟩ := q
  simp only [Option.toList, List.cons_append, List.nil_append]
  refine r_if_eq rfl (fun c_5 => ?_) (fun c_5 => ?_)
  · rw [if_pos c_5] at he
    replace hk := hk.1 c_5
    refine r_iconst_ (a := -1) rfl (by decide) ?_
    refine r_iret rfl rfl rfl ?_
    subst he
    exact ⟨rfl, rfl⟩
  · rw [if_neg c_5] at he
    replace hk := hk.2 c_5
    refine r_iload_n rfl rfl ?_
    refine r_iload_n rfl rfl ?_
    obtain ⟨hb1, hk⟩ := hk
    refine r_callS0 [_, _] _ rfl kY_X12_isCell kT_X12_isCell rfl rfl (Nat.le_of_ble_eq_true rfl) (Nat.le_of_ble_eq_true rfl) (s_X12_isCell hb1) (fun r h q => ?_)
    obtain ⟨rfl, rfl⟩ := q
    simp only [Option.toList, List.cons_append, List.nil_append]
    refine r_if_ne rfl (fun c_13 => ?_) (fun c_13 => ?_)
    · rw [if_neg c_13] at he
      replace hk := hk.2 c_13
      refine r_aload_n rfl rfl ?_
      obtain ⟨hb2, hk⟩ := hk
      refine q_callV0 [] _ rfl kY_X12_copies kT_X12_copies rfl rfl (Nat.le_of_ble_eq_true rfl) (Nat.le_of_ble_eq_true rfl) (cc_60 _) (s_X12_copies hb2) (fun r h q => ?_)
      obtain ⟨rfl, rfl⟩ := q
      simp only [Option.toList, List.cons_append, List.nil_append]
      refine r_aload_n rfl rfl ?_
      refine r_iload_n rfl rfl ?_
      obtain ⟨hb3, hk⟩ := hk
      refine q_callV0 [_] _ rfl kY_X12_cellOfPicker kT_X12_cellOfPicker rfl rfl (Nat.le_of_ble_eq_true rfl) (Nat.le_of_ble_eq_true rfl) (cc_60 _) (s_X12_cellOfPicker hb3) (fun r h q => ?_)
      obtain ⟨rfl, rfl⟩ := q
      simp only [Option.toList, List.cons_append, List.nil_append]
      refine r_bipush_ (a := 10) rfl (by decide) ?_
      refine r_iload_n rfl rfl ?_
      refine r_imul rfl ?_
      refine r_iload_n rfl rfl ?_
      refine r_iadd rfl ?_
      obtain ⟨hb4, hk⟩ := hk
      refine r_callS0 [_, _] _ rfl kY_X12_stepsOff kT_X12_stepsOff rfl rfl (Nat.le_of_ble_eq_true rfl) (Nat.le_of_ble_eq_true rfl) (s_X12_stepsOff hb4) (fun r h q => ?_)
      obtain ⟨rfl, rfl⟩ := q
      simp only [Option.toList, List.cons_append, List.nil_append]
      refine r_iret rfl rfl rfl ?_
      subst he
      exact ⟨rfl, rfl⟩
    · rw [if_pos c_13] at he
      replace hk := hk.1 c_13
      refine r_iconst_ (a := -1) rfl (by decide) ?_
      refine r_iret rfl rfl rfl ?_
      subst he
      exact ⟨rfl, rfl⟩

def f_X10_countCells_16 : Nat → Int32 → Int32 → Int32 → Nat → Nat → fl_I → fl_L → Int32 × fl_I × fl_L
  | 0, x2, x4, x5, a, q, s, l => (0, s, l)
  | n + 1, x2, x4, x5, a, q, s, l =>
    if (x4 ≤ x5) then (x2, s, l) else if ((s q x5.toNatClampNeg) ≤ 0) then f_X10_countCells_16 n x2 x4 (x5 + 1) a q s l else f_X10_countCells_16 n (x2 + 1) x4 (x5 + 1) a q s l

def p_X10_countCells_16 : Nat → Int32 → Int32 → Int32 → Nat → Nat → fl_I → fl_L → Prop
  | 0, _, _, _, _, _, _, _ => False
  | n + 1, x2, x4, x5, a, q, s, l =>
    (((x4 ≤ x5) → True) ∧ (¬ (x4 ≤ x5) → (vp_in x5 80) ∧ ((((s q x5.toNatClampNeg) ≤ 0) → p_X10_countCells_16 n x2 x4 (x5 + 1) a q s l) ∧ (¬ ((s q x5.toNatClampNeg) ≤ 0) → p_X10_countCells_16 n (x2 + 1) x4 (x5 + 1) a q s l))))

set_option maxRecDepth 100000 in
set_option maxHeartbeats 4000000 in
theorem lp_X10_countCells_16 {G : ab_G} {d : Nat} {D : fl_D} {a : Nat} (hya : isY D a) {q : Nat} (hcq : ∀ f g, cl D q f g = some (.inl (0, 80, .inl f))) : ∀ (n : Nat) (x2 : Int32) (x4 : Int32) (x5 : Int32) (s : fl_I) (l : fl_L), p_X10_countCells_16 n x2 x4 x5 a q s l → ab_C G (d + 2) 0 0 M_X10_countCells 16 [none, none, some (.int x2), some (.ref q), some (.int x4), some (.int x5), none] [] (hp D s l) (rt (some (.int (f_X10_countCells_16 n x2 x4 x5 a q s l).1)) (hp D (f_X10_countCells_16 n x2 x4 x5 a q s l).2.1 (f_X10_countCells_16 n x2 x4 x5 a q s l).2.2)) := by
  intro n
  induction n with
  | zero => intro x2 x4 x5 s l hk; exact hk.elim
  | succ n ih =>
    intro x2 x4 x5 s l hk
    generalize he : f_X10_countCells_16 (n + 1) x2 x4 x5 a q s l = res
    unfold f_X10_countCells_16 at he
    unfold p_X10_countCells_16 at hk
    refine r_iload rfl rfl ?_
    refine r_iload rfl rfl ?_
    refine r_icmp_ge rfl (fun c_20 => ?_) (fun c_20 => ?_)
    · rw [if_pos c_20] at he
      replace hk := hk.1 c_20
      refine r_iload_n rfl rfl ?_
      refine r_iret rfl rfl rfl ?_
      subst he
      exact ⟨rfl, rfl⟩
    · rw [if_neg c_20] at he
      replace hk := hk.2 c_20
      refine r_aload_n rfl rfl ?_
      refine r_iload rfl rfl ?_
      obtain ⟨hb1, hk⟩ := hk
      refine q_iald rfl hcq hb1 ?_
      refine r_istore rfl (Nat.le_of_ble_eq_true rfl) rfl ?_
      refine r_iload rfl rfl ?_
      refine r_if_le rfl (fun c_31 => ?_) (fun c_31 => ?_)
      · rw [if_pos c_31] at he
        replace hk := hk.1 c_31
        refine r_iinc (b := x5 + 1) rfl rfl rfl (Nat.le_of_ble_eq_true rfl) rfl ?_
        refine r_goto rfl ?_
        subst he
        exact r_weak (L1 := [none, none, some (.int x2), some (.ref q), some (.int x4), some (.int (x5 + 1)), none]) ⟨rfl, rfl, rfl, rfl, trivial⟩ (ih _ _ _ _ _ hk)
      · rw [if_neg c_31] at he
        replace hk := hk.2 c_31
        refine r_iinc (b := x2 + 1) rfl rfl rfl (Nat.le_of_ble_eq_true rfl) rfl ?_
        refine r_iinc (b := x5 + 1) rfl rfl rfl (Nat.le_of_ble_eq_true rfl) rfl ?_
        refine r_goto rfl ?_
        subst he
        exact r_weak (L1 := [none, none, some (.int (x2 + 1)), some (.ref q), some (.int x4), some (.int (x5 + 1)), none]) ⟨rfl, rfl, rfl, rfl, trivial⟩ (ih _ _ _ _ _ hk)

def f_X10_countCells (a : Nat) (q : Nat) (s : fl_I) (l : fl_L) : Int32 × fl_I × fl_L :=
  f_X10_countCells_16 fu (0 : Int32) (80 : Int32) (0 : Int32) a q (f_X10_countAll a q s l).1 (f_X10_countAll a q s l).2

def p_X10_countCells (a : Nat) (q : Nat) (s : fl_I) (l : fl_L) : Prop :=
  (p_X10_countAll a q s l) ∧ p_X10_countCells_16 fu (0 : Int32) (80 : Int32) (0 : Int32) a q (f_X10_countAll a q s l).1 (f_X10_countAll a q s l).2

set_option maxRecDepth 100000 in
set_option maxHeartbeats 4000000 in
theorem s_X10_countCells {G : ab_G} {d : Nat} {D : fl_D} {s : fl_I} {l : fl_L} {a : Nat} (hya : isY D a) {q : Nat} (hcq : ∀ f g, cl D q f g = some (.inl (0, 80, .inl f)))  (hk : p_X10_countCells a q s l) : ab_C G (d + 2) 0 0 M_X10_countCells 0 (ab_ent [.ref a, .ref q]) [] (hp D s l) (rt (some (.int (f_X10_countCells a q s l).1)) (hp D (f_X10_countCells a q s l).2.1 (f_X10_countCells a q s l).2.2)) := by
  generalize he : (f_X10_countCells a q s l) = res
  unfold f_X10_countCells at he
  unfold p_X10_countCells at hk
  refine r_weak (L1 := [some (.ref a), some (.ref q), none, none, none, none, none]) ⟨rfl, rfl, trivial⟩ ?_
  refine r_aload_n rfl rfl ?_
  refine r_aload_n rfl rfl ?_
  obtain ⟨hb0, hk⟩ := hk
  refine q_callV0 [_] _ rfl kY_X10_countAll kT_X10_countAll rfl rfl (Nat.le_of_ble_eq_true rfl) (Nat.le_of_ble_eq_true rfl) (cY_0 hya) (s_X10_countAll hya hcq hb0) (fun r h q => ?_)
  obtain ⟨rfl, rfl⟩ := q
  simp only [Option.toList, List.cons_append, List.nil_append]
  refine r_iconst_ (a := 0) rfl (by decide) ?_
  refine r_istore_n rfl (Nat.le_of_ble_eq_true rfl) rfl ?_
  refine r_aload_n rfl rfl ?_
  refine r_astore_n rfl (Nat.le_of_ble_eq_true rfl) rfl ?_
  refine r_aload_n rfl rfl ?_
  refine q_alen (v := (80 : Int32)) rfl hcq (Nat.le_of_ble_eq_true rfl) rfl ?_
  refine r_istore rfl (Nat.le_of_ble_eq_true rfl) rfl ?_
  refine r_iconst_ (a := 0) rfl (by decide) ?_
  refine r_istore rfl (Nat.le_of_ble_eq_true rfl) rfl ?_
  subst he
  exact r_weak (L1 := [none, none, some (.int (0 : Int32)), some (.ref q), some (.int (80 : Int32)), some (.int (0 : Int32)), none]) ⟨rfl, rfl, rfl, rfl, trivial⟩ (lp_X10_countCells_16 hya hcq fu _ _ _ _ _ hk)

def f_X12_term (s : fl_I) (l : fl_L) : fl_I × fl_L :=
  if (((wi s 87 (s 60 36).toNatClampNeg (s 60 42)) 60 13) = 0) then ((wi (wi (f_X12_expression (wi s 87 (s 60 36).toNatClampNeg (s 60 42)) l).1 88 ((f_X12_expression (wi s 87 (s 60 36).toNatClampNeg (s 60 42)) l).1 60 36).toNatClampNeg ((f_X12_expression (wi s 87 (s 60 36).toNatClampNeg (s 60 42)) l).1 60 42)) 60 36 (((wi (f_X12_expression (wi s 87 (s 60 36).toNatClampNeg (s 60 42)) l).1 88 ((f_X12_expression (wi s 87 (s 60 36).toNatClampNeg (s 60 42)) l).1 60 36).toNatClampNeg ((f_X12_expression (wi s 87 (s 60 36).toNatClampNeg (s 60 42)) l).1 60 42)) 60 36) + (1 : Int32))), (f_X12_expression (wi s 87 (s 60 36).toNatClampNeg (s 60 42)) l).2) else ((wi (wi (wi s 87 (s 60 36).toNatClampNeg (s 60 42)) 88 ((wi s 87 (s 60 36).toNatClampNeg (s 60 42)) 60 36).toNatClampNeg ((wi s 87 (s 60 36).toNatClampNeg (s 60 42)) 60 42)) 60 36 (((wi (wi s 87 (s 60 36).toNatClampNeg (s 60 42)) 88 ((wi s 87 (s 60 36).toNatClampNeg (s 60 42)) 60 36).toNatClampNeg ((wi s 87 (s 60 36).toNatClampNeg (s 60 42)) 60 42)) 60 36) + (1 : Int32))), l)

def p_X12_term (s : fl_I) (l : fl_L) : Prop :=
  (vp_in (s 60 36) 260) ∧ (((((wi s 87 (s 60 36).toNatClampNeg (s 60 42)) 60 13) = 0) → (p_X12_expression (wi s 87 (s 60 36).toNatClampNeg (s 60 42)) l) ∧ (vp_in ((f_X12_expression (wi s 87 (s 60 36).toNatClampNeg (s 60 42)) l).1 60 36) 260) ∧ True) ∧ (¬ (((wi s 87 (s 60 36).toNatClampNeg (s 60 42)) 60 13) = 0) → (vp_in ((wi s 87 (s 60 36).toNatClampNeg (s 60 42)) 60 36) 260) ∧ True))

set_option maxRecDepth 100000 in
set_option maxHeartbeats 4000000 in
theorem s_X12_term {G : ab_G} {d : Nat} {D : fl_D} {s : fl_I} {l : fl_L}  (hk : p_X12_term s l) : ab_C G (d + 4) 0 0 M_X12_term 0 (ab_ent [.ref 60]) [] (hp D s l) (rt none (hp D (f_X12_term s l).1 (f_X12_term s l).2)) := by
  generalize he : (f_X12_term s l) = res
  unfold f_X12_term at he
  unfold p_X12_term at hk
  refine r_weak (L1 := [some (.ref 60)]) ⟨rfl, trivial⟩ ?_
  refine r_aload_n rfl rfl ?_
  refine q_getfield rfl (cc_60 _) rfl ?_
  refine r_aload_n rfl rfl ?_
  refine q_getfield rfl (cc_60 _) rfl ?_
  refine r_aload_n rfl rfl ?_
  refine q_getfield rfl (cc_60 _) rfl ?_
  obtain ⟨hb0, hk⟩ := hk
  refine w_iast rfl (cc_87 _) hb0 ?_
  refine r_aload_n rfl rfl ?_
  refine q_getfield rfl (cc_60 _) rfl ?_
  refine r_if_ne rfl (fun c_17 => ?_) (fun c_17 => ?_)
  · rw [if_neg c_17] at he
    replace hk := hk.2 c_17
    refine r_aload_n rfl rfl ?_
    refine q_getfield rfl (cc_60 _) rfl ?_
    refine r_aload_n rfl rfl ?_
    refine q_getfield rfl (cc_60 _) rfl ?_
    refine r_aload_n rfl rfl ?_
    refine q_getfield rfl (cc_60 _) rfl ?_
    obtain ⟨hb1, hk⟩ := hk
    refine w_iast rfl (cc_88 _) hb1 ?_
    refine r_aload_n rfl rfl ?_
    refine r_dup rfl rfl ?_
    refine q_getfield rfl (cc_60 _) rfl ?_
    refine r_iconst_ (a := 1) rfl (by decide) ?_
    refine r_iadd rfl ?_
    refine w_put rfl (cc_60 _) ff_12_36 ft_12_36 (Nat.le_of_ble_eq_true rfl) rfl ?_
    refine r_ret rfl rfl ?_
    subst he
    exact ⟨rfl, rfl⟩
  · rw [if_pos c_17] at he
    replace hk := hk.1 c_17
    refine r_aload_n rfl rfl ?_
    obtain ⟨hb2, hk⟩ := hk
    refine q_callV0 [] _ rfl kY_X12_expression kT_X12_expression rfl rfl (Nat.le_of_ble_eq_true rfl) (Nat.le_of_ble_eq_true rfl) (cc_60 _) (s_X12_expression hb2) (fun r h q => ?_)
    obtain ⟨rfl, rfl⟩ := q
    simp only [Option.toList, List.cons_append, List.nil_append]
    refine r_aload_n rfl rfl ?_
    refine q_getfield rfl (cc_60 _) rfl ?_
    refine r_aload_n rfl rfl ?_
    refine q_getfield rfl (cc_60 _) rfl ?_
    refine r_aload_n rfl rfl ?_
    refine q_getfield rfl (cc_60 _) rfl ?_
    obtain ⟨hb3, hk⟩ := hk
    refine w_iast rfl (cc_88 _) hb3 ?_
    refine r_aload_n rfl rfl ?_
    refine r_dup rfl rfl ?_
    refine q_getfield rfl (cc_60 _) rfl ?_
    refine r_iconst_ (a := 1) rfl (by decide) ?_
    refine r_iadd rfl ?_
    refine w_put rfl (cc_60 _) ff_12_36 ft_12_36 (Nat.le_of_ble_eq_true rfl) rfl ?_
    refine r_ret rfl rfl ?_
    subst he
    exact ⟨rfl, rfl⟩

def f_X12_toldStep_36 (x1 : Int32) (y0 : Int32) (s : fl_I) (l : fl_L) : Int32 × fl_I × fl_L :=
    if (x1 = 0) then (y0, s, l) else ((-y0), s, l)

def p_X12_toldStep_36 (x1 : Int32) (y0 : Int32) (s : fl_I) (l : fl_L) : Prop :=
    (((x1 = 0) → True) ∧ (¬ (x1 = 0) → True))

set_option maxRecDepth 100000 in
set_option maxHeartbeats 4000000 in
theorem lp_X12_toldStep_36 {G : ab_G} {d : Nat} {D : fl_D} : ∀ (x1 : Int32) (y0 : Int32) (s : fl_I) (l : fl_L), p_X12_toldStep_36 x1 y0 s l → ab_C G (d + 3) 0 0 M_X12_toldStep 36 [none, some (.int x1), none] [.int y0] (hp D s l) (rt (some (.int (f_X12_toldStep_36 x1 y0 s l).1)) (hp D (f_X12_toldStep_36 x1 y0 s l).2.1 (f_X12_toldStep_36 x1 y0 s l).2.2)) := by
  intro x1 y0 s l hk
  generalize he : f_X12_toldStep_36 x1 y0 s l = res
  unfold f_X12_toldStep_36 at he
  unfold p_X12_toldStep_36 at hk
  refine r_istore_n rfl (Nat.le_of_ble_eq_true rfl) rfl ?_
  refine r_iload_n rfl rfl ?_
  refine r_if_eq rfl (fun c_38 => ?_) (fun c_38 => ?_)
  · rw [if_pos c_38] at he
    replace hk := hk.1 c_38
    refine r_iload_n rfl rfl ?_
    refine r_iret rfl rfl rfl ?_
    subst he
    exact ⟨rfl, rfl⟩
  · rw [if_neg c_38] at he
    replace hk := hk.2 c_38
    refine r_iload_n rfl rfl ?_
    refine r_ineg rfl ?_
    refine r_goto rfl ?_
    refine r_iret rfl rfl rfl ?_
    subst he
    exact ⟨rfl, rfl⟩

def f_X12_toldStep_30 (x1 : Int32) (s : fl_I) (l : fl_L) : Int32 × fl_I × fl_L :=
    f_X12_toldStep_36 x1 (f_X12_bounded (0 : Int32) (2 : Int32) s l).1 (f_X12_bounded (0 : Int32) (2 : Int32) s l).2.1 (f_X12_bounded (0 : Int32) (2 : Int32) s l).2.2

def p_X12_toldStep_30 (x1 : Int32) (s : fl_I) (l : fl_L) : Prop :=
    (p_X12_bounded (0 : Int32) (2 : Int32) s l) ∧ p_X12_toldStep_36 x1 (f_X12_bounded (0 : Int32) (2 : Int32) s l).1 (f_X12_bounded (0 : Int32) (2 : Int32) s l).2.1 (f_X12_bounded (0 : Int32) (2 : Int32) s l).2.2

set_option maxRecDepth 100000 in
set_option maxHeartbeats 4000000 in
theorem lp_X12_toldStep_30 {G : ab_G} {d : Nat} {D : fl_D} : ∀ (x1 : Int32) (s : fl_I) (l : fl_L), p_X12_toldStep_30 x1 s l → ab_C G (d + 3) 0 0 M_X12_toldStep 30 [some (.ref 60), some (.int x1), none] [] (hp D s l) (rt (some (.int (f_X12_toldStep_30 x1 s l).1)) (hp D (f_X12_toldStep_30 x1 s l).2.1 (f_X12_toldStep_30 x1 s l).2.2)) := by
  intro x1 s l hk
  generalize he : f_X12_toldStep_30 x1 s l = res
  unfold f_X12_toldStep_30 at he
  unfold p_X12_toldStep_30 at hk
  refine r_aload_n rfl rfl ?_
  refine r_iconst_ (a := 0) rfl (by decide) ?_
  refine r_iconst_ (a := 2) rfl (by decide) ?_
  obtain ⟨hb0, hk⟩ := hk
  refine q_callV0 [_, _] _ rfl kY_X12_bounded kT_X12_bounded rfl rfl (Nat.le_of_ble_eq_true rfl) (Nat.le_of_ble_eq_true rfl) (cc_60 _) (s_X12_bounded hb0) (fun r h q => ?_)
  obtain ⟨rfl, rfl⟩ := q
  simp only [Option.toList, List.cons_append, List.nil_append]
  subst he
  exact r_weak (L1 := [none, some (.int x1), none]) ⟨rfl, trivial⟩ (lp_X12_toldStep_36 _ _ _ _ hk)

def f_X12_toldStep_20 (s : fl_I) (l : fl_L) : Int32 × fl_I × fl_L :=
    if ((0 : Int32) = 0) then f_X12_toldStep_30 (0 : Int32) s l else f_X12_toldStep_30 (0 : Int32) (f_X12_goesOn s l).1 (f_X12_goesOn s l).2

def p_X12_toldStep_20 (s : fl_I) (l : fl_L) : Prop :=
    ((((0 : Int32) = 0) → p_X12_toldStep_30 (0 : Int32) s l) ∧ (¬ ((0 : Int32) = 0) → (p_X12_goesOn s l) ∧ p_X12_toldStep_30 (0 : Int32) (f_X12_goesOn s l).1 (f_X12_goesOn s l).2))

set_option maxRecDepth 100000 in
set_option maxHeartbeats 4000000 in
theorem lp_X12_toldStep_20 {G : ab_G} {d : Nat} {D : fl_D} : ∀ (s : fl_I) (l : fl_L), p_X12_toldStep_20  s l → ab_C G (d + 3) 0 0 M_X12_toldStep 20 [some (.ref 60), none, none] [] (hp D s l) (rt (some (.int (f_X12_toldStep_20  s l).1)) (hp D (f_X12_toldStep_20  s l).2.1 (f_X12_toldStep_20  s l).2.2)) := by
  intro  s l hk
  generalize he : f_X12_toldStep_20  s l = res
  unfold f_X12_toldStep_20 at he
  unfold p_X12_toldStep_20 at hk
  refine r_iconst_ (a := 0) rfl (by decide) ?_
  refine r_istore_n rfl (Nat.le_of_ble_eq_true rfl) rfl ?_
  refine r_iload_n rfl rfl ?_
  refine r_if_eq rfl (fun c_23 => ?_) (fun c_23 => ?_)
  · rw [if_pos c_23] at he
    replace hk := hk.1 c_23
    subst he
    exact r_weak (L1 := [some (.ref 60), some (.int (0 : Int32)), none]) ⟨rfl, rfl, trivial⟩ (lp_X12_toldStep_30 _ _ _ hk)
  · rw [if_neg c_23] at he
    replace hk := hk.2 c_23
    refine r_aload_n rfl rfl ?_
    obtain ⟨hb1, hk⟩ := hk
    refine q_callV0 [] _ rfl kY_X12_goesOn kT_X12_goesOn rfl rfl (Nat.le_of_ble_eq_true rfl) (Nat.le_of_ble_eq_true rfl) (cc_60 _) (s_X12_goesOn hb1) (fun r h q => ?_)
    obtain ⟨rfl, rfl⟩ := q
    simp only [Option.toList, List.cons_append, List.nil_append]
    subst he
    exact r_weak (L1 := [some (.ref 60), some (.int (0 : Int32)), none]) ⟨rfl, rfl, trivial⟩ (lp_X12_toldStep_30 _ _ _ hk)

def f_X12_toldStep (s : fl_I) (l : fl_L) : Int32 × fl_I × fl_L :=
  if ((s 60 13) = 0) then if ((f_X12_is (9 : Int32) s l) = 0) then f_X12_toldStep_20  s l else if ((1 : Int32) = 0) then f_X12_toldStep_30 (1 : Int32) s l else f_X12_toldStep_30 (1 : Int32) (f_X12_goesOn s l).1 (f_X12_goesOn s l).2 else f_X12_toldStep_20  s l

def p_X12_toldStep (s : fl_I) (l : fl_L) : Prop :=
  ((((s 60 13) = 0) → (p_X12_is (9 : Int32) s l) ∧ ((((f_X12_is (9 : Int32) s l) = 0) → p_X12_toldStep_20  s l) ∧ (¬ ((f_X12_is (9 : Int32) s l) = 0) → ((((1 : Int32) = 0) → p_X12_toldStep_30 (1 : Int32) s l) ∧ (¬ ((1 : Int32) = 0) → (p_X12_goesOn s l) ∧ p_X12_toldStep_30 (1 : Int32) (f_X12_goesOn s l).1 (f_X12_goesOn s l).2))))) ∧ (¬ ((s 60 13) = 0) → p_X12_toldStep_20  s l))

set_option maxRecDepth 100000 in
set_option maxHeartbeats 4000000 in
theorem s_X12_toldStep {G : ab_G} {d : Nat} {D : fl_D} {s : fl_I} {l : fl_L}  (hk : p_X12_toldStep s l) : ab_C G (d + 3) 0 0 M_X12_toldStep 0 (ab_ent [.ref 60]) [] (hp D s l) (rt (some (.int (f_X12_toldStep s l).1)) (hp D (f_X12_toldStep s l).2.1 (f_X12_toldStep s l).2.2)) := by
  generalize he : (f_X12_toldStep s l) = res
  unfold f_X12_toldStep at he
  unfold p_X12_toldStep at hk
  refine r_weak (L1 := [some (.ref 60), none, none]) ⟨rfl, trivial⟩ ?_
  refine r_aload_n rfl rfl ?_
  refine q_getfield rfl (cc_60 _) rfl ?_
  refine r_if_ne rfl (fun c_4 => ?_) (fun c_4 => ?_)
  · rw [if_neg c_4] at he
    replace hk := hk.2 c_4
    subst he
    exact r_weak (L1 := [some (.ref 60), none, none]) ⟨rfl, trivial⟩ (lp_X12_toldStep_20 _ _ hk)
  · rw [if_pos c_4] at he
    replace hk := hk.1 c_4
    refine r_aload_n rfl rfl ?_
    refine r_bipush_ (a := 9) rfl (by decide) ?_
    obtain ⟨hb2, hk⟩ := hk
    refine q_callV0 [_] _ rfl kY_X12_is kT_X12_is rfl rfl (Nat.le_of_ble_eq_true rfl) (Nat.le_of_ble_eq_true rfl) (cc_60 _) (s_X12_is hb2) (fun r h q => ?_)
    obtain ⟨rfl, rfl⟩ := q
    simp only [Option.toList, List.cons_append, List.nil_append]
    refine r_if_eq rfl (fun c_13 => ?_) (fun c_13 => ?_)
    · rw [if_pos c_13] at he
      replace hk := hk.1 c_13
      subst he
      exact r_weak (L1 := [some (.ref 60), none, none]) ⟨rfl, trivial⟩ (lp_X12_toldStep_20 _ _ hk)
    · rw [if_neg c_13] at he
      replace hk := hk.2 c_13
      refine r_iconst_ (a := 1) rfl (by decide) ?_
      refine r_goto rfl ?_
      refine r_istore_n rfl (Nat.le_of_ble_eq_true rfl) rfl ?_
      refine r_iload_n rfl rfl ?_
      refine r_if_eq rfl (fun c_23 => ?_) (fun c_23 => ?_)
      · rw [if_pos c_23] at he
        replace hk := hk.1 c_23
        subst he
        exact r_weak (L1 := [some (.ref 60), some (.int (1 : Int32)), none]) ⟨rfl, rfl, trivial⟩ (lp_X12_toldStep_30 _ _ _ hk)
      · rw [if_neg c_23] at he
        replace hk := hk.2 c_23
        refine r_aload_n rfl rfl ?_
        obtain ⟨hb3, hk⟩ := hk
        refine q_callV0 [] _ rfl kY_X12_goesOn kT_X12_goesOn rfl rfl (Nat.le_of_ble_eq_true rfl) (Nat.le_of_ble_eq_true rfl) (cc_60 _) (s_X12_goesOn hb3) (fun r h q => ?_)
        obtain ⟨rfl, rfl⟩ := q
        simp only [Option.toList, List.cons_append, List.nil_append]
        subst he
        exact r_weak (L1 := [some (.ref 60), some (.int (1 : Int32)), none]) ⟨rfl, rfl, trivial⟩ (lp_X12_toldStep_30 _ _ _ hk)

def f_X7_agrees_3 : Nat → Int64 → Int32 → Int32 → fl_I → fl_L → Int32
  | 0, _, _, _, _, _ => 0
  | n + 1, x1, x3, x4, s, l =>
    if (x3 ≤ x4) then (1 : Int32) else if ((20 : Int32) ≤ x4) then (1 : Int32) else if ((s 58 x4.toNatClampNeg) ≤ 0) then if ((f_X7_hasSign x1 (i_abs (s 58 x4.toNatClampNeg))) = (0 : Int32)) then f_X7_agrees_3 n x1 x3 (x4 + 1) s l else (0 : Int32) else if ((f_X7_hasSign x1 (i_abs (s 58 x4.toNatClampNeg))) = (1 : Int32)) then f_X7_agrees_3 n x1 x3 (x4 + 1) s l else (0 : Int32)

def p_X7_agrees_3 : Nat → Int64 → Int32 → Int32 → fl_I → fl_L → Prop
  | 0, _, _, _, _, _ => False
  | n + 1, x1, x3, x4, s, l =>
    (((x3 ≤ x4) → True) ∧ (¬ (x3 ≤ x4) → ((((20 : Int32) ≤ x4) → True) ∧ (¬ ((20 : Int32) ≤ x4) → (vp_in x4 20) ∧ (p_X7_hasSign x1 (i_abs (s 58 x4.toNatClampNeg))) ∧ (vp_in x4 20) ∧ ((((s 58 x4.toNatClampNeg) ≤ 0) → ((((f_X7_hasSign x1 (i_abs (s 58 x4.toNatClampNeg))) = (0 : Int32)) → p_X7_agrees_3 n x1 x3 (x4 + 1) s l) ∧ (¬ ((f_X7_hasSign x1 (i_abs (s 58 x4.toNatClampNeg))) = (0 : Int32)) → True))) ∧ (¬ ((s 58 x4.toNatClampNeg) ≤ 0) → ((((f_X7_hasSign x1 (i_abs (s 58 x4.toNatClampNeg))) = (1 : Int32)) → p_X7_agrees_3 n x1 x3 (x4 + 1) s l) ∧ (¬ ((f_X7_hasSign x1 (i_abs (s 58 x4.toNatClampNeg))) = (1 : Int32)) → True))))))))

set_option maxRecDepth 100000 in
set_option maxHeartbeats 4000000 in
theorem lp_X7_agrees_3 {G : ab_G} {d : Nat} {D : fl_D} {s : fl_I} {l : fl_L} : ∀ (n : Nat) (x1 : Int64) (x3 : Int32) (x4 : Int32), p_X7_agrees_3 n x1 x3 x4 s l → ab_C G (d + 2) 0 0 M_X7_agrees 3 [some (.ref 57), some (.long x1), none, some (.int x3), some (.int x4)] [] (hp D s l) (rt (some (.int (f_X7_agrees_3 n x1 x3 x4 s l))) (hp D s l)) := by
  intro n
  induction n with
  | zero => intro x1 x3 x4 hk; exact hk.elim
  | succ n ih =>
    intro x1 x3 x4 hk
    generalize he : f_X7_agrees_3 (n + 1) x1 x3 x4 s l = res
    unfold f_X7_agrees_3 at he
    unfold p_X7_agrees_3 at hk
    refine r_iload rfl rfl ?_
    refine r_iload_n rfl rfl ?_
    refine r_icmp_ge rfl (fun c_6 => ?_) (fun c_6 => ?_)
    · rw [if_pos c_6] at he
      replace hk := hk.1 c_6
      refine r_iconst_ (a := 1) rfl (by decide) ?_
      refine r_iret rfl rfl rfl ?_
      subst he
      exact ⟨rfl, rfl⟩
    · rw [if_neg c_6] at he
      replace hk := hk.2 c_6
      refine r_iload rfl rfl ?_
      refine r_bipush_ (a := 20) rfl (by decide) ?_
      refine r_icmp_ge rfl (fun c_13 => ?_) (fun c_13 => ?_)
      · rw [if_pos c_13] at he
        replace hk := hk.1 c_13
        refine r_iconst_ (a := 1) rfl (by decide) ?_
        refine r_iret rfl rfl rfl ?_
        subst he
        exact ⟨rfl, rfl⟩
      · rw [if_neg c_13] at he
        replace hk := hk.2 c_13
        refine r_lload_n rfl rfl ?_
        refine r_aload_n rfl rfl ?_
        refine q_getfield rfl (cc_57 _) rfl ?_
        refine r_iload rfl rfl ?_
        obtain ⟨hb0, hk⟩ := hk
        refine q_iald rfl (cc_58 _) hb0 ?_
        refine r_mabs rfl (Nat.le_of_ble_eq_true rfl) ?_
        obtain ⟨hb1, hk⟩ := hk
        refine r_callS0 [_, _] _ rfl kY_X7_hasSign kT_X7_hasSign rfl rfl (Nat.le_of_ble_eq_true rfl) (Nat.le_of_ble_eq_true rfl) (s_X7_hasSign hb1) (fun r h q => ?_)
        obtain ⟨rfl, rfl⟩ := q
        simp only [Option.toList, List.cons_append, List.nil_append]
        refine r_aload_n rfl rfl ?_
        refine q_getfield rfl (cc_57 _) rfl ?_
        refine r_iload rfl rfl ?_
        obtain ⟨hb2, hk⟩ := hk
        refine q_iald rfl (cc_58 _) hb2 ?_
        refine r_if_le rfl (fun c_37 => ?_) (fun c_37 => ?_)
        · rw [if_pos c_37] at he
          replace hk := hk.1 c_37
          refine r_iconst_ (a := 0) rfl (by decide) ?_
          refine r_icmp_eq rfl (fun c_45 => ?_) (fun c_45 => ?_)
          · rw [if_pos c_45] at he
            replace hk := hk.1 c_45
            refine r_iinc (b := x4 + 1) rfl rfl rfl (Nat.le_of_ble_eq_true rfl) rfl ?_
            refine r_goto rfl ?_
            subst he
            exact r_weak (L1 := [some (.ref 57), some (.long x1), none, some (.int x3), some (.int (x4 + 1))]) ⟨rfl, rfl, rfl, rfl, trivial⟩ (ih _ _ _ hk)
          · rw [if_neg c_45] at he
            replace hk := hk.2 c_45
            refine r_iconst_ (a := 0) rfl (by decide) ?_
            refine r_iret rfl rfl rfl ?_
            subst he
            exact ⟨rfl, rfl⟩
        · rw [if_neg c_37] at he
          replace hk := hk.2 c_37
          refine r_iconst_ (a := 1) rfl (by decide) ?_
          refine r_goto rfl ?_
          refine r_icmp_eq rfl (fun c_45 => ?_) (fun c_45 => ?_)
          · rw [if_pos c_45] at he
            replace hk := hk.1 c_45
            refine r_iinc (b := x4 + 1) rfl rfl rfl (Nat.le_of_ble_eq_true rfl) rfl ?_
            refine r_goto rfl ?_
            subst he
            exact r_weak (L1 := [some (.ref 57), some (.long x1), none, some (.int x3), some (.int (x4 + 1))]) ⟨rfl, rfl, rfl, rfl, trivial⟩ (ih _ _ _ hk)
          · rw [if_neg c_45] at he
            replace hk := hk.2 c_45
            refine r_iconst_ (a := 0) rfl (by decide) ?_
            refine r_iret rfl rfl rfl ?_
            subst he
            exact ⟨rfl, rfl⟩

def f_X7_agrees (v0 : Int64) (v1 : Int32) (s : fl_I) (l : fl_L) : Int32 :=
  f_X7_agrees_3 fu v0 v1 (0 : Int32) s l

def p_X7_agrees (v0 : Int64) (v1 : Int32) (s : fl_I) (l : fl_L) : Prop :=
  p_X7_agrees_3 fu v0 v1 (0 : Int32) s l

set_option maxRecDepth 100000 in
set_option maxHeartbeats 4000000 in
theorem s_X7_agrees {G : ab_G} {d : Nat} {D : fl_D} {s : fl_I} {l : fl_L} {v0 : Int64} {v1 : Int32} (hk : p_X7_agrees v0 v1 s l) : ab_C G (d + 2) 0 0 M_X7_agrees 0 (ab_ent [.ref 57, .long v0, .int v1]) [] (hp D s l) (rt (some (.int (f_X7_agrees v0 v1 s l))) (hp D s l)) := by
  generalize he : (f_X7_agrees v0 v1 s l) = res
  unfold f_X7_agrees at he
  unfold p_X7_agrees at hk
  refine r_weak (L1 := [some (.ref 57), some (.long v0), none, some (.int v1), none]) ⟨rfl, rfl, rfl, trivial⟩ ?_
  refine r_iconst_ (a := 0) rfl (by decide) ?_
  refine r_istore rfl (Nat.le_of_ble_eq_true rfl) rfl ?_
  subst he
  exact r_weak (L1 := [some (.ref 57), some (.long v0), none, some (.int v1), some (.int (0 : Int32))]) ⟨rfl, rfl, rfl, rfl, trivial⟩ (lp_X7_agrees_3 fu _ _ _ hk)

def f_X8_shared_6 : Nat → Int32 → Int32 → Int32 → Int32 → fl_D → fl_I → fl_L → Int32
  | 0, _, _, _, _, _, _, _ => 0
  | n + 1, x1, x2, x3, x4, D, s, l =>
    if ((f_X8_all s l) < x4) then x3 else f_X8_shared_6 n x1 x2 (i_min x3 (i_max (f_X8_fewest x1 x4 D s l) (f_X8_fewest x2 ((f_X8_all s l) &&& (x4 ^^^ (-1 : Int32))) D s l))) (x4 + 1) D s l

def p_X8_shared_6 : Nat → Int32 → Int32 → Int32 → Int32 → fl_D → fl_I → fl_L → Prop
  | 0, _, _, _, _, _, _, _ => False
  | n + 1, x1, x2, x3, x4, D, s, l =>
    (p_X8_all s l) ∧ ((((f_X8_all s l) < x4) → True) ∧ (¬ ((f_X8_all s l) < x4) → (p_X8_fewest x1 x4 D s l) ∧ (p_X8_all s l) ∧ (p_X8_fewest x2 ((f_X8_all s l) &&& (x4 ^^^ (-1 : Int32))) D s l) ∧ p_X8_shared_6 n x1 x2 (i_min x3 (i_max (f_X8_fewest x1 x4 D s l) (f_X8_fewest x2 ((f_X8_all s l) &&& (x4 ^^^ (-1 : Int32))) D s l))) (x4 + 1) D s l))

set_option maxRecDepth 100000 in
set_option maxHeartbeats 4000000 in
theorem lp_X8_shared_6 {G : ab_G} {d : Nat} {D : fl_D} {s : fl_I} {l : fl_L} (hfr : ∀ f g, cl D D.2.2.2.1 f g = some (.inl (0, 10240, .inl f))) : ∀ (n : Nat) (x1 : Int32) (x2 : Int32) (x3 : Int32) (x4 : Int32), p_X8_shared_6 n x1 x2 x3 x4 D s l → ab_C G (d + 2) 0 0 M_X8_shared 6 [some (.ref 51), some (.int x1), some (.int x2), some (.int x3), some (.int x4), none] [] (hp D s l) (rt (some (.int (f_X8_shared_6 n x1 x2 x3 x4 D s l))) (hp D s l)) := by
  intro n
  induction n with
  | zero => intro x1 x2 x3 x4 hk; exact hk.elim
  | succ n ih =>
    intro x1 x2 x3 x4 hk
    generalize he : f_X8_shared_6 (n + 1) x1 x2 x3 x4 D s l = res
    unfold f_X8_shared_6 at he
    unfold p_X8_shared_6 at hk
    refine r_iload rfl rfl ?_
    refine r_aload_n rfl rfl ?_
    obtain ⟨hb0, hk⟩ := hk
    refine q_callV0 [] _ rfl kY_X8_all kT_X8_all rfl rfl (Nat.le_of_ble_eq_true rfl) (Nat.le_of_ble_eq_true rfl) (cc_51 _) (s_X8_all hb0) (fun r h q => ?_)
    obtain ⟨rfl, rfl⟩ := q
    simp only [Option.toList, List.cons_append, List.nil_append]
    refine r_icmp_gt rfl (fun c_12 => ?_) (fun c_12 => ?_)
    · rw [if_pos c_12] at he
      replace hk := hk.1 c_12
      refine r_iload_n rfl rfl ?_
      refine r_iret rfl rfl rfl ?_
      subst he
      exact ⟨rfl, rfl⟩
    · rw [if_neg c_12] at he
      replace hk := hk.2 c_12
      refine r_aload_n rfl rfl ?_
      refine r_iload_n rfl rfl ?_
      refine r_iload rfl rfl ?_
      obtain ⟨hb1, hk⟩ := hk
      refine q_callV0 [_, _] _ rfl kY_X8_fewest kT_X8_fewest rfl rfl (Nat.le_of_ble_eq_true rfl) (Nat.le_of_ble_eq_true rfl) (cc_51 _) (s_X8_fewest hfr hb1) (fun r h q => ?_)
      obtain ⟨rfl, rfl⟩ := q
      simp only [Option.toList, List.cons_append, List.nil_append]
      refine r_aload_n rfl rfl ?_
      refine r_iload_n rfl rfl ?_
      refine r_aload_n rfl rfl ?_
      obtain ⟨hb2, hk⟩ := hk
      refine q_callV0 [] _ rfl kY_X8_all kT_X8_all rfl rfl (Nat.le_of_ble_eq_true rfl) (Nat.le_of_ble_eq_true rfl) (cc_51 _) (s_X8_all hb2) (fun r h q => ?_)
      obtain ⟨rfl, rfl⟩ := q
      simp only [Option.toList, List.cons_append, List.nil_append]
      refine r_iload rfl rfl ?_
      refine r_iconst_ (a := -1) rfl (by decide) ?_
      refine r_ixor rfl ?_
      refine r_iand rfl ?_
      obtain ⟨hb3, hk⟩ := hk
      refine q_callV0 [_, _] _ rfl kY_X8_fewest kT_X8_fewest rfl rfl (Nat.le_of_ble_eq_true rfl) (Nat.le_of_ble_eq_true rfl) (cc_51 _) (s_X8_fewest hfr hb3) (fun r h q => ?_)
      obtain ⟨rfl, rfl⟩ := q
      simp only [Option.toList, List.cons_append, List.nil_append]
      refine r_mmax rfl (Nat.le_of_ble_eq_true rfl) ?_
      refine r_istore rfl (Nat.le_of_ble_eq_true rfl) rfl ?_
      refine r_iload_n rfl rfl ?_
      refine r_iload rfl rfl ?_
      refine r_mmin rfl (Nat.le_of_ble_eq_true rfl) ?_
      refine r_istore_n rfl (Nat.le_of_ble_eq_true rfl) rfl ?_
      refine r_iinc (b := x4 + 1) rfl rfl rfl (Nat.le_of_ble_eq_true rfl) rfl ?_
      refine r_goto rfl ?_
      subst he
      exact r_weak (L1 := [some (.ref 51), some (.int x1), some (.int x2), some (.int (i_min x3 (i_max (f_X8_fewest x1 x4 D s l) (f_X8_fewest x2 ((f_X8_all s l) &&& (x4 ^^^ (-1 : Int32))) D s l)))), some (.int (x4 + 1)), none]) ⟨rfl, rfl, rfl, rfl, rfl, trivial⟩ (ih _ _ _ _ hk)

def f_X8_shared (v0 : Int32) (v1 : Int32) (D : fl_D) (s : fl_I) (l : fl_L) : Int32 :=
  f_X8_shared_6 fu v0 v1 (1000000 : Int32) (0 : Int32) D s l

def p_X8_shared (v0 : Int32) (v1 : Int32) (D : fl_D) (s : fl_I) (l : fl_L) : Prop :=
  p_X8_shared_6 fu v0 v1 (1000000 : Int32) (0 : Int32) D s l

set_option maxRecDepth 100000 in
set_option maxHeartbeats 4000000 in
theorem s_X8_shared {G : ab_G} {d : Nat} {D : fl_D} {s : fl_I} {l : fl_L} (hfr : ∀ f g, cl D D.2.2.2.1 f g = some (.inl (0, 10240, .inl f))) {v0 : Int32} {v1 : Int32} (hk : p_X8_shared v0 v1 D s l) : ab_C G (d + 2) 0 0 M_X8_shared 0 (ab_ent [.ref 51, .int v0, .int v1]) [] (hp D s l) (rt (some (.int (f_X8_shared v0 v1 D s l))) (hp D s l)) := by
  generalize he : (f_X8_shared v0 v1 D s l) = res
  unfold f_X8_shared at he
  unfold p_X8_shared at hk
  refine r_weak (L1 := [some (.ref 51), some (.int v0), some (.int v1), none, none, none]) ⟨rfl, rfl, rfl, trivial⟩ ?_
  refine r_ldc rfl ?_
  refine r_istore_n rfl (Nat.le_of_ble_eq_true rfl) rfl ?_
  refine r_iconst_ (a := 0) rfl (by decide) ?_
  refine r_istore rfl (Nat.le_of_ble_eq_true rfl) rfl ?_
  subst he
  exact r_weak (L1 := [some (.ref 51), some (.int v0), some (.int v1), some (.int (1000000 : Int32)), some (.int (0 : Int32)), none]) ⟨rfl, rfl, rfl, rfl, rfl, trivial⟩ (lp_X8_shared_6 hfr fu _ _ _ _ hk)

def f_X0_takeOut_11 : Nat → Int64 → Int32 → Int32 → Int32 → fl_I → fl_L → Int32 × fl_I × fl_L
  | 0, x1, x3, x4, x5, s, l => (0, s, l)
  | n + 1, x1, x3, x4, x5, s, l =>
    if (x4 ≤ x5) then (x3, s, l) else if (0 ≤ ((wi s 56 (f_X11_signAt x1 x5).toNatClampNeg ((s 56 (f_X11_signAt x1 x5).toNatClampNeg) - (1 : Int32))) 56 (f_X11_signAt x1 x5).toNatClampNeg)) then f_X0_takeOut_11 n x1 x3 x4 (x5 + 1) (wi s 56 (f_X11_signAt x1 x5).toNatClampNeg ((s 56 (f_X11_signAt x1 x5).toNatClampNeg) - (1 : Int32))) l else f_X0_takeOut_11 n x1 (x3 + 1) x4 (x5 + 1) (wi s 56 (f_X11_signAt x1 x5).toNatClampNeg ((s 56 (f_X11_signAt x1 x5).toNatClampNeg) - (1 : Int32))) l

def p_X0_takeOut_11 : Nat → Int64 → Int32 → Int32 → Int32 → fl_I → fl_L → Prop
  | 0, _, _, _, _, _, _ => False
  | n + 1, x1, x3, x4, x5, s, l =>
    (((x4 ≤ x5) → True) ∧ (¬ (x4 ≤ x5) → (p_X11_signAt x1 x5) ∧ (vp_in (f_X11_signAt x1 x5) 32) ∧ (vp_in (f_X11_signAt x1 x5) 32) ∧ (vp_in (f_X11_signAt x1 x5) 32) ∧ (((0 ≤ ((wi s 56 (f_X11_signAt x1 x5).toNatClampNeg ((s 56 (f_X11_signAt x1 x5).toNatClampNeg) - (1 : Int32))) 56 (f_X11_signAt x1 x5).toNatClampNeg)) → p_X0_takeOut_11 n x1 x3 x4 (x5 + 1) (wi s 56 (f_X11_signAt x1 x5).toNatClampNeg ((s 56 (f_X11_signAt x1 x5).toNatClampNeg) - (1 : Int32))) l) ∧ (¬ (0 ≤ ((wi s 56 (f_X11_signAt x1 x5).toNatClampNeg ((s 56 (f_X11_signAt x1 x5).toNatClampNeg) - (1 : Int32))) 56 (f_X11_signAt x1 x5).toNatClampNeg)) → p_X0_takeOut_11 n x1 (x3 + 1) x4 (x5 + 1) (wi s 56 (f_X11_signAt x1 x5).toNatClampNeg ((s 56 (f_X11_signAt x1 x5).toNatClampNeg) - (1 : Int32))) l))))

set_option maxRecDepth 100000 in
set_option maxHeartbeats 4000000 in
theorem lp_X0_takeOut_11 {G : ab_G} {d : Nat} {D : fl_D} : ∀ (n : Nat) (x1 : Int64) (x3 : Int32) (x4 : Int32) (x5 : Int32) (s : fl_I) (l : fl_L), p_X0_takeOut_11 n x1 x3 x4 x5 s l → ab_C G (d + 2) 0 0 M_X0_takeOut 11 [some (.ref 55), some (.long x1), none, some (.int x3), some (.int x4), some (.int x5), none] [] (hp D s l) (rt (some (.int (f_X0_takeOut_11 n x1 x3 x4 x5 s l).1)) (hp D (f_X0_takeOut_11 n x1 x3 x4 x5 s l).2.1 (f_X0_takeOut_11 n x1 x3 x4 x5 s l).2.2)) := by
  intro n
  induction n with
  | zero => intro x1 x3 x4 x5 s l hk; exact hk.elim
  | succ n ih =>
    intro x1 x3 x4 x5 s l hk
    generalize he : f_X0_takeOut_11 (n + 1) x1 x3 x4 x5 s l = res
    unfold f_X0_takeOut_11 at he
    unfold p_X0_takeOut_11 at hk
    refine r_iload rfl rfl ?_
    refine r_iload rfl rfl ?_
    refine r_icmp_ge rfl (fun c_15 => ?_) (fun c_15 => ?_)
    · rw [if_pos c_15] at he
      replace hk := hk.1 c_15
      refine r_iload_n rfl rfl ?_
      refine r_iret rfl rfl rfl ?_
      subst he
      exact ⟨rfl, rfl⟩
    · rw [if_neg c_15] at he
      replace hk := hk.2 c_15
      refine r_lload_n rfl rfl ?_
      refine r_iload rfl rfl ?_
      obtain ⟨hb1, hk⟩ := hk
      refine r_callSN0 [_, _] _ rfl kY_X11_signAt kT_X11_signAt rfl rfl (Nat.le_of_ble_eq_true rfl) (Nat.le_of_ble_eq_true rfl) (s_X11_signAt hb1) (fun r h q => ?_)
      obtain ⟨rfl, rfl⟩ := q
      simp only [Option.toList, List.cons_append, List.nil_append]
      refine r_istore rfl (Nat.le_of_ble_eq_true rfl) rfl ?_
      refine r_aload_n rfl rfl ?_
      refine q_getfield rfl (cc_55 _) rfl ?_
      refine r_iload rfl rfl ?_
      refine r_dup2 rfl rfl rfl ?_
      obtain ⟨hb2, hk⟩ := hk
      refine q_iald rfl (cc_56 _) hb2 ?_
      refine r_iconst_ (a := 1) rfl (by decide) ?_
      refine r_isub rfl ?_
      obtain ⟨hb3, hk⟩ := hk
      refine w_iast rfl (cc_56 _) hb3 ?_
      refine r_aload_n rfl rfl ?_
      refine q_getfield rfl (cc_55 _) rfl ?_
      refine r_iload rfl rfl ?_
      obtain ⟨hb4, hk⟩ := hk
      refine q_iald rfl (cc_56 _) hb4 ?_
      refine r_if_ge rfl (fun c_44 => ?_) (fun c_44 => ?_)
      · rw [if_pos c_44] at he
        replace hk := hk.1 c_44
        refine r_iinc (b := x5 + 1) rfl rfl rfl (Nat.le_of_ble_eq_true rfl) rfl ?_
        refine r_goto rfl ?_
        subst he
        exact r_weak (L1 := [some (.ref 55), some (.long x1), none, some (.int x3), some (.int x4), some (.int (x5 + 1)), none]) ⟨rfl, rfl, rfl, rfl, rfl, trivial⟩ (ih _ _ _ _ _ _ hk)
      · rw [if_neg c_44] at he
        replace hk := hk.2 c_44
        refine r_iinc (b := x3 + 1) rfl rfl rfl (Nat.le_of_ble_eq_true rfl) rfl ?_
        refine r_iinc (b := x5 + 1) rfl rfl rfl (Nat.le_of_ble_eq_true rfl) rfl ?_
        refine r_goto rfl ?_
        subst he
        exact r_weak (L1 := [some (.ref 55), some (.long x1), none, some (.int (x3 + 1)), some (.int x4), some (.int (x5 + 1)), none]) ⟨rfl, rfl, rfl, rfl, rfl, trivial⟩ (ih _ _ _ _ _ _ hk)

def f_X0_takeOut (v0 : Int64) (s : fl_I) (l : fl_L) : Int32 × fl_I × fl_L :=
  f_X0_takeOut_11 fu v0 (0 : Int32) (f_X11_nameLength v0) (0 : Int32) s l

def p_X0_takeOut (v0 : Int64) (s : fl_I) (l : fl_L) : Prop :=
  (p_X11_nameLength v0) ∧ p_X0_takeOut_11 fu v0 (0 : Int32) (f_X11_nameLength v0) (0 : Int32) s l

set_option maxRecDepth 100000 in
set_option maxHeartbeats 4000000 in
theorem s_X0_takeOut {G : ab_G} {d : Nat} {D : fl_D} {s : fl_I} {l : fl_L} {v0 : Int64} (hk : p_X0_takeOut v0 s l) : ab_C G (d + 2) 0 0 M_X0_takeOut 0 (ab_ent [.ref 55, .long v0]) [] (hp D s l) (rt (some (.int (f_X0_takeOut v0 s l).1)) (hp D (f_X0_takeOut v0 s l).2.1 (f_X0_takeOut v0 s l).2.2)) := by
  generalize he : (f_X0_takeOut v0 s l) = res
  unfold f_X0_takeOut at he
  unfold p_X0_takeOut at hk
  refine r_weak (L1 := [some (.ref 55), some (.long v0), none, none, none, none, none]) ⟨rfl, rfl, trivial⟩ ?_
  refine r_iconst_ (a := 0) rfl (by decide) ?_
  refine r_istore_n rfl (Nat.le_of_ble_eq_true rfl) rfl ?_
  refine r_lload_n rfl rfl ?_
  obtain ⟨hb0, hk⟩ := hk
  refine r_callSN0 [_] _ rfl kY_X11_nameLength kT_X11_nameLength rfl rfl (Nat.le_of_ble_eq_true rfl) (Nat.le_of_ble_eq_true rfl) (s_X11_nameLength hb0) (fun r h q => ?_)
  obtain ⟨rfl, rfl⟩ := q
  simp only [Option.toList, List.cons_append, List.nil_append]
  refine r_istore rfl (Nat.le_of_ble_eq_true rfl) rfl ?_
  refine r_iconst_ (a := 0) rfl (by decide) ?_
  refine r_istore rfl (Nat.le_of_ble_eq_true rfl) rfl ?_
  subst he
  exact r_weak (L1 := [some (.ref 55), some (.long v0), none, some (.int (0 : Int32)), some (.int (f_X11_nameLength v0)), some (.int (0 : Int32)), none]) ⟨rfl, rfl, rfl, rfl, rfl, trivial⟩ (lp_X0_takeOut_11 fu _ _ _ _ _ _ hk)

def f_X3_takeStep_37 (s : fl_I) (l : fl_L) : Int32 × fl_I × fl_L :=
    ((0 : Int32), s, l)

def p_X3_takeStep_37 (s : fl_I) (l : fl_L) : Prop :=
    True

set_option maxRecDepth 100000 in
set_option maxHeartbeats 4000000 in
theorem lp_X3_takeStep_37 {G : ab_G} {d : Nat} {D : fl_D} : ∀ (s : fl_I) (l : fl_L), p_X3_takeStep_37  s l → ab_C G (d + 3) 0 0 M_X3_takeStep 37 [none, none] [] (hp D s l) (rt (some (.int (f_X3_takeStep_37  s l).1)) (hp D (f_X3_takeStep_37  s l).2.1 (f_X3_takeStep_37  s l).2.2)) := by
  intro  s l hk
  generalize he : f_X3_takeStep_37  s l = res
  unfold f_X3_takeStep_37 at he
  unfold p_X3_takeStep_37 at hk
  refine r_iconst_ (a := 0) rfl (by decide) ?_
  refine r_iret rfl rfl rfl ?_
  subst he
  exact ⟨rfl, rfl⟩

def f_X3_takeStep_34 (x1 : Int32) (y0 : Int32) (s : fl_I) (l : fl_L) : Int32 × fl_I × fl_L :=
    if (y0 = 0) then f_X3_takeStep_37  s l else if (x1 = 0) then ((1 : Int32), (wi s 3 6 (s 3 6)), l) else ((1 : Int32), (wi s 3 6 (-(s 3 6))), l)

def p_X3_takeStep_34 (x1 : Int32) (y0 : Int32) (s : fl_I) (l : fl_L) : Prop :=
    (((y0 = 0) → p_X3_takeStep_37  s l) ∧ (¬ (y0 = 0) → (((x1 = 0) → True) ∧ (¬ (x1 = 0) → True))))

set_option maxRecDepth 100000 in
set_option maxHeartbeats 4000000 in
theorem lp_X3_takeStep_34 {G : ab_G} {d : Nat} {D : fl_D} : ∀ (x1 : Int32) (y0 : Int32) (s : fl_I) (l : fl_L), p_X3_takeStep_34 x1 y0 s l → ab_C G (d + 3) 0 0 M_X3_takeStep 34 [some (.ref 3), some (.int x1)] [.int y0] (hp D s l) (rt (some (.int (f_X3_takeStep_34 x1 y0 s l).1)) (hp D (f_X3_takeStep_34 x1 y0 s l).2.1 (f_X3_takeStep_34 x1 y0 s l).2.2)) := by
  intro x1 y0 s l hk
  generalize he : f_X3_takeStep_34 x1 y0 s l = res
  unfold f_X3_takeStep_34 at he
  unfold p_X3_takeStep_34 at hk
  refine r_if_ne rfl (fun c_34 => ?_) (fun c_34 => ?_)
  · rw [if_neg c_34] at he
    replace hk := hk.2 c_34
    refine r_aload_n rfl rfl ?_
    refine r_iload_n rfl rfl ?_
    refine r_if_eq rfl (fun c_41 => ?_) (fun c_41 => ?_)
    · rw [if_pos c_41] at he
      replace hk := hk.1 c_41
      refine r_aload_n rfl rfl ?_
      refine q_getfield rfl (cc_3 _) rfl ?_
      refine w_put rfl (cc_3 _) ff_3_6 ft_3_6 (Nat.le_of_ble_eq_true rfl) rfl ?_
      refine r_iconst_ (a := 1) rfl (by decide) ?_
      refine r_iret rfl rfl rfl ?_
      subst he
      exact ⟨rfl, rfl⟩
    · rw [if_neg c_41] at he
      replace hk := hk.2 c_41
      refine r_aload_n rfl rfl ?_
      refine q_getfield rfl (cc_3 _) rfl ?_
      refine r_ineg rfl ?_
      refine r_goto rfl ?_
      refine w_put rfl (cc_3 _) ff_3_6 ft_3_6 (Nat.le_of_ble_eq_true rfl) rfl ?_
      refine r_iconst_ (a := 1) rfl (by decide) ?_
      refine r_iret rfl rfl rfl ?_
      subst he
      exact ⟨rfl, rfl⟩
  · rw [if_pos c_34] at he
    replace hk := hk.1 c_34
    subst he
    exact r_weak (L1 := [none, none]) trivial (lp_X3_takeStep_37 _ _ hk)

def f_X3_takeStep_28 (x1 : Int32) (s : fl_I) (l : fl_L) : Int32 × fl_I × fl_L :=
    f_X3_takeStep_34 x1 (f_X3_takeInt (0 : Int32) (2 : Int32) s l).1 (f_X3_takeInt (0 : Int32) (2 : Int32) s l).2.1 (f_X3_takeInt (0 : Int32) (2 : Int32) s l).2.2

def p_X3_takeStep_28 (x1 : Int32) (s : fl_I) (l : fl_L) : Prop :=
    (p_X3_takeInt (0 : Int32) (2 : Int32) s l) ∧ p_X3_takeStep_34 x1 (f_X3_takeInt (0 : Int32) (2 : Int32) s l).1 (f_X3_takeInt (0 : Int32) (2 : Int32) s l).2.1 (f_X3_takeInt (0 : Int32) (2 : Int32) s l).2.2

set_option maxRecDepth 100000 in
set_option maxHeartbeats 4000000 in
theorem lp_X3_takeStep_28 {G : ab_G} {d : Nat} {D : fl_D} : ∀ (x1 : Int32) (s : fl_I) (l : fl_L), p_X3_takeStep_28 x1 s l → ab_C G (d + 3) 0 0 M_X3_takeStep 28 [some (.ref 3), some (.int x1)] [] (hp D s l) (rt (some (.int (f_X3_takeStep_28 x1 s l).1)) (hp D (f_X3_takeStep_28 x1 s l).2.1 (f_X3_takeStep_28 x1 s l).2.2)) := by
  intro x1 s l hk
  generalize he : f_X3_takeStep_28 x1 s l = res
  unfold f_X3_takeStep_28 at he
  unfold p_X3_takeStep_28 at hk
  refine r_aload_n rfl rfl ?_
  refine r_iconst_ (a := 0) rfl (by decide) ?_
  refine r_iconst_ (a := 2) rfl (by decide) ?_
  obtain ⟨hb1, hk⟩ := hk
  refine q_callV0 [_, _] _ rfl kY_X3_takeInt kT_X3_takeInt rfl rfl (Nat.le_of_ble_eq_true rfl) (Nat.le_of_ble_eq_true rfl) (cc_3 _) (s_X3_takeInt hb1) (fun r h q => ?_)
  obtain ⟨rfl, rfl⟩ := q
  simp only [Option.toList, List.cons_append, List.nil_append]
  subst he
  exact r_weak (L1 := [some (.ref 3), some (.int x1)]) ⟨rfl, rfl, trivial⟩ (lp_X3_takeStep_34 _ _ _ _ hk)

def f_X3_takeStep_25 (x1 : Int32) (y0 : Int32) (s : fl_I) (l : fl_L) : Int32 × fl_I × fl_L :=
    if (y0 = 0) then f_X3_takeStep_37  s l else f_X3_takeStep_28 x1 s l

def p_X3_takeStep_25 (x1 : Int32) (y0 : Int32) (s : fl_I) (l : fl_L) : Prop :=
    (((y0 = 0) → p_X3_takeStep_37  s l) ∧ (¬ (y0 = 0) → p_X3_takeStep_28 x1 s l))

set_option maxRecDepth 100000 in
set_option maxHeartbeats 4000000 in
theorem lp_X3_takeStep_25 {G : ab_G} {d : Nat} {D : fl_D} : ∀ (x1 : Int32) (y0 : Int32) (s : fl_I) (l : fl_L), p_X3_takeStep_25 x1 y0 s l → ab_C G (d + 3) 0 0 M_X3_takeStep 25 [some (.ref 3), some (.int x1)] [.int y0] (hp D s l) (rt (some (.int (f_X3_takeStep_25 x1 y0 s l).1)) (hp D (f_X3_takeStep_25 x1 y0 s l).2.1 (f_X3_takeStep_25 x1 y0 s l).2.2)) := by
  intro x1 y0 s l hk
  generalize he : f_X3_takeStep_25 x1 y0 s l = res
  unfold f_X3_takeStep_25 at he
  unfold p_X3_takeStep_25 at hk
  refine r_if_eq rfl (fun c_25 => ?_) (fun c_25 => ?_)
  · rw [if_pos c_25] at he
    replace hk := hk.1 c_25
    subst he
    exact r_weak (L1 := [none, none]) trivial (lp_X3_takeStep_37 _ _ hk)
  · rw [if_neg c_25] at he
    replace hk := hk.2 c_25
    subst he
    exact r_weak (L1 := [some (.ref 3), some (.int x1)]) ⟨rfl, rfl, trivial⟩ (lp_X3_takeStep_28 _ _ _ hk)

def f_X3_takeStep (s : fl_I) (l : fl_L) : Int32 × fl_I × fl_L :=
  if ((f_X3_kindNow s l) = (45 : Int32)) then if ((1 : Int32) = 0) then f_X3_takeStep_28 (1 : Int32) s l else f_X3_takeStep_25 (1 : Int32) (f_X3_take (45 : Int32) s l).1 (f_X3_take (45 : Int32) s l).2.1 (f_X3_take (45 : Int32) s l).2.2 else if ((0 : Int32) = 0) then f_X3_takeStep_28 (0 : Int32) s l else f_X3_takeStep_25 (0 : Int32) (f_X3_take (45 : Int32) s l).1 (f_X3_take (45 : Int32) s l).2.1 (f_X3_take (45 : Int32) s l).2.2

def p_X3_takeStep (s : fl_I) (l : fl_L) : Prop :=
  (p_X3_kindNow s l) ∧ ((((f_X3_kindNow s l) = (45 : Int32)) → ((((1 : Int32) = 0) → p_X3_takeStep_28 (1 : Int32) s l) ∧ (¬ ((1 : Int32) = 0) → (p_X3_take (45 : Int32) s l) ∧ p_X3_takeStep_25 (1 : Int32) (f_X3_take (45 : Int32) s l).1 (f_X3_take (45 : Int32) s l).2.1 (f_X3_take (45 : Int32) s l).2.2))) ∧ (¬ ((f_X3_kindNow s l) = (45 : Int32)) → ((((0 : Int32) = 0) → p_X3_takeStep_28 (0 : Int32) s l) ∧ (¬ ((0 : Int32) = 0) → (p_X3_take (45 : Int32) s l) ∧ p_X3_takeStep_25 (0 : Int32) (f_X3_take (45 : Int32) s l).1 (f_X3_take (45 : Int32) s l).2.1 (f_X3_take (45 : Int32) s l).2.2))))

set_option maxRecDepth 100000 in
set_option maxHeartbeats 4000000 in
theorem s_X3_takeStep {G : ab_G} {d : Nat} {D : fl_D} {s : fl_I} {l : fl_L}  (hk : p_X3_takeStep s l) : ab_C G (d + 3) 0 0 M_X3_takeStep 0 (ab_ent [.ref 3]) [] (hp D s l) (rt (some (.int (f_X3_takeStep s l).1)) (hp D (f_X3_takeStep s l).2.1 (f_X3_takeStep s l).2.2)) := by
  generalize he : (f_X3_takeStep s l) = res
  unfold f_X3_takeStep at he
  unfold p_X3_takeStep at hk
  refine r_weak (L1 := [some (.ref 3), none]) ⟨rfl, trivial⟩ ?_
  refine r_aload_n rfl rfl ?_
  obtain ⟨hb0, hk⟩ := hk
  refine q_callV0 [] _ rfl kY_X3_kindNow kT_X3_kindNow rfl rfl (Nat.le_of_ble_eq_true rfl) (Nat.le_of_ble_eq_true rfl) (cc_3 _) (s_X3_kindNow hb0) (fun r h q => ?_)
  obtain ⟨rfl, rfl⟩ := q
  simp only [Option.toList, List.cons_append, List.nil_append]
  refine r_bipush_ (a := 45) rfl (by decide) ?_
  refine r_icmp_ne rfl (fun c_6 => ?_) (fun c_6 => ?_)
  · rw [if_neg c_6] at he
    replace hk := hk.2 c_6
    refine r_iconst_ (a := 0) rfl (by decide) ?_
    refine r_istore_n rfl (Nat.le_of_ble_eq_true rfl) rfl ?_
    refine r_iload_n rfl rfl ?_
    refine r_if_eq rfl (fun c_16 => ?_) (fun c_16 => ?_)
    · rw [if_pos c_16] at he
      replace hk := hk.1 c_16
      subst he
      exact r_weak (L1 := [some (.ref 3), some (.int (0 : Int32))]) ⟨rfl, rfl, trivial⟩ (lp_X3_takeStep_28 _ _ _ hk)
    · rw [if_neg c_16] at he
      replace hk := hk.2 c_16
      refine r_aload_n rfl rfl ?_
      refine r_bipush_ (a := 45) rfl (by decide) ?_
      obtain ⟨hb2, hk⟩ := hk
      refine q_callV0 [_] _ rfl kY_X3_take kT_X3_take rfl rfl (Nat.le_of_ble_eq_true rfl) (Nat.le_of_ble_eq_true rfl) (cc_3 _) (s_X3_take hb2) (fun r h q => ?_)
      obtain ⟨rfl, rfl⟩ := q
      simp only [Option.toList, List.cons_append, List.nil_append]
      subst he
      exact r_weak (L1 := [some (.ref 3), some (.int (0 : Int32))]) ⟨rfl, rfl, trivial⟩ (lp_X3_takeStep_25 _ _ _ _ hk)
  · rw [if_pos c_6] at he
    replace hk := hk.1 c_6
    refine r_iconst_ (a := 1) rfl (by decide) ?_
    refine r_goto rfl ?_
    refine r_istore_n rfl (Nat.le_of_ble_eq_true rfl) rfl ?_
    refine r_iload_n rfl rfl ?_
    refine r_if_eq rfl (fun c_16 => ?_) (fun c_16 => ?_)
    · rw [if_pos c_16] at he
      replace hk := hk.1 c_16
      subst he
      exact r_weak (L1 := [some (.ref 3), some (.int (1 : Int32))]) ⟨rfl, rfl, trivial⟩ (lp_X3_takeStep_28 _ _ _ hk)
    · rw [if_neg c_16] at he
      replace hk := hk.2 c_16
      refine r_aload_n rfl rfl ?_
      refine r_bipush_ (a := 45) rfl (by decide) ?_
      obtain ⟨hb3, hk⟩ := hk
      refine q_callV0 [_] _ rfl kY_X3_take kT_X3_take rfl rfl (Nat.le_of_ble_eq_true rfl) (Nat.le_of_ble_eq_true rfl) (cc_3 _) (s_X3_take hb3) (fun r h q => ?_)
      obtain ⟨rfl, rfl⟩ := q
      simp only [Option.toList, List.cons_append, List.nil_append]
      subst he
      exact r_weak (L1 := [some (.ref 3), some (.int (1 : Int32))]) ⟨rfl, rfl, trivial⟩ (lp_X3_takeStep_25 _ _ _ _ hk)

