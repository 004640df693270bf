def f_X3_unit (fu : Nat) (KS : Int32 → Nat → fl_I → fl_L → Int32 × fl_I × fl_L) (v1 : Int32) (t : Nat) (s : fl_I) (l : fl_L) : Int32 × fl_I × fl_L :=
  if ((f_X3_kindNow fu s l) = (40 : Int32)) then if (v1 < (6 : Int32)) then if ((f_X3_take fu (40 : Int32) s l).1 = 0) then ((0 : Int32), (f_X3_take fu (40 : Int32) s l).2.1, (f_X3_take fu (40 : Int32) s l).2.2) else if ((KS (v1 + (1 : Int32)) t (f_X3_take fu (40 : Int32) s l).2.1 (f_X3_take fu (40 : Int32) s l).2.2).1 = 0) then ((0 : Int32), (KS (v1 + (1 : Int32)) t (f_X3_take fu (40 : Int32) s l).2.1 (f_X3_take fu (40 : Int32) s l).2.2).2.1, (KS (v1 + (1 : Int32)) t (f_X3_take fu (40 : Int32) s l).2.1 (f_X3_take fu (40 : Int32) s l).2.2).2.2) else if ((f_X3_take fu (41 : Int32) (KS (v1 + (1 : Int32)) t (f_X3_take fu (40 : Int32) s l).2.1 (f_X3_take fu (40 : Int32) s l).2.2).2.1 (KS (v1 + (1 : Int32)) t (f_X3_take fu (40 : Int32) s l).2.1 (f_X3_take fu (40 : Int32) s l).2.2).2.2).1 = 0) then ((0 : Int32), (f_X3_take fu (41 : Int32) (KS (v1 + (1 : Int32)) t (f_X3_take fu (40 : Int32) s l).2.1 (f_X3_take fu (40 : Int32) s l).2.2).2.1 (KS (v1 + (1 : Int32)) t (f_X3_take fu (40 : Int32) s l).2.1 (f_X3_take fu (40 : Int32) s l).2.2).2.2).2.1, (f_X3_take fu (41 : Int32) (KS (v1 + (1 : Int32)) t (f_X3_take fu (40 : Int32) s l).2.1 (f_X3_take fu (40 : Int32) s l).2.2).2.1 (KS (v1 + (1 : Int32)) t (f_X3_take fu (40 : Int32) s l).2.1 (f_X3_take fu (40 : Int32) s l).2.2).2.2).2.2) else ((1 : Int32), (f_X3_take fu (41 : Int32) (KS (v1 + (1 : Int32)) t (f_X3_take fu (40 : Int32) s l).2.1 (f_X3_take fu (40 : Int32) s l).2.2).2.1 (KS (v1 + (1 : Int32)) t (f_X3_take fu (40 : Int32) s l).2.1 (f_X3_take fu (40 : Int32) s l).2.2).2.2).2.1, (f_X3_take fu (41 : Int32) (KS (v1 + (1 : Int32)) t (f_X3_take fu (40 : Int32) s l).2.1 (f_X3_take fu (40 : Int32) s l).2.2).2.1 (KS (v1 + (1 : Int32)) t (f_X3_take fu (40 : Int32) s l).2.1 (f_X3_take fu (40 : Int32) s l).2.2).2.2).2.2) else ((f_X3_stop fu (2 : Int32) s l).1, (f_X3_stop fu (2 : Int32) s l).2.1, (f_X3_stop fu (2 : Int32) s l).2.2) else if ((f_X3_kindNow fu s l) < (268 : Int32)) then ((f_X3_take fu (3 : Int32) (f_X5_addCode fu (f_X3_valueNow fu s l).toInt32 t s l).1 (f_X5_addCode fu (f_X3_valueNow fu s l).toInt32 t s l).2).1, (f_X3_take fu (3 : Int32) (f_X5_addCode fu (f_X3_valueNow fu s l).toInt32 t s l).1 (f_X5_addCode fu (f_X3_valueNow fu s l).toInt32 t s l).2).2.1, (f_X3_take fu (3 : Int32) (f_X5_addCode fu (f_X3_valueNow fu s l).toInt32 t s l).1 (f_X5_addCode fu (f_X3_valueNow fu s l).toInt32 t s l).2).2.2) else if ((277 : Int32) ≤ (f_X3_kindNow fu s l)) then ((f_X3_take fu (3 : Int32) (f_X5_addCode fu (f_X3_valueNow fu s l).toInt32 t s l).1 (f_X5_addCode fu (f_X3_valueNow fu s l).toInt32 t s l).2).1, (f_X3_take fu (3 : Int32) (f_X5_addCode fu (f_X3_valueNow fu s l).toInt32 t s l).1 (f_X5_addCode fu (f_X3_valueNow fu s l).toInt32 t s l).2).2.1, (f_X3_take fu (3 : Int32) (f_X5_addCode fu (f_X3_valueNow fu s l).toInt32 t s l).1 (f_X5_addCode fu (f_X3_valueNow fu s l).toInt32 t s l).2).2.2) else ((f_X3_take fu (f_X3_kindNow fu s l) (f_X5_addCode fu ((-7 : Int32) - ((f_X3_kindNow fu s l) - (268 : Int32))) t s l).1 (f_X5_addCode fu ((-7 : Int32) - ((f_X3_kindNow fu s l) - (268 : Int32))) t s l).2).1, (f_X3_take fu (f_X3_kindNow fu s l) (f_X5_addCode fu ((-7 : Int32) - ((f_X3_kindNow fu s l) - (268 : Int32))) t s l).1 (f_X5_addCode fu ((-7 : Int32) - ((f_X3_kindNow fu s l) - (268 : Int32))) t s l).2).2.1, (f_X3_take fu (f_X3_kindNow fu s l) (f_X5_addCode fu ((-7 : Int32) - ((f_X3_kindNow fu s l) - (268 : Int32))) t s l).1 (f_X5_addCode fu ((-7 : Int32) - ((f_X3_kindNow fu s l) - (268 : Int32))) t s l).2).2.2)

def p_X3_unit (fu : Nat) (KS : Int32 → Nat → fl_I → fl_L → Int32 × fl_I × fl_L) (KP : Int32 → Nat → fl_I → fl_L → Prop) (v1 : Int32) (t : Nat) (s : fl_I) (l : fl_L) : Prop :=
  (p_X3_kindNow fu s l) ∧ ((((f_X3_kindNow fu s l) = (40 : Int32)) → (((v1 < (6 : Int32)) → (p_X3_take fu (40 : Int32) s l) ∧ ((((f_X3_take fu (40 : Int32) s l).1 = 0) → True) ∧ (¬ ((f_X3_take fu (40 : Int32) s l).1 = 0) → (KP (v1 + (1 : Int32)) t (f_X3_take fu (40 : Int32) s l).2.1 (f_X3_take fu (40 : Int32) s l).2.2) ∧ ((((KS (v1 + (1 : Int32)) t (f_X3_take fu (40 : Int32) s l).2.1 (f_X3_take fu (40 : Int32) s l).2.2).1 = 0) → True) ∧ (¬ ((KS (v1 + (1 : Int32)) t (f_X3_take fu (40 : Int32) s l).2.1 (f_X3_take fu (40 : Int32) s l).2.2).1 = 0) → (p_X3_take fu (41 : Int32) (KS (v1 + (1 : Int32)) t (f_X3_take fu (40 : Int32) s l).2.1 (f_X3_take fu (40 : Int32) s l).2.2).2.1 (KS (v1 + (1 : Int32)) t (f_X3_take fu (40 : Int32) s l).2.1 (f_X3_take fu (40 : Int32) s l).2.2).2.2) ∧ ((((f_X3_take fu (41 : Int32) (KS (v1 + (1 : Int32)) t (f_X3_take fu (40 : Int32) s l).2.1 (f_X3_take fu (40 : Int32) s l).2.2).2.1 (KS (v1 + (1 : Int32)) t (f_X3_take fu (40 : Int32) s l).2.1 (f_X3_take fu (40 : Int32) s l).2.2).2.2).1 = 0) → True) ∧ (¬ ((f_X3_take fu (41 : Int32) (KS (v1 + (1 : Int32)) t (f_X3_take fu (40 : Int32) s l).2.1 (f_X3_take fu (40 : Int32) s l).2.2).2.1 (KS (v1 + (1 : Int32)) t (f_X3_take fu (40 : Int32) s l).2.1 (f_X3_take fu (40 : Int32) s l).2.2).2.2).1 = 0) → True))))))) ∧ (¬ (v1 < (6 : Int32)) → (p_X3_stop fu (2 : Int32) s l) ∧ ((f_X3_stop fu (2 : Int32) s l).1 = 0 ∨ (f_X3_stop fu (2 : Int32) s l).1 = 1) ∧ True))) ∧ (¬ ((f_X3_kindNow fu s l) = (40 : Int32)) → ((((f_X3_kindNow fu s l) < (268 : Int32)) → (p_X3_valueNow fu s l) ∧ (p_X5_addCode fu (f_X3_valueNow fu s l).toInt32 t s l) ∧ (p_X3_take fu (3 : Int32) (f_X5_addCode fu (f_X3_valueNow fu s l).toInt32 t s l).1 (f_X5_addCode fu (f_X3_valueNow fu s l).toInt32 t s l).2) ∧ ((f_X3_take fu (3 : Int32) (f_X5_addCode fu (f_X3_valueNow fu s l).toInt32 t s l).1 (f_X5_addCode fu (f_X3_valueNow fu s l).toInt32 t s l).2).1 = 0 ∨ (f_X3_take fu (3 : Int32) (f_X5_addCode fu (f_X3_valueNow fu s l).toInt32 t s l).1 (f_X5_addCode fu (f_X3_valueNow fu s l).toInt32 t s l).2).1 = 1) ∧ True) ∧ (¬ ((f_X3_kindNow fu s l) < (268 : Int32)) → ((((277 : Int32) ≤ (f_X3_kindNow fu s l)) → (p_X3_valueNow fu s l) ∧ (p_X5_addCode fu (f_X3_valueNow fu s l).toInt32 t s l) ∧ (p_X3_take fu (3 : Int32) (f_X5_addCode fu (f_X3_valueNow fu s l).toInt32 t s l).1 (f_X5_addCode fu (f_X3_valueNow fu s l).toInt32 t s l).2) ∧ ((f_X3_take fu (3 : Int32) (f_X5_addCode fu (f_X3_valueNow fu s l).toInt32 t s l).1 (f_X5_addCode fu (f_X3_valueNow fu s l).toInt32 t s l).2).1 = 0 ∨ (f_X3_take fu (3 : Int32) (f_X5_addCode fu (f_X3_valueNow fu s l).toInt32 t s l).1 (f_X5_addCode fu (f_X3_valueNow fu s l).toInt32 t s l).2).1 = 1) ∧ True) ∧ (¬ ((277 : Int32) ≤ (f_X3_kindNow fu s l)) → (p_X5_addCode fu ((-7 : Int32) - ((f_X3_kindNow fu s l) - (268 : Int32))) t s l) ∧ (p_X3_take fu (f_X3_kindNow fu s l) (f_X5_addCode fu ((-7 : Int32) - ((f_X3_kindNow fu s l) - (268 : Int32))) t s l).1 (f_X5_addCode fu ((-7 : Int32) - ((f_X3_kindNow fu s l) - (268 : Int32))) t s l).2) ∧ ((f_X3_take fu (f_X3_kindNow fu s l) (f_X5_addCode fu ((-7 : Int32) - ((f_X3_kindNow fu s l) - (268 : Int32))) t s l).1 (f_X5_addCode fu ((-7 : Int32) - ((f_X3_kindNow fu s l) - (268 : Int32))) t s l).2).1 = 0 ∨ (f_X3_take fu (f_X3_kindNow fu s l) (f_X5_addCode fu ((-7 : Int32) - ((f_X3_kindNow fu s l) - (268 : Int32))) t s l).1 (f_X5_addCode fu ((-7 : Int32) - ((f_X3_kindNow fu s l) - (268 : Int32))) t s l).2).1 = 1) ∧ True))))))

set_option maxRecDepth 100000 in
set_option maxHeartbeats 1000000 in
theorem s_X3_unit {G : ab_G} {fu : Nat} {d : Nat} {D : fl_D} (KS : Int32 → Nat → fl_I → fl_L → Int32 × fl_I × fl_L) (KP : Int32 → Nat → fl_I → fl_L → Prop) (hKS : ∀ {t : Nat} (_ : isT t) {v : Int32} {s : fl_I} {l : fl_L}, KP v t s l → ab_C G d 0 0 M_X3_sum 0 (ab_ent [.ref 3, .ref t, .int v]) [] (hp D s l) (rt (some (.int (KS v t s l).1)) (hp D (KS v t s l).2.1 (KS v t s l).2.2))) {s : fl_I} {l : fl_L} {t : Nat} (htt : isT t) {v1 : Int32} (hk : p_X3_unit fu KS KP v1 t s l) : ab_C G (d + 2) 0 0 M_X3_unit 0 (ab_ent [.ref 3, .ref t, .int v1]) [] (hp D s l) (rt (some (.int (f_X3_unit fu KS v1 t s l).1)) (hp D (f_X3_unit fu KS v1 t s l).2.1 (f_X3_unit fu KS v1 t s l).2.2)) := by
  generalize he : (f_X3_unit fu KS v1 t s l) = res
  unfold f_X3_unit at he
  unfold p_X3_unit at hk
  refine r_weak (L1 := [some (.ref 3), some (.ref t), some (.int v1), none]) ⟨rfl, rfl, rfl, trivial⟩ ?_
  refine r_aload_n rfl rfl ?_
  obtain ⟨hb0, hk⟩ := hk
  refine q_callV0 [] _ rfl kY_X3_kindNow kT_X3_kindNow rfl rfl (Nat.le_of_ble_eq_true rfl) (Nat.le_of_ble_eq_true rfl) (cc_3 _) (s_X3_kindNow hb0) (fun r h q => ?_)
  obtain ⟨rfl, rfl⟩ := q
  simp only [Option.toList, List.cons_append, List.nil_append]
  refine r_istore_n rfl (Nat.le_of_ble_eq_true rfl) rfl ?_
  refine r_iload_n rfl rfl ?_
  refine r_bipush_ (a := 40) rfl (by decide) ?_
  refine r_icmp_ne rfl (fun c_8 => ?_) (fun c_8 => ?_)
  · rw [if_neg c_8] at he
    replace hk := hk.2 c_8
    refine r_iload_n rfl rfl ?_
    refine r_sipush_ (a := 268) rfl (by decide) ?_
    refine r_icmp_lt rfl (fun c_64 => ?_) (fun c_64 => ?_)
    · rw [if_pos c_64] at he
      replace hk := hk.1 c_64
      refine r_aload_n rfl rfl ?_
      refine r_aload_n rfl rfl ?_
      obtain ⟨hb1, hk⟩ := hk
      refine q_callV0 [] _ rfl kY_X3_valueNow kT_X3_valueNow rfl rfl (Nat.le_of_ble_eq_true rfl) (Nat.le_of_ble_eq_true rfl) (cc_3 _) (s_X3_valueNow hb1) (fun r h q => ?_)
      obtain ⟨rfl, rfl⟩ := q
      simp only [Option.toList, List.cons_append, List.nil_append]
      refine r_l2i rfl ?_
      obtain ⟨hb2, hk⟩ := hk
      refine q_callV0 [_] _ rfl kY_X5_addCode kT_X5_addCode rfl rfl (Nat.le_of_ble_eq_true rfl) (Nat.le_of_ble_eq_true rfl) (cT_0 htt) (s_X5_addCode htt hb2) (fun r h q => ?_)
      obtain ⟨rfl, rfl⟩ := q
      simp only [Option.toList, List.cons_append, List.nil_append]
      refine r_aload_n rfl rfl ?_
      refine r_iconst_ (a := 3) rfl (by decide) ?_
      obtain ⟨hb3, hk⟩ := hk
      refine q_callV0 [_] _ rfl kY_X3_take kT_X3_take rfl rfl (Nat.le_of_ble_eq_true rfl) (Nat.le_of_ble_eq_true rfl) (cc_3 _) (s_X3_take hb3) (fun r h q => ?_)
      obtain ⟨rfl, rfl⟩ := q
      simp only [Option.toList, List.cons_append, List.nil_append]
      obtain ⟨hb4, hk⟩ := hk
      refine r_iret rfl rfl (nar_b hb4) ?_
      first | with_reducible exact fin_i he | exact fin_i he
    · rw [if_neg c_64] at he
      replace hk := hk.2 c_64
      refine r_iload_n rfl rfl ?_
      refine r_sipush_ (a := 277) rfl (by decide) ?_
      refine r_icmp_ge rfl (fun c_71 => ?_) (fun c_71 => ?_)
      · rw [if_pos c_71] at he
        replace hk := hk.1 c_71
        refine r_aload_n rfl rfl ?_
        refine r_aload_n rfl rfl ?_
        obtain ⟨hb5, hk⟩ := hk
        refine q_callV0 [] _ rfl kY_X3_valueNow kT_X3_valueNow rfl rfl (Nat.le_of_ble_eq_true rfl) (Nat.le_of_ble_eq_true rfl) (cc_3 _) (s_X3_valueNow hb5) (fun r h q => ?_)
        obtain ⟨rfl, rfl⟩ := q
        simp only [Option.toList, List.cons_append, List.nil_append]
        refine r_l2i rfl ?_
        obtain ⟨hb6, hk⟩ := hk
        refine q_callV0 [_] _ rfl kY_X5_addCode kT_X5_addCode rfl rfl (Nat.le_of_ble_eq_true rfl) (Nat.le_of_ble_eq_true rfl) (cT_0 htt) (s_X5_addCode htt hb6) (fun r h q => ?_)
        obtain ⟨rfl, rfl⟩ := q
        simp only [Option.toList, List.cons_append, List.nil_append]
        refine r_aload_n rfl rfl ?_
        refine r_iconst_ (a := 3) rfl (by decide) ?_
        obtain ⟨hb7, hk⟩ := hk
        refine q_callV0 [_] _ rfl kY_X3_take kT_X3_take rfl rfl (Nat.le_of_ble_eq_true rfl) (Nat.le_of_ble_eq_true rfl) (cc_3 _) (s_X3_take hb7) (fun r h q => ?_)
        obtain ⟨rfl, rfl⟩ := q
        simp only [Option.toList, List.cons_append, List.nil_append]
        obtain ⟨hb8, hk⟩ := hk
        refine r_iret rfl rfl (nar_b hb8) ?_
        first | with_reducible exact fin_i he | exact fin_i he
      · rw [if_neg c_71] at he
        replace hk := hk.2 c_71
        refine r_aload_n rfl rfl ?_
        refine r_bipush_ (a := -7) rfl (by decide) ?_
        refine r_iload_n rfl rfl ?_
        refine r_sipush_ (a := 268) rfl (by decide) ?_
        refine r_isub rfl ?_
        refine r_isub rfl ?_
        obtain ⟨hb9, hk⟩ := hk
        refine q_callV0 [_] _ rfl kY_X5_addCode kT_X5_addCode rfl rfl (Nat.le_of_ble_eq_true rfl) (Nat.le_of_ble_eq_true rfl) (cT_0 htt) (s_X5_addCode htt hb9) (fun r h q => ?_)
        obtain ⟨rfl, rfl⟩ := q
        simp only [Option.toList, List.cons_append, List.nil_append]
        refine r_aload_n rfl rfl ?_
        refine r_iload_n rfl rfl ?_
        obtain ⟨hb10, hk⟩ := hk
        refine q_callV0 [_] _ rfl kY_X3_take kT_X3_take rfl rfl (Nat.le_of_ble_eq_true rfl) (Nat.le_of_ble_eq_true rfl) (cc_3 _) (s_X3_take hb10) (fun r h q => ?_)
        obtain ⟨rfl, rfl⟩ := q
        simp only [Option.toList, List.cons_append, List.nil_append]
        obtain ⟨hb11, hk⟩ := hk
        refine r_iret rfl rfl (nar_b hb11) ?_
        first | with_reducible exact fin_i he | exact fin_i he
  · rw [if_pos c_8] at he
    replace hk := hk.1 c_8
    refine r_iload_n rfl rfl ?_
    refine r_bipush_ (a := 6) rfl (by decide) ?_
    refine r_icmp_lt rfl (fun c_14 => ?_) (fun c_14 => ?_)
    · rw [if_pos c_14] at he
      replace hk := hk.1 c_14
      refine r_aload_n rfl rfl ?_
      refine r_bipush_ (a := 40) rfl (by decide) ?_
      obtain ⟨hb12, hk⟩ := hk
      refine q_callV0 [_] _ rfl kY_X3_take kT_X3_take rfl rfl (Nat.le_of_ble_eq_true rfl) (Nat.le_of_ble_eq_true rfl) (cc_3 _) (s_X3_take hb12) (fun r h q => ?_)
      obtain ⟨rfl, rfl⟩ := q
      simp only [Option.toList, List.cons_append, List.nil_append]
      refine r_if_eq rfl (fun c_31 => ?_) (fun c_31 => ?_)
      · rw [if_pos c_31] at he
        replace hk := hk.1 c_31
        refine r_iconst_ (a := 0) rfl (by decide) ?_
        refine r_iret rfl rfl rfl ?_
        first | with_reducible exact fin_i he | exact fin_i he
      · rw [if_neg c_31] at he
        replace hk := hk.2 c_31
        refine r_aload_n rfl rfl ?_
        refine r_aload_n rfl rfl ?_
        refine r_iload_n rfl rfl ?_
        refine r_iconst_ (a := 1) rfl (by decide) ?_
        refine r_iadd rfl ?_
        obtain ⟨hb13, hk⟩ := hk
        refine q_callV0 [_, _] _ rfl kY_X3_sum kT_X3_sum rfl rfl (Nat.le_of_ble_eq_true rfl) (Nat.le_of_ble_eq_true rfl) (cc_3 _) (r_deep (hKS htt hb13) (by omega)) (fun r h q => ?_)
        obtain ⟨rfl, rfl⟩ := q
        simp only [Option.toList, List.cons_append, List.nil_append]
        refine r_if_eq rfl (fun c_42 => ?_) (fun c_42 => ?_)
        · rw [if_pos c_42] at he
          replace hk := hk.1 c_42
          refine r_iconst_ (a := 0) rfl (by decide) ?_
          refine r_iret rfl rfl rfl ?_
          first | with_reducible exact fin_i he | exact fin_i he
        · rw [if_neg c_42] at he
          replace hk := hk.2 c_42
          refine r_aload_n rfl rfl ?_
          refine r_bipush_ (a := 41) rfl (by decide) ?_
          obtain ⟨hb14, hk⟩ := hk
          refine q_callV0 [_] _ rfl kY_X3_take kT_X3_take rfl rfl (Nat.le_of_ble_eq_true rfl) (Nat.le_of_ble_eq_true rfl) (cc_3 _) (s_X3_take hb14) (fun r h q => ?_)
          obtain ⟨rfl, rfl⟩ := q
          simp only [Option.toList, List.cons_append, List.nil_append]
          refine r_if_eq rfl (fun c_51 => ?_) (fun c_51 => ?_)
          · rw [if_pos c_51] at he
            replace hk := hk.1 c_51
            refine r_iconst_ (a := 0) rfl (by decide) ?_
            refine r_iret rfl rfl rfl ?_
            first | with_reducible exact fin_i he | exact fin_i he
          · rw [if_neg c_51] at he
            replace hk := hk.2 c_51
            refine r_iconst_ (a := 1) rfl (by decide) ?_
            refine r_goto rfl ?_
            refine r_iret rfl rfl rfl ?_
            first | with_reducible exact fin_i he | exact fin_i he
    · rw [if_neg c_14] at he
      replace hk := hk.2 c_14
      refine r_aload_n rfl rfl ?_
      refine r_iconst_ (a := 2) rfl (by decide) ?_
      obtain ⟨hb15, hk⟩ := hk
      refine q_callV0 [_] _ rfl kY_X3_stop kT_X3_stop rfl rfl (Nat.le_of_ble_eq_true rfl) (Nat.le_of_ble_eq_true rfl) (cc_3 _) (s_X3_stop hb15) (fun r h q => ?_)
      obtain ⟨rfl, rfl⟩ := q
      simp only [Option.toList, List.cons_append, List.nil_append]
      refine r_goto rfl ?_
      obtain ⟨hb16, hk⟩ := hk
      refine r_iret rfl rfl (nar_b hb16) ?_
      first | with_reducible exact fin_i he | exact fin_i he

def f_X3_product_10 (fu : Nat) (KS : Int32 → Nat → fl_I → fl_L → Int32 × fl_I × fl_L) : Nat → Int32 → Int32 → Int32 → Nat → fl_I → fl_L → Int32 × fl_I × fl_L
  | 0, x2, x3, x4, t, s, l => (0, s, l)
  | n + 1, x2, x3, x4, t, s, l =>
    if ((400 : Int32) < x4) then (x3, s, l) else if (x3 = 0) then (x3, s, l) else if ((f_X3_kindNow fu s l) = (42 : Int32)) then if ((f_X3_take fu (f_X3_kindNow fu s l) s l).1 = 0) then if ((f_X3_kindNow fu s l) = (42 : Int32)) then f_X3_product_10 fu KS n x2 (0 : Int32) (x4 + 1) t (f_X5_addCode fu (-3 : Int32) t (f_X3_take fu (f_X3_kindNow fu s l) s l).2.1 (f_X3_take fu (f_X3_kindNow fu s l) s l).2.2).1 (f_X5_addCode fu (-3 : Int32) t (f_X3_take fu (f_X3_kindNow fu s l) s l).2.1 (f_X3_take fu (f_X3_kindNow fu s l) s l).2.2).2 else f_X3_product_10 fu KS n x2 (0 : Int32) (x4 + 1) t (f_X5_addCode fu (-4 : Int32) t (f_X3_take fu (f_X3_kindNow fu s l) s l).2.1 (f_X3_take fu (f_X3_kindNow fu s l) s l).2.2).1 (f_X5_addCode fu (-4 : Int32) t (f_X3_take fu (f_X3_kindNow fu s l) s l).2.1 (f_X3_take fu (f_X3_kindNow fu s l) s l).2.2).2 else if ((f_X3_unit fu KS x2 t (f_X3_take fu (f_X3_kindNow fu s l) s l).2.1 (f_X3_take fu (f_X3_kindNow fu s l) s l).2.2).1 = 0) then if ((f_X3_kindNow fu s l) = (42 : Int32)) then f_X3_product_10 fu KS n x2 (0 : Int32) (x4 + 1) t (f_X5_addCode fu (-3 : Int32) t (f_X3_unit fu KS x2 t (f_X3_take fu (f_X3_kindNow fu s l) s l).2.1 (f_X3_take fu (f_X3_kindNow fu s l) s l).2.2).2.1 (f_X3_unit fu KS x2 t (f_X3_take fu (f_X3_kindNow fu s l) s l).2.1 (f_X3_take fu (f_X3_kindNow fu s l) s l).2.2).2.2).1 (f_X5_addCode fu (-3 : Int32) t (f_X3_unit fu KS x2 t (f_X3_take fu (f_X3_kindNow fu s l) s l).2.1 (f_X3_take fu (f_X3_kindNow fu s l) s l).2.2).2.1 (f_X3_unit fu KS x2 t (f_X3_take fu (f_X3_kindNow fu s l) s l).2.1 (f_X3_take fu (f_X3_kindNow fu s l) s l).2.2).2.2).2 else f_X3_product_10 fu KS n x2 (0 : Int32) (x4 + 1) t (f_X5_addCode fu (-4 : Int32) t (f_X3_unit fu KS x2 t (f_X3_take fu (f_X3_kindNow fu s l) s l).2.1 (f_X3_take fu (f_X3_kindNow fu s l) s l).2.2).2.1 (f_X3_unit fu KS x2 t (f_X3_take fu (f_X3_kindNow fu s l) s l).2.1 (f_X3_take fu (f_X3_kindNow fu s l) s l).2.2).2.2).1 (f_X5_addCode fu (-4 : Int32) t (f_X3_unit fu KS x2 t (f_X3_take fu (f_X3_kindNow fu s l) s l).2.1 (f_X3_take fu (f_X3_kindNow fu s l) s l).2.2).2.1 (f_X3_unit fu KS x2 t (f_X3_take fu (f_X3_kindNow fu s l) s l).2.1 (f_X3_take fu (f_X3_kindNow fu s l) s l).2.2).2.2).2 else if ((f_X3_kindNow fu s l) = (42 : Int32)) then f_X3_product_10 fu KS n x2 (1 : Int32) (x4 + 1) t (f_X5_addCode fu (-3 : Int32) t (f_X3_unit fu KS x2 t (f_X3_take fu (f_X3_kindNow fu s l) s l).2.1 (f_X3_take fu (f_X3_kindNow fu s l) s l).2.2).2.1 (f_X3_unit fu KS x2 t (f_X3_take fu (f_X3_kindNow fu s l) s l).2.1 (f_X3_take fu (f_X3_kindNow fu s l) s l).2.2).2.2).1 (f_X5_addCode fu (-3 : Int32) t (f_X3_unit fu KS x2 t (f_X3_take fu (f_X3_kindNow fu s l) s l).2.1 (f_X3_take fu (f_X3_kindNow fu s l) s l).2.2).2.1 (f_X3_unit fu KS x2 t (f_X3_take fu (f_X3_kindNow fu s l) s l).2.1 (f_X3_take fu (f_X3_kindNow fu s l) s l).2.2).2.2).2 else f_X3_product_10 fu KS n x2 (1 : Int32) (x4 + 1) t (f_X5_addCode fu (-4 : Int32) t (f_X3_unit fu KS x2 t (f_X3_take fu (f_X3_kindNow fu s l) s l).2.1 (f_X3_take fu (f_X3_kindNow fu s l) s l).2.2).2.1 (f_X3_unit fu KS x2 t (f_X3_take fu (f_X3_kindNow fu s l) s l).2.1 (f_X3_take fu (f_X3_kindNow fu s l) s l).2.2).2.2).1 (f_X5_addCode fu (-4 : Int32) t (f_X3_unit fu KS x2 t (f_X3_take fu (f_X3_kindNow fu s l) s l).2.1 (f_X3_take fu (f_X3_kindNow fu s l) s l).2.2).2.1 (f_X3_unit fu KS x2 t (f_X3_take fu (f_X3_kindNow fu s l) s l).2.1 (f_X3_take fu (f_X3_kindNow fu s l) s l).2.2).2.2).2 else if ((f_X3_kindNow fu s l) = (47 : Int32)) then if ((f_X3_take fu (f_X3_kindNow fu s l) s l).1 = 0) then if ((f_X3_kindNow fu s l) = (42 : Int32)) then f_X3_product_10 fu KS n x2 (0 : Int32) (x4 + 1) t (f_X5_addCode fu (-3 : Int32) t (f_X3_take fu (f_X3_kindNow fu s l) s l).2.1 (f_X3_take fu (f_X3_kindNow fu s l) s l).2.2).1 (f_X5_addCode fu (-3 : Int32) t (f_X3_take fu (f_X3_kindNow fu s l) s l).2.1 (f_X3_take fu (f_X3_kindNow fu s l) s l).2.2).2 else f_X3_product_10 fu KS n x2 (0 : Int32) (x4 + 1) t (f_X5_addCode fu (-4 : Int32) t (f_X3_take fu (f_X3_kindNow fu s l) s l).2.1 (f_X3_take fu (f_X3_kindNow fu s l) s l).2.2).1 (f_X5_addCode fu (-4 : Int32) t (f_X3_take fu (f_X3_kindNow fu s l) s l).2.1 (f_X3_take fu (f_X3_kindNow fu s l) s l).2.2).2 else if ((f_X3_unit fu KS x2 t (f_X3_take fu (f_X3_kindNow fu s l) s l).2.1 (f_X3_take fu (f_X3_kindNow fu s l) s l).2.2).1 = 0) then if ((f_X3_kindNow fu s l) = (42 : Int32)) then f_X3_product_10 fu KS n x2 (0 : Int32) (x4 + 1) t (f_X5_addCode fu (-3 : Int32) t (f_X3_unit fu KS x2 t (f_X3_take fu (f_X3_kindNow fu s l) s l).2.1 (f_X3_take fu (f_X3_kindNow fu s l) s l).2.2).2.1 (f_X3_unit fu KS x2 t (f_X3_take fu (f_X3_kindNow fu s l) s l).2.1 (f_X3_take fu (f_X3_kindNow fu s l) s l).2.2).2.2).1 (f_X5_addCode fu (-3 : Int32) t (f_X3_unit fu KS x2 t (f_X3_take fu (f_X3_kindNow fu s l) s l).2.1 (f_X3_take fu (f_X3_kindNow fu s l) s l).2.2).2.1 (f_X3_unit fu KS x2 t (f_X3_take fu (f_X3_kindNow fu s l) s l).2.1 (f_X3_take fu (f_X3_kindNow fu s l) s l).2.2).2.2).2 else f_X3_product_10 fu KS n x2 (0 : Int32) (x4 + 1) t (f_X5_addCode fu (-4 : Int32) t (f_X3_unit fu KS x2 t (f_X3_take fu (f_X3_kindNow fu s l) s l).2.1 (f_X3_take fu (f_X3_kindNow fu s l) s l).2.2).2.1 (f_X3_unit fu KS x2 t (f_X3_take fu (f_X3_kindNow fu s l) s l).2.1 (f_X3_take fu (f_X3_kindNow fu s l) s l).2.2).2.2).1 (f_X5_addCode fu (-4 : Int32) t (f_X3_unit fu KS x2 t (f_X3_take fu (f_X3_kindNow fu s l) s l).2.1 (f_X3_take fu (f_X3_kindNow fu s l) s l).2.2).2.1 (f_X3_unit fu KS x2 t (f_X3_take fu (f_X3_kindNow fu s l) s l).2.1 (f_X3_take fu (f_X3_kindNow fu s l) s l).2.2).2.2).2 else if ((f_X3_kindNow fu s l) = (42 : Int32)) then f_X3_product_10 fu KS n x2 (1 : Int32) (x4 + 1) t (f_X5_addCode fu (-3 : Int32) t (f_X3_unit fu KS x2 t (f_X3_take fu (f_X3_kindNow fu s l) s l).2.1 (f_X3_take fu (f_X3_kindNow fu s l) s l).2.2).2.1 (f_X3_unit fu KS x2 t (f_X3_take fu (f_X3_kindNow fu s l) s l).2.1 (f_X3_take fu (f_X3_kindNow fu s l) s l).2.2).2.2).1 (f_X5_addCode fu (-3 : Int32) t (f_X3_unit fu KS x2 t (f_X3_take fu (f_X3_kindNow fu s l) s l).2.1 (f_X3_take fu (f_X3_kindNow fu s l) s l).2.2).2.1 (f_X3_unit fu KS x2 t (f_X3_take fu (f_X3_kindNow fu s l) s l).2.1 (f_X3_take fu (f_X3_kindNow fu s l) s l).2.2).2.2).2 else f_X3_product_10 fu KS n x2 (1 : Int32) (x4 + 1) t (f_X5_addCode fu (-4 : Int32) t (f_X3_unit fu KS x2 t (f_X3_take fu (f_X3_kindNow fu s l) s l).2.1 (f_X3_take fu (f_X3_kindNow fu s l) s l).2.2).2.1 (f_X3_unit fu KS x2 t (f_X3_take fu (f_X3_kindNow fu s l) s l).2.1 (f_X3_take fu (f_X3_kindNow fu s l) s l).2.2).2.2).1 (f_X5_addCode fu (-4 : Int32) t (f_X3_unit fu KS x2 t (f_X3_take fu (f_X3_kindNow fu s l) s l).2.1 (f_X3_take fu (f_X3_kindNow fu s l) s l).2.2).2.1 (f_X3_unit fu KS x2 t (f_X3_take fu (f_X3_kindNow fu s l) s l).2.1 (f_X3_take fu (f_X3_kindNow fu s l) s l).2.2).2.2).2 else (x3, s, l)

def p_X3_product_10 (fu : Nat) (KS : Int32 → Nat → fl_I → fl_L → Int32 × fl_I × fl_L) (KP : Int32 → Nat → fl_I → fl_L → Prop) : Nat → Int32 → Int32 → Int32 → Nat → fl_I → fl_L → Prop
  | 0, _, _, _, _, _, _ => False
  | n + 1, x2, x3, x4, t, s, l =>
    ((((400 : Int32) < x4) → (x3 = 0 ∨ x3 = 1) ∧ True) ∧ (¬ ((400 : Int32) < x4) → (((x3 = 0) → (x3 = 0 ∨ x3 = 1) ∧ True) ∧ (¬ (x3 = 0) → (p_X3_kindNow fu s l) ∧ ((((f_X3_kindNow fu s l) = (42 : Int32)) → (p_X3_kindNow fu s l) ∧ (p_X3_take fu (f_X3_kindNow fu s l) s l) ∧ ((((f_X3_take fu (f_X3_kindNow fu s l) s l).1 = 0) → ((((f_X3_kindNow fu s l) = (42 : Int32)) → (p_X5_addCode fu (-3 : Int32) t (f_X3_take fu (f_X3_kindNow fu s l) s l).2.1 (f_X3_take fu (f_X3_kindNow fu s l) s l).2.2) ∧ p_X3_product_10 fu KS KP n x2 (0 : Int32) (x4 + 1) t (f_X5_addCode fu (-3 : Int32) t (f_X3_take fu (f_X3_kindNow fu s l) s l).2.1 (f_X3_take fu (f_X3_kindNow fu s l) s l).2.2).1 (f_X5_addCode fu (-3 : Int32) t (f_X3_take fu (f_X3_kindNow fu s l) s l).2.1 (f_X3_take fu (f_X3_kindNow fu s l) s l).2.2).2) ∧ (¬ ((f_X3_kindNow fu s l) = (42 : Int32)) → (p_X5_addCode fu (-4 : Int32) t (f_X3_take fu (f_X3_kindNow fu s l) s l).2.1 (f_X3_take fu (f_X3_kindNow fu s l) s l).2.2) ∧ p_X3_product_10 fu KS KP n x2 (0 : Int32) (x4 + 1) t (f_X5_addCode fu (-4 : Int32) t (f_X3_take fu (f_X3_kindNow fu s l) s l).2.1 (f_X3_take fu (f_X3_kindNow fu s l) s l).2.2).1 (f_X5_addCode fu (-4 : Int32) t (f_X3_take fu (f_X3_kindNow fu s l) s l).2.1 (f_X3_take fu (f_X3_kindNow fu s l) s l).2.2).2))) ∧ (¬ ((f_X3_take fu (f_X3_kindNow fu s l) s l).1 = 0) → (p_X3_unit fu KS KP x2 t (f_X3_take fu (f_X3_kindNow fu s l) s l).2.1 (f_X3_take fu (f_X3_kindNow fu s l) s l).2.2) ∧ ((((f_X3_unit fu KS x2 t (f_X3_take fu (f_X3_kindNow fu s l) s l).2.1 (f_X3_take fu (f_X3_kindNow fu s l) s l).2.2).1 = 0) → ((((f_X3_kindNow fu s l) = (42 : Int32)) → (p_X5_addCode fu (-3 : Int32) t (f_X3_unit fu KS x2 t (f_X3_take fu (f_X3_kindNow fu s l) s l).2.1 (f_X3_take fu (f_X3_kindNow fu s l) s l).2.2).2.1 (f_X3_unit fu KS x2 t (f_X3_take fu (f_X3_kindNow fu s l) s l).2.1 (f_X3_take fu (f_X3_kindNow fu s l) s l).2.2).2.2) ∧ p_X3_product_10 fu KS KP n x2 (0 : Int32) (x4 + 1) t (f_X5_addCode fu (-3 : Int32) t (f_X3_unit fu KS x2 t (f_X3_take fu (f_X3_kindNow fu s l) s l).2.1 (f_X3_take fu (f_X3_kindNow fu s l) s l).2.2).2.1 (f_X3_unit fu KS x2 t (f_X3_take fu (f_X3_kindNow fu s l) s l).2.1 (f_X3_take fu (f_X3_kindNow fu s l) s l).2.2).2.2).1 (f_X5_addCode fu (-3 : Int32) t (f_X3_unit fu KS x2 t (f_X3_take fu (f_X3_kindNow fu s l) s l).2.1 (f_X3_take fu (f_X3_kindNow fu s l) s l).2.2).2.1 (f_X3_unit fu KS x2 t (f_X3_take fu (f_X3_kindNow fu s l) s l).2.1 (f_X3_take fu (f_X3_kindNow fu s l) s l).2.2).2.2).2) ∧ (¬ ((f_X3_kindNow fu s l) = (42 : Int32)) → (p_X5_addCode fu (-4 : Int32) t (f_X3_unit fu KS x2 t (f_X3_take fu (f_X3_kindNow fu s l) s l).2.1 (f_X3_take fu (f_X3_kindNow fu s l) s l).2.2).2.1 (f_X3_unit fu KS x2 t (f_X3_take fu (f_X3_kindNow fu s l) s l).2.1 (f_X3_take fu (f_X3_kindNow fu s l) s l).2.2).2.2) ∧ p_X3_product_10 fu KS KP n x2 (0 : Int32) (x4 + 1) t (f_X5_addCode fu (-4 : Int32) t (f_X3_unit fu KS x2 t (f_X3_take fu (f_X3_kindNow fu s l) s l).2.1 (f_X3_take fu (f_X3_kindNow fu s l) s l).2.2).2.1 (f_X3_unit fu KS x2 t (f_X3_take fu (f_X3_kindNow fu s l) s l).2.1 (f_X3_take fu (f_X3_kindNow fu s l) s l).2.2).2.2).1 (f_X5_addCode fu (-4 : Int32) t (f_X3_unit fu KS x2 t (f_X3_take fu (f_X3_kindNow fu s l) s l).2.1 (f_X3_take fu (f_X3_kindNow fu s l) s l).2.2).2.1 (f_X3_unit fu KS x2 t (f_X3_take fu (f_X3_kindNow fu s l) s l).2.1 (f_X3_take fu (f_X3_kindNow fu s l) s l).2.2).2.2).2))) ∧ (¬ ((f_X3_unit fu KS x2 t (f_X3_take fu (f_X3_kindNow fu s l) s l).2.1 (f_X3_take fu (f_X3_kindNow fu s l) s l).2.2).1 = 0) → ((((f_X3_kindNow fu s l) = (42 : Int32)) → (p_X5_addCode fu (-3 : Int32) t (f_X3_unit fu KS x2 t (f_X3_take fu (f_X3_kindNow fu s l) s l).2.1 (f_X3_take fu (f_X3_kindNow fu s l) s l).2.2).2.1 (f_X3_unit fu KS x2 t (f_X3_take fu (f_X3_kindNow fu s l) s l).2.1 (f_X3_take fu (f_X3_kindNow fu s l) s l).2.2).2.2) ∧ p_X3_product_10 fu KS KP n x2 (1 : Int32) (x4 + 1) t (f_X5_addCode fu (-3 : Int32) t (f_X3_unit fu KS x2 t (f_X3_take fu (f_X3_kindNow fu s l) s l).2.1 (f_X3_take fu (f_X3_kindNow fu s l) s l).2.2).2.1 (f_X3_unit fu KS x2 t (f_X3_take fu (f_X3_kindNow fu s l) s l).2.1 (f_X3_take fu (f_X3_kindNow fu s l) s l).2.2).2.2).1 (f_X5_addCode fu (-3 : Int32) t (f_X3_unit fu KS x2 t (f_X3_take fu (f_X3_kindNow fu s l) s l).2.1 (f_X3_take fu (f_X3_kindNow fu s l) s l).2.2).2.1 (f_X3_unit fu KS x2 t (f_X3_take fu (f_X3_kindNow fu s l) s l).2.1 (f_X3_take fu (f_X3_kindNow fu s l) s l).2.2).2.2).2) ∧ (¬ ((f_X3_kindNow fu s l) = (42 : Int32)) → (p_X5_addCode fu (-4 : Int32) t (f_X3_unit fu KS x2 t (f_X3_take fu (f_X3_kindNow fu s l) s l).2.1 (f_X3_take fu (f_X3_kindNow fu s l) s l).2.2).2.1 (f_X3_unit fu KS x2 t (f_X3_take fu (f_X3_kindNow fu s l) s l).2.1 (f_X3_take fu (f_X3_kindNow fu s l) s l).2.2).2.2) ∧ p_X3_product_10 fu KS KP n x2 (1 : Int32) (x4 + 1) t (f_X5_addCode fu (-4 : Int32) t (f_X3_unit fu KS x2 t (f_X3_take fu (f_X3_kindNow fu s l) s l).2.1 (f_X3_take fu (f_X3_kindNow fu s l) s l).2.2).2.1 (f_X3_unit fu KS x2 t (f_X3_take fu (f_X3_kindNow fu s l) s l).2.1 (f_X3_take fu (f_X3_kindNow fu s l) s l).2.2).2.2).1 (f_X5_addCode fu (-4 : Int32) t (f_X3_unit fu KS x2 t (f_X3_take fu (f_X3_kindNow fu s l) s l).2.1 (f_X3_take fu (f_X3_kindNow fu s l) s l).2.2).2.1 (f_X3_unit fu KS x2 t (f_X3_take fu (f_X3_kindNow fu s l) s l).2.1 (f_X3_take fu (f_X3_kindNow fu s l) s l).2.2).2.2).2))))))) ∧ (¬ ((f_X3_kindNow fu s l) = (42 : Int32)) → (p_X3_kindNow fu s l) ∧ ((((f_X3_kindNow fu s l) = (47 : Int32)) → (p_X3_kindNow fu s l) ∧ (p_X3_take fu (f_X3_kindNow fu s l) s l) ∧ ((((f_X3_take fu (f_X3_kindNow fu s l) s l).1 = 0) → ((((f_X3_kindNow fu s l) = (42 : Int32)) → (p_X5_addCode fu (-3 : Int32) t (f_X3_take fu (f_X3_kindNow fu s l) s l).2.1 (f_X3_take fu (f_X3_kindNow fu s l) s l).2.2) ∧ p_X3_product_10 fu KS KP n x2 (0 : Int32) (x4 + 1) t (f_X5_addCode fu (-3 : Int32) t (f_X3_take fu (f_X3_kindNow fu s l) s l).2.1 (f_X3_take fu (f_X3_kindNow fu s l) s l).2.2).1 (f_X5_addCode fu (-3 : Int32) t (f_X3_take fu (f_X3_kindNow fu s l) s l).2.1 (f_X3_take fu (f_X3_kindNow fu s l) s l).2.2).2) ∧ (¬ ((f_X3_kindNow fu s l) = (42 : Int32)) → (p_X5_addCode fu (-4 : Int32) t (f_X3_take fu (f_X3_kindNow fu s l) s l).2.1 (f_X3_take fu (f_X3_kindNow fu s l) s l).2.2) ∧ p_X3_product_10 fu KS KP n x2 (0 : Int32) (x4 + 1) t (f_X5_addCode fu (-4 : Int32) t (f_X3_take fu (f_X3_kindNow fu s l) s l).2.1 (f_X3_take fu (f_X3_kindNow fu s l) s l).2.2).1 (f_X5_addCode fu (-4 : Int32) t (f_X3_take fu (f_X3_kindNow fu s l) s l).2.1 (f_X3_take fu (f_X3_kindNow fu s l) s l).2.2).2))) ∧ (¬ ((f_X3_take fu (f_X3_kindNow fu s l) s l).1 = 0) → (p_X3_unit fu KS KP x2 t (f_X3_take fu (f_X3_kindNow fu s l) s l).2.1 (f_X3_take fu (f_X3_kindNow fu s l) s l).2.2) ∧ ((((f_X3_unit fu KS x2 t (f_X3_take fu (f_X3_kindNow fu s l) s l).2.1 (f_X3_take fu (f_X3_kindNow fu s l) s l).2.2).1 = 0) → ((((f_X3_kindNow fu s l) = (42 : Int32)) → (p_X5_addCode fu (-3 : Int32) t (f_X3_unit fu KS x2 t (f_X3_take fu (f_X3_kindNow fu s l) s l).2.1 (f_X3_take fu (f_X3_kindNow fu s l) s l).2.2).2.1 (f_X3_unit fu KS x2 t (f_X3_take fu (f_X3_kindNow fu s l) s l).2.1 (f_X3_take fu (f_X3_kindNow fu s l) s l).2.2).2.2) ∧ p_X3_product_10 fu KS KP n x2 (0 : Int32) (x4 + 1) t (f_X5_addCode fu (-3 : Int32) t (f_X3_unit fu KS x2 t (f_X3_take fu (f_X3_kindNow fu s l) s l).2.1 (f_X3_take fu (f_X3_kindNow fu s l) s l).2.2).2.1 (f_X3_unit fu KS x2 t (f_X3_take fu (f_X3_kindNow fu s l) s l).2.1 (f_X3_take fu (f_X3_kindNow fu s l) s l).2.2).2.2).1 (f_X5_addCode fu (-3 : Int32) t (f_X3_unit fu KS x2 t (f_X3_take fu (f_X3_kindNow fu s l) s l).2.1 (f_X3_take fu (f_X3_kindNow fu s l) s l).2.2).2.1 (f_X3_unit fu KS x2 t (f_X3_take fu (f_X3_kindNow fu s l) s l).2.1 (f_X3_take fu (f_X3_kindNow fu s l) s l).2.2).2.2).2) ∧ (¬ ((f_X3_kindNow fu s l) = (42 : Int32)) → (p_X5_addCode fu (-4 : Int32) t (f_X3_unit fu KS x2 t (f_X3_take fu (f_X3_kindNow fu s l) s l).2.1 (f_X3_take fu (f_X3_kindNow fu s l) s l).2.2).2.1 (f_X3_unit fu KS x2 t (f_X3_take fu (f_X3_kindNow fu s l) s l).2.1 (f_X3_take fu (f_X3_kindNow fu s l) s l).2.2).2.2) ∧ p_X3_product_10 fu KS KP n x2 (0 : Int32) (x4 + 1) t (f_X5_addCode fu (-4 : Int32) t (f_X3_unit fu KS x2 t (f_X3_take fu (f_X3_kindNow fu s l) s l).2.1 (f_X3_take fu (f_X3_kindNow fu s l) s l).2.2).2.1 (f_X3_unit fu KS x2 t (f_X3_take fu (f_X3_kindNow fu s l) s l).2.1 (f_X3_take fu (f_X3_kindNow fu s l) s l).2.2).2.2).1 (f_X5_addCode fu (-4 : Int32) t (f_X3_unit fu KS x2 t (f_X3_take fu (f_X3_kindNow fu s l) s l).2.1 (f_X3_take fu (f_X3_kindNow fu s l) s l).2.2).2.1 (f_X3_unit fu KS x2 t (f_X3_take fu (f_X3_kindNow fu s l) s l).2.1 (f_X3_take fu (f_X3_kindNow fu s l) s l).2.2).2.2).2))) ∧ (¬ ((f_X3_unit fu KS x2 t (f_X3_take fu (f_X3_kindNow fu s l) s l).2.1 (f_X3_take fu (f_X3_kindNow fu s l) s l).2.2).1 = 0) → ((((f_X3_kindNow fu s l) = (42 : Int32)) → (p_X5_addCode fu (-3 : Int32) t (f_X3_unit fu KS x2 t (f_X3_take fu (f_X3_kindNow fu s l) s l).2.1 (f_X3_take fu (f_X3_kindNow fu s l) s l).2.2).2.1 (f_X3_unit fu KS x2 t (f_X3_take fu (f_X3_kindNow fu s l) s l).2.1 (f_X3_take fu (f_X3_kindNow fu s l) s l).2.2).2.2) ∧ p_X3_product_10 fu KS KP n x2 (1 : Int32) (x4 + 1) t (f_X5_addCode fu (-3 : Int32) t (f_X3_unit fu KS x2 t (f_X3_take fu (f_X3_kindNow fu s l) s l).2.1 (f_X3_take fu (f_X3_kindNow fu s l) s l).2.2).2.1 (f_X3_unit fu KS x2 t (f_X3_take fu (f_X3_kindNow fu s l) s l).2.1 (f_X3_take fu (f_X3_kindNow fu s l) s l).2.2).2.2).1 (f_X5_addCode fu (-3 : Int32) t (f_X3_unit fu KS x2 t (f_X3_take fu (f_X3_kindNow fu s l) s l).2.1 (f_X3_take fu (f_X3_kindNow fu s l) s l).2.2).2.1 (f_X3_unit fu KS x2 t (f_X3_take fu (f_X3_kindNow fu s l) s l).2.1 (f_X3_take fu (f_X3_kindNow fu s l) s l).2.2).2.2).2) ∧ (¬ ((f_X3_kindNow fu s l) = (42 : Int32)) → (p_X5_addCode fu (-4 : Int32) t (f_X3_unit fu KS x2 t (f_X3_take fu (f_X3_kindNow fu s l) s l).2.1 (f_X3_take fu (f_X3_kindNow fu s l) s l).2.2).2.1 (f_X3_unit fu KS x2 t (f_X3_take fu (f_X3_kindNow fu s l) s l).2.1 (f_X3_take fu (f_X3_kindNow fu s l) s l).2.2).2.2) ∧ p_X3_product_10 fu KS KP n x2 (1 : Int32) (x4 + 1) t (f_X5_addCode fu (-4 : Int32) t (f_X3_unit fu KS x2 t (f_X3_take fu (f_X3_kindNow fu s l) s l).2.1 (f_X3_take fu (f_X3_kindNow fu s l) s l).2.2).2.1 (f_X3_unit fu KS x2 t (f_X3_take fu (f_X3_kindNow fu s l) s l).2.1 (f_X3_take fu (f_X3_kindNow fu s l) s l).2.2).2.2).1 (f_X5_addCode fu (-4 : Int32) t (f_X3_unit fu KS x2 t (f_X3_take fu (f_X3_kindNow fu s l) s l).2.1 (f_X3_take fu (f_X3_kindNow fu s l) s l).2.2).2.1 (f_X3_unit fu KS x2 t (f_X3_take fu (f_X3_kindNow fu s l) s l).2.1 (f_X3_take fu (f_X3_kindNow fu s l) s l).2.2).2.2).2))))))) ∧ (¬ ((f_X3_kindNow fu s l) = (47 : Int32)) → (x3 = 0 ∨ x3 = 1) ∧ True))))))))

set_option maxRecDepth 100000 in
set_option maxHeartbeats 1000000 in
theorem lp_X3_product_10 {G : ab_G} {fu : Nat} {d : Nat} {D : fl_D} (KS : Int32 → Nat → fl_I → fl_L → Int32 × fl_I × fl_L) (KP : Int32 → Nat → fl_I → fl_L → Prop) (hKS : ∀ {t : Nat} (_ : isT t) {v : Int32} {s : fl_I} {l : fl_L}, KP v t s l → ab_C G d 0 0 M_X3_sum 0 (ab_ent [.ref 3, .ref t, .int v]) [] (hp D s l) (rt (some (.int (KS v t s l).1)) (hp D (KS v t s l).2.1 (KS v t s l).2.2))) {t : Nat} (htt : isT t) : ∀ (n : Nat) (x2 : Int32) (x3 : Int32) (x4 : Int32) (s : fl_I) (l : fl_L), p_X3_product_10 fu KS KP n x2 x3 x4 t s l → ab_C G (d + 3) 0 0 M_X3_product 10 [some (.ref 3), some (.ref t), some (.int x2), some (.int x3), some (.int x4), none] [] (hp D s l) (rt (some (.int (f_X3_product_10 fu KS n x2 x3 x4 t s l).1)) (hp D (f_X3_product_10 fu KS n x2 x3 x4 t s l).2.1 (f_X3_product_10 fu KS n x2 x3 x4 t s l).2.2)) := by
  intro n
  induction n with
  | zero => intro x2 x3 x4 s l hk; exact hk.elim
  | succ n ih =>
    intro x2 x3 x4 s l hk
    generalize he : f_X3_product_10 fu KS (n + 1) x2 x3 x4 t s l = res
    unfold f_X3_product_10 at he
    unfold p_X3_product_10 at hk
    refine r_iload rfl rfl ?_
    refine r_sipush_ (a := 400) rfl (by decide) ?_
    refine r_icmp_gt rfl (fun c_15 => ?_) (fun c_15 => ?_)
    · rw [if_pos c_15] at he
      replace hk := hk.1 c_15
      refine r_iload_n rfl rfl ?_
      obtain ⟨hb1, hk⟩ := hk
      refine r_iret rfl rfl (nar_b hb1) ?_
      first | with_reducible exact fin_i he | exact fin_i he
    · rw [if_neg c_15] at he
      replace hk := hk.2 c_15
      refine r_iload_n rfl rfl ?_
      refine r_if_eq rfl (fun c_19 => ?_) (fun c_19 => ?_)
      · rw [if_pos c_19] at he
        replace hk := hk.1 c_19
        refine r_iload_n rfl rfl ?_
        obtain ⟨hb2, hk⟩ := hk
        refine r_iret rfl rfl (nar_b hb2) ?_
        first | with_reducible exact fin_i he | exact fin_i he
      · rw [if_neg c_19] at he
        replace hk := hk.2 c_19
        refine r_aload_n rfl rfl ?_
        obtain ⟨hb3, hk⟩ := hk
        refine q_callV0 [] _ rfl kY_X3_kindNow kT_X3_kindNow rfl rfl (Nat.le_of_ble_eq_true rfl) (Nat.le_of_ble_eq_true rfl) (cc_3 _) (s_X3_kindNow hb3) (fun r h q => ?_)
        obtain ⟨rfl, rfl⟩ := q
        simp only [Option.toList, List.cons_append, List.nil_append]
        refine r_bipush_ (a := 42) rfl (by decide) ?_
        refine r_icmp_eq rfl (fun c_28 => ?_) (fun c_28 => ?_)
        · rw [if_pos c_28] at he
          replace hk := hk.1 c_28
          refine r_aload_n rfl rfl ?_
          obtain ⟨hb4, hk⟩ := hk
          refine q_callV0 [] _ rfl kY_X3_kindNow kT_X3_kindNow rfl rfl (Nat.le_of_ble_eq_true rfl) (Nat.le_of_ble_eq_true rfl) (cc_3 _) (s_X3_kindNow hb4) (fun r h q => ?_)
          obtain ⟨rfl, rfl⟩ := q
          simp only [Option.toList, List.cons_append, List.nil_append]
          refine r_istore rfl (Nat.le_of_ble_eq_true rfl) rfl ?_
          refine r_aload_n rfl rfl ?_
          refine r_iload rfl rfl ?_
          obtain ⟨hb5, hk⟩ := hk
          refine q_callV0 [_] _ rfl kY_X3_take kT_X3_take rfl rfl (Nat.le_of_ble_eq_true rfl) (Nat.le_of_ble_eq_true rfl) (cc_3 _) (s_X3_take hb5) (fun r h q => ?_)
          obtain ⟨rfl, rfl⟩ := q
          simp only [Option.toList, List.cons_append, List.nil_append]
          refine r_if_eq rfl (fun c_52 => ?_) (fun c_52 => ?_)
          · rw [if_pos c_52] at he
            replace hk := hk.1 c_52
            refine r_iconst_ (a := 0) rfl (by decide) ?_
            refine r_istore_n rfl (Nat.le_of_ble_eq_true rfl) rfl ?_
            refine r_aload_n rfl rfl ?_
            refine r_iload rfl rfl ?_
            refine r_bipush_ (a := 42) rfl (by decide) ?_
            refine r_icmp_ne rfl (fun c_75 => ?_) (fun c_75 => ?_)
            · rw [if_neg c_75] at he
              replace hk := hk.2 c_75
              refine r_bipush_ (a := -4) rfl (by decide) ?_
              obtain ⟨hb6, hk⟩ := hk
              refine q_callV0 [_] _ rfl kY_X5_addCode kT_X5_addCode rfl rfl (Nat.le_of_ble_eq_true rfl) (Nat.le_of_ble_eq_true rfl) (cT_0 htt) (s_X5_addCode htt hb6) (fun r h q => ?_)
              obtain ⟨rfl, rfl⟩ := q
              simp only [Option.toList, List.cons_append, List.nil_append]
              refine r_iinc (b := x4 + 1) rfl rfl rfl (Nat.le_of_ble_eq_true rfl) rfl ?_
              refine r_goto rfl ?_
              subst he
              exact r_weak (L1 := [some (.ref 3), some (.ref t), some (.int x2), some (.int (0 : Int32)), some (.int (x4 + 1)), none]) ⟨rfl, rfl, rfl, rfl, rfl, trivial⟩ (ih _ _ _ _ _ hk)
            · rw [if_pos c_75] at he
              replace hk := hk.1 c_75
              refine r_bipush_ (a := -3) rfl (by decide) ?_
              refine r_goto rfl ?_
              obtain ⟨hb7, hk⟩ := hk
              refine q_callV0 [_] _ rfl kY_X5_addCode kT_X5_addCode rfl rfl (Nat.le_of_ble_eq_true rfl) (Nat.le_of_ble_eq_true rfl) (cT_0 htt) (s_X5_addCode htt hb7) (fun r h q => ?_)
              obtain ⟨rfl, rfl⟩ := q
              simp only [Option.toList, List.cons_append, List.nil_append]
              refine r_iinc (b := x4 + 1) rfl rfl rfl (Nat.le_of_ble_eq_true rfl) rfl ?_
              refine r_goto rfl ?_
              subst he
              exact r_weak (L1 := [some (.ref 3), some (.ref t), some (.int x2), some (.int (0 : Int32)), some (.int (x4 + 1)), none]) ⟨rfl, rfl, rfl, rfl, rfl, trivial⟩ (ih _ _ _ _ _ hk)
          · rw [if_neg c_52] at he
            replace hk := hk.2 c_52
            refine r_aload_n rfl rfl ?_
            refine r_aload_n rfl rfl ?_
            refine r_iload_n rfl rfl ?_
            obtain ⟨hb8, hk⟩ := hk
            refine q_callV0 [_, _] _ rfl kY_X3_unit kT_X3_unit rfl rfl (Nat.le_of_ble_eq_true rfl) (Nat.le_of_ble_eq_true rfl) (cc_3 _) (s_X3_unit KS KP hKS htt hb8) (fun r h q => ?_)
            obtain ⟨rfl, rfl⟩ := q
            simp only [Option.toList, List.cons_append, List.nil_append]
            refine r_if_eq rfl (fun c_61 => ?_) (fun c_61 => ?_)
            · rw [if_pos c_61] at he
              replace hk := hk.1 c_61
              refine r_iconst_ (a := 0) rfl (by decide) ?_
              refine r_istore_n rfl (Nat.le_of_ble_eq_true rfl) rfl ?_
              refine r_aload_n rfl rfl ?_
              refine r_iload rfl rfl ?_
              refine r_bipush_ (a := 42) rfl (by decide) ?_
              refine r_icmp_ne rfl (fun c_75 => ?_) (fun c_75 => ?_)
              · rw [if_neg c_75] at he
                replace hk := hk.2 c_75
                refine r_bipush_ (a := -4) rfl (by decide) ?_
                obtain ⟨hb9, hk⟩ := hk
                refine q_callV0 [_] _ rfl kY_X5_addCode kT_X5_addCode rfl rfl (Nat.le_of_ble_eq_true rfl) (Nat.le_of_ble_eq_true rfl) (cT_0 htt) (s_X5_addCode htt hb9) (fun r h q => ?_)
                obtain ⟨rfl, rfl⟩ := q
                simp only [Option.toList, List.cons_append, List.nil_append]
                refine r_iinc (b := x4 + 1) rfl rfl rfl (Nat.le_of_ble_eq_true rfl) rfl ?_
                refine r_goto rfl ?_
                subst he
                exact r_weak (L1 := [some (.ref 3), some (.ref t), some (.int x2), some (.int (0 : Int32)), some (.int (x4 + 1)), none]) ⟨rfl, rfl, rfl, rfl, rfl, trivial⟩ (ih _ _ _ _ _ hk)
              · rw [if_pos c_75] at he
                replace hk := hk.1 c_75
                refine r_bipush_ (a := -3) rfl (by decide) ?_
                refine r_goto rfl ?_
                obtain ⟨hb10, hk⟩ := hk
                refine q_callV0 [_] _ rfl kY_X5_addCode kT_X5_addCode rfl rfl (Nat.le_of_ble_eq_true rfl) (Nat.le_of_ble_eq_true rfl) (cT_0 htt) (s_X5_addCode htt hb10) (fun r h q => ?_)
                obtain ⟨rfl, rfl⟩ := q
                simp only [Option.toList, List.cons_append, List.nil_append]
                refine r_iinc (b := x4 + 1) rfl rfl rfl (Nat.le_of_ble_eq_true rfl) rfl ?_
                refine r_goto rfl ?_
                subst he
                exact r_weak (L1 := [some (.ref 3), some (.ref t), some (.int x2), some (.int (0 : Int32)), some (.int (x4 + 1)), none]) ⟨rfl, rfl, rfl, rfl, rfl, trivial⟩ (ih _ _ _ _ _ hk)
            · rw [if_neg c_61] at he
              replace hk := hk.2 c_61
              refine r_iconst_ (a := 1) rfl (by decide) ?_
              refine r_goto rfl ?_
              refine r_istore_n rfl (Nat.le_of_ble_eq_true rfl) rfl ?_
              refine r_aload_n rfl rfl ?_
              refine r_iload rfl rfl ?_
              refine r_bipush_ (a := 42) rfl (by decide) ?_
              refine r_icmp_ne rfl (fun c_75 => ?_) (fun c_75 => ?_)
              · rw [if_neg c_75] at he
                replace hk := hk.2 c_75
                refine r_bipush_ (a := -4) rfl (by decide) ?_
                obtain ⟨hb11, hk⟩ := hk
                refine q_callV0 [_] _ rfl kY_X5_addCode kT_X5_addCode rfl rfl (Nat.le_of_ble_eq_true rfl) (Nat.le_of_ble_eq_true rfl) (cT_0 htt) (s_X5_addCode htt hb11) (fun r h q => ?_)
                obtain ⟨rfl, rfl⟩ := q
                simp only [Option.toList, List.cons_append, List.nil_append]
                refine r_iinc (b := x4 + 1) rfl rfl rfl (Nat.le_of_ble_eq_true rfl) rfl ?_
                refine r_goto rfl ?_
                subst he
                exact r_weak (L1 := [some (.ref 3), some (.ref t), some (.int x2), some (.int (1 : Int32)), some (.int (x4 + 1)), none]) ⟨rfl, rfl, rfl, rfl, rfl, trivial⟩ (ih _ _ _ _ _ hk)
              · rw [if_pos c_75] at he
                replace hk := hk.1 c_75
                refine r_bipush_ (a := -3) rfl (by decide) ?_
                refine r_goto rfl ?_
                obtain ⟨hb12, hk⟩ := hk
                refine q_callV0 [_] _ rfl kY_X5_addCode kT_X5_addCode rfl rfl (Nat.le_of_ble_eq_true rfl) (Nat.le_of_ble_eq_true rfl) (cT_0 htt) (s_X5_addCode htt hb12) (fun r h q => ?_)
                obtain ⟨rfl, rfl⟩ := q
                simp only [Option.toList, List.cons_append, List.nil_append]
                refine r_iinc (b := x4 + 1) rfl rfl rfl (Nat.le_of_ble_eq_true rfl) rfl ?_
                refine r_goto rfl ?_
                subst he
                exact r_weak (L1 := [some (.ref 3), some (.ref t), some (.int x2), some (.int (1 : Int32)), some (.int (x4 + 1)), none]) ⟨rfl, rfl, rfl, rfl, rfl, trivial⟩ (ih _ _ _ _ _ hk)
        · rw [if_neg c_28] at he
          replace hk := hk.2 c_28
          refine r_aload_n rfl rfl ?_
          obtain ⟨hb13, hk⟩ := hk
          refine q_callV0 [] _ rfl kY_X3_kindNow kT_X3_kindNow rfl rfl (Nat.le_of_ble_eq_true rfl) (Nat.le_of_ble_eq_true rfl) (cc_3 _) (s_X3_kindNow hb13) (fun r h q => ?_)
          obtain ⟨rfl, rfl⟩ := q
          simp only [Option.toList, List.cons_append, List.nil_append]
          refine r_bipush_ (a := 47) rfl (by decide) ?_
          refine r_icmp_ne rfl (fun c_37 => ?_) (fun c_37 => ?_)
          · rw [if_neg c_37] at he
            replace hk := hk.2 c_37
            refine r_iload_n rfl rfl ?_
            obtain ⟨hb14, hk⟩ := hk
            refine r_iret rfl rfl (nar_b hb14) ?_
            first | with_reducible exact fin_i he | exact fin_i he
          · rw [if_pos c_37] at he
            replace hk := hk.1 c_37
            refine r_aload_n rfl rfl ?_
            obtain ⟨hb15, hk⟩ := hk
            refine q_callV0 [] _ rfl kY_X3_kindNow kT_X3_kindNow rfl rfl (Nat.le_of_ble_eq_true rfl) (Nat.le_of_ble_eq_true rfl) (cc_3 _) (s_X3_kindNow hb15) (fun r h q => ?_)
            obtain ⟨rfl, rfl⟩ := q
            simp only [Option.toList, List.cons_append, List.nil_append]
            refine r_istore rfl (Nat.le_of_ble_eq_true rfl) rfl ?_
            refine r_aload_n rfl rfl ?_
            refine r_iload rfl rfl ?_
            obtain ⟨hb16, hk⟩ := hk
            refine q_callV0 [_] _ rfl kY_X3_take kT_X3_take rfl rfl (Nat.le_of_ble_eq_true rfl) (Nat.le_of_ble_eq_true rfl) (cc_3 _) (s_X3_take hb16) (fun r h q => ?_)
            obtain ⟨rfl, rfl⟩ := q
            simp only [Option.toList, List.cons_append, List.nil_append]
            refine r_if_eq rfl (fun c_52 => ?_) (fun c_52 => ?_)
            · rw [if_pos c_52] at he
              replace hk := hk.1 c_52
              refine r_iconst_ (a := 0) rfl (by decide) ?_
              refine r_istore_n rfl (Nat.le_of_ble_eq_true rfl) rfl ?_
              refine r_aload_n rfl rfl ?_
              refine r_iload rfl rfl ?_
              refine r_bipush_ (a := 42) rfl (by decide) ?_
              refine r_icmp_ne rfl (fun c_75 => ?_) (fun c_75 => ?_)
              · rw [if_neg c_75] at he
                replace hk := hk.2 c_75
                refine r_bipush_ (a := -4) rfl (by decide) ?_
                obtain ⟨hb17, hk⟩ := hk
                refine q_callV0 [_] _ rfl kY_X5_addCode kT_X5_addCode rfl rfl (Nat.le_of_ble_eq_true rfl) (Nat.le_of_ble_eq_true rfl) (cT_0 htt) (s_X5_addCode htt hb17) (fun r h q => ?_)
                obtain ⟨rfl, rfl⟩ := q
                simp only [Option.toList, List.cons_append, List.nil_append]
                refine r_iinc (b := x4 + 1) rfl rfl rfl (Nat.le_of_ble_eq_true rfl) rfl ?_
                refine r_goto rfl ?_
                subst he
                exact r_weak (L1 := [some (.ref 3), some (.ref t), some (.int x2), some (.int (0 : Int32)), some (.int (x4 + 1)), none]) ⟨rfl, rfl, rfl, rfl, rfl, trivial⟩ (ih _ _ _ _ _ hk)
              · rw [if_pos c_75] at he
                replace hk := hk.1 c_75
                refine r_bipush_ (a := -3) rfl (by decide) ?_
                refine r_goto rfl ?_
                obtain ⟨hb18, hk⟩ := hk
                refine q_callV0 [_] _ rfl kY_X5_addCode kT_X5_addCode rfl rfl (Nat.le_of_ble_eq_true rfl) (Nat.le_of_ble_eq_true rfl) (cT_0 htt) (s_X5_addCode htt hb18) (fun r h q => ?_)
                obtain ⟨rfl, rfl⟩ := q
                simp only [Option.toList, List.cons_append, List.nil_append]
                refine r_iinc (b := x4 + 1) rfl rfl rfl (Nat.le_of_ble_eq_true rfl) rfl ?_
                refine r_goto rfl ?_
                subst he
                exact r_weak (L1 := [some (.ref 3), some (.ref t), some (.int x2), some (.int (0 : Int32)), some (.int (x4 + 1)), none]) ⟨rfl, rfl, rfl, rfl, rfl, trivial⟩ (ih _ _ _ _ _ hk)
            · rw [if_neg c_52] at he
              replace hk := hk.2 c_52
              refine r_aload_n rfl rfl ?_
              refine r_aload_n rfl rfl ?_
              refine r_iload_n rfl rfl ?_
              obtain ⟨hb19, hk⟩ := hk
              refine q_callV0 [_, _] _ rfl kY_X3_unit kT_X3_unit rfl rfl (Nat.le_of_ble_eq_true rfl) (Nat.le_of_ble_eq_true rfl) (cc_3 _) (s_X3_unit KS KP hKS htt hb19) (fun r h q => ?_)
              obtain ⟨rfl, rfl⟩ := q
              simp only [Option.toList, List.cons_append, List.nil_append]
              refine r_if_eq rfl (fun c_61 => ?_) (fun c_61 => ?_)
              · rw [if_pos c_61] at he
                replace hk := hk.1 c_61
                refine r_iconst_ (a := 0) rfl (by decide) ?_
                refine r_istore_n rfl (Nat.le_of_ble_eq_true rfl) rfl ?_
                refine r_aload_n rfl rfl ?_
                refine r_iload rfl rfl ?_
                refine r_bipush_ (a := 42) rfl (by decide) ?_
                refine r_icmp_ne rfl (fun c_75 => ?_) (fun c_75 => ?_)
                · rw [if_neg c_75] at he
                  replace hk := hk.2 c_75
                  refine r_bipush_ (a := -4) rfl (by decide) ?_
                  obtain ⟨hb20, hk⟩ := hk
                  refine q_callV0 [_] _ rfl kY_X5_addCode kT_X5_addCode rfl rfl (Nat.le_of_ble_eq_true rfl) (Nat.le_of_ble_eq_true rfl) (cT_0 htt) (s_X5_addCode htt hb20) (fun r h q => ?_)
                  obtain ⟨rfl, rfl⟩ := q
                  simp only [Option.toList, List.cons_append, List.nil_append]
                  refine r_iinc (b := x4 + 1) rfl rfl rfl (Nat.le_of_ble_eq_true rfl) rfl ?_
                  refine r_goto rfl ?_
                  subst he
                  exact r_weak (L1 := [some (.ref 3), some (.ref t), some (.int x2), some (.int (0 : Int32)), some (.int (x4 + 1)), none]) ⟨rfl, rfl, rfl, rfl, rfl, trivial⟩ (ih _ _ _ _ _ hk)
                · rw [if_pos c_75] at he
                  replace hk := hk.1 c_75
                  refine r_bipush_ (a := -3) rfl (by decide) ?_
                  refine r_goto rfl ?_
                  obtain ⟨hb21, hk⟩ := hk
                  refine q_callV0 [_] _ rfl kY_X5_addCode kT_X5_addCode rfl rfl (Nat.le_of_ble_eq_true rfl) (Nat.le_of_ble_eq_true rfl) (cT_0 htt) (s_X5_addCode htt hb21) (fun r h q => ?_)
                  obtain ⟨rfl, rfl⟩ := q
                  simp only [Option.toList, List.cons_append, List.nil_append]
                  refine r_iinc (b := x4 + 1) rfl rfl rfl (Nat.le_of_ble_eq_true rfl) rfl ?_
                  refine r_goto rfl ?_
                  subst he
                  exact r_weak (L1 := [some (.ref 3), some (.ref t), some (.int x2), some (.int (0 : Int32)), some (.int (x4 + 1)), none]) ⟨rfl, rfl, rfl, rfl, rfl, trivial⟩ (ih _ _ _ _ _ hk)
              · rw [if_neg c_61] at he
                replace hk := hk.2 c_61
                refine r_iconst_ (a := 1) rfl (by decide) ?_
                refine r_goto rfl ?_
                refine r_istore_n rfl (Nat.le_of_ble_eq_true rfl) rfl ?_
                refine r_aload_n rfl rfl ?_
                refine r_iload rfl rfl ?_
                refine r_bipush_ (a := 42) rfl (by decide) ?_
                refine r_icmp_ne rfl (fun c_75 => ?_) (fun c_75 => ?_)
                · rw [if_neg c_75] at he
                  replace hk := hk.2 c_75
                  refine r_bipush_ (a := -4) rfl (by decide) ?_
                  obtain ⟨hb22, hk⟩ := hk
                  refine q_callV0 [_] _ rfl kY_X5_addCode kT_X5_addCode rfl rfl (Nat.le_of_ble_eq_true rfl) (Nat.le_of_ble_eq_true rfl) (cT_0 htt) (s_X5_addCode htt hb22) (fun r h q => ?_)
                  obtain ⟨rfl, rfl⟩ := q
                  simp only [Option.toList, List.cons_append, List.nil_append]
                  refine r_iinc (b := x4 + 1) rfl rfl rfl (Nat.le_of_ble_eq_true rfl) rfl ?_
                  refine r_goto rfl ?_
                  subst he
                  exact r_weak (L1 := [some (.ref 3), some (.ref t), some (.int x2), some (.int (1 : Int32)), some (.int (x4 + 1)), none]) ⟨rfl, rfl, rfl, rfl, rfl, trivial⟩ (ih _ _ _ _ _ hk)
                · rw [if_pos c_75] at he
                  replace hk := hk.1 c_75
                  refine r_bipush_ (a := -3) rfl (by decide) ?_
                  refine r_goto rfl ?_
                  obtain ⟨hb23, hk⟩ := hk
                  refine q_callV0 [_] _ rfl kY_X5_addCode kT_X5_addCode rfl rfl (Nat.le_of_ble_eq_true rfl) (Nat.le_of_ble_eq_true rfl) (cT_0 htt) (s_X5_addCode htt hb23) (fun r h q => ?_)
                  obtain ⟨rfl, rfl⟩ := q
                  simp only [Option.toList, List.cons_append, List.nil_append]
                  refine r_iinc (b := x4 + 1) rfl rfl rfl (Nat.le_of_ble_eq_true rfl) rfl ?_
                  refine r_goto rfl ?_
                  subst he
                  exact r_weak (L1 := [some (.ref 3), some (.ref t), some (.int x2), some (.int (1 : Int32)), some (.int (x4 + 1)), none]) ⟨rfl, rfl, rfl, rfl, rfl, trivial⟩ (ih _ _ _ _ _ hk)

def f_X3_product (fu : Nat) (KS : Int32 → Nat → fl_I → fl_L → Int32 × fl_I × fl_L) (v1 : Int32) (t : Nat) (s : fl_I) (l : fl_L) : Int32 × fl_I × fl_L :=
  f_X3_product_10 fu KS fu v1 (f_X3_unit fu KS v1 t s l).1 (0 : Int32) t (f_X3_unit fu KS v1 t s l).2.1 (f_X3_unit fu KS v1 t s l).2.2

def p_X3_product (fu : Nat) (KS : Int32 → Nat → fl_I → fl_L → Int32 × fl_I × fl_L) (KP : Int32 → Nat → fl_I → fl_L → Prop) (v1 : Int32) (t : Nat) (s : fl_I) (l : fl_L) : Prop :=
  (p_X3_unit fu KS KP v1 t s l) ∧ p_X3_product_10 fu KS KP fu v1 (f_X3_unit fu KS v1 t s l).1 (0 : Int32) t (f_X3_unit fu KS v1 t s l).2.1 (f_X3_unit fu KS v1 t s l).2.2

set_option maxRecDepth 100000 in
set_option maxHeartbeats 1000000 in
theorem s_X3_product {G : ab_G} {fu : Nat} {d : Nat} {D : fl_D} (KS : Int32 → Nat → fl_I → fl_L → Int32 × fl_I × fl_L) (KP : Int32 → Nat → fl_I → fl_L → Prop) (hKS : ∀ {t : Nat} (_ : isT t) {v : Int32} {s : fl_I} {l : fl_L}, KP v t s l → ab_C G d 0 0 M_X3_sum 0 (ab_ent [.ref 3, .ref t, .int v]) [] (hp D s l) (rt (some (.int (KS v t s l).1)) (hp D (KS v t s l).2.1 (KS v t s l).2.2))) {s : fl_I} {l : fl_L} {t : Nat} (htt : isT t) {v1 : Int32} (hk : p_X3_product fu KS KP v1 t s l) : ab_C G (d + 3) 0 0 M_X3_product 0 (ab_ent [.ref 3, .ref t, .int v1]) [] (hp D s l) (rt (some (.int (f_X3_product fu KS v1 t s l).1)) (hp D (f_X3_product fu KS v1 t s l).2.1 (f_X3_product fu KS v1 t s l).2.2)) := by
  generalize he : (f_X3_product fu KS v1 t s l) = res
  unfold f_X3_product at he
  unfold p_X3_product at hk
  refine r_weak (L1 := [some (.ref 3), some (.ref t), some (.int v1), none, none, none]) ⟨rfl, rfl, rfl, trivial⟩ ?_
  refine r_aload_n rfl rfl ?_
  refine r_aload_n rfl rfl ?_
  refine r_iload_n rfl rfl ?_
  obtain ⟨hb0, hk⟩ := hk
  refine q_callV0 [_, _] _ rfl kY_X3_unit kT_X3_unit rfl rfl (Nat.le_of_ble_eq_true rfl) (Nat.le_of_ble_eq_true rfl) (cc_3 _) (s_X3_unit KS KP hKS htt hb0) (fun r h q => ?_)
  obtain ⟨rfl, rfl⟩ := q
  simp only [Option.toList, List.cons_append, List.nil_append]
  refine r_istore_n rfl (Nat.le_of_ble_eq_true rfl) rfl ?_
  refine r_iconst_ (a := 0) rfl (by decide) ?_
  refine r_istore rfl (Nat.le_of_ble_eq_true rfl) rfl ?_
  subst he
  exact r_weak (L1 := [some (.ref 3), some (.ref t), some (.int v1), some (.int (f_X3_unit fu KS v1 t s l).1), some (.int (0 : Int32)), none]) ⟨rfl, rfl, rfl, rfl, rfl, trivial⟩ (lp_X3_product_10 KS KP hKS htt fu _ _ _ _ _ hk)

def f_X3_sum_10 (fu : Nat) (KS : Int32 → Nat → fl_I → fl_L → Int32 × fl_I × fl_L) : Nat → Int32 → Int32 → Int32 → Nat → fl_I → fl_L → Int32 × fl_I × fl_L
  | 0, x2, x3, x4, t, s, l => (0, s, l)
  | n + 1, x2, x3, x4, t, s, l =>
    if ((400 : Int32) < x4) then (x3, s, l) else if (x3 = 0) then (x3, s, l) else if ((f_X3_kindNow fu s l) = (43 : Int32)) then if ((f_X3_take fu (f_X3_kindNow fu s l) s l).1 = 0) then if ((f_X3_kindNow fu s l) = (43 : Int32)) then f_X3_sum_10 fu KS n x2 (0 : Int32) (x4 + 1) t (f_X5_addCode fu (-1 : Int32) t (f_X3_take fu (f_X3_kindNow fu s l) s l).2.1 (f_X3_take fu (f_X3_kindNow fu s l) s l).2.2).1 (f_X5_addCode fu (-1 : Int32) t (f_X3_take fu (f_X3_kindNow fu s l) s l).2.1 (f_X3_take fu (f_X3_kindNow fu s l) s l).2.2).2 else f_X3_sum_10 fu KS n x2 (0 : Int32) (x4 + 1) t (f_X5_addCode fu (-2 : Int32) t (f_X3_take fu (f_X3_kindNow fu s l) s l).2.1 (f_X3_take fu (f_X3_kindNow fu s l) s l).2.2).1 (f_X5_addCode fu (-2 : Int32) t (f_X3_take fu (f_X3_kindNow fu s l) s l).2.1 (f_X3_take fu (f_X3_kindNow fu s l) s l).2.2).2 else if ((f_X3_product fu KS x2 t (f_X3_take fu (f_X3_kindNow fu s l) s l).2.1 (f_X3_take fu (f_X3_kindNow fu s l) s l).2.2).1 = 0) then if ((f_X3_kindNow fu s l) = (43 : Int32)) then f_X3_sum_10 fu KS n x2 (0 : Int32) (x4 + 1) t (f_X5_addCode fu (-1 : Int32) t (f_X3_product fu KS x2 t (f_X3_take fu (f_X3_kindNow fu s l) s l).2.1 (f_X3_take fu (f_X3_kindNow fu s l) s l).2.2).2.1 (f_X3_product fu KS x2 t (f_X3_take fu (f_X3_kindNow fu s l) s l).2.1 (f_X3_take fu (f_X3_kindNow fu s l) s l).2.2).2.2).1 (f_X5_addCode fu (-1 : Int32) t (f_X3_product fu KS x2 t (f_X3_take fu (f_X3_kindNow fu s l) s l).2.1 (f_X3_take fu (f_X3_kindNow fu s l) s l).2.2).2.1 (f_X3_product fu KS x2 t (f_X3_take fu (f_X3_kindNow fu s l) s l).2.1 (f_X3_take fu (f_X3_kindNow fu s l) s l).2.2).2.2).2 else f_X3_sum_10 fu KS n x2 (0 : Int32) (x4 + 1) t (f_X5_addCode fu (-2 : Int32) t (f_X3_product fu KS x2 t (f_X3_take fu (f_X3_kindNow fu s l) s l).2.1 (f_X3_take fu (f_X3_kindNow fu s l) s l).2.2).2.1 (f_X3_product fu KS x2 t (f_X3_take fu (f_X3_kindNow fu s l) s l).2.1 (f_X3_take fu (f_X3_kindNow fu s l) s l).2.2).2.2).1 (f_X5_addCode fu (-2 : Int32) t (f_X3_product fu KS x2 t (f_X3_take fu (f_X3_kindNow fu s l) s l).2.1 (f_X3_take fu (f_X3_kindNow fu s l) s l).2.2).2.1 (f_X3_product fu KS x2 t (f_X3_take fu (f_X3_kindNow fu s l) s l).2.1 (f_X3_take fu (f_X3_kindNow fu s l) s l).2.2).2.2).2 else if ((f_X3_kindNow fu s l) = (43 : Int32)) then f_X3_sum_10 fu KS n x2 (1 : Int32) (x4 + 1) t (f_X5_addCode fu (-1 : Int32) t (f_X3_product fu KS x2 t (f_X3_take fu (f_X3_kindNow fu s l) s l).2.1 (f_X3_take fu (f_X3_kindNow fu s l) s l).2.2).2.1 (f_X3_product fu KS x2 t (f_X3_take fu (f_X3_kindNow fu s l) s l).2.1 (f_X3_take fu (f_X3_kindNow fu s l) s l).2.2).2.2).1 (f_X5_addCode fu (-1 : Int32) t (f_X3_product fu KS x2 t (f_X3_take fu (f_X3_kindNow fu s l) s l).2.1 (f_X3_take fu (f_X3_kindNow fu s l) s l).2.2).2.1 (f_X3_product fu KS x2 t (f_X3_take fu (f_X3_kindNow fu s l) s l).2.1 (f_X3_take fu (f_X3_kindNow fu s l) s l).2.2).2.2).2 else f_X3_sum_10 fu KS n x2 (1 : Int32) (x4 + 1) t (f_X5_addCode fu (-2 : Int32) t (f_X3_product fu KS x2 t (f_X3_take fu (f_X3_kindNow fu s l) s l).2.1 (f_X3_take fu (f_X3_kindNow fu s l) s l).2.2).2.1 (f_X3_product fu KS x2 t (f_X3_take fu (f_X3_kindNow fu s l) s l).2.1 (f_X3_take fu (f_X3_kindNow fu s l) s l).2.2).2.2).1 (f_X5_addCode fu (-2 : Int32) t (f_X3_product fu KS x2 t (f_X3_take fu (f_X3_kindNow fu s l) s l).2.1 (f_X3_take fu (f_X3_kindNow fu s l) s l).2.2).2.1 (f_X3_product fu KS x2 t (f_X3_take fu (f_X3_kindNow fu s l) s l).2.1 (f_X3_take fu (f_X3_kindNow fu s l) s l).2.2).2.2).2 else if ((f_X3_kindNow fu s l) = (45 : Int32)) then if ((f_X3_take fu (f_X3_kindNow fu s l) s l).1 = 0) then if ((f_X3_kindNow fu s l) = (43 : Int32)) then f_X3_sum_10 fu KS n x2 (0 : Int32) (x4 + 1) t (f_X5_addCode fu (-1 : Int32) t (f_X3_take fu (f_X3_kindNow fu s l) s l).2.1 (f_X3_take fu (f_X3_kindNow fu s l) s l).2.2).1 (f_X5_addCode fu (-1 : Int32) t (f_X3_take fu (f_X3_kindNow fu s l) s l).2.1 (f_X3_take fu (f_X3_kindNow fu s l) s l).2.2).2 else f_X3_sum_10 fu KS n x2 (0 : Int32) (x4 + 1) t (f_X5_addCode fu (-2 : Int32) t (f_X3_take fu (f_X3_kindNow fu s l) s l).2.1 (f_X3_take fu (f_X3_kindNow fu s l) s l).2.2).1 (f_X5_addCode fu (-2 : Int32) t (f_X3_take fu (f_X3_kindNow fu s l) s l).2.1 (f_X3_take fu (f_X3_kindNow fu s l) s l).2.2).2 else if ((f_X3_product fu KS x2 t (f_X3_take fu (f_X3_kindNow fu s l) s l).2.1 (f_X3_take fu (f_X3_kindNow fu s l) s l).2.2).1 = 0) then if ((f_X3_kindNow fu s l) = (43 : Int32)) then f_X3_sum_10 fu KS n x2 (0 : Int32) (x4 + 1) t (f_X5_addCode fu (-1 : Int32) t (f_X3_product fu KS x2 t (f_X3_take fu (f_X3_kindNow fu s l) s l).2.1 (f_X3_take fu (f_X3_kindNow fu s l) s l).2.2).2.1 (f_X3_product fu KS x2 t (f_X3_take fu (f_X3_kindNow fu s l) s l).2.1 (f_X3_take fu (f_X3_kindNow fu s l) s l).2.2).2.2).1 (f_X5_addCode fu (-1 : Int32) t (f_X3_product fu KS x2 t (f_X3_take fu (f_X3_kindNow fu s l) s l).2.1 (f_X3_take fu (f_X3_kindNow fu s l) s l).2.2).2.1 (f_X3_product fu KS x2 t (f_X3_take fu (f_X3_kindNow fu s l) s l).2.1 (f_X3_take fu (f_X3_kindNow fu s l) s l).2.2).2.2).2 else f_X3_sum_10 fu KS n x2 (0 : Int32) (x4 + 1) t (f_X5_addCode fu (-2 : Int32) t (f_X3_product fu KS x2 t (f_X3_take fu (f_X3_kindNow fu s l) s l).2.1 (f_X3_take fu (f_X3_kindNow fu s l) s l).2.2).2.1 (f_X3_product fu KS x2 t (f_X3_take fu (f_X3_kindNow fu s l) s l).2.1 (f_X3_take fu (f_X3_kindNow fu s l) s l).2.2).2.2).1 (f_X5_addCode fu (-2 : Int32) t (f_X3_product fu KS x2 t (f_X3_take fu (f_X3_kindNow fu s l) s l).2.1 (f_X3_take fu (f_X3_kindNow fu s l) s l).2.2).2.1 (f_X3_product fu KS x2 t (f_X3_take fu (f_X3_kindNow fu s l) s l).2.1 (f_X3_take fu (f_X3_kindNow fu s l) s l).2.2).2.2).2 else if ((f_X3_kindNow fu s l) = (43 : Int32)) then f_X3_sum_10 fu KS n x2 (1 : Int32) (x4 + 1) t (f_X5_addCode fu (-1 : Int32) t (f_X3_product fu KS x2 t (f_X3_take fu (f_X3_kindNow fu s l) s l).2.1 (f_X3_take fu (f_X3_kindNow fu s l) s l).2.2).2.1 (f_X3_product fu KS x2 t (f_X3_take fu (f_X3_kindNow fu s l) s l).2.1 (f_X3_take fu (f_X3_kindNow fu s l) s l).2.2).2.2).1 (f_X5_addCode fu (-1 : Int32) t (f_X3_product fu KS x2 t (f_X3_take fu (f_X3_kindNow fu s l) s l).2.1 (f_X3_take fu (f_X3_kindNow fu s l) s l).2.2).2.1 (f_X3_product fu KS x2 t (f_X3_take fu (f_X3_kindNow fu s l) s l).2.1 (f_X3_take fu (f_X3_kindNow fu s l) s l).2.2).2.2).2 else f_X3_sum_10 fu KS n x2 (1 : Int32) (x4 + 1) t (f_X5_addCode fu (-2 : Int32) t (f_X3_product fu KS x2 t (f_X3_take fu (f_X3_kindNow fu s l) s l).2.1 (f_X3_take fu (f_X3_kindNow fu s l) s l).2.2).2.1 (f_X3_product fu KS x2 t (f_X3_take fu (f_X3_kindNow fu s l) s l).2.1 (f_X3_take fu (f_X3_kindNow fu s l) s l).2.2).2.2).1 (f_X5_addCode fu (-2 : Int32) t (f_X3_product fu KS x2 t (f_X3_take fu (f_X3_kindNow fu s l) s l).2.1 (f_X3_take fu (f_X3_kindNow fu s l) s l).2.2).2.1 (f_X3_product fu KS x2 t (f_X3_take fu (f_X3_kindNow fu s l) s l).2.1 (f_X3_take fu (f_X3_kindNow fu s l) s l).2.2).2.2).2 else (x3, s, l)

def p_X3_sum_10 (fu : Nat) (KS : Int32 → Nat → fl_I → fl_L → Int32 × fl_I × fl_L) (KP : Int32 → Nat → fl_I → fl_L → Prop) : Nat → Int32 → Int32 → Int32 → Nat → fl_I → fl_L → Prop
  | 0, _, _, _, _, _, _ => False
  | n + 1, x2, x3, x4, t, s, l =>
    ((((400 : Int32) < x4) → (x3 = 0 ∨ x3 = 1) ∧ True) ∧ (¬ ((400 : Int32) < x4) → (((x3 = 0) → (x3 = 0 ∨ x3 = 1) ∧ True) ∧ (¬ (x3 = 0) → (p_X3_kindNow fu s l) ∧ ((((f_X3_kindNow fu s l) = (43 : Int32)) → (p_X3_kindNow fu s l) ∧ (p_X3_take fu (f_X3_kindNow fu s l) s l) ∧ ((((f_X3_take fu (f_X3_kindNow fu s l) s l).1 = 0) → ((((f_X3_kindNow fu s l) = (43 : Int32)) → (p_X5_addCode fu (-1 : Int32) t (f_X3_take fu (f_X3_kindNow fu s l) s l).2.1 (f_X3_take fu (f_X3_kindNow fu s l) s l).2.2) ∧ p_X3_sum_10 fu KS KP n x2 (0 : Int32) (x4 + 1) t (f_X5_addCode fu (-1 : Int32) t (f_X3_take fu (f_X3_kindNow fu s l) s l).2.1 (f_X3_take fu (f_X3_kindNow fu s l) s l).2.2).1 (f_X5_addCode fu (-1 : Int32) t (f_X3_take fu (f_X3_kindNow fu s l) s l).2.1 (f_X3_take fu (f_X3_kindNow fu s l) s l).2.2).2) ∧ (¬ ((f_X3_kindNow fu s l) = (43 : Int32)) → (p_X5_addCode fu (-2 : Int32) t (f_X3_take fu (f_X3_kindNow fu s l) s l).2.1 (f_X3_take fu (f_X3_kindNow fu s l) s l).2.2) ∧ p_X3_sum_10 fu KS KP n x2 (0 : Int32) (x4 + 1) t (f_X5_addCode fu (-2 : Int32) t (f_X3_take fu (f_X3_kindNow fu s l) s l).2.1 (f_X3_take fu (f_X3_kindNow fu s l) s l).2.2).1 (f_X5_addCode fu (-2 : Int32) t (f_X3_take fu (f_X3_kindNow fu s l) s l).2.1 (f_X3_take fu (f_X3_kindNow fu s l) s l).2.2).2))) ∧ (¬ ((f_X3_take fu (f_X3_kindNow fu s l) s l).1 = 0) → (p_X3_product fu KS KP x2 t (f_X3_take fu (f_X3_kindNow fu s l) s l).2.1 (f_X3_take fu (f_X3_kindNow fu s l) s l).2.2) ∧ ((((f_X3_product fu KS x2 t (f_X3_take fu (f_X3_kindNow fu s l) s l).2.1 (f_X3_take fu (f_X3_kindNow fu s l) s l).2.2).1 = 0) → ((((f_X3_kindNow fu s l) = (43 : Int32)) → (p_X5_addCode fu (-1 : Int32) t (f_X3_product fu KS x2 t (f_X3_take fu (f_X3_kindNow fu s l) s l).2.1 (f_X3_take fu (f_X3_kindNow fu s l) s l).2.2).2.1 (f_X3_product fu KS x2 t (f_X3_take fu (f_X3_kindNow fu s l) s l).2.1 (f_X3_take fu (f_X3_kindNow fu s l) s l).2.2).2.2) ∧ p_X3_sum_10 fu KS KP n x2 (0 : Int32) (x4 + 1) t (f_X5_addCode fu (-1 : Int32) t (f_X3_product fu KS x2 t (f_X3_take fu (f_X3_kindNow fu s l) s l).2.1 (f_X3_take fu (f_X3_kindNow fu s l) s l).2.2).2.1 (f_X3_product fu KS x2 t (f_X3_take fu (f_X3_kindNow fu s l) s l).2.1 (f_X3_take fu (f_X3_kindNow fu s l) s l).2.2).2.2).1 (f_X5_addCode fu (-1 : Int32) t (f_X3_product fu KS x2 t (f_X3_take fu (f_X3_kindNow fu s l) s l).2.1 (f_X3_take fu (f_X3_kindNow fu s l) s l).2.2).2.1 (f_X3_product fu KS x2 t (f_X3_take fu (f_X3_kindNow fu s l) s l).2.1 (f_X3_take fu (f_X3_kindNow fu s l) s l).2.2).2.2).2) ∧ (¬ ((f_X3_kindNow fu s l) = (43 : Int32)) → (p_X5_addCode fu (-2 : Int32) t (f_X3_product fu KS x2 t (f_X3_take fu (f_X3_kindNow fu s l) s l).2.1 (f_X3_take fu (f_X3_kindNow fu s l) s l).2.2).2.1 (f_X3_product fu KS x2 t (f_X3_take fu (f_X3_kindNow fu s l) s l).2.1 (f_X3_take fu (f_X3_kindNow fu s l) s l).2.2).2.2) ∧ p_X3_sum_10 fu KS KP n x2 (0 : Int32) (x4 + 1) t (f_X5_addCode fu (-2 : Int32) t (f_X3_product fu KS x2 t (f_X3_take fu (f_X3_kindNow fu s l) s l).2.1 (f_X3_take fu (f_X3_kindNow fu s l) s l).2.2).2.1 (f_X3_product fu KS x2 t (f_X3_take fu (f_X3_kindNow fu s l) s l).2.1 (f_X3_take fu (f_X3_kindNow fu s l) s l).2.2).2.2).1 (f_X5_addCode fu (-2 : Int32) t (f_X3_product fu KS x2 t (f_X3_take fu (f_X3_kindNow fu s l) s l).2.1 (f_X3_take fu (f_X3_kindNow fu s l) s l).2.2).2.1 (f_X3_product fu KS x2 t (f_X3_take fu (f_X3_kindNow fu s l) s l).2.1 (f_X3_take fu (f_X3_kindNow fu s l) s l).2.2).2.2).2))) ∧ (¬ ((f_X3_product fu KS x2 t (f_X3_take fu (f_X3_kindNow fu s l) s l).2.1 (f_X3_take fu (f_X3_kindNow fu s l) s l).2.2).1 = 0) → ((((f_X3_kindNow fu s l) = (43 : Int32)) → (p_X5_addCode fu (-1 : Int32) t (f_X3_product fu KS x2 t (f_X3_take fu (f_X3_kindNow fu s l) s l).2.1 (f_X3_take fu (f_X3_kindNow fu s l) s l).2.2).2.1 (f_X3_product fu KS x2 t (f_X3_take fu (f_X3_kindNow fu s l) s l).2.1 (f_X3_take fu (f_X3_kindNow fu s l) s l).2.2).2.2) ∧ p_X3_sum_10 fu KS KP n x2 (1 : Int32) (x4 + 1) t (f_X5_addCode fu (-1 : Int32) t (f_X3_product fu KS x2 t (f_X3_take fu (f_X3_kindNow fu s l) s l).2.1 (f_X3_take fu (f_X3_kindNow fu s l) s l).2.2).2.1 (f_X3_product fu KS x2 t (f_X3_take fu (f_X3_kindNow fu s l) s l).2.1 (f_X3_take fu (f_X3_kindNow fu s l) s l).2.2).2.2).1 (f_X5_addCode fu (-1 : Int32) t (f_X3_product fu KS x2 t (f_X3_take fu (f_X3_kindNow fu s l) s l).2.1 (f_X3_take fu (f_X3_kindNow fu s l) s l).2.2).2.1 (f_X3_product fu KS x2 t (f_X3_take fu (f_X3_kindNow fu s l) s l).2.1 (f_X3_take fu (f_X3_kindNow fu s l) s l).2.2).2.2).2) ∧ (¬ ((f_X3_kindNow fu s l) = (43 : Int32)) → (p_X5_addCode fu (-2 : Int32) t (f_X3_product fu KS x2 t (f_X3_take fu (f_X3_kindNow fu s l) s l).2.1 (f_X3_take fu (f_X3_kindNow fu s l) s l).2.2).2.1 (f_X3_product fu KS x2 t (f_X3_take fu (f_X3_kindNow fu s l) s l).2.1 (f_X3_take fu (f_X3_kindNow fu s l) s l).2.2).2.2) ∧ p_X3_sum_10 fu KS KP n x2 (1 : Int32) (x4 + 1) t (f_X5_addCode fu (-2 : Int32) t (f_X3_product fu KS x2 t (f_X3_take fu (f_X3_kindNow fu s l) s l).2.1 (f_X3_take fu (f_X3_kindNow fu s l) s l).2.2).2.1 (f_X3_product fu KS x2 t (f_X3_take fu (f_X3_kindNow fu s l) s l).2.1 (f_X3_take fu (f_X3_kindNow fu s l) s l).2.2).2.2).1 (f_X5_addCode fu (-2 : Int32) t (f_X3_product fu KS x2 t (f_X3_take fu (f_X3_kindNow fu s l) s l).2.1 (f_X3_take fu (f_X3_kindNow fu s l) s l).2.2).2.1 (f_X3_product fu KS x2 t (f_X3_take fu (f_X3_kindNow fu s l) s l).2.1 (f_X3_take fu (f_X3_kindNow fu s l) s l).2.2).2.2).2))))))) ∧ (¬ ((f_X3_kindNow fu s l) = (43 : Int32)) → (p_X3_kindNow fu s l) ∧ ((((f_X3_kindNow fu s l) = (45 : Int32)) → (p_X3_kindNow fu s l) ∧ (p_X3_take fu (f_X3_kindNow fu s l) s l) ∧ ((((f_X3_take fu (f_X3_kindNow fu s l) s l).1 = 0) → ((((f_X3_kindNow fu s l) = (43 : Int32)) → (p_X5_addCode fu (-1 : Int32) t (f_X3_take fu (f_X3_kindNow fu s l) s l).2.1 (f_X3_take fu (f_X3_kindNow fu s l) s l).2.2) ∧ p_X3_sum_10 fu KS KP n x2 (0 : Int32) (x4 + 1) t (f_X5_addCode fu (-1 : Int32) t (f_X3_take fu (f_X3_kindNow fu s l) s l).2.1 (f_X3_take fu (f_X3_kindNow fu s l) s l).2.2).1 (f_X5_addCode fu (-1 : Int32) t (f_X3_take fu (f_X3_kindNow fu s l) s l).2.1 (f_X3_take fu (f_X3_kindNow fu s l) s l).2.2).2) ∧ (¬ ((f_X3_kindNow fu s l) = (43 : Int32)) → (p_X5_addCode fu (-2 : Int32) t (f_X3_take fu (f_X3_kindNow fu s l) s l).2.1 (f_X3_take fu (f_X3_kindNow fu s l) s l).2.2) ∧ p_X3_sum_10 fu KS KP n x2 (0 : Int32) (x4 + 1) t (f_X5_addCode fu (-2 : Int32) t (f_X3_take fu (f_X3_kindNow fu s l) s l).2.1 (f_X3_take fu (f_X3_kindNow fu s l) s l).2.2).1 (f_X5_addCode fu (-2 : Int32) t (f_X3_take fu (f_X3_kindNow fu s l) s l).2.1 (f_X3_take fu (f_X3_kindNow fu s l) s l).2.2).2))) ∧ (¬ ((f_X3_take fu (f_X3_kindNow fu s l) s l).1 = 0) → (p_X3_product fu KS KP x2 t (f_X3_take fu (f_X3_kindNow fu s l) s l).2.1 (f_X3_take fu (f_X3_kindNow fu s l) s l).2.2) ∧ ((((f_X3_product fu KS x2 t (f_X3_take fu (f_X3_kindNow fu s l) s l).2.1 (f_X3_take fu (f_X3_kindNow fu s l) s l).2.2).1 = 0) → ((((f_X3_kindNow fu s l) = (43 : Int32)) → (p_X5_addCode fu (-1 : Int32) t (f_X3_product fu KS x2 t (f_X3_take fu (f_X3_kindNow fu s l) s l).2.1 (f_X3_take fu (f_X3_kindNow fu s l) s l).2.2).2.1 (f_X3_product fu KS x2 t (f_X3_take fu (f_X3_kindNow fu s l) s l).2.1 (f_X3_take fu (f_X3_kindNow fu s l) s l).2.2).2.2) ∧ p_X3_sum_10 fu KS KP n x2 (0 : Int32) (x4 + 1) t (f_X5_addCode fu (-1 : Int32) t (f_X3_product fu KS x2 t (f_X3_take fu (f_X3_kindNow fu s l) s l).2.1 (f_X3_take fu (f_X3_kindNow fu s l) s l).2.2).2.1 (f_X3_product fu KS x2 t (f_X3_take fu (f_X3_kindNow fu s l) s l).2.1 (f_X3_take fu (f_X3_kindNow fu s l) s l).2.2).2.2).1 (f_X5_addCode fu (-1 : Int32) t (f_X3_product fu KS x2 t (f_X3_take fu (f_X3_kindNow fu s l) s l).2.1 (f_X3_take fu (f_X3_kindNow fu s l) s l).2.2).2.1 (f_X3_product fu KS x2 t (f_X3_take fu (f_X3_kindNow fu s l) s l).2.1 (f_X3_take fu (f_X3_kindNow fu s l) s l).2.2).2.2).2) ∧ (¬ ((f_X3_kindNow fu s l) = (43 : Int32)) → (p_X5_addCode fu (-2 : Int32) t (f_X3_product fu KS x2 t (f_X3_take fu (f_X3_kindNow fu s l) s l).2.1 (f_X3_take fu (f_X3_kindNow fu s l) s l).2.2).2.1 (f_X3_product fu KS x2 t (f_X3_take fu (f_X3_kindNow fu s l) s l).2.1 (f_X3_take fu (f_X3_kindNow fu s l) s l).2.2).2.2) ∧ p_X3_sum_10 fu KS KP n x2 (0 : Int32) (x4 + 1) t (f_X5_addCode fu (-2 : Int32) t (f_X3_product fu KS x2 t (f_X3_take fu (f_X3_kindNow fu s l) s l).2.1 (f_X3_take fu (f_X3_kindNow fu s l) s l).2.2).2.1 (f_X3_product fu KS x2 t (f_X3_take fu (f_X3_kindNow fu s l) s l).2.1 (f_X3_take fu (f_X3_kindNow fu s l) s l).2.2).2.2).1 (f_X5_addCode fu (-2 : Int32) t (f_X3_product fu KS x2 t (f_X3_take fu (f_X3_kindNow fu s l) s l).2.1 (f_X3_take fu (f_X3_kindNow fu s l) s l).2.2).2.1 (f_X3_product fu KS x2 t (f_X3_take fu (f_X3_kindNow fu s l) s l).2.1 (f_X3_take fu (f_X3_kindNow fu s l) s l).2.2).2.2).2))) ∧ (¬ ((f_X3_product fu KS x2 t (f_X3_take fu (f_X3_kindNow fu s l) s l).2.1 (f_X3_take fu (f_X3_kindNow fu s l) s l).2.2).1 = 0) → ((((f_X3_kindNow fu s l) = (43 : Int32)) → (p_X5_addCode fu (-1 : Int32) t (f_X3_product fu KS x2 t (f_X3_take fu (f_X3_kindNow fu s l) s l).2.1 (f_X3_take fu (f_X3_kindNow fu s l) s l).2.2).2.1 (f_X3_product fu KS x2 t (f_X3_take fu (f_X3_kindNow fu s l) s l).2.1 (f_X3_take fu (f_X3_kindNow fu s l) s l).2.2).2.2) ∧ p_X3_sum_10 fu KS KP n x2 (1 : Int32) (x4 + 1) t (f_X5_addCode fu (-1 : Int32) t (f_X3_product fu KS x2 t (f_X3_take fu (f_X3_kindNow fu s l) s l).2.1 (f_X3_take fu (f_X3_kindNow fu s l) s l).2.2).2.1 (f_X3_product fu KS x2 t (f_X3_take fu (f_X3_kindNow fu s l) s l).2.1 (f_X3_take fu (f_X3_kindNow fu s l) s l).2.2).2.2).1 (f_X5_addCode fu (-1 : Int32) t (f_X3_product fu KS x2 t (f_X3_take fu (f_X3_kindNow fu s l) s l).2.1 (f_X3_take fu (f_X3_kindNow fu s l) s l).2.2).2.1 (f_X3_product fu KS x2 t (f_X3_take fu (f_X3_kindNow fu s l) s l).2.1 (f_X3_take fu (f_X3_kindNow fu s l) s l).2.2).2.2).2) ∧ (¬ ((f_X3_kindNow fu s l) = (43 : Int32)) → (p_X5_addCode fu (-2 : Int32) t (f_X3_product fu KS x2 t (f_X3_take fu (f_X3_kindNow fu s l) s l).2.1 (f_X3_take fu (f_X3_kindNow fu s l) s l).2.2).2.1 (f_X3_product fu KS x2 t (f_X3_take fu (f_X3_kindNow fu s l) s l).2.1 (f_X3_take fu (f_X3_kindNow fu s l) s l).2.2).2.2) ∧ p_X3_sum_10 fu KS KP n x2 (1 : Int32) (x4 + 1) t (f_X5_addCode fu (-2 : Int32) t (f_X3_product fu KS x2 t (f_X3_take fu (f_X3_kindNow fu s l) s l).2.1 (f_X3_take fu (f_X3_kindNow fu s l) s l).2.2).2.1 (f_X3_product fu KS x2 t (f_X3_take fu (f_X3_kindNow fu s l) s l).2.1 (f_X3_take fu (f_X3_kindNow fu s l) s l).2.2).2.2).1 (f_X5_addCode fu (-2 : Int32) t (f_X3_product fu KS x2 t (f_X3_take fu (f_X3_kindNow fu s l) s l).2.1 (f_X3_take fu (f_X3_kindNow fu s l) s l).2.2).2.1 (f_X3_product fu KS x2 t (f_X3_take fu (f_X3_kindNow fu s l) s l).2.1 (f_X3_take fu (f_X3_kindNow fu s l) s l).2.2).2.2).2))))))) ∧ (¬ ((f_X3_kindNow fu s l) = (45 : Int32)) → (x3 = 0 ∨ x3 = 1) ∧ True))))))))

set_option maxRecDepth 100000 in
set_option maxHeartbeats 1000000 in
theorem lp_X3_sum_10 {G : ab_G} {fu : Nat} {d : Nat} {D : fl_D} (KS : Int32 → Nat → fl_I → fl_L → Int32 × fl_I × fl_L) (KP : Int32 → Nat → fl_I → fl_L → Prop) (hKS : ∀ {t : Nat} (_ : isT t) {v : Int32} {s : fl_I} {l : fl_L}, KP v t s l → ab_C G d 0 0 M_X3_sum 0 (ab_ent [.ref 3, .ref t, .int v]) [] (hp D s l) (rt (some (.int (KS v t s l).1)) (hp D (KS v t s l).2.1 (KS v t s l).2.2))) {t : Nat} (htt : isT t) : ∀ (n : Nat) (x2 : Int32) (x3 : Int32) (x4 : Int32) (s : fl_I) (l : fl_L), p_X3_sum_10 fu KS KP n x2 x3 x4 t s l → ab_C G (d + 4) 0 0 M_X3_sum 10 [some (.ref 3), some (.ref t), some (.int x2), some (.int x3), some (.int x4), none] [] (hp D s l) (rt (some (.int (f_X3_sum_10 fu KS n x2 x3 x4 t s l).1)) (hp D (f_X3_sum_10 fu KS n x2 x3 x4 t s l).2.1 (f_X3_sum_10 fu KS n x2 x3 x4 t s l).2.2)) := by
  intro n
  induction n with
  | zero => intro x2 x3 x4 s l hk; exact hk.elim
  | succ n ih =>
    intro x2 x3 x4 s l hk
    generalize he : f_X3_sum_10 fu KS (n + 1) x2 x3 x4 t s l = res
    unfold f_X3_sum_10 at he
    unfold p_X3_sum_10 at hk
    refine r_iload rfl rfl ?_
    refine r_sipush_ (a := 400) rfl (by decide) ?_
    refine r_icmp_gt rfl (fun c_15 => ?_) (fun c_15 => ?_)
    · rw [if_pos c_15] at he
      replace hk := hk.1 c_15
      refine r_iload_n rfl rfl ?_
      obtain ⟨hb1, hk⟩ := hk
      refine r_iret rfl rfl (nar_b hb1) ?_
      first | with_reducible exact fin_i he | exact fin_i he
    · rw [if_neg c_15] at he
      replace hk := hk.2 c_15
      refine r_iload_n rfl rfl ?_
      refine r_if_eq rfl (fun c_19 => ?_) (fun c_19 => ?_)
      · rw [if_pos c_19] at he
        replace hk := hk.1 c_19
        refine r_iload_n rfl rfl ?_
        obtain ⟨hb2, hk⟩ := hk
        refine r_iret rfl rfl (nar_b hb2) ?_
        first | with_reducible exact fin_i he | exact fin_i he
      · rw [if_neg c_19] at he
        replace hk := hk.2 c_19
        refine r_aload_n rfl rfl ?_
        obtain ⟨hb3, hk⟩ := hk
        refine q_callV0 [] _ rfl kY_X3_kindNow kT_X3_kindNow rfl rfl (Nat.le_of_ble_eq_true rfl) (Nat.le_of_ble_eq_true rfl) (cc_3 _) (s_X3_kindNow hb3) (fun r h q => ?_)
        obtain ⟨rfl, rfl⟩ := q
        simp only [Option.toList, List.cons_append, List.nil_append]
        refine r_bipush_ (a := 43) rfl (by decide) ?_
        refine r_icmp_eq rfl (fun c_28 => ?_) (fun c_28 => ?_)
        · rw [if_pos c_28] at he
          replace hk := hk.1 c_28
          refine r_aload_n rfl rfl ?_
          obtain ⟨hb4, hk⟩ := hk
          refine q_callV0 [] _ rfl kY_X3_kindNow kT_X3_kindNow rfl rfl (Nat.le_of_ble_eq_true rfl) (Nat.le_of_ble_eq_true rfl) (cc_3 _) (s_X3_kindNow hb4) (fun r h q => ?_)
          obtain ⟨rfl, rfl⟩ := q
          simp only [Option.toList, List.cons_append, List.nil_append]
          refine r_istore rfl (Nat.le_of_ble_eq_true rfl) rfl ?_
          refine r_aload_n rfl rfl ?_
          refine r_iload rfl rfl ?_
          obtain ⟨hb5, hk⟩ := hk
          refine q_callV0 [_] _ rfl kY_X3_take kT_X3_take rfl rfl (Nat.le_of_ble_eq_true rfl) (Nat.le_of_ble_eq_true rfl) (cc_3 _) (s_X3_take hb5) (fun r h q => ?_)
          obtain ⟨rfl, rfl⟩ := q
          simp only [Option.toList, List.cons_append, List.nil_append]
          refine r_if_eq rfl (fun c_52 => ?_) (fun c_52 => ?_)
          · rw [if_pos c_52] at he
            replace hk := hk.1 c_52
            refine r_iconst_ (a := 0) rfl (by decide) ?_
            refine r_istore_n rfl (Nat.le_of_ble_eq_true rfl) rfl ?_
            refine r_aload_n rfl rfl ?_
            refine r_iload rfl rfl ?_
            refine r_bipush_ (a := 43) rfl (by decide) ?_
            refine r_icmp_ne rfl (fun c_75 => ?_) (fun c_75 => ?_)
            · rw [if_neg c_75] at he
              replace hk := hk.2 c_75
              refine r_bipush_ (a := -2) rfl (by decide) ?_
              obtain ⟨hb6, hk⟩ := hk
              refine q_callV0 [_] _ rfl kY_X5_addCode kT_X5_addCode rfl rfl (Nat.le_of_ble_eq_true rfl) (Nat.le_of_ble_eq_true rfl) (cT_0 htt) (s_X5_addCode htt hb6) (fun r h q => ?_)
              obtain ⟨rfl, rfl⟩ := q
              simp only [Option.toList, List.cons_append, List.nil_append]
              refine r_iinc (b := x4 + 1) rfl rfl rfl (Nat.le_of_ble_eq_true rfl) rfl ?_
              refine r_goto rfl ?_
              subst he
              exact r_weak (L1 := [some (.ref 3), some (.ref t), some (.int x2), some (.int (0 : Int32)), some (.int (x4 + 1)), none]) ⟨rfl, rfl, rfl, rfl, rfl, trivial⟩ (ih _ _ _ _ _ hk)
            · rw [if_pos c_75] at he
              replace hk := hk.1 c_75
              refine r_iconst_ (a := -1) rfl (by decide) ?_
              refine r_goto rfl ?_
              obtain ⟨hb7, hk⟩ := hk
              refine q_callV0 [_] _ rfl kY_X5_addCode kT_X5_addCode rfl rfl (Nat.le_of_ble_eq_true rfl) (Nat.le_of_ble_eq_true rfl) (cT_0 htt) (s_X5_addCode htt hb7) (fun r h q => ?_)
              obtain ⟨rfl, rfl⟩ := q
              simp only [Option.toList, List.cons_append, List.nil_append]
              refine r_iinc (b := x4 + 1) rfl rfl rfl (Nat.le_of_ble_eq_true rfl) rfl ?_
              refine r_goto rfl ?_
              subst he
              exact r_weak (L1 := [some (.ref 3), some (.ref t), some (.int x2), some (.int (0 : Int32)), some (.int (x4 + 1)), none]) ⟨rfl, rfl, rfl, rfl, rfl, trivial⟩ (ih _ _ _ _ _ hk)
          · rw [if_neg c_52] at he
            replace hk := hk.2 c_52
            refine r_aload_n rfl rfl ?_
            refine r_aload_n rfl rfl ?_
            refine r_iload_n rfl rfl ?_
            obtain ⟨hb8, hk⟩ := hk
            refine q_callV0 [_, _] _ rfl kY_X3_product kT_X3_product rfl rfl (Nat.le_of_ble_eq_true rfl) (Nat.le_of_ble_eq_true rfl) (cc_3 _) (s_X3_product KS KP hKS htt hb8) (fun r h q => ?_)
            obtain ⟨rfl, rfl⟩ := q
            simp only [Option.toList, List.cons_append, List.nil_append]
            refine r_if_eq rfl (fun c_61 => ?_) (fun c_61 => ?_)
            · rw [if_pos c_61] at he
              replace hk := hk.1 c_61
              refine r_iconst_ (a := 0) rfl (by decide) ?_
              refine r_istore_n rfl (Nat.le_of_ble_eq_true rfl) rfl ?_
              refine r_aload_n rfl rfl ?_
              refine r_iload rfl rfl ?_
              refine r_bipush_ (a := 43) rfl (by decide) ?_
              refine r_icmp_ne rfl (fun c_75 => ?_) (fun c_75 => ?_)
              · rw [if_neg c_75] at he
                replace hk := hk.2 c_75
                refine r_bipush_ (a := -2) rfl (by decide) ?_
                obtain ⟨hb9, hk⟩ := hk
                refine q_callV0 [_] _ rfl kY_X5_addCode kT_X5_addCode rfl rfl (Nat.le_of_ble_eq_true rfl) (Nat.le_of_ble_eq_true rfl) (cT_0 htt) (s_X5_addCode htt hb9) (fun r h q => ?_)
                obtain ⟨rfl, rfl⟩ := q
                simp only [Option.toList, List.cons_append, List.nil_append]
                refine r_iinc (b := x4 + 1) rfl rfl rfl (Nat.le_of_ble_eq_true rfl) rfl ?_
                refine r_goto rfl ?_
                subst he
                exact r_weak (L1 := [some (.ref 3), some (.ref t), some (.int x2), some (.int (0 : Int32)), some (.int (x4 + 1)), none]) ⟨rfl, rfl, rfl, rfl, rfl, trivial⟩ (ih _ _ _ _ _ hk)
              · rw [if_pos c_75] at he
                replace hk := hk.1 c_75
                refine r_iconst_ (a := -1) rfl (by decide) ?_
                refine r_goto rfl ?_
                obtain ⟨hb10, hk⟩ := hk
                refine q_callV0 [_] _ rfl kY_X5_addCode kT_X5_addCode rfl rfl (Nat.le_of_ble_eq_true rfl) (Nat.le_of_ble_eq_true rfl) (cT_0 htt) (s_X5_addCode htt hb10) (fun r h q => ?_)
                obtain ⟨rfl, rfl⟩ := q
                simp only [Option.toList, List.cons_append, List.nil_append]
                refine r_iinc (b := x4 + 1) rfl rfl rfl (Nat.le_of_ble_eq_true rfl) rfl ?_
                refine r_goto rfl ?_
                subst he
                exact r_weak (L1 := [some (.ref 3), some (.ref t), some (.int x2), some (.int (0 : Int32)), some (.int (x4 + 1)), none]) ⟨rfl, rfl, rfl, rfl, rfl, trivial⟩ (ih _ _ _ _ _ hk)
            · rw [if_neg c_61] at he
              replace hk := hk.2 c_61
              refine r_iconst_ (a := 1) rfl (by decide) ?_
              refine r_goto rfl ?_
              refine r_istore_n rfl (Nat.le_of_ble_eq_true rfl) rfl ?_
              refine r_aload_n rfl rfl ?_
              refine r_iload rfl rfl ?_
              refine r_bipush_ (a := 43) rfl (by decide) ?_
              refine r_icmp_ne rfl (fun c_75 => ?_) (fun c_75 => ?_)
              · rw [if_neg c_75] at he
                replace hk := hk.2 c_75
                refine r_bipush_ (a := -2) rfl (by decide) ?_
                obtain ⟨hb11, hk⟩ := hk
                refine q_callV0 [_] _ rfl kY_X5_addCode kT_X5_addCode rfl rfl (Nat.le_of_ble_eq_true rfl) (Nat.le_of_ble_eq_true rfl) (cT_0 htt) (s_X5_addCode htt hb11) (fun r h q => ?_)
                obtain ⟨rfl, rfl⟩ := q
                simp only [Option.toList, List.cons_append, List.nil_append]
                refine r_iinc (b := x4 + 1) rfl rfl rfl (Nat.le_of_ble_eq_true rfl) rfl ?_
                refine r_goto rfl ?_
                subst he
                exact r_weak (L1 := [some (.ref 3), some (.ref t), some (.int x2), some (.int (1 : Int32)), some (.int (x4 + 1)), none]) ⟨rfl, rfl, rfl, rfl, rfl, trivial⟩ (ih _ _ _ _ _ hk)
              · rw [if_pos c_75] at he
                replace hk := hk.1 c_75
                refine r_iconst_ (a := -1) rfl (by decide) ?_
                refine r_goto rfl ?_
                obtain ⟨hb12, hk⟩ := hk
                refine q_callV0 [_] _ rfl kY_X5_addCode kT_X5_addCode rfl rfl (Nat.le_of_ble_eq_true rfl) (Nat.le_of_ble_eq_true rfl) (cT_0 htt) (s_X5_addCode htt hb12) (fun r h q => ?_)
                obtain ⟨rfl, rfl⟩ := q
                simp only [Option.toList, List.cons_append, List.nil_append]
                refine r_iinc (b := x4 + 1) rfl rfl rfl (Nat.le_of_ble_eq_true rfl) rfl ?_
                refine r_goto rfl ?_
                subst he
                exact r_weak (L1 := [some (.ref 3), some (.ref t), some (.int x2), some (.int (1 : Int32)), some (.int (x4 + 1)), none]) ⟨rfl, rfl, rfl, rfl, rfl, trivial⟩ (ih _ _ _ _ _ hk)
        · rw [if_neg c_28] at he
          replace hk := hk.2 c_28
          refine r_aload_n rfl rfl ?_
          obtain ⟨hb13, hk⟩ := hk
          refine q_callV0 [] _ rfl kY_X3_kindNow kT_X3_kindNow rfl rfl (Nat.le_of_ble_eq_true rfl) (Nat.le_of_ble_eq_true rfl) (cc_3 _) (s_X3_kindNow hb13) (fun r h q => ?_)
          obtain ⟨rfl, rfl⟩ := q
          simp only [Option.toList, List.cons_append, List.nil_append]
          refine r_bipush_ (a := 45) rfl (by decide) ?_
          refine r_icmp_ne rfl (fun c_37 => ?_) (fun c_37 => ?_)
          · rw [if_neg c_37] at he
            replace hk := hk.2 c_37
            refine r_iload_n rfl rfl ?_
            obtain ⟨hb14, hk⟩ := hk
            refine r_iret rfl rfl (nar_b hb14) ?_
            first | with_reducible exact fin_i he | exact fin_i he
          · rw [if_pos c_37] at he
            replace hk := hk.1 c_37
            refine r_aload_n rfl rfl ?_
            obtain ⟨hb15, hk⟩ := hk
            refine q_callV0 [] _ rfl kY_X3_kindNow kT_X3_kindNow rfl rfl (Nat.le_of_ble_eq_true rfl) (Nat.le_of_ble_eq_true rfl) (cc_3 _) (s_X3_kindNow hb15) (fun r h q => ?_)
            obtain ⟨rfl, rfl⟩ := q
            simp only [Option.toList, List.cons_append, List.nil_append]
            refine r_istore rfl (Nat.le_of_ble_eq_true rfl) rfl ?_
            refine r_aload_n rfl rfl ?_
            refine r_iload rfl rfl ?_
            obtain ⟨hb16, hk⟩ := hk
            refine q_callV0 [_] _ rfl kY_X3_take kT_X3_take rfl rfl (Nat.le_of_ble_eq_true rfl) (Nat.le_of_ble_eq_true rfl) (cc_3 _) (s_X3_take hb16) (fun r h q => ?_)
            obtain ⟨rfl, rfl⟩ := q
            simp only [Option.toList, List.cons_append, List.nil_append]
            refine r_if_eq rfl (fun c_52 => ?_) (fun c_52 => ?_)
            · rw [if_pos c_52] at he
              replace hk := hk.1 c_52
              refine r_iconst_ (a := 0) rfl (by decide) ?_
              refine r_istore_n rfl (Nat.le_of_ble_eq_true rfl) rfl ?_
              refine r_aload_n rfl rfl ?_
              refine r_iload rfl rfl ?_
              refine r_bipush_ (a := 43) rfl (by decide) ?_
              refine r_icmp_ne rfl (fun c_75 => ?_) (fun c_75 => ?_)
              · rw [if_neg c_75] at he
                replace hk := hk.2 c_75
                refine r_bipush_ (a := -2) rfl (by decide) ?_
                obtain ⟨hb17, hk⟩ := hk
                refine q_callV0 [_] _ rfl kY_X5_addCode kT_X5_addCode rfl rfl (Nat.le_of_ble_eq_true rfl) (Nat.le_of_ble_eq_true rfl) (cT_0 htt) (s_X5_addCode htt hb17) (fun r h q => ?_)
                obtain ⟨rfl, rfl⟩ := q
                simp only [Option.toList, List.cons_append, List.nil_append]
                refine r_iinc (b := x4 + 1) rfl rfl rfl (Nat.le_of_ble_eq_true rfl) rfl ?_
                refine r_goto rfl ?_
                subst he
                exact r_weak (L1 := [some (.ref 3), some (.ref t), some (.int x2), some (.int (0 : Int32)), some (.int (x4 + 1)), none]) ⟨rfl, rfl, rfl, rfl, rfl, trivial⟩ (ih _ _ _ _ _ hk)
              · rw [if_pos c_75] at he
                replace hk := hk.1 c_75
                refine r_iconst_ (a := -1) rfl (by decide) ?_
                refine r_goto rfl ?_
                obtain ⟨hb18, hk⟩ := hk
                refine q_callV0 [_] _ rfl kY_X5_addCode kT_X5_addCode rfl rfl (Nat.le_of_ble_eq_true rfl) (Nat.le_of_ble_eq_true rfl) (cT_0 htt) (s_X5_addCode htt hb18) (fun r h q => ?_)
                obtain ⟨rfl, rfl⟩ := q
                simp only [Option.toList, List.cons_append, List.nil_append]
                refine r_iinc (b := x4 + 1) rfl rfl rfl (Nat.le_of_ble_eq_true rfl) rfl ?_
                refine r_goto rfl ?_
                subst he
                exact r_weak (L1 := [some (.ref 3), some (.ref t), some (.int x2), some (.int (0 : Int32)), some (.int (x4 + 1)), none]) ⟨rfl, rfl, rfl, rfl, rfl, trivial⟩ (ih _ _ _ _ _ hk)
            · rw [if_neg c_52] at he
              replace hk := hk.2 c_52
              refine r_aload_n rfl rfl ?_
              refine r_aload_n rfl rfl ?_
              refine r_iload_n rfl rfl ?_
              obtain ⟨hb19, hk⟩ := hk
              refine q_callV0 [_, _] _ rfl kY_X3_product kT_X3_product rfl rfl (Nat.le_of_ble_eq_true rfl) (Nat.le_of_ble_eq_true rfl) (cc_3 _) (s_X3_product KS KP hKS htt hb19) (fun r h q => ?_)
              obtain ⟨rfl, rfl⟩ := q
              simp only [Option.toList, List.cons_append, List.nil_append]
              refine r_if_eq rfl (fun c_61 => ?_) (fun c_61 => ?_)
              · rw [if_pos c_61] at he
                replace hk := hk.1 c_61
                refine r_iconst_ (a := 0) rfl (by decide) ?_
                refine r_istore_n rfl (Nat.le_of_ble_eq_true rfl) rfl ?_
                refine r_aload_n rfl rfl ?_
                refine r_iload rfl rfl ?_
                refine r_bipush_ (a := 43) rfl (by decide) ?_
                refine r_icmp_ne rfl (fun c_75 => ?_) (fun c_75 => ?_)
                · rw [if_neg c_75] at he
                  replace hk := hk.2 c_75
                  refine r_bipush_ (a := -2) rfl (by decide) ?_
                  obtain ⟨hb20, hk⟩ := hk
                  refine q_callV0 [_] _ rfl kY_X5_addCode kT_X5_addCode rfl rfl (Nat.le_of_ble_eq_true rfl) (Nat.le_of_ble_eq_true rfl) (cT_0 htt) (s_X5_addCode htt hb20) (fun r h q => ?_)
                  obtain ⟨rfl, rfl⟩ := q
                  simp only [Option.toList, List.cons_append, List.nil_append]
                  refine r_iinc (b := x4 + 1) rfl rfl rfl (Nat.le_of_ble_eq_true rfl) rfl ?_
                  refine r_goto rfl ?_
                  subst he
                  exact r_weak (L1 := [some (.ref 3), some (.ref t), some (.int x2), some (.int (0 : Int32)), some (.int (x4 + 1)), none]) ⟨rfl, rfl, rfl, rfl, rfl, trivial⟩ (ih _ _ _ _ _ hk)
                · rw [if_pos c_75] at he
                  replace hk := hk.1 c_75
                  refine r_iconst_ (a := -1) rfl (by decide) ?_
                  refine r_goto rfl ?_
                  obtain ⟨hb21, hk⟩ := hk
                  refine q_callV0 [_] _ rfl kY_X5_addCode kT_X5_addCode rfl rfl (Nat.le_of_ble_eq_true rfl) (Nat.le_of_ble_eq_true rfl) (cT_0 htt) (s_X5_addCode htt hb21) (fun r h q => ?_)
                  obtain ⟨rfl, rfl⟩ := q
                  simp only [Option.toList, List.cons_append, List.nil_append]
                  refine r_iinc (b := x4 + 1) rfl rfl rfl (Nat.le_of_ble_eq_true rfl) rfl ?_
                  refine r_goto rfl ?_
                  subst he
                  exact r_weak (L1 := [some (.ref 3), some (.ref t), some (.int x2), some (.int (0 : Int32)), some (.int (x4 + 1)), none]) ⟨rfl, rfl, rfl, rfl, rfl, trivial⟩ (ih _ _ _ _ _ hk)
              · rw [if_neg c_61] at he
                replace hk := hk.2 c_61
                refine r_iconst_ (a := 1) rfl (by decide) ?_
                refine r_goto rfl ?_
                refine r_istore_n rfl (Nat.le_of_ble_eq_true rfl) rfl ?_
                refine r_aload_n rfl rfl ?_
                refine r_iload rfl rfl ?_
                refine r_bipush_ (a := 43) rfl (by decide) ?_
                refine r_icmp_ne rfl (fun c_75 => ?_) (fun c_75 => ?_)
                · rw [if_neg c_75] at he
                  replace hk := hk.2 c_75
                  refine r_bipush_ (a := -2) rfl (by decide) ?_
                  obtain ⟨hb22, hk⟩ := hk
                  refine q_callV0 [_] _ rfl kY_X5_addCode kT_X5_addCode rfl rfl (Nat.le_of_ble_eq_true rfl) (Nat.le_of_ble_eq_true rfl) (cT_0 htt) (s_X5_addCode htt hb22) (fun r h q => ?_)
                  obtain ⟨rfl, rfl⟩ := q
                  simp only [Option.toList, List.cons_append, List.nil_append]
                  refine r_iinc (b := x4 + 1) rfl rfl rfl (Nat.le_of_ble_eq_true rfl) rfl ?_
                  refine r_goto rfl ?_
                  subst he
                  exact r_weak (L1 := [some (.ref 3), some (.ref t), some (.int x2), some (.int (1 : Int32)), some (.int (x4 + 1)), none]) ⟨rfl, rfl, rfl, rfl, rfl, trivial⟩ (ih _ _ _ _ _ hk)
                · rw [if_pos c_75] at he
                  replace hk := hk.1 c_75
                  refine r_iconst_ (a := -1) rfl (by decide) ?_
                  refine r_goto rfl ?_
                  obtain ⟨hb23, hk⟩ := hk
                  refine q_callV0 [_] _ rfl kY_X5_addCode kT_X5_addCode rfl rfl (Nat.le_of_ble_eq_true rfl) (Nat.le_of_ble_eq_true rfl) (cT_0 htt) (s_X5_addCode htt hb23) (fun r h q => ?_)
                  obtain ⟨rfl, rfl⟩ := q
                  simp only [Option.toList, List.cons_append, List.nil_append]
                  refine r_iinc (b := x4 + 1) rfl rfl rfl (Nat.le_of_ble_eq_true rfl) rfl ?_
                  refine r_goto rfl ?_
                  subst he
                  exact r_weak (L1 := [some (.ref 3), some (.ref t), some (.int x2), some (.int (1 : Int32)), some (.int (x4 + 1)), none]) ⟨rfl, rfl, rfl, rfl, rfl, trivial⟩ (ih _ _ _ _ _ hk)

def f_X3_sum (fu : Nat) (KS : Int32 → Nat → fl_I → fl_L → Int32 × fl_I × fl_L) (v1 : Int32) (t : Nat) (s : fl_I) (l : fl_L) : Int32 × fl_I × fl_L :=
  f_X3_sum_10 fu KS fu v1 (f_X3_product fu KS v1 t s l).1 (0 : Int32) t (f_X3_product fu KS v1 t s l).2.1 (f_X3_product fu KS v1 t s l).2.2

def p_X3_sum (fu : Nat) (KS : Int32 → Nat → fl_I → fl_L → Int32 × fl_I × fl_L) (KP : Int32 → Nat → fl_I → fl_L → Prop) (v1 : Int32) (t : Nat) (s : fl_I) (l : fl_L) : Prop :=
  (p_X3_product fu KS KP v1 t s l) ∧ p_X3_sum_10 fu KS KP fu v1 (f_X3_product fu KS v1 t s l).1 (0 : Int32) t (f_X3_product fu KS v1 t s l).2.1 (f_X3_product fu KS v1 t s l).2.2

set_option maxRecDepth 100000 in
set_option maxHeartbeats 1000000 in
theorem s_X3_sum {G : ab_G} {fu : Nat} {d : Nat} {D : fl_D} (KS : Int32 → Nat → fl_I → fl_L → Int32 × fl_I × fl_L) (KP : Int32 → Nat → fl_I → fl_L → Prop) (hKS : ∀ {t : Nat} (_ : isT t) {v : Int32} {s : fl_I} {l : fl_L}, KP v t s l → ab_C G d 0 0 M_X3_sum 0 (ab_ent [.ref 3, .ref t, .int v]) [] (hp D s l) (rt (some (.int (KS v t s l).1)) (hp D (KS v t s l).2.1 (KS v t s l).2.2))) {s : fl_I} {l : fl_L} {t : Nat} (htt : isT t) {v1 : Int32} (hk : p_X3_sum fu KS KP v1 t s l) : ab_C G (d + 4) 0 0 M_X3_sum 0 (ab_ent [.ref 3, .ref t, .int v1]) [] (hp D s l) (rt (some (.int (f_X3_sum fu KS v1 t s l).1)) (hp D (f_X3_sum fu KS v1 t s l).2.1 (f_X3_sum fu KS v1 t s l).2.2)) := by
  generalize he : (f_X3_sum fu KS v1 t s l) = res
  unfold f_X3_sum at he
  unfold p_X3_sum at hk
  refine r_weak (L1 := [some (.ref 3), some (.ref t), some (.int v1), none, none, none]) ⟨rfl, rfl, rfl, trivial⟩ ?_
  refine r_aload_n rfl rfl ?_
  refine r_aload_n rfl rfl ?_
  refine r_iload_n rfl rfl ?_
  obtain ⟨hb0, hk⟩ := hk
  refine q_callV0 [_, _] _ rfl kY_X3_product kT_X3_product rfl rfl (Nat.le_of_ble_eq_true rfl) (Nat.le_of_ble_eq_true rfl) (cc_3 _) (s_X3_product KS KP hKS htt hb0) (fun r h q => ?_)
  obtain ⟨rfl, rfl⟩ := q
  simp only [Option.toList, List.cons_append, List.nil_append]
  refine r_istore_n rfl (Nat.le_of_ble_eq_true rfl) rfl ?_
  refine r_iconst_ (a := 0) rfl (by decide) ?_
  refine r_istore rfl (Nat.le_of_ble_eq_true rfl) rfl ?_
  subst he
  exact r_weak (L1 := [some (.ref 3), some (.ref t), some (.int v1), some (.int (f_X3_product fu KS v1 t s l).1), some (.int (0 : Int32)), none]) ⟨rfl, rfl, rfl, rfl, rfl, trivial⟩ (lp_X3_sum_10 KS KP hKS htt fu _ _ _ _ _ hk)

/-- a sum with so many ( within one another at most -/
def f_sumD (fu : Nat) : Nat → Int32 → Nat → fl_I → fl_L → Int32 × fl_I × fl_L
  | 0, _, _, s, l => (0, s, l)
  | m + 1, v, t, s, l => f_X3_sum fu (f_sumD fu m) v t s l
def p_sumD (fu : Nat) : Nat → Int32 → Nat → fl_I → fl_L → Prop
  | 0, _, _, _, _ => False
  | m + 1, v, t, s, l => p_X3_sum fu (f_sumD fu m) (p_sumD fu m) v t s l
theorem s_sumD {G : ab_G} {fu : Nat} {d : Nat} {D : fl_D} : ∀ (m : Nat) {t : Nat} (_ : isT t) {v : Int32} {s : fl_I} {l : fl_L}, p_sumD fu m v t s l → ab_C G (d + 4 * m) 0 0 M_X3_sum 0 (ab_ent [.ref 3, .ref t, .int v]) [] (hp D s l) (rt (some (.int (f_sumD fu m v t s l).1)) (hp D (f_sumD fu m v t s l).2.1 (f_sumD fu m v t s l).2.2)) := by
  intro m
  induction m with
  | zero => intro t ht v s l hk; exact hk.elim
  | succ m ih =>
    intro t ht v s l hk
    exact s_X3_sum (d := d + 4 * m) (f_sumD fu m) (p_sumD fu m) (fun {t} ht {v} {s} {l} h => ih ht h) ht hk
theorem s_sum8 {G : ab_G} {fu : Nat} {d : Nat} {D : fl_D} {s : fl_I} {l : fl_L} {t : Nat} (ht : isT t) {v : Int32} (hk : p_sumD fu 8 v t s l) : ab_C G (d + 32) 0 0 M_X3_sum 0 (ab_ent [.ref 3, .ref t, .int v]) [] (hp D s l) (rt (some (.int (f_sumD fu 8 v t s l).1)) (hp D (f_sumD fu 8 v t s l).2.1 (f_sumD fu 8 v t s l).2.2)) := s_sumD 8 ht hk

