def f_X3_wordTold (fu : Nat) (t : Nat) (s : fl_I) (l : fl_L) : Int32 × fl_I × fl_L :=
  if ((s t 1) < (8 : Int32)) then if ((f_X3_take fu (257 : Int32) s l).1 = 0) then ((0 : Int32), (f_X3_take fu (257 : Int32) s l).2.1, (f_X3_take fu (257 : Int32) s l).2.2) else if ((f_X3_takeName fu ((f_X3_take fu (257 : Int32) s l).2.1 t 1) (t + 2) 8 (f_X3_take fu (257 : Int32) s l).2.1 (f_X3_take fu (257 : Int32) s l).2.2).1 = 0) then ((0 : Int32), (f_X3_takeName fu ((f_X3_take fu (257 : Int32) s l).2.1 t 1) (t + 2) 8 (f_X3_take fu (257 : Int32) s l).2.1 (f_X3_take fu (257 : Int32) s l).2.2).2.1, (f_X3_takeName fu ((f_X3_take fu (257 : Int32) s l).2.1 t 1) (t + 2) 8 (f_X3_take fu (257 : Int32) s l).2.1 (f_X3_take fu (257 : Int32) s l).2.2).2.2) else if ((f_X3_take fu (59 : Int32) (f_X3_takeName fu ((f_X3_take fu (257 : Int32) s l).2.1 t 1) (t + 2) 8 (f_X3_take fu (257 : Int32) s l).2.1 (f_X3_take fu (257 : Int32) s l).2.2).2.1 (f_X3_takeName fu ((f_X3_take fu (257 : Int32) s l).2.1 t 1) (t + 2) 8 (f_X3_take fu (257 : Int32) s l).2.1 (f_X3_take fu (257 : Int32) s l).2.2).2.2).1 = 0) then ((0 : Int32), (f_X3_take fu (59 : Int32) (f_X3_takeName fu ((f_X3_take fu (257 : Int32) s l).2.1 t 1) (t + 2) 8 (f_X3_take fu (257 : Int32) s l).2.1 (f_X3_take fu (257 : Int32) s l).2.2).2.1 (f_X3_takeName fu ((f_X3_take fu (257 : Int32) s l).2.1 t 1) (t + 2) 8 (f_X3_take fu (257 : Int32) s l).2.1 (f_X3_take fu (257 : Int32) s l).2.2).2.2).2.1, (f_X3_take fu (59 : Int32) (f_X3_takeName fu ((f_X3_take fu (257 : Int32) s l).2.1 t 1) (t + 2) 8 (f_X3_take fu (257 : Int32) s l).2.1 (f_X3_take fu (257 : Int32) s l).2.2).2.1 (f_X3_takeName fu ((f_X3_take fu (257 : Int32) s l).2.1 t 1) (t + 2) 8 (f_X3_take fu (257 : Int32) s l).2.1 (f_X3_take fu (257 : Int32) s l).2.2).2.2).2.2) else ((1 : Int32), (f_X5_addWord fu ((f_X3_take fu (59 : Int32) (f_X3_takeName fu ((f_X3_take fu (257 : Int32) s l).2.1 t 1) (t + 2) 8 (f_X3_take fu (257 : Int32) s l).2.1 (f_X3_take fu (257 : Int32) s l).2.2).2.1 (f_X3_takeName fu ((f_X3_take fu (257 : Int32) s l).2.1 t 1) (t + 2) 8 (f_X3_take fu (257 : Int32) s l).2.1 (f_X3_take fu (257 : Int32) s l).2.2).2.2).2.2 3 7) t (f_X3_take fu (59 : Int32) (f_X3_takeName fu ((f_X3_take fu (257 : Int32) s l).2.1 t 1) (t + 2) 8 (f_X3_take fu (257 : Int32) s l).2.1 (f_X3_take fu (257 : Int32) s l).2.2).2.1 (f_X3_takeName fu ((f_X3_take fu (257 : Int32) s l).2.1 t 1) (t + 2) 8 (f_X3_take fu (257 : Int32) s l).2.1 (f_X3_take fu (257 : Int32) s l).2.2).2.2).2.1 (f_X3_take fu (59 : Int32) (f_X3_takeName fu ((f_X3_take fu (257 : Int32) s l).2.1 t 1) (t + 2) 8 (f_X3_take fu (257 : Int32) s l).2.1 (f_X3_take fu (257 : Int32) s l).2.2).2.1 (f_X3_takeName fu ((f_X3_take fu (257 : Int32) s l).2.1 t 1) (t + 2) 8 (f_X3_take fu (257 : Int32) s l).2.1 (f_X3_take fu (257 : Int32) s l).2.2).2.2).2.2).1, (f_X5_addWord fu ((f_X3_take fu (59 : Int32) (f_X3_takeName fu ((f_X3_take fu (257 : Int32) s l).2.1 t 1) (t + 2) 8 (f_X3_take fu (257 : Int32) s l).2.1 (f_X3_take fu (257 : Int32) s l).2.2).2.1 (f_X3_takeName fu ((f_X3_take fu (257 : Int32) s l).2.1 t 1) (t + 2) 8 (f_X3_take fu (257 : Int32) s l).2.1 (f_X3_take fu (257 : Int32) s l).2.2).2.2).2.2 3 7) t (f_X3_take fu (59 : Int32) (f_X3_takeName fu ((f_X3_take fu (257 : Int32) s l).2.1 t 1) (t + 2) 8 (f_X3_take fu (257 : Int32) s l).2.1 (f_X3_take fu (257 : Int32) s l).2.2).2.1 (f_X3_takeName fu ((f_X3_take fu (257 : Int32) s l).2.1 t 1) (t + 2) 8 (f_X3_take fu (257 : Int32) s l).2.1 (f_X3_take fu (257 : Int32) s l).2.2).2.2).2.1 (f_X3_take fu (59 : Int32) (f_X3_takeName fu ((f_X3_take fu (257 : Int32) s l).2.1 t 1) (t + 2) 8 (f_X3_take fu (257 : Int32) s l).2.1 (f_X3_take fu (257 : Int32) s l).2.2).2.1 (f_X3_takeName fu ((f_X3_take fu (257 : Int32) s l).2.1 t 1) (t + 2) 8 (f_X3_take fu (257 : Int32) s l).2.1 (f_X3_take fu (257 : Int32) s l).2.2).2.2).2.2).2) else ((f_X3_stop fu (2 : Int32) s l).1, (f_X3_stop fu (2 : Int32) s l).2.1, (f_X3_stop fu (2 : Int32) s l).2.2)

def p_X3_wordTold (fu : Nat) (t : Nat) (s : fl_I) (l : fl_L) : Prop :=
  ((((s t 1) < (8 : Int32)) → (p_X3_take fu (257 : Int32) s l) ∧ ((((f_X3_take fu (257 : Int32) s l).1 = 0) → True) ∧ (¬ ((f_X3_take fu (257 : Int32) s l).1 = 0) → (p_X3_takeName fu ((f_X3_take fu (257 : Int32) s l).2.1 t 1) (t + 2) 8 (f_X3_take fu (257 : Int32) s l).2.1 (f_X3_take fu (257 : Int32) s l).2.2) ∧ ((((f_X3_takeName fu ((f_X3_take fu (257 : Int32) s l).2.1 t 1) (t + 2) 8 (f_X3_take fu (257 : Int32) s l).2.1 (f_X3_take fu (257 : Int32) s l).2.2).1 = 0) → True) ∧ (¬ ((f_X3_takeName fu ((f_X3_take fu (257 : Int32) s l).2.1 t 1) (t + 2) 8 (f_X3_take fu (257 : Int32) s l).2.1 (f_X3_take fu (257 : Int32) s l).2.2).1 = 0) → (p_X3_take fu (59 : Int32) (f_X3_takeName fu ((f_X3_take fu (257 : Int32) s l).2.1 t 1) (t + 2) 8 (f_X3_take fu (257 : Int32) s l).2.1 (f_X3_take fu (257 : Int32) s l).2.2).2.1 (f_X3_takeName fu ((f_X3_take fu (257 : Int32) s l).2.1 t 1) (t + 2) 8 (f_X3_take fu (257 : Int32) s l).2.1 (f_X3_take fu (257 : Int32) s l).2.2).2.2) ∧ ((((f_X3_take fu (59 : Int32) (f_X3_takeName fu ((f_X3_take fu (257 : Int32) s l).2.1 t 1) (t + 2) 8 (f_X3_take fu (257 : Int32) s l).2.1 (f_X3_take fu (257 : Int32) s l).2.2).2.1 (f_X3_takeName fu ((f_X3_take fu (257 : Int32) s l).2.1 t 1) (t + 2) 8 (f_X3_take fu (257 : Int32) s l).2.1 (f_X3_take fu (257 : Int32) s l).2.2).2.2).1 = 0) → True) ∧ (¬ ((f_X3_take fu (59 : Int32) (f_X3_takeName fu ((f_X3_take fu (257 : Int32) s l).2.1 t 1) (t + 2) 8 (f_X3_take fu (257 : Int32) s l).2.1 (f_X3_take fu (257 : Int32) s l).2.2).2.1 (f_X3_takeName fu ((f_X3_take fu (257 : Int32) s l).2.1 t 1) (t + 2) 8 (f_X3_take fu (257 : Int32) s l).2.1 (f_X3_take fu (257 : Int32) s l).2.2).2.2).1 = 0) → (p_X5_addWord fu ((f_X3_take fu (59 : Int32) (f_X3_takeName fu ((f_X3_take fu (257 : Int32) s l).2.1 t 1) (t + 2) 8 (f_X3_take fu (257 : Int32) s l).2.1 (f_X3_take fu (257 : Int32) s l).2.2).2.1 (f_X3_takeName fu ((f_X3_take fu (257 : Int32) s l).2.1 t 1) (t + 2) 8 (f_X3_take fu (257 : Int32) s l).2.1 (f_X3_take fu (257 : Int32) s l).2.2).2.2).2.2 3 7) t (f_X3_take fu (59 : Int32) (f_X3_takeName fu ((f_X3_take fu (257 : Int32) s l).2.1 t 1) (t + 2) 8 (f_X3_take fu (257 : Int32) s l).2.1 (f_X3_take fu (257 : Int32) s l).2.2).2.1 (f_X3_takeName fu ((f_X3_take fu (257 : Int32) s l).2.1 t 1) (t + 2) 8 (f_X3_take fu (257 : Int32) s l).2.1 (f_X3_take fu (257 : Int32) s l).2.2).2.2).2.1 (f_X3_take fu (59 : Int32) (f_X3_takeName fu ((f_X3_take fu (257 : Int32) s l).2.1 t 1) (t + 2) 8 (f_X3_take fu (257 : Int32) s l).2.1 (f_X3_take fu (257 : Int32) s l).2.2).2.1 (f_X3_takeName fu ((f_X3_take fu (257 : Int32) s l).2.1 t 1) (t + 2) 8 (f_X3_take fu (257 : Int32) s l).2.1 (f_X3_take fu (257 : Int32) s l).2.2).2.2).2.2) ∧ True))))))) ∧ (¬ ((s t 1) < (8 : Int32)) → (p_X3_stop fu (2 : Int32) s l) ∧ ((f_X3_stop fu (2 : Int32) s l).1 = 0 ∨ (f_X3_stop fu (2 : Int32) s l).1 = 1) ∧ True))

set_option maxRecDepth 100000 in
set_option maxHeartbeats 1000000 in
theorem s_X3_wordTold {G : ab_G} {fu : Nat} {d : Nat} {D : fl_D} {s : fl_I} {l : fl_L} {t : Nat} (htt : isT t)  (hk : p_X3_wordTold fu t s l) : ab_C G (d + 3) 0 0 M_X3_wordTold 0 (ab_ent [.ref 3, .ref t]) [] (hp D s l) (rt (some (.int (f_X3_wordTold fu t s l).1)) (hp D (f_X3_wordTold fu t s l).2.1 (f_X3_wordTold fu t s l).2.2)) := by
  generalize he : (f_X3_wordTold fu t s l) = res
  unfold f_X3_wordTold at he
  unfold p_X3_wordTold at hk
  refine r_weak (L1 := [some (.ref 3), some (.ref t)]) ⟨rfl, rfl, trivial⟩ ?_
  refine r_aload_n rfl rfl ?_
  refine q_getfield rfl (cT_0 htt) rfl ?_
  refine r_bipush_ (a := 8) rfl (by decide) ?_
  refine r_icmp_lt rfl (fun c_6 => ?_) (fun c_6 => ?_)
  · rw [if_pos c_6] at he
    replace hk := hk.1 c_6
    refine r_aload_n rfl rfl ?_
    refine r_sipush_ (a := 257) rfl (by decide) ?_
    obtain ⟨hb0, hk⟩ := hk
    refine q_callV0 [_] _ rfl kY_X3_take kT_X3_take rfl rfl (Nat.le_of_ble_eq_true rfl) (Nat.le_of_ble_eq_true rfl) (cc_3 _) (s_X3_take hb0) (fun r h q => ?_)
    obtain ⟨rfl, rfl⟩ := q
    simp only [Option.toList, List.cons_append, List.nil_append]
    refine r_if_eq rfl (fun c_22 => ?_) (fun c_22 => ?_)
    · rw [if_pos c_22] at he
      replace hk := hk.1 c_22
      refine r_iconst_ (a := 0) rfl (by decide) ?_
      refine r_iret rfl rfl rfl ?_
      first | with_reducible exact fin_i he | exact fin_i he
    · rw [if_neg c_22] at he
      replace hk := hk.2 c_22
      refine r_aload_n rfl rfl ?_
      refine r_aload_n rfl rfl ?_
      refine q_getfield rfl (cT_0 htt) rfl ?_
      refine r_aload_n rfl rfl ?_
      refine q_getfield rfl (cT_0 htt) rfl ?_
      obtain ⟨hb1, hk⟩ := hk
      refine q_callV0 [_, _] _ rfl kY_X3_takeName kT_X3_takeName rfl rfl (Nat.le_of_ble_eq_true rfl) (Nat.le_of_ble_eq_true rfl) (cc_3 _) (s_X3_takeName (cT_2 htt) hb1) (fun r h q => ?_)
      obtain ⟨rfl, rfl⟩ := q
      simp only [Option.toList, List.cons_append, List.nil_append]
      refine r_if_eq rfl (fun c_37 => ?_) (fun c_37 => ?_)
      · rw [if_pos c_37] at he
        replace hk := hk.1 c_37
        refine r_iconst_ (a := 0) rfl (by decide) ?_
        refine r_iret rfl rfl rfl ?_
        first | with_reducible exact fin_i he | exact fin_i he
      · rw [if_neg c_37] at he
        replace hk := hk.2 c_37
        refine r_aload_n rfl rfl ?_
        refine r_bipush_ (a := 59) rfl (by decide) ?_
        obtain ⟨hb2, hk⟩ := hk
        refine q_callV0 [_] _ rfl kY_X3_take kT_X3_take rfl rfl (Nat.le_of_ble_eq_true rfl) (Nat.le_of_ble_eq_true rfl) (cc_3 _) (s_X3_take hb2) (fun r h q => ?_)
        obtain ⟨rfl, rfl⟩ := q
        simp only [Option.toList, List.cons_append, List.nil_append]
        refine r_if_ne rfl (fun c_46 => ?_) (fun c_46 => ?_)
        · rw [if_neg c_46] at he
          replace hk := hk.2 c_46
          refine r_aload_n rfl rfl ?_
          refine r_aload_n rfl rfl ?_
          refine q_getfield rfl (cc_3 _) rfl ?_
          obtain ⟨hb3, hk⟩ := hk
          refine q_callV0 [_] _ rfl kY_X5_addWord kT_X5_addWord rfl rfl (Nat.le_of_ble_eq_true rfl) (Nat.le_of_ble_eq_true rfl) (cT_0 htt) (s_X5_addWord htt hb3) (fun r h q => ?_)
          obtain ⟨rfl, rfl⟩ := q
          simp only [Option.toList, List.cons_append, List.nil_append]
          refine r_iconst_ (a := 1) rfl (by decide) ?_
          refine r_iret rfl rfl rfl ?_
          first | with_reducible exact fin_i he | exact fin_i he
        · rw [if_pos c_46] at he
          replace hk := hk.1 c_46
          refine r_iconst_ (a := 0) rfl (by decide) ?_
          refine r_iret rfl rfl rfl ?_
          first | with_reducible exact fin_i he | exact fin_i he
  · rw [if_neg c_6] at he
    replace hk := hk.2 c_6
    refine r_aload_n rfl rfl ?_
    refine r_iconst_ (a := 2) rfl (by decide) ?_
    obtain ⟨hb4, hk⟩ := hk
    refine q_callV0 [_] _ rfl kY_X3_stop kT_X3_stop rfl rfl (Nat.le_of_ble_eq_true rfl) (Nat.le_of_ble_eq_true rfl) (cc_3 _) (s_X3_stop hb4) (fun r h q => ?_)
    obtain ⟨rfl, rfl⟩ := q
    simp only [Option.toList, List.cons_append, List.nil_append]
    obtain ⟨hb5, hk⟩ := hk
    refine r_iret rfl rfl (nar_b hb5) ?_
    first | with_reducible exact fin_i he | exact fin_i he

def f_X7_add (fu : Nat) (v0 : Int32) (v1 : Int32) (s : fl_I) (l : fl_L) : Int32 × fl_I × fl_L :=
  if ((s 57 0) < 0) then ((-1 : Int32), s, l) else if ((s 57 0) < (20 : Int32)) then if (v1 = 0) then ((((wi (wi s 58 (s 57 0).toNatClampNeg (-v0)) 57 0 (((wi s 58 (s 57 0).toNatClampNeg (-v0)) 57 0) + (1 : Int32))) 57 0) - (1 : Int32)), (wi (wi s 58 (s 57 0).toNatClampNeg (-v0)) 57 0 (((wi s 58 (s 57 0).toNatClampNeg (-v0)) 57 0) + (1 : Int32))), l) else ((((wi (wi s 58 (s 57 0).toNatClampNeg v0) 57 0 (((wi s 58 (s 57 0).toNatClampNeg v0) 57 0) + (1 : Int32))) 57 0) - (1 : Int32)), (wi (wi s 58 (s 57 0).toNatClampNeg v0) 57 0 (((wi s 58 (s 57 0).toNatClampNeg v0) 57 0) + (1 : Int32))), l) else ((-1 : Int32), s, l)

def p_X7_add (fu : Nat) (v0 : Int32) (v1 : Int32) (s : fl_I) (l : fl_L) : Prop :=
  ((((s 57 0) < 0) → True) ∧ (¬ ((s 57 0) < 0) → ((((s 57 0) < (20 : Int32)) → (((v1 = 0) → (vp_in (s 57 0) 20) ∧ True) ∧ (¬ (v1 = 0) → (vp_in (s 57 0) 20) ∧ True))) ∧ (¬ ((s 57 0) < (20 : Int32)) → True))))

set_option maxRecDepth 100000 in
set_option maxHeartbeats 1000000 in
theorem s_X7_add {G : ab_G} {fu : Nat} {d : Nat} {D : fl_D} {s : fl_I} {l : fl_L} {v0 : Int32} {v1 : Int32} (hk : p_X7_add fu v0 v1 s l) : ab_C G d 0 0 M_X7_add 0 (ab_ent [.ref 57, .int v0, .int v1]) [] (hp D s l) (rt (some (.int (f_X7_add fu v0 v1 s l).1)) (hp D (f_X7_add fu v0 v1 s l).2.1 (f_X7_add fu v0 v1 s l).2.2)) := by
  generalize he : (f_X7_add fu v0 v1 s l) = res
  unfold f_X7_add at he
  unfold p_X7_add at hk
  refine r_weak (L1 := [some (.ref 57), some (.int v0), some (.int v1)]) ⟨rfl, rfl, rfl, trivial⟩ ?_
  refine r_aload_n rfl rfl ?_
  refine q_getfield rfl (cc_57 _) rfl ?_
  refine r_if_lt rfl (fun c_4 => ?_) (fun c_4 => ?_)
  · rw [if_pos c_4] at he
    replace hk := hk.1 c_4
    refine r_iconst_ (a := -1) rfl (by decide) ?_
    refine r_iret rfl rfl rfl ?_
    first | with_reducible exact fin_i he | exact fin_i he
  · rw [if_neg c_4] at he
    replace hk := hk.2 c_4
    refine r_aload_n rfl rfl ?_
    refine q_getfield rfl (cc_57 _) rfl ?_
    refine r_bipush_ (a := 20) rfl (by decide) ?_
    refine r_icmp_lt rfl (fun c_13 => ?_) (fun c_13 => ?_)
    · rw [if_pos c_13] at he
      replace hk := hk.1 c_13
      refine r_aload_n rfl rfl ?_
      refine q_getfield rfl (cc_57 _) rfl ?_
      refine r_aload_n rfl rfl ?_
      refine q_getfield rfl (cc_57 _) rfl ?_
      refine r_iload_n rfl rfl ?_
      refine r_if_eq rfl (fun c_27 => ?_) (fun c_27 => ?_)
      · rw [if_pos c_27] at he
        replace hk := hk.1 c_27
        refine r_iload_n rfl rfl ?_
        refine r_ineg rfl ?_
        obtain ⟨hb0, hk⟩ := hk
        refine w_iast rfl (cc_58 _) hb0 ?_
        refine r_aload_n rfl rfl ?_
        refine r_dup rfl rfl ?_
        refine q_getfield rfl (cc_57 _) rfl ?_
        refine r_iconst_ (a := 1) rfl (by decide) ?_
        refine r_iadd rfl ?_
        refine w_put rfl (cc_57 _) ff_7_0 ft_7_0 (fun _ _ => (Nat.le_of_ble_eq_true rfl)) (fun _ _ => rfl) ?_
        refine r_aload_n rfl rfl ?_
        refine q_getfield rfl (cc_57 _) rfl ?_
        refine r_iconst_ (a := 1) rfl (by decide) ?_
        refine r_isub rfl ?_
        refine r_iret rfl rfl rfl ?_
        first | with_reducible exact fin_i he | exact fin_i he
      · rw [if_neg c_27] at he
        replace hk := hk.2 c_27
        refine r_iload_n rfl rfl ?_
        refine r_goto rfl ?_
        obtain ⟨hb1, hk⟩ := hk
        refine w_iast rfl (cc_58 _) hb1 ?_
        refine r_aload_n rfl rfl ?_
        refine r_dup rfl rfl ?_
        refine q_getfield rfl (cc_57 _) rfl ?_
        refine r_iconst_ (a := 1) rfl (by decide) ?_
        refine r_iadd rfl ?_
        refine w_put rfl (cc_57 _) ff_7_0 ft_7_0 (fun _ _ => (Nat.le_of_ble_eq_true rfl)) (fun _ _ => rfl) ?_
        refine r_aload_n rfl rfl ?_
        refine q_getfield rfl (cc_57 _) rfl ?_
        refine r_iconst_ (a := 1) rfl (by decide) ?_
        refine r_isub rfl ?_
        refine r_iret rfl rfl rfl ?_
        first | with_reducible exact fin_i he | exact fin_i he
    · rw [if_neg c_13] at he
      replace hk := hk.2 c_13
      refine r_iconst_ (a := -1) rfl (by decide) ?_
      refine r_iret rfl rfl rfl ?_
      first | with_reducible exact fin_i he | exact fin_i he

def f_X10_layDown (fu : Nat) (v0 : Int32) (a : Nat) (s : fl_I) (l : fl_L) : fl_I × fl_L :=
  if ((f_X10_holder fu v0 a s l) < 0) then (s, l) else if ((4 : Int32) ≤ (f_X10_holder fu v0 a s l)) then (s, l) else ((wi (wi (wi s (a + 5) (f_X10_holder fu v0 a s l).toNatClampNeg ((s (a + 5) (f_X10_holder fu v0 a s l).toNatClampNeg) - (1 : Int32))) (a + 1) v0.toNatClampNeg ((wi s (a + 5) (f_X10_holder fu v0 a s l).toNatClampNeg ((s (a + 5) (f_X10_holder fu v0 a s l).toNatClampNeg) - (1 : Int32))) (a + 3) (f_X10_holder fu v0 a s l).toNatClampNeg)) (a + 2) v0.toNatClampNeg (0 : Int32)), l)

def p_X10_layDown (fu : Nat) (v0 : Int32) (a : Nat) (s : fl_I) (l : fl_L) : Prop :=
  (p_X10_holder fu v0 a s l) ∧ ((((f_X10_holder fu v0 a s l) < 0) → True) ∧ (¬ ((f_X10_holder fu v0 a s l) < 0) → ((((4 : Int32) ≤ (f_X10_holder fu v0 a s l)) → True) ∧ (¬ ((4 : Int32) ≤ (f_X10_holder fu v0 a s l)) → (vp_in (f_X10_holder fu v0 a s l) 4) ∧ (vp_in (f_X10_holder fu v0 a s l) 4) ∧ (vp_in (f_X10_holder fu v0 a s l) 4) ∧ (vp_in v0 32) ∧ (vp_in v0 32) ∧ True))))

set_option maxRecDepth 100000 in
set_option maxHeartbeats 1000000 in
theorem s_X10_layDown {G : ab_G} {fu : Nat} {d : Nat} {D : fl_D} {s : fl_I} {l : fl_L} {a : Nat} (hya : isY D a) {v0 : Int32} (hk : p_X10_layDown fu v0 a s l) : ab_C G (d + 1) 0 0 M_X10_layDown 0 (ab_ent [.ref a, .int v0]) [] (hp D s l) (rt none (hp D (f_X10_layDown fu v0 a s l).1 (f_X10_layDown fu v0 a s l).2)) := by
  generalize he : (f_X10_layDown fu v0 a s l) = res
  unfold f_X10_layDown at he
  unfold p_X10_layDown at hk
  refine r_weak (L1 := [some (.ref a), some (.int v0), none]) ⟨rfl, rfl, trivial⟩ ?_
  refine r_aload_n rfl rfl ?_
  refine r_iload_n rfl rfl ?_
  obtain ⟨hb0, hk⟩ := hk
  refine q_callV0 [_] _ rfl kY_X10_holder kT_X10_holder rfl rfl (Nat.le_of_ble_eq_true rfl) (Nat.le_of_ble_eq_true rfl) (cY_0 hya) (s_X10_holder hya hb0) (fun r h q => ?_)
  obtain ⟨rfl, rfl⟩ := q
  simp only [Option.toList, List.cons_append, List.nil_append]
  refine r_istore_n rfl (Nat.le_of_ble_eq_true rfl) rfl ?_
  refine r_iload_n rfl rfl ?_
  refine r_if_lt rfl (fun c_7 => ?_) (fun c_7 => ?_)
  · rw [if_pos c_7] at he
    replace hk := hk.1 c_7
    refine r_ret rfl rfl ?_
    first | with_reducible exact fin_v he | exact fin_v he
  · rw [if_neg c_7] at he
    replace hk := hk.2 c_7
    refine r_iload_n rfl rfl ?_
    refine r_iconst_ (a := 4) rfl (by decide) ?_
    refine r_icmp_ge rfl (fun c_12 => ?_) (fun c_12 => ?_)
    · rw [if_pos c_12] at he
      replace hk := hk.1 c_12
      refine r_ret rfl rfl ?_
      first | with_reducible exact fin_v he | exact fin_v he
    · rw [if_neg c_12] at he
      replace hk := hk.2 c_12
      refine r_aload_n rfl rfl ?_
      refine q_getfield rfl (cY_0 hya) rfl ?_
      refine r_iload_n rfl rfl ?_
      refine r_dup2 rfl rfl rfl ?_
      obtain ⟨hb1, hk⟩ := hk
      refine q_iald rfl (cY_5 hya) hb1 ?_
      refine r_iconst_ (a := 1) rfl (by decide) ?_
      refine r_isub rfl ?_
      obtain ⟨hb2, hk⟩ := hk
      refine w_iast rfl (cY_5 hya) hb2 ?_
      refine r_aload_n rfl rfl ?_
      refine q_getfield rfl (cY_0 hya) rfl ?_
      refine r_iload_n rfl rfl ?_
      refine r_aload_n rfl rfl ?_
      refine q_getfield rfl (cY_0 hya) rfl ?_
      refine r_iload_n rfl rfl ?_
      obtain ⟨hb3, hk⟩ := hk
      refine q_iald rfl (cY_3 hya) hb3 ?_
      obtain ⟨hb4, hk⟩ := hk
      refine w_iast rfl (cY_1 hya) hb4 ?_
      refine r_aload_n rfl rfl ?_
      refine q_getfield rfl (cY_0 hya) rfl ?_
      refine r_iload_n rfl rfl ?_
      refine r_iconst_ (a := 0) rfl (by decide) ?_
      obtain ⟨hb5, hk⟩ := hk
      refine w_iast rfl (cY_2 hya) hb5 ?_
      refine r_ret rfl rfl ?_
      first | with_reducible exact fin_v he | exact fin_v he

def f_X12_token (fu : Nat) (v0 : Int32) (v1 : Int32) (v2 : Int32) (v3 : Int64) (s : fl_I) (l : fl_L) : fl_I × fl_L :=
  ((wi (wi (wi (wi s 63 (s 60 10).toNatClampNeg v0) 64 ((wi s 63 (s 60 10).toNatClampNeg v0) 60 10).toNatClampNeg v1) 65 ((wi (wi s 63 (s 60 10).toNatClampNeg v0) 64 ((wi s 63 (s 60 10).toNatClampNeg v0) 60 10).toNatClampNeg v1) 60 10).toNatClampNeg v2) 60 10 (((wi (wi (wi s 63 (s 60 10).toNatClampNeg v0) 64 ((wi s 63 (s 60 10).toNatClampNeg v0) 60 10).toNatClampNeg v1) 65 ((wi (wi s 63 (s 60 10).toNatClampNeg v0) 64 ((wi s 63 (s 60 10).toNatClampNeg v0) 60 10).toNatClampNeg v1) 60 10).toNatClampNeg v2) 60 10) + (1 : Int32))), (wl l 66 ((wi (wi (wi s 63 (s 60 10).toNatClampNeg v0) 64 ((wi s 63 (s 60 10).toNatClampNeg v0) 60 10).toNatClampNeg v1) 65 ((wi (wi s 63 (s 60 10).toNatClampNeg v0) 64 ((wi s 63 (s 60 10).toNatClampNeg v0) 60 10).toNatClampNeg v1) 60 10).toNatClampNeg v2) 60 10).toNatClampNeg v3))

def p_X12_token (fu : Nat) (v0 : Int32) (v1 : Int32) (v2 : Int32) (v3 : Int64) (s : fl_I) (l : fl_L) : Prop :=
  (vp_in (s 60 10) 403) ∧ (vp_in ((wi s 63 (s 60 10).toNatClampNeg v0) 60 10) 403) ∧ (vp_in ((wi (wi s 63 (s 60 10).toNatClampNeg v0) 64 ((wi s 63 (s 60 10).toNatClampNeg v0) 60 10).toNatClampNeg v1) 60 10) 403) ∧ (vp_in ((wi (wi (wi s 63 (s 60 10).toNatClampNeg v0) 64 ((wi s 63 (s 60 10).toNatClampNeg v0) 60 10).toNatClampNeg v1) 65 ((wi (wi s 63 (s 60 10).toNatClampNeg v0) 64 ((wi s 63 (s 60 10).toNatClampNeg v0) 60 10).toNatClampNeg v1) 60 10).toNatClampNeg v2) 60 10) 403) ∧ True

set_option maxRecDepth 100000 in
set_option maxHeartbeats 1000000 in
theorem s_X12_token {G : ab_G} {fu : Nat} {d : Nat} {D : fl_D} {s : fl_I} {l : fl_L} {v0 : Int32} {v1 : Int32} {v2 : Int32} {v3 : Int64} (hk : p_X12_token fu v0 v1 v2 v3 s l) : ab_C G d 0 0 M_X12_token 0 (ab_ent [.ref 60, .int v0, .int v1, .int v2, .long v3]) [] (hp D s l) (rt none (hp D (f_X12_token fu v0 v1 v2 v3 s l).1 (f_X12_token fu v0 v1 v2 v3 s l).2)) := by
  generalize he : (f_X12_token fu v0 v1 v2 v3 s l) = res
  unfold f_X12_token at he
  unfold p_X12_token at hk
  refine r_weak (L1 := [some (.ref 60), some (.int v0), some (.int v1), some (.int v2), some (.long v3), none]) ⟨rfl, rfl, rfl, rfl, rfl, trivial⟩ ?_
  refine r_aload_n rfl rfl ?_
  refine q_getfield rfl (cc_60 _) rfl ?_
  refine r_aload_n rfl rfl ?_
  refine q_getfield rfl (cc_60 _) rfl ?_
  refine r_iload_n rfl rfl ?_
  obtain ⟨hb0, hk⟩ := hk
  refine w_iast rfl (cc_63 _) hb0 ?_
  refine r_aload_n rfl rfl ?_
  refine q_getfield rfl (cc_60 _) rfl ?_
  refine r_aload_n rfl rfl ?_
  refine q_getfield rfl (cc_60 _) rfl ?_
  refine r_iload_n rfl rfl ?_
  obtain ⟨hb1, hk⟩ := hk
  refine w_iast rfl (cc_64 _) hb1 ?_
  refine r_aload_n rfl rfl ?_
  refine q_getfield rfl (cc_60 _) rfl ?_
  refine r_aload_n rfl rfl ?_
  refine q_getfield rfl (cc_60 _) rfl ?_
  refine r_iload_n rfl rfl ?_
  obtain ⟨hb2, hk⟩ := hk
  refine w_iast rfl (cc_65 _) hb2 ?_
  refine r_aload_n rfl rfl ?_
  refine q_getfield rfl (cc_60 _) rfl ?_
  refine r_aload_n rfl rfl ?_
  refine q_getfield rfl (cc_60 _) rfl ?_
  refine r_lload rfl rfl ?_
  obtain ⟨hb3, hk⟩ := hk
  refine w_last rfl (cc_66 _) hb3 ?_
  refine r_aload_n rfl rfl ?_
  refine r_dup rfl rfl ?_
  refine q_getfield rfl (cc_60 _) rfl ?_
  refine r_iconst_ (a := 1) rfl (by decide) ?_
  refine r_iadd rfl ?_
  refine w_put rfl (cc_60 _) ff_12_10 ft_12_10 (fun _ _ => (Nat.le_of_ble_eq_true rfl)) (fun _ _ => rfl) ?_
  refine r_ret rfl rfl ?_
  first | with_reducible exact fin_v he | exact fin_v he

def f_X12_wrong (fu : Nat) (v0 : Int32) (v1 : Int32) (s : fl_I) (l : fl_L) : fl_I × fl_L :=
  if (0 < (s 60 13)) then (s, l) else if ((s 60 15) = 0) then ((wi (wi s 60 15 v0) 60 16 (s 64 v1.toNatClampNeg)), l) else if ((s 60 16) < (s 64 v1.toNatClampNeg)) then (s, l) else if ((s 64 v1.toNatClampNeg) = (s 60 16)) then if (v0 < (s 60 15)) then ((wi (wi s 60 15 v0) 60 16 (s 64 v1.toNatClampNeg)), l) else (s, l) else ((wi (wi s 60 15 v0) 60 16 (s 64 v1.toNatClampNeg)), l)

def p_X12_wrong (fu : Nat) (v0 : Int32) (v1 : Int32) (s : fl_I) (l : fl_L) : Prop :=
  (vp_in v1 403) ∧ (((0 < (s 60 13)) → True) ∧ (¬ (0 < (s 60 13)) → ((((s 60 15) = 0) → True) ∧ (¬ ((s 60 15) = 0) → ((((s 60 16) < (s 64 v1.toNatClampNeg)) → True) ∧ (¬ ((s 60 16) < (s 64 v1.toNatClampNeg)) → ((((s 64 v1.toNatClampNeg) = (s 60 16)) → (((v0 < (s 60 15)) → True) ∧ (¬ (v0 < (s 60 15)) → True))) ∧ (¬ ((s 64 v1.toNatClampNeg) = (s 60 16)) → True))))))))

set_option maxRecDepth 100000 in
set_option maxHeartbeats 1000000 in
theorem s_X12_wrong {G : ab_G} {fu : Nat} {d : Nat} {D : fl_D} {s : fl_I} {l : fl_L} {v0 : Int32} {v1 : Int32} (hk : p_X12_wrong fu v0 v1 s l) : ab_C G d 0 0 M_X12_wrong 0 (ab_ent [.ref 60, .int v0, .int v1]) [] (hp D s l) (rt none (hp D (f_X12_wrong fu v0 v1 s l).1 (f_X12_wrong fu v0 v1 s l).2)) := by
  generalize he : (f_X12_wrong fu v0 v1 s l) = res
  unfold f_X12_wrong at he
  unfold p_X12_wrong at hk
  refine r_weak (L1 := [some (.ref 60), some (.int v0), some (.int v1), none]) ⟨rfl, rfl, rfl, trivial⟩ ?_
  refine r_aload_n rfl rfl ?_
  refine q_getfield rfl (cc_60 _) rfl ?_
  refine r_iload_n rfl rfl ?_
  obtain ⟨hb0, hk⟩ := hk
  refine q_iald rfl (cc_64 _) hb0 ?_
  refine r_istore_n rfl (Nat.le_of_ble_eq_true rfl) rfl ?_
  refine r_aload_n rfl rfl ?_
  refine q_getfield rfl (cc_60 _) rfl ?_
  refine r_if_gt rfl (fun c_11 => ?_) (fun c_11 => ?_)
  · rw [if_pos c_11] at he
    replace hk := hk.1 c_11
    refine r_ret rfl rfl ?_
    first | with_reducible exact fin_v he | exact fin_v he
  · rw [if_neg c_11] at he
    replace hk := hk.2 c_11
    refine r_aload_n rfl rfl ?_
    refine q_getfield rfl (cc_60 _) rfl ?_
    refine r_if_eq rfl (fun c_18 => ?_) (fun c_18 => ?_)
    · rw [if_pos c_18] at he
      replace hk := hk.1 c_18
      refine r_aload_n rfl rfl ?_
      refine r_iload_n rfl rfl ?_
      refine w_put rfl (cc_60 _) ff_12_15 ft_12_15 (fun _ _ => (Nat.le_of_ble_eq_true rfl)) (fun _ _ => rfl) ?_
      refine r_aload_n rfl rfl ?_
      refine r_iload_n rfl rfl ?_
      refine w_put rfl (cc_60 _) ff_12_16 ft_12_16 (fun _ _ => (Nat.le_of_ble_eq_true rfl)) (fun _ _ => rfl) ?_
      refine r_ret rfl rfl ?_
      first | with_reducible exact fin_v he | exact fin_v he
    · rw [if_neg c_18] at he
      replace hk := hk.2 c_18
      refine r_iload_n rfl rfl ?_
      refine r_aload_n rfl rfl ?_
      refine q_getfield rfl (cc_60 _) rfl ?_
      refine r_icmp_gt rfl (fun c_26 => ?_) (fun c_26 => ?_)
      · rw [if_pos c_26] at he
        replace hk := hk.1 c_26
        refine r_ret rfl rfl ?_
        first | with_reducible exact fin_v he | exact fin_v he
      · rw [if_neg c_26] at he
        replace hk := hk.2 c_26
        refine r_iload_n rfl rfl ?_
        refine r_aload_n rfl rfl ?_
        refine q_getfield rfl (cc_60 _) rfl ?_
        refine r_icmp_ne rfl (fun c_34 => ?_) (fun c_34 => ?_)
        · rw [if_neg c_34] at he
          replace hk := hk.2 c_34
          refine r_aload_n rfl rfl ?_
          refine r_iload_n rfl rfl ?_
          refine w_put rfl (cc_60 _) ff_12_15 ft_12_15 (fun _ _ => (Nat.le_of_ble_eq_true rfl)) (fun _ _ => rfl) ?_
          refine r_aload_n rfl rfl ?_
          refine r_iload_n rfl rfl ?_
          refine w_put rfl (cc_60 _) ff_12_16 ft_12_16 (fun _ _ => (Nat.le_of_ble_eq_true rfl)) (fun _ _ => rfl) ?_
          refine r_ret rfl rfl ?_
          first | with_reducible exact fin_v he | exact fin_v he
        · rw [if_pos c_34] at he
          replace hk := hk.1 c_34
          refine r_iload_n rfl rfl ?_
          refine r_aload_n rfl rfl ?_
          refine q_getfield rfl (cc_60 _) rfl ?_
          refine r_icmp_lt rfl (fun c_42 => ?_) (fun c_42 => ?_)
          · rw [if_pos c_42] at he
            replace hk := hk.1 c_42
            refine r_aload_n rfl rfl ?_
            refine r_iload_n rfl rfl ?_
            refine w_put rfl (cc_60 _) ff_12_15 ft_12_15 (fun _ _ => (Nat.le_of_ble_eq_true rfl)) (fun _ _ => rfl) ?_
            refine r_aload_n rfl rfl ?_
            refine r_iload_n rfl rfl ?_
            refine w_put rfl (cc_60 _) ff_12_16 ft_12_16 (fun _ _ => (Nat.le_of_ble_eq_true rfl)) (fun _ _ => rfl) ?_
            refine r_ret rfl rfl ?_
            first | with_reducible exact fin_v he | exact fin_v he
          · rw [if_neg c_42] at he
            replace hk := hk.2 c_42
            refine r_ret rfl rfl ?_
            first | with_reducible exact fin_v he | exact fin_v he

def f_X5_addPicker (fu : Nat) (v0 : Int64) (v1 : Int32) (v2 : Int32) (t : Nat) (s : fl_I) (l : fl_L) : fl_I × fl_L :=
  if ((s t 2) < 0) then (s, l) else if ((4 : Int32) ≤ (s t 2)) then (s, l) else ((wi (wi (wi s (t + 7) (s t 2).toNatClampNeg v1) (t + 8) ((wi s (t + 7) (s t 2).toNatClampNeg v1) t 2).toNatClampNeg v2) t 2 (((wi (wi s (t + 7) (s t 2).toNatClampNeg v1) (t + 8) ((wi s (t + 7) (s t 2).toNatClampNeg v1) t 2).toNatClampNeg v2) t 2) + (1 : Int32))), (wl l (t + 3) (s t 2).toNatClampNeg v0))

def p_X5_addPicker (fu : Nat) (v0 : Int64) (v1 : Int32) (v2 : Int32) (t : Nat) (s : fl_I) (l : fl_L) : Prop :=
  ((((s t 2) < 0) → True) ∧ (¬ ((s t 2) < 0) → ((((4 : Int32) ≤ (s t 2)) → True) ∧ (¬ ((4 : Int32) ≤ (s t 2)) → (vp_in (s t 2) 4) ∧ (vp_in (s t 2) 4) ∧ (vp_in ((wi s (t + 7) (s t 2).toNatClampNeg v1) t 2) 4) ∧ True))))

set_option maxRecDepth 100000 in
set_option maxHeartbeats 1000000 in
theorem s_X5_addPicker {G : ab_G} {fu : Nat} {d : Nat} {D : fl_D} {s : fl_I} {l : fl_L} {t : Nat} (htt : isT t) {v0 : Int64} {v1 : Int32} {v2 : Int32} (hk : p_X5_addPicker fu v0 v1 v2 t s l) : ab_C G d 0 0 M_X5_addPicker 0 (ab_ent [.ref t, .long v0, .int v1, .int v2]) [] (hp D s l) (rt none (hp D (f_X5_addPicker fu v0 v1 v2 t s l).1 (f_X5_addPicker fu v0 v1 v2 t s l).2)) := by
  generalize he : (f_X5_addPicker fu v0 v1 v2 t s l) = res
  unfold f_X5_addPicker at he
  unfold p_X5_addPicker at hk
  refine r_weak (L1 := [some (.ref t), some (.long v0), none, some (.int v1), some (.int v2)]) ⟨rfl, rfl, rfl, rfl, trivial⟩ ?_
  refine r_aload_n rfl rfl ?_
  refine q_getfield rfl (cT_0 htt) rfl ?_
  refine r_if_lt rfl (fun c_4 => ?_) (fun c_4 => ?_)
  · rw [if_pos c_4] at he
    replace hk := hk.1 c_4
    refine r_ret rfl rfl ?_
    first | with_reducible exact fin_v he | exact fin_v he
  · rw [if_neg c_4] at he
    replace hk := hk.2 c_4
    refine r_aload_n rfl rfl ?_
    refine q_getfield rfl (cT_0 htt) rfl ?_
    refine r_iconst_ (a := 4) rfl (by decide) ?_
    refine r_icmp_ge rfl (fun c_12 => ?_) (fun c_12 => ?_)
    · rw [if_pos c_12] at he
      replace hk := hk.1 c_12
      refine r_ret rfl rfl ?_
      first | with_reducible exact fin_v he | exact fin_v he
    · rw [if_neg c_12] at he
      replace hk := hk.2 c_12
      refine r_aload_n rfl rfl ?_
      refine q_getfield rfl (cT_0 htt) rfl ?_
      refine r_aload_n rfl rfl ?_
      refine q_getfield rfl (cT_0 htt) rfl ?_
      refine r_lload_n rfl rfl ?_
      obtain ⟨hb0, hk⟩ := hk
      refine w_last rfl (cT_3 htt) hb0 ?_
      refine r_aload_n rfl rfl ?_
      refine q_getfield rfl (cT_0 htt) rfl ?_
      refine r_aload_n rfl rfl ?_
      refine q_getfield rfl (cT_0 htt) rfl ?_
      refine r_iload_n rfl rfl ?_
      obtain ⟨hb1, hk⟩ := hk
      refine w_iast rfl (cT_7 htt) hb1 ?_
      refine r_aload_n rfl rfl ?_
      refine q_getfield rfl (cT_0 htt) rfl ?_
      refine r_aload_n rfl rfl ?_
      refine q_getfield rfl (cT_0 htt) rfl ?_
      refine r_iload rfl rfl ?_
      obtain ⟨hb2, hk⟩ := hk
      refine w_iast rfl (cT_8 htt) hb2 ?_
      refine r_aload_n rfl rfl ?_
      refine r_dup rfl rfl ?_
      refine q_getfield rfl (cT_0 htt) rfl ?_
      refine r_iconst_ (a := 1) rfl (by decide) ?_
      refine r_iadd rfl ?_
      refine w_put rfl (cT_0 htt) ff_5_2 ft_5_2 (fun _ _ => (Nat.le_of_ble_eq_true rfl)) (fun _ _ => rfl) ?_
      refine r_ret rfl rfl ?_
      first | with_reducible exact fin_v he | exact fin_v he

def f_X10_countAll_7 (fu : Nat) : Nat → Int32 → Nat → Nat → fl_I → fl_L → fl_I × fl_L
  | 0, x2, a, q, s, l => (s, l)
  | n + 1, x2, a, q, s, l =>
    if ((s a 1) ≤ x2) then (s, l) else if ((s (a + 1) x2.toNatClampNeg) < 0) then f_X10_countAll_7 fu n (x2 + 1) a q s l else if ((80 : Int32) ≤ (s (a + 1) x2.toNatClampNeg)) then f_X10_countAll_7 fu n (x2 + 1) a q s l else if ((80 : Int32) ≤ (s (a + 1) x2.toNatClampNeg)) then f_X10_countAll_7 fu n (x2 + 1) a q s l else f_X10_countAll_7 fu n (x2 + 1) a q (wi s q (s (a + 1) x2.toNatClampNeg).toNatClampNeg ((s q (s (a + 1) x2.toNatClampNeg).toNatClampNeg) + (1 : Int32))) l

def p_X10_countAll_7 (fu : Nat) : Nat → Int32 → Nat → Nat → fl_I → fl_L → Prop
  | 0, _, _, _, _, _ => False
  | n + 1, x2, a, q, s, l =>
    ((((s a 1) ≤ x2) → True) ∧ (¬ ((s a 1) ≤ x2) → (vp_in x2 32) ∧ ((((s (a + 1) x2.toNatClampNeg) < 0) → p_X10_countAll_7 fu n (x2 + 1) a q s l) ∧ (¬ ((s (a + 1) x2.toNatClampNeg) < 0) → ((((80 : Int32) ≤ (s (a + 1) x2.toNatClampNeg)) → p_X10_countAll_7 fu n (x2 + 1) a q s l) ∧ (¬ ((80 : Int32) ≤ (s (a + 1) x2.toNatClampNeg)) → ((((80 : Int32) ≤ (s (a + 1) x2.toNatClampNeg)) → p_X10_countAll_7 fu n (x2 + 1) a q s l) ∧ (¬ ((80 : Int32) ≤ (s (a + 1) x2.toNatClampNeg)) → (vp_in (s (a + 1) x2.toNatClampNeg) 80) ∧ (vp_in (s (a + 1) x2.toNatClampNeg) 80) ∧ p_X10_countAll_7 fu n (x2 + 1) a q (wi s q (s (a + 1) x2.toNatClampNeg).toNatClampNeg ((s q (s (a + 1) x2.toNatClampNeg).toNatClampNeg) + (1 : Int32))) l))))))))

set_option maxRecDepth 100000 in
set_option maxHeartbeats 1000000 in
theorem lp_X10_countAll_7 {G : ab_G} {fu : Nat} {d : Nat} {D : fl_D} {a : Nat} (hya : isY D a) {q : Nat} (hcq : ∀ f g, cl D q f g = some (.inl (0, 80, .inl f))) : ∀ (n : Nat) (x2 : Int32) (s : fl_I) (l : fl_L), p_X10_countAll_7 fu n x2 a q s l → ab_C G (d + 1) 0 0 M_X10_countAll 7 [some (.ref a), some (.ref q), some (.int x2), none] [] (hp D s l) (rt none (hp D (f_X10_countAll_7 fu n x2 a q s l).1 (f_X10_countAll_7 fu n x2 a q s l).2)) := by
  intro n
  induction n with
  | zero => intro x2 s l hk; exact hk.elim
  | succ n ih =>
    intro x2 s l hk
    generalize he : f_X10_countAll_7 fu (n + 1) x2 a q s l = res
    unfold f_X10_countAll_7 at he
    unfold p_X10_countAll_7 at hk
    refine r_iload_n rfl rfl ?_
    refine r_aload_n rfl rfl ?_
    refine q_getfield rfl (cY_0 hya) rfl ?_
    refine r_icmp_ge rfl (fun c_12 => ?_) (fun c_12 => ?_)
    · rw [if_pos c_12] at he
      replace hk := hk.1 c_12
      refine r_ret rfl rfl ?_
      first | with_reducible exact fin_v he | exact fin_v he
    · rw [if_neg c_12] at he
      replace hk := hk.2 c_12
      refine r_aload_n rfl rfl ?_
      refine q_getfield rfl (cY_0 hya) rfl ?_
      refine r_iload_n rfl rfl ?_
      obtain ⟨hb0, hk⟩ := hk
      refine q_iald rfl (cY_1 hya) hb0 ?_
      refine r_istore_n rfl (Nat.le_of_ble_eq_true rfl) rfl ?_
      refine r_iload_n rfl rfl ?_
      refine r_if_lt rfl (fun c_23 => ?_) (fun c_23 => ?_)
      · rw [if_pos c_23] at he
        replace hk := hk.1 c_23
        refine r_iinc (b := x2 + 1) rfl rfl rfl (Nat.le_of_ble_eq_true rfl) rfl ?_
        refine r_goto rfl ?_
        subst he
        exact r_weak (L1 := [some (.ref a), some (.ref q), some (.int (x2 + 1)), none]) ⟨rfl, rfl, rfl, trivial⟩ (ih _ _ _ hk)
      · rw [if_neg c_23] at he
        replace hk := hk.2 c_23
        refine r_iload_n rfl rfl ?_
        refine r_bipush_ (a := 80) rfl (by decide) ?_
        refine r_icmp_ge rfl (fun c_29 => ?_) (fun c_29 => ?_)
        · rw [if_pos c_29] at he
          replace hk := hk.1 c_29
          refine r_iinc (b := x2 + 1) rfl rfl rfl (Nat.le_of_ble_eq_true rfl) rfl ?_
          refine r_goto rfl ?_
          subst he
          exact r_weak (L1 := [some (.ref a), some (.ref q), some (.int (x2 + 1)), none]) ⟨rfl, rfl, rfl, trivial⟩ (ih _ _ _ hk)
        · rw [if_neg c_29] at he
          replace hk := hk.2 c_29
          refine r_iload_n rfl rfl ?_
          refine r_aload_n rfl rfl ?_
          refine q_alen (v := (80 : Int32)) rfl hcq (Nat.le_of_ble_eq_true rfl) rfl ?_
          refine r_icmp_ge rfl (fun c_35 => ?_) (fun c_35 => ?_)
          · rw [if_pos c_35] at he
            replace hk := hk.1 c_35
            refine r_iinc (b := x2 + 1) rfl rfl rfl (Nat.le_of_ble_eq_true rfl) rfl ?_
            refine r_goto rfl ?_
            subst he
            exact r_weak (L1 := [some (.ref a), some (.ref q), some (.int (x2 + 1)), none]) ⟨rfl, rfl, rfl, trivial⟩ (ih _ _ _ hk)
          · rw [if_neg c_35] at he
            replace hk := hk.2 c_35
            refine r_aload_n rfl rfl ?_
            refine r_iload_n rfl rfl ?_
            refine r_dup2 rfl rfl rfl ?_
            obtain ⟨hb1, hk⟩ := hk
            refine q_iald rfl hcq hb1 ?_
            refine r_iconst_ (a := 1) rfl (by decide) ?_
            refine r_iadd rfl ?_
            obtain ⟨hb2, hk⟩ := hk
            refine w_iast rfl hcq hb2 ?_
            refine r_iinc (b := x2 + 1) rfl rfl rfl (Nat.le_of_ble_eq_true rfl) rfl ?_
            refine r_goto rfl ?_
            subst he
            exact r_weak (L1 := [some (.ref a), some (.ref q), some (.int (x2 + 1)), none]) ⟨rfl, rfl, rfl, trivial⟩ (ih _ _ _ hk)

def f_X10_countAll (fu : Nat) (a : Nat) (q : Nat) (s : fl_I) (l : fl_L) : fl_I × fl_L :=
  f_X10_countAll_7 fu fu (0 : Int32) a q (fl_fill (0 : Int32) q 80 s l).1 (fl_fill (0 : Int32) q 80 s l).2

def p_X10_countAll (fu : Nat) (a : Nat) (q : Nat) (s : fl_I) (l : fl_L) : Prop :=
  p_X10_countAll_7 fu fu (0 : Int32) a q (fl_fill (0 : Int32) q 80 s l).1 (fl_fill (0 : Int32) q 80 s l).2

set_option maxRecDepth 100000 in
set_option maxHeartbeats 1000000 in
theorem s_X10_countAll {G : ab_G} {fu : Nat} {d : Nat} {D : fl_D} {s : fl_I} {l : fl_L} {a : Nat} (hya : isY D a) {q : Nat} (hcq : ∀ f g, cl D q f g = some (.inl (0, 80, .inl f)))  (hk : p_X10_countAll fu a q s l) : ab_C G (d + 1) 0 0 M_X10_countAll 0 (ab_ent [.ref a, .ref q]) [] (hp D s l) (rt none (hp D (f_X10_countAll fu a q s l).1 (f_X10_countAll fu a q s l).2)) := by
  generalize he : (f_X10_countAll fu a q s l) = res
  unfold f_X10_countAll at he
  unfold p_X10_countAll at hk
  refine r_weak (L1 := [some (.ref a), some (.ref q), none, none]) ⟨rfl, rfl, trivial⟩ ?_
  refine r_aload_n rfl rfl ?_
  refine r_iconst_ (a := 0) rfl (by decide) ?_
  refine r_callS0 [_, _] _ rfl kY_J7_fill_53178 kT_J7_fill_53178 rfl rfl (Nat.le_of_ble_eq_true rfl) (Nat.le_of_ble_eq_true rfl) (s_fill hcq (by omega)) (fun r h q => ?_)
  obtain ⟨rfl, rfl⟩ := q
  simp only [Option.toList, List.cons_append, List.nil_append]
  refine r_iconst_ (a := 0) rfl (by decide) ?_
  refine r_istore_n rfl (Nat.le_of_ble_eq_true rfl) rfl ?_
  subst he
  exact r_weak (L1 := [some (.ref a), some (.ref q), some (.int (0 : Int32)), none]) ⟨rfl, rfl, rfl, trivial⟩ (lp_X10_countAll_7 hya hcq fu _ _ _ hk)

def f_X11_feed (fu : Nat) (v0 : Int32) (v1 : Int32) (v2 : Int32) (v3 : Int32) (v4 : Int32) (s : fl_I) (l : fl_L) : Int32 × fl_I × fl_L :=
  if (((s 1 1) + (20 : Int32)) ≤ (2000 : Int32)) then (((f_X4_add fu v4 (f_X4_add fu v3 (f_X4_add fu v2 (f_X4_add fu v1 (f_X4_add fu v0 s l).1 (f_X4_add fu v0 s l).2).1 (f_X4_add fu v1 (f_X4_add fu v0 s l).1 (f_X4_add fu v0 s l).2).2).1 (f_X4_add fu v2 (f_X4_add fu v1 (f_X4_add fu v0 s l).1 (f_X4_add fu v0 s l).2).1 (f_X4_add fu v1 (f_X4_add fu v0 s l).1 (f_X4_add fu v0 s l).2).2).2).1 (f_X4_add fu v3 (f_X4_add fu v2 (f_X4_add fu v1 (f_X4_add fu v0 s l).1 (f_X4_add fu v0 s l).2).1 (f_X4_add fu v1 (f_X4_add fu v0 s l).1 (f_X4_add fu v0 s l).2).2).1 (f_X4_add fu v2 (f_X4_add fu v1 (f_X4_add fu v0 s l).1 (f_X4_add fu v0 s l).2).1 (f_X4_add fu v1 (f_X4_add fu v0 s l).1 (f_X4_add fu v0 s l).2).2).2).2).1 1 1), (f_X4_add fu v4 (f_X4_add fu v3 (f_X4_add fu v2 (f_X4_add fu v1 (f_X4_add fu v0 s l).1 (f_X4_add fu v0 s l).2).1 (f_X4_add fu v1 (f_X4_add fu v0 s l).1 (f_X4_add fu v0 s l).2).2).1 (f_X4_add fu v2 (f_X4_add fu v1 (f_X4_add fu v0 s l).1 (f_X4_add fu v0 s l).2).1 (f_X4_add fu v1 (f_X4_add fu v0 s l).1 (f_X4_add fu v0 s l).2).2).2).1 (f_X4_add fu v3 (f_X4_add fu v2 (f_X4_add fu v1 (f_X4_add fu v0 s l).1 (f_X4_add fu v0 s l).2).1 (f_X4_add fu v1 (f_X4_add fu v0 s l).1 (f_X4_add fu v0 s l).2).2).1 (f_X4_add fu v2 (f_X4_add fu v1 (f_X4_add fu v0 s l).1 (f_X4_add fu v0 s l).2).1 (f_X4_add fu v1 (f_X4_add fu v0 s l).1 (f_X4_add fu v0 s l).2).2).2).2).1, (f_X4_add fu v4 (f_X4_add fu v3 (f_X4_add fu v2 (f_X4_add fu v1 (f_X4_add fu v0 s l).1 (f_X4_add fu v0 s l).2).1 (f_X4_add fu v1 (f_X4_add fu v0 s l).1 (f_X4_add fu v0 s l).2).2).1 (f_X4_add fu v2 (f_X4_add fu v1 (f_X4_add fu v0 s l).1 (f_X4_add fu v0 s l).2).1 (f_X4_add fu v1 (f_X4_add fu v0 s l).1 (f_X4_add fu v0 s l).2).2).2).1 (f_X4_add fu v3 (f_X4_add fu v2 (f_X4_add fu v1 (f_X4_add fu v0 s l).1 (f_X4_add fu v0 s l).2).1 (f_X4_add fu v1 (f_X4_add fu v0 s l).1 (f_X4_add fu v0 s l).2).2).1 (f_X4_add fu v2 (f_X4_add fu v1 (f_X4_add fu v0 s l).1 (f_X4_add fu v0 s l).2).1 (f_X4_add fu v1 (f_X4_add fu v0 s l).1 (f_X4_add fu v0 s l).2).2).2).2).2) else ((-1 : Int32), s, l)

def p_X11_feed (fu : Nat) (v0 : Int32) (v1 : Int32) (v2 : Int32) (v3 : Int32) (v4 : Int32) (s : fl_I) (l : fl_L) : Prop :=
  (((((s 1 1) + (20 : Int32)) ≤ (2000 : Int32)) → (p_X4_add fu v0 s l) ∧ (p_X4_add fu v1 (f_X4_add fu v0 s l).1 (f_X4_add fu v0 s l).2) ∧ (p_X4_add fu v2 (f_X4_add fu v1 (f_X4_add fu v0 s l).1 (f_X4_add fu v0 s l).2).1 (f_X4_add fu v1 (f_X4_add fu v0 s l).1 (f_X4_add fu v0 s l).2).2) ∧ (p_X4_add fu v3 (f_X4_add fu v2 (f_X4_add fu v1 (f_X4_add fu v0 s l).1 (f_X4_add fu v0 s l).2).1 (f_X4_add fu v1 (f_X4_add fu v0 s l).1 (f_X4_add fu v0 s l).2).2).1 (f_X4_add fu v2 (f_X4_add fu v1 (f_X4_add fu v0 s l).1 (f_X4_add fu v0 s l).2).1 (f_X4_add fu v1 (f_X4_add fu v0 s l).1 (f_X4_add fu v0 s l).2).2).2) ∧ (p_X4_add fu v4 (f_X4_add fu v3 (f_X4_add fu v2 (f_X4_add fu v1 (f_X4_add fu v0 s l).1 (f_X4_add fu v0 s l).2).1 (f_X4_add fu v1 (f_X4_add fu v0 s l).1 (f_X4_add fu v0 s l).2).2).1 (f_X4_add fu v2 (f_X4_add fu v1 (f_X4_add fu v0 s l).1 (f_X4_add fu v0 s l).2).1 (f_X4_add fu v1 (f_X4_add fu v0 s l).1 (f_X4_add fu v0 s l).2).2).2).1 (f_X4_add fu v3 (f_X4_add fu v2 (f_X4_add fu v1 (f_X4_add fu v0 s l).1 (f_X4_add fu v0 s l).2).1 (f_X4_add fu v1 (f_X4_add fu v0 s l).1 (f_X4_add fu v0 s l).2).2).1 (f_X4_add fu v2 (f_X4_add fu v1 (f_X4_add fu v0 s l).1 (f_X4_add fu v0 s l).2).1 (f_X4_add fu v1 (f_X4_add fu v0 s l).1 (f_X4_add fu v0 s l).2).2).2).2) ∧ True) ∧ (¬ (((s 1 1) + (20 : Int32)) ≤ (2000 : Int32)) → True))

set_option maxRecDepth 100000 in
set_option maxHeartbeats 1000000 in
theorem s_X11_feed {G : ab_G} {fu : Nat} {d : Nat} {D : fl_D} {s : fl_I} {l : fl_L} {v0 : Int32} {v1 : Int32} {v2 : Int32} {v3 : Int32} {v4 : Int32} (hk : p_X11_feed fu v0 v1 v2 v3 v4 s l) : ab_C G (d + 1) 0 0 M_X11_feed 0 (ab_ent [.ref 0, .int v0, .int v1, .int v2, .int v3, .int v4]) [] (hp D s l) (rt (some (.int (f_X11_feed fu v0 v1 v2 v3 v4 s l).1)) (hp D (f_X11_feed fu v0 v1 v2 v3 v4 s l).2.1 (f_X11_feed fu v0 v1 v2 v3 v4 s l).2.2)) := by
  generalize he : (f_X11_feed fu v0 v1 v2 v3 v4 s l) = res
  unfold f_X11_feed at he
  unfold p_X11_feed at hk
  refine r_weak (L1 := [some (.ref 0), some (.int v0), some (.int v1), some (.int v2), some (.int v3), some (.int v4)]) ⟨rfl, rfl, rfl, rfl, rfl, rfl, trivial⟩ ?_
  refine r_aload_n rfl rfl ?_
  refine q_getfield rfl (cc_0 _) rfl ?_
  refine q_getfield rfl (cc_1 _) rfl ?_
  refine r_bipush_ (a := 20) rfl (by decide) ?_
  refine r_iadd rfl ?_
  refine r_sipush_ (a := 2000) rfl (by decide) ?_
  refine r_icmp_le rfl (fun c_13 => ?_) (fun c_13 => ?_)
  · rw [if_pos c_13] at he
    replace hk := hk.1 c_13
    refine r_aload_n rfl rfl ?_
    refine q_getfield rfl (cc_0 _) rfl ?_
    refine r_iload_n rfl rfl ?_
    obtain ⟨hb0, hk⟩ := hk
    refine q_callV0 [_] _ rfl kY_X4_add kT_X4_add rfl rfl (Nat.le_of_ble_eq_true rfl) (Nat.le_of_ble_eq_true rfl) (cc_1 _) (s_X4_add hb0) (fun r h q => ?_)
    obtain ⟨rfl, rfl⟩ := q
    simp only [Option.toList, List.cons_append, List.nil_append]
    refine r_aload_n rfl rfl ?_
    refine q_getfield rfl (cc_0 _) rfl ?_
    refine r_iload_n rfl rfl ?_
    obtain ⟨hb1, hk⟩ := hk
    refine q_callV0 [_] _ rfl kY_X4_add kT_X4_add rfl rfl (Nat.le_of_ble_eq_true rfl) (Nat.le_of_ble_eq_true rfl) (cc_1 _) (s_X4_add hb1) (fun r h q => ?_)
    obtain ⟨rfl, rfl⟩ := q
    simp only [Option.toList, List.cons_append, List.nil_append]
    refine r_aload_n rfl rfl ?_
    refine q_getfield rfl (cc_0 _) rfl ?_
    refine r_iload_n rfl rfl ?_
    obtain ⟨hb2, hk⟩ := hk
    refine q_callV0 [_] _ rfl kY_X4_add kT_X4_add rfl rfl (Nat.le_of_ble_eq_true rfl) (Nat.le_of_ble_eq_true rfl) (cc_1 _) (s_X4_add hb2) (fun r h q => ?_)
    obtain ⟨rfl, rfl⟩ := q
    simp only [Option.toList, List.cons_append, List.nil_append]
    refine r_aload_n rfl rfl ?_
    refine q_getfield rfl (cc_0 _) rfl ?_
    refine r_iload rfl rfl ?_
    obtain ⟨hb3, hk⟩ := hk
    refine q_callV0 [_] _ rfl kY_X4_add kT_X4_add rfl rfl (Nat.le_of_ble_eq_true rfl) (Nat.le_of_ble_eq_true rfl) (cc_1 _) (s_X4_add hb3) (fun r h q => ?_)
    obtain ⟨rfl, rfl⟩ := q
    simp only [Option.toList, List.cons_append, List.nil_append]
    refine r_aload_n rfl rfl ?_
    refine q_getfield rfl (cc_0 _) rfl ?_
    refine r_iload rfl rfl ?_
    obtain ⟨hb4, hk⟩ := hk
    refine q_callV0 [_] _ rfl kY_X4_add kT_X4_add rfl rfl (Nat.le_of_ble_eq_true rfl) (Nat.le_of_ble_eq_true rfl) (cc_1 _) (s_X4_add hb4) (fun r h q => ?_)
    obtain ⟨rfl, rfl⟩ := q
    simp only [Option.toList, List.cons_append, List.nil_append]
    refine r_aload_n rfl rfl ?_
    refine q_getfield rfl (cc_0 _) rfl ?_
    refine q_getfield rfl (cc_1 _) rfl ?_
    refine r_iret rfl rfl rfl ?_
    first | with_reducible exact fin_i he | exact fin_i he
  · rw [if_neg c_13] at he
    replace hk := hk.2 c_13
    refine r_iconst_ (a := -1) rfl (by decide) ?_
    refine r_iret rfl rfl rfl ?_
    first | with_reducible exact fin_i he | exact fin_i he

