def f_X11_together (fu : Nat) (v0 : Int32) (D : fl_D) (s : fl_I) (l : fl_L) : Int32 × fl_I × fl_L :=
  if (v0 < 0) then ((-1 : Int32), s, l) else if (v0 ≤ (1 : Int32)) then if (v0 = 0) then ((f_J6_bitCount_0f7a4 fu (f_X0_mostAtOnce fu (if D.2.2.1 then 20 else 9) (f_X0_gather fu (5 : Int32) (if D.2.2.1 then 20 else 9) 31 s l).1 (f_X0_gather fu (5 : Int32) (if D.2.2.1 then 20 else 9) 31 s l).2).1), (f_X0_mostAtOnce fu (if D.2.2.1 then 20 else 9) (f_X0_gather fu (5 : Int32) (if D.2.2.1 then 20 else 9) 31 s l).1 (f_X0_gather fu (5 : Int32) (if D.2.2.1 then 20 else 9) 31 s l).2).2.1, (f_X0_mostAtOnce fu (if D.2.2.1 then 20 else 9) (f_X0_gather fu (5 : Int32) (if D.2.2.1 then 20 else 9) 31 s l).1 (f_X0_gather fu (5 : Int32) (if D.2.2.1 then 20 else 9) 31 s l).2).2.2) else ((f_X0_mostAtOnce fu (if D.2.2.1 then 20 else 9) (f_X0_gather fu (5 : Int32) (if D.2.2.1 then 20 else 9) 31 s l).1 (f_X0_gather fu (5 : Int32) (if D.2.2.1 then 20 else 9) 31 s l).2).1, (f_X0_mostAtOnce fu (if D.2.2.1 then 20 else 9) (f_X0_gather fu (5 : Int32) (if D.2.2.1 then 20 else 9) 31 s l).1 (f_X0_gather fu (5 : Int32) (if D.2.2.1 then 20 else 9) 31 s l).2).2.1, (f_X0_mostAtOnce fu (if D.2.2.1 then 20 else 9) (f_X0_gather fu (5 : Int32) (if D.2.2.1 then 20 else 9) 31 s l).1 (f_X0_gather fu (5 : Int32) (if D.2.2.1 then 20 else 9) 31 s l).2).2.2) else ((-1 : Int32), s, l)

def p_X11_together (fu : Nat) (v0 : Int32) (D : fl_D) (s : fl_I) (l : fl_L) : Prop :=
  (((v0 < 0) → True) ∧ (¬ (v0 < 0) → (((v0 ≤ (1 : Int32)) → (p_X0_gather fu (5 : Int32) (if D.2.2.1 then 20 else 9) 31 s l) ∧ (p_X0_mostAtOnce fu (if D.2.2.1 then 20 else 9) (f_X0_gather fu (5 : Int32) (if D.2.2.1 then 20 else 9) 31 s l).1 (f_X0_gather fu (5 : Int32) (if D.2.2.1 then 20 else 9) 31 s l).2) ∧ (((v0 = 0) → (p_J6_bitCount_0f7a4 fu (f_X0_mostAtOnce fu (if D.2.2.1 then 20 else 9) (f_X0_gather fu (5 : Int32) (if D.2.2.1 then 20 else 9) 31 s l).1 (f_X0_gather fu (5 : Int32) (if D.2.2.1 then 20 else 9) 31 s l).2).1) ∧ True) ∧ (¬ (v0 = 0) → True))) ∧ (¬ (v0 ≤ (1 : Int32)) → True))))

set_option maxRecDepth 100000 in
set_option maxHeartbeats 1000000 in
theorem s_X11_together {G : ab_G} {fu : Nat} {d : Nat} {D : fl_D} {s : fl_I} {l : fl_L} {v0 : Int32} (hk : p_X11_together fu v0 D s l) : ab_C G (d + 5) 0 0 M_X11_together 0 (ab_ent [.ref 0, .int v0]) [] (hp D s l) (rt (some (.int (f_X11_together fu v0 D s l).1)) (hp D (f_X11_together fu v0 D s l).2.1 (f_X11_together fu v0 D s l).2.2)) := by
  generalize he : (f_X11_together fu v0 D s l) = res
  unfold f_X11_together at he
  unfold p_X11_together at hk
  refine r_weak (L1 := [some (.ref 0), some (.int v0), none]) ⟨rfl, rfl, trivial⟩ ?_
  refine r_iload_n rfl rfl ?_
  refine r_if_lt rfl (fun c_1 => ?_) (fun c_1 => ?_)
  · rw [if_pos c_1] at he
    replace hk := hk.1 c_1
    refine r_iconst_ (a := -1) rfl (by decide) ?_
    refine r_iret rfl rfl rfl ?_
    first | with_reducible exact fin_i he | exact fin_i he
  · rw [if_neg c_1] at he
    replace hk := hk.2 c_1
    refine r_iload_n rfl rfl ?_
    refine r_iconst_ (a := 1) rfl (by decide) ?_
    refine r_icmp_le rfl (fun c_6 => ?_) (fun c_6 => ?_)
    · rw [if_pos c_6] at he
      replace hk := hk.1 c_6
      refine r_aload_n rfl rfl ?_
      refine q_getfield rfl (cc_0 _) rfl ?_
      refine r_aload_n rfl rfl ?_
      refine q_getfield rfl (cc_0 _) rfl ?_
      refine r_aload_n rfl rfl ?_
      refine q_getfield rfl (cc_0 _) rfl ?_
      refine r_iconst_ (a := 5) rfl (by decide) ?_
      obtain ⟨hb0, hk⟩ := hk
      refine q_callV0 [_, _, _] _ rfl kY_X0_gather kT_X0_gather rfl rfl (Nat.le_of_ble_eq_true rfl) (Nat.le_of_ble_eq_true rfl) (cc_55 _) (s_X0_gather (isT_l _) (Or.inl rfl) hb0) (fun r h q => ?_)
      obtain ⟨rfl, rfl⟩ := q
      simp only [Option.toList, List.cons_append, List.nil_append]
      refine r_aload_n rfl rfl ?_
      refine q_getfield rfl (cc_0 _) rfl ?_
      refine r_aload_n rfl rfl ?_
      refine q_getfield rfl (cc_0 _) rfl ?_
      obtain ⟨hb1, hk⟩ := hk
      refine q_callV0 [_] _ rfl kY_X0_mostAtOnce kT_X0_mostAtOnce rfl rfl (Nat.le_of_ble_eq_true rfl) (Nat.le_of_ble_eq_true rfl) (cc_55 _) (s_X0_mostAtOnce (isT_l _) hb1) (fun r h q => ?_)
      obtain ⟨rfl, rfl⟩ := q
      simp only [Option.toList, List.cons_append, List.nil_append]
      refine r_istore_n rfl (Nat.le_of_ble_eq_true rfl) rfl ?_
      refine r_iload_n rfl rfl ?_
      refine r_if_ne rfl (fun c_40 => ?_) (fun c_40 => ?_)
      · rw [if_neg c_40] at he
        replace hk := hk.2 c_40
        refine r_iload_n rfl rfl ?_
        refine r_iret rfl rfl rfl ?_
        first | with_reducible exact fin_i he | exact fin_i he
      · rw [if_pos c_40] at he
        replace hk := hk.1 c_40
        refine r_iload_n rfl rfl ?_
        obtain ⟨hb2, hk⟩ := hk
        refine r_callS0 [_] _ rfl kY_J6_bitCount_0f7a4 kT_J6_bitCount_0f7a4 rfl rfl (Nat.le_of_ble_eq_true rfl) (Nat.le_of_ble_eq_true rfl) (s_J6_bitCount_0f7a4 hb2) (fun r h q => ?_)
        obtain ⟨rfl, rfl⟩ := q
        simp only [Option.toList, List.cons_append, List.nil_append]
        refine r_goto rfl ?_
        refine r_iret rfl rfl rfl ?_
        first | with_reducible exact fin_i he | exact fin_i he
    · rw [if_neg c_6] at he
      replace hk := hk.2 c_6
      refine r_iconst_ (a := -1) rfl (by decide) ?_
      refine r_iret rfl rfl rfl ?_
      first | with_reducible exact fin_i he | exact fin_i he

def f_X11_written (fu : Nat) (v0 : Int32) (v1 : Int32) (D : fl_D) (s : fl_I) (l : fl_L) : Int32 :=
  if (v0 < 0) then (-1 : Int32) else if ((s 57 0) < v0) then (-1 : Int32) else if (v1 < 0) then (-1 : Int32) else if (v1 ≤ (1 : Int32)) then if (v1 = 0) then (f_J6_bitCount_0f7a4 fu (f_X7_left fu v0 (if D.2.2.1 then 20 else 9) s l)) else (f_X7_left fu v0 (if D.2.2.1 then 20 else 9) s l) else (-1 : Int32)

def p_X11_written (fu : Nat) (v0 : Int32) (v1 : Int32) (D : fl_D) (s : fl_I) (l : fl_L) : Prop :=
  (((v0 < 0) → True) ∧ (¬ (v0 < 0) → ((((s 57 0) < v0) → True) ∧ (¬ ((s 57 0) < v0) → (((v1 < 0) → True) ∧ (¬ (v1 < 0) → (((v1 ≤ (1 : Int32)) → (p_X7_left fu v0 (if D.2.2.1 then 20 else 9) s l) ∧ (((v1 = 0) → (p_J6_bitCount_0f7a4 fu (f_X7_left fu v0 (if D.2.2.1 then 20 else 9) s l)) ∧ True) ∧ (¬ (v1 = 0) → True))) ∧ (¬ (v1 ≤ (1 : Int32)) → True))))))))

set_option maxRecDepth 100000 in
set_option maxHeartbeats 1000000 in
theorem s_X11_written {G : ab_G} {fu : Nat} {d : Nat} {D : fl_D} {s : fl_I} {l : fl_L} {v0 : Int32} {v1 : Int32} (hk : p_X11_written fu v0 v1 D s l) : ab_C G (d + 4) 0 0 M_X11_written 0 (ab_ent [.ref 0, .int v0, .int v1]) [] (hp D s l) (rt (some (.int (f_X11_written fu v0 v1 D s l))) (hp D s l)) := by
  generalize he : (f_X11_written fu v0 v1 D s l) = res
  unfold f_X11_written at he
  unfold p_X11_written at hk
  refine r_weak (L1 := [some (.ref 0), some (.int v0), some (.int v1), none]) ⟨rfl, rfl, rfl, trivial⟩ ?_
  refine r_iload_n rfl rfl ?_
  refine r_if_lt rfl (fun c_1 => ?_) (fun c_1 => ?_)
  · rw [if_pos c_1] at he
    replace hk := hk.1 c_1
    refine r_iconst_ (a := -1) rfl (by decide) ?_
    refine r_iret rfl rfl rfl ?_
    first | with_reducible exact fin_ri he | exact fin_ri he
  · rw [if_neg c_1] at he
    replace hk := hk.2 c_1
    refine r_iload_n rfl rfl ?_
    refine r_aload_n rfl rfl ?_
    refine q_getfield rfl (cc_0 _) rfl ?_
    refine q_getfield rfl (cc_57 _) rfl ?_
    refine r_icmp_gt rfl (fun c_12 => ?_) (fun c_12 => ?_)
    · rw [if_pos c_12] at he
      replace hk := hk.1 c_12
      refine r_iconst_ (a := -1) rfl (by decide) ?_
      refine r_iret rfl rfl rfl ?_
      first | with_reducible exact fin_ri he | exact fin_ri he
    · rw [if_neg c_12] at he
      replace hk := hk.2 c_12
      refine r_iload_n rfl rfl ?_
      refine r_if_lt rfl (fun c_16 => ?_) (fun c_16 => ?_)
      · rw [if_pos c_16] at he
        replace hk := hk.1 c_16
        refine r_iconst_ (a := -1) rfl (by decide) ?_
        refine r_iret rfl rfl rfl ?_
        first | with_reducible exact fin_ri he | exact fin_ri he
      · rw [if_neg c_16] at he
        replace hk := hk.2 c_16
        refine r_iload_n rfl rfl ?_
        refine r_iconst_ (a := 1) rfl (by decide) ?_
        refine r_icmp_le rfl (fun c_21 => ?_) (fun c_21 => ?_)
        · rw [if_pos c_21] at he
          replace hk := hk.1 c_21
          refine r_aload_n rfl rfl ?_
          refine q_getfield rfl (cc_0 _) rfl ?_
          refine r_aload_n rfl rfl ?_
          refine q_getfield rfl (cc_0 _) rfl ?_
          refine r_iload_n rfl rfl ?_
          obtain ⟨hb0, hk⟩ := hk
          refine q_callV0 [_, _] _ rfl kY_X7_left kT_X7_left rfl rfl (Nat.le_of_ble_eq_true rfl) (Nat.le_of_ble_eq_true rfl) (cc_57 _) (s_X7_left (isT_l _) hb0) (fun r h q => ?_)
          obtain ⟨rfl, rfl⟩ := q
          simp only [Option.toList, List.cons_append, List.nil_append]
          refine r_istore_n rfl (Nat.le_of_ble_eq_true rfl) rfl ?_
          refine r_iload_n rfl rfl ?_
          refine r_if_ne rfl (fun c_40 => ?_) (fun c_40 => ?_)
          · rw [if_neg c_40] at he
            replace hk := hk.2 c_40
            refine r_iload_n rfl rfl ?_
            refine r_iret rfl rfl rfl ?_
            first | with_reducible exact fin_ri he | exact fin_ri he
          · rw [if_pos c_40] at he
            replace hk := hk.1 c_40
            refine r_iload_n rfl rfl ?_
            obtain ⟨hb1, hk⟩ := hk
            refine r_callS0 [_] _ rfl kY_J6_bitCount_0f7a4 kT_J6_bitCount_0f7a4 rfl rfl (Nat.le_of_ble_eq_true rfl) (Nat.le_of_ble_eq_true rfl) (s_J6_bitCount_0f7a4 hb1) (fun r h q => ?_)
            obtain ⟨rfl, rfl⟩ := q
            simp only [Option.toList, List.cons_append, List.nil_append]
            refine r_goto rfl ?_
            refine r_iret rfl rfl rfl ?_
            first | with_reducible exact fin_ri he | exact fin_ri he
        · rw [if_neg c_21] at he
          replace hk := hk.2 c_21
          refine r_iconst_ (a := -1) rfl (by decide) ?_
          refine r_iret rfl rfl rfl ?_
          first | with_reducible exact fin_ri he | exact fin_ri he

def f_X3_windTold (fu : Nat) (t : Nat) (s : fl_I) (l : fl_L) : Int32 × fl_I × fl_L :=
  if ((f_X3_take fu (262 : Int32) s l).1 = 0) then ((0 : Int32), (f_X3_take fu (262 : Int32) s l).2.1, (f_X3_take fu (262 : Int32) s l).2.2) else if ((f_X3_takeStep fu (f_X3_take fu (262 : Int32) s l).2.1 (f_X3_take fu (262 : Int32) s l).2.2).1 = 0) then ((0 : Int32), (f_X3_takeStep fu (f_X3_take fu (262 : Int32) s l).2.1 (f_X3_take fu (262 : Int32) s l).2.2).2.1, (f_X3_takeStep fu (f_X3_take fu (262 : Int32) s l).2.1 (f_X3_take fu (262 : Int32) s l).2.2).2.2) else if ((f_X3_takeStep fu (f_X3_takeStep fu (f_X3_take fu (262 : Int32) s l).2.1 (f_X3_take fu (262 : Int32) s l).2.2).2.1 (f_X3_takeStep fu (f_X3_take fu (262 : Int32) s l).2.1 (f_X3_take fu (262 : Int32) s l).2.2).2.2).1 = 0) then ((0 : Int32), (f_X3_takeStep fu (f_X3_takeStep fu (f_X3_take fu (262 : Int32) s l).2.1 (f_X3_take fu (262 : Int32) s l).2.2).2.1 (f_X3_takeStep fu (f_X3_take fu (262 : Int32) s l).2.1 (f_X3_take fu (262 : Int32) s l).2.2).2.2).2.1, (f_X3_takeStep fu (f_X3_takeStep fu (f_X3_take fu (262 : Int32) s l).2.1 (f_X3_take fu (262 : Int32) s l).2.2).2.1 (f_X3_takeStep fu (f_X3_take fu (262 : Int32) s l).2.1 (f_X3_take fu (262 : Int32) s l).2.2).2.2).2.2) else if ((f_X3_take fu (59 : Int32) (f_X3_takeStep fu (f_X3_takeStep fu (f_X3_take fu (262 : Int32) s l).2.1 (f_X3_take fu (262 : Int32) s l).2.2).2.1 (f_X3_takeStep fu (f_X3_take fu (262 : Int32) s l).2.1 (f_X3_take fu (262 : Int32) s l).2.2).2.2).2.1 (f_X3_takeStep fu (f_X3_takeStep fu (f_X3_take fu (262 : Int32) s l).2.1 (f_X3_take fu (262 : Int32) s l).2.2).2.1 (f_X3_takeStep fu (f_X3_take fu (262 : Int32) s l).2.1 (f_X3_take fu (262 : Int32) s l).2.2).2.2).2.2).1 = 0) then ((0 : Int32), (f_X3_take fu (59 : Int32) (f_X3_takeStep fu (f_X3_takeStep fu (f_X3_take fu (262 : Int32) s l).2.1 (f_X3_take fu (262 : Int32) s l).2.2).2.1 (f_X3_takeStep fu (f_X3_take fu (262 : Int32) s l).2.1 (f_X3_take fu (262 : Int32) s l).2.2).2.2).2.1 (f_X3_takeStep fu (f_X3_takeStep fu (f_X3_take fu (262 : Int32) s l).2.1 (f_X3_take fu (262 : Int32) s l).2.2).2.1 (f_X3_takeStep fu (f_X3_take fu (262 : Int32) s l).2.1 (f_X3_take fu (262 : Int32) s l).2.2).2.2).2.2).2.1, (f_X3_take fu (59 : Int32) (f_X3_takeStep fu (f_X3_takeStep fu (f_X3_take fu (262 : Int32) s l).2.1 (f_X3_take fu (262 : Int32) s l).2.2).2.1 (f_X3_takeStep fu (f_X3_take fu (262 : Int32) s l).2.1 (f_X3_take fu (262 : Int32) s l).2.2).2.2).2.1 (f_X3_takeStep fu (f_X3_takeStep fu (f_X3_take fu (262 : Int32) s l).2.1 (f_X3_take fu (262 : Int32) s l).2.2).2.1 (f_X3_takeStep fu (f_X3_take fu (262 : Int32) s l).2.1 (f_X3_take fu (262 : Int32) s l).2.2).2.2).2.2).2.2) else ((1 : Int32), (wi (wi (f_X3_take fu (59 : Int32) (f_X3_takeStep fu (f_X3_takeStep fu (f_X3_take fu (262 : Int32) s l).2.1 (f_X3_take fu (262 : Int32) s l).2.2).2.1 (f_X3_takeStep fu (f_X3_take fu (262 : Int32) s l).2.1 (f_X3_take fu (262 : Int32) s l).2.2).2.2).2.1 (f_X3_takeStep fu (f_X3_takeStep fu (f_X3_take fu (262 : Int32) s l).2.1 (f_X3_take fu (262 : Int32) s l).2.2).2.1 (f_X3_takeStep fu (f_X3_take fu (262 : Int32) s l).2.1 (f_X3_take fu (262 : Int32) s l).2.2).2.2).2.2).2.1 t 15 ((f_X3_takeStep fu (f_X3_take fu (262 : Int32) s l).2.1 (f_X3_take fu (262 : Int32) s l).2.2).2.1 3 6)) t 16 ((wi (f_X3_take fu (59 : Int32) (f_X3_takeStep fu (f_X3_takeStep fu (f_X3_take fu (262 : Int32) s l).2.1 (f_X3_take fu (262 : Int32) s l).2.2).2.1 (f_X3_takeStep fu (f_X3_take fu (262 : Int32) s l).2.1 (f_X3_take fu (262 : Int32) s l).2.2).2.2).2.1 (f_X3_takeStep fu (f_X3_takeStep fu (f_X3_take fu (262 : Int32) s l).2.1 (f_X3_take fu (262 : Int32) s l).2.2).2.1 (f_X3_takeStep fu (f_X3_take fu (262 : Int32) s l).2.1 (f_X3_take fu (262 : Int32) s l).2.2).2.2).2.2).2.1 t 15 ((f_X3_takeStep fu (f_X3_take fu (262 : Int32) s l).2.1 (f_X3_take fu (262 : Int32) s l).2.2).2.1 3 6)) 3 6)), (f_X3_take fu (59 : Int32) (f_X3_takeStep fu (f_X3_takeStep fu (f_X3_take fu (262 : Int32) s l).2.1 (f_X3_take fu (262 : Int32) s l).2.2).2.1 (f_X3_takeStep fu (f_X3_take fu (262 : Int32) s l).2.1 (f_X3_take fu (262 : Int32) s l).2.2).2.2).2.1 (f_X3_takeStep fu (f_X3_takeStep fu (f_X3_take fu (262 : Int32) s l).2.1 (f_X3_take fu (262 : Int32) s l).2.2).2.1 (f_X3_takeStep fu (f_X3_take fu (262 : Int32) s l).2.1 (f_X3_take fu (262 : Int32) s l).2.2).2.2).2.2).2.2)

def p_X3_windTold (fu : Nat) (t : Nat) (s : fl_I) (l : fl_L) : Prop :=
  (p_X3_take fu (262 : Int32) s l) ∧ ((((f_X3_take fu (262 : Int32) s l).1 = 0) → True) ∧ (¬ ((f_X3_take fu (262 : Int32) s l).1 = 0) → (p_X3_takeStep fu (f_X3_take fu (262 : Int32) s l).2.1 (f_X3_take fu (262 : Int32) s l).2.2) ∧ ((((f_X3_takeStep fu (f_X3_take fu (262 : Int32) s l).2.1 (f_X3_take fu (262 : Int32) s l).2.2).1 = 0) → True) ∧ (¬ ((f_X3_takeStep fu (f_X3_take fu (262 : Int32) s l).2.1 (f_X3_take fu (262 : Int32) s l).2.2).1 = 0) → (p_X3_takeStep fu (f_X3_takeStep fu (f_X3_take fu (262 : Int32) s l).2.1 (f_X3_take fu (262 : Int32) s l).2.2).2.1 (f_X3_takeStep fu (f_X3_take fu (262 : Int32) s l).2.1 (f_X3_take fu (262 : Int32) s l).2.2).2.2) ∧ ((((f_X3_takeStep fu (f_X3_takeStep fu (f_X3_take fu (262 : Int32) s l).2.1 (f_X3_take fu (262 : Int32) s l).2.2).2.1 (f_X3_takeStep fu (f_X3_take fu (262 : Int32) s l).2.1 (f_X3_take fu (262 : Int32) s l).2.2).2.2).1 = 0) → True) ∧ (¬ ((f_X3_takeStep fu (f_X3_takeStep fu (f_X3_take fu (262 : Int32) s l).2.1 (f_X3_take fu (262 : Int32) s l).2.2).2.1 (f_X3_takeStep fu (f_X3_take fu (262 : Int32) s l).2.1 (f_X3_take fu (262 : Int32) s l).2.2).2.2).1 = 0) → (p_X3_take fu (59 : Int32) (f_X3_takeStep fu (f_X3_takeStep fu (f_X3_take fu (262 : Int32) s l).2.1 (f_X3_take fu (262 : Int32) s l).2.2).2.1 (f_X3_takeStep fu (f_X3_take fu (262 : Int32) s l).2.1 (f_X3_take fu (262 : Int32) s l).2.2).2.2).2.1 (f_X3_takeStep fu (f_X3_takeStep fu (f_X3_take fu (262 : Int32) s l).2.1 (f_X3_take fu (262 : Int32) s l).2.2).2.1 (f_X3_takeStep fu (f_X3_take fu (262 : Int32) s l).2.1 (f_X3_take fu (262 : Int32) s l).2.2).2.2).2.2) ∧ ((((f_X3_take fu (59 : Int32) (f_X3_takeStep fu (f_X3_takeStep fu (f_X3_take fu (262 : Int32) s l).2.1 (f_X3_take fu (262 : Int32) s l).2.2).2.1 (f_X3_takeStep fu (f_X3_take fu (262 : Int32) s l).2.1 (f_X3_take fu (262 : Int32) s l).2.2).2.2).2.1 (f_X3_takeStep fu (f_X3_takeStep fu (f_X3_take fu (262 : Int32) s l).2.1 (f_X3_take fu (262 : Int32) s l).2.2).2.1 (f_X3_takeStep fu (f_X3_take fu (262 : Int32) s l).2.1 (f_X3_take fu (262 : Int32) s l).2.2).2.2).2.2).1 = 0) → True) ∧ (¬ ((f_X3_take fu (59 : Int32) (f_X3_takeStep fu (f_X3_takeStep fu (f_X3_take fu (262 : Int32) s l).2.1 (f_X3_take fu (262 : Int32) s l).2.2).2.1 (f_X3_takeStep fu (f_X3_take fu (262 : Int32) s l).2.1 (f_X3_take fu (262 : Int32) s l).2.2).2.2).2.1 (f_X3_takeStep fu (f_X3_takeStep fu (f_X3_take fu (262 : Int32) s l).2.1 (f_X3_take fu (262 : Int32) s l).2.2).2.1 (f_X3_takeStep fu (f_X3_take fu (262 : Int32) s l).2.1 (f_X3_take fu (262 : Int32) s l).2.2).2.2).2.2).1 = 0) → True))))))))

set_option maxRecDepth 100000 in
set_option maxHeartbeats 1000000 in
theorem s_X3_windTold {G : ab_G} {fu : Nat} {d : Nat} {D : fl_D} {s : fl_I} {l : fl_L} {t : Nat} (htt : isT t)  (hk : p_X3_windTold fu t s l) : ab_C G (d + 4) 0 0 M_X3_windTold 0 (ab_ent [.ref 3, .ref t]) [] (hp D s l) (rt (some (.int (f_X3_windTold fu t s l).1)) (hp D (f_X3_windTold fu t s l).2.1 (f_X3_windTold fu t s l).2.2)) := by
  generalize he : (f_X3_windTold fu t s l) = res
  unfold f_X3_windTold at he
  unfold p_X3_windTold at hk
  refine r_weak (L1 := [some (.ref 3), some (.ref t), none]) ⟨rfl, rfl, trivial⟩ ?_
  refine r_aload_n rfl rfl ?_
  refine r_sipush_ (a := 262) rfl (by decide) ?_
  obtain ⟨hb0, hk⟩ := hk
  refine q_callV0 [_] _ rfl kY_X3_take kT_X3_take rfl rfl (Nat.le_of_ble_eq_true rfl) (Nat.le_of_ble_eq_true rfl) (cc_3 _) (s_X3_take hb0) (fun r h q => ?_)
  obtain ⟨rfl, rfl⟩ := q
  simp only [Option.toList, List.cons_append, List.nil_append]
  refine r_if_eq rfl (fun c_7 => ?_) (fun c_7 => ?_)
  · rw [if_pos c_7] at he
    replace hk := hk.1 c_7
    refine r_iconst_ (a := 0) rfl (by decide) ?_
    refine r_iret rfl rfl rfl ?_
    first | with_reducible exact fin_i he | exact fin_i he
  · rw [if_neg c_7] at he
    replace hk := hk.2 c_7
    refine r_aload_n rfl rfl ?_
    obtain ⟨hb1, hk⟩ := hk
    refine q_callV0 [] _ rfl kY_X3_takeStep kT_X3_takeStep rfl rfl (Nat.le_of_ble_eq_true rfl) (Nat.le_of_ble_eq_true rfl) (cc_3 _) (s_X3_takeStep hb1) (fun r h q => ?_)
    obtain ⟨rfl, rfl⟩ := q
    simp only [Option.toList, List.cons_append, List.nil_append]
    refine r_if_ne rfl (fun c_14 => ?_) (fun c_14 => ?_)
    · rw [if_neg c_14] at he
      replace hk := hk.2 c_14
      refine r_aload_n rfl rfl ?_
      refine q_getfield rfl (cc_3 _) rfl ?_
      refine r_istore_n rfl (Nat.le_of_ble_eq_true rfl) rfl ?_
      refine r_aload_n rfl rfl ?_
      obtain ⟨hb2, hk⟩ := hk
      refine q_callV0 [] _ rfl kY_X3_takeStep kT_X3_takeStep rfl rfl (Nat.le_of_ble_eq_true rfl) (Nat.le_of_ble_eq_true rfl) (cc_3 _) (s_X3_takeStep hb2) (fun r h q => ?_)
      obtain ⟨rfl, rfl⟩ := q
      simp only [Option.toList, List.cons_append, List.nil_append]
      refine r_if_eq rfl (fun c_28 => ?_) (fun c_28 => ?_)
      · rw [if_pos c_28] at he
        replace hk := hk.1 c_28
        refine r_iconst_ (a := 0) rfl (by decide) ?_
        refine r_iret rfl rfl rfl ?_
        first | with_reducible exact fin_i he | exact fin_i he
      · rw [if_neg c_28] at he
        replace hk := hk.2 c_28
        refine r_aload_n rfl rfl ?_
        refine r_bipush_ (a := 59) rfl (by decide) ?_
        obtain ⟨hb3, hk⟩ := hk
        refine q_callV0 [_] _ rfl kY_X3_take kT_X3_take rfl rfl (Nat.le_of_ble_eq_true rfl) (Nat.le_of_ble_eq_true rfl) (cc_3 _) (s_X3_take hb3) (fun r h q => ?_)
        obtain ⟨rfl, rfl⟩ := q
        simp only [Option.toList, List.cons_append, List.nil_append]
        refine r_if_ne rfl (fun c_37 => ?_) (fun c_37 => ?_)
        · rw [if_neg c_37] at he
          replace hk := hk.2 c_37
          refine r_aload_n rfl rfl ?_
          refine r_iload_n rfl rfl ?_
          refine w_put rfl (cT_0 htt) ff_5_15 ft_5_15 (fun _ _ => (Nat.le_of_ble_eq_true rfl)) (fun _ _ => rfl) ?_
          refine r_aload_n rfl rfl ?_
          refine r_aload_n rfl rfl ?_
          refine q_getfield rfl (cc_3 _) rfl ?_
          refine w_put rfl (cT_0 htt) ff_5_16 ft_5_16 (fun _ _ => (Nat.le_of_ble_eq_true rfl)) (fun _ _ => rfl) ?_
          refine r_iconst_ (a := 1) rfl (by decide) ?_
          refine r_iret rfl rfl rfl ?_
          first | with_reducible exact fin_i he | exact fin_i he
        · rw [if_pos c_37] at he
          replace hk := hk.1 c_37
          refine r_iconst_ (a := 0) rfl (by decide) ?_
          refine r_iret rfl rfl rfl ?_
          first | with_reducible exact fin_i he | exact fin_i he
    · rw [if_pos c_14] at he
      replace hk := hk.1 c_14
      refine r_iconst_ (a := 0) rfl (by decide) ?_
      refine r_iret rfl rfl rfl ?_
      first | with_reducible exact fin_i he | exact fin_i he

def f_X11_missing (fu : Nat) (v0 : Int32) (v1 : Int32) (D : fl_D) (s : fl_I) (l : fl_L) : Int32 × fl_I × fl_L :=
  if (v0 < 0) then ((-1 : Int32), s, l) else if ((s (if D.2.2.1 then 20 else 9) 1) ≤ v0) then ((-1 : Int32), s, l) else if ((f_X11_isHeap fu v1 s l) = 0) then ((-1 : Int32), s, l) else ((f_X0_lacks fu ((f_X0_gather fu v1 (if D.2.2.1 then 20 else 9) 31 s l).2 ((if D.2.2.1 then 20 else 9) + 2) v0.toNatClampNeg) (f_X0_gather fu v1 (if D.2.2.1 then 20 else 9) 31 s l).1 (f_X0_gather fu v1 (if D.2.2.1 then 20 else 9) 31 s l).2).1, (f_X0_lacks fu ((f_X0_gather fu v1 (if D.2.2.1 then 20 else 9) 31 s l).2 ((if D.2.2.1 then 20 else 9) + 2) v0.toNatClampNeg) (f_X0_gather fu v1 (if D.2.2.1 then 20 else 9) 31 s l).1 (f_X0_gather fu v1 (if D.2.2.1 then 20 else 9) 31 s l).2).2.1, (f_X0_lacks fu ((f_X0_gather fu v1 (if D.2.2.1 then 20 else 9) 31 s l).2 ((if D.2.2.1 then 20 else 9) + 2) v0.toNatClampNeg) (f_X0_gather fu v1 (if D.2.2.1 then 20 else 9) 31 s l).1 (f_X0_gather fu v1 (if D.2.2.1 then 20 else 9) 31 s l).2).2.2)

def p_X11_missing (fu : Nat) (v0 : Int32) (v1 : Int32) (D : fl_D) (s : fl_I) (l : fl_L) : Prop :=
  (((v0 < 0) → True) ∧ (¬ (v0 < 0) → ((((s (if D.2.2.1 then 20 else 9) 1) ≤ v0) → True) ∧ (¬ ((s (if D.2.2.1 then 20 else 9) 1) ≤ v0) → (p_X11_isHeap fu v1 s l) ∧ ((((f_X11_isHeap fu v1 s l) = 0) → True) ∧ (¬ ((f_X11_isHeap fu v1 s l) = 0) → (p_X0_gather fu v1 (if D.2.2.1 then 20 else 9) 31 s l) ∧ (vp_in v0 8) ∧ (p_X0_lacks fu ((f_X0_gather fu v1 (if D.2.2.1 then 20 else 9) 31 s l).2 ((if D.2.2.1 then 20 else 9) + 2) v0.toNatClampNeg) (f_X0_gather fu v1 (if D.2.2.1 then 20 else 9) 31 s l).1 (f_X0_gather fu v1 (if D.2.2.1 then 20 else 9) 31 s l).2) ∧ True))))))

set_option maxRecDepth 100000 in
set_option maxHeartbeats 1000000 in
theorem s_X11_missing {G : ab_G} {fu : Nat} {d : Nat} {D : fl_D} {s : fl_I} {l : fl_L} {v0 : Int32} {v1 : Int32} (hk : p_X11_missing fu v0 v1 D s l) : ab_C G (d + 4) 0 0 M_X11_missing 0 (ab_ent [.ref 0, .int v0, .int v1]) [] (hp D s l) (rt (some (.int (f_X11_missing fu v0 v1 D s l).1)) (hp D (f_X11_missing fu v0 v1 D s l).2.1 (f_X11_missing fu v0 v1 D s l).2.2)) := by
  generalize he : (f_X11_missing fu v0 v1 D s l) = res
  unfold f_X11_missing at he
  unfold p_X11_missing at hk
  refine r_weak (L1 := [some (.ref 0), some (.int v0), some (.int v1)]) ⟨rfl, rfl, rfl, trivial⟩ ?_
  refine r_iload_n rfl rfl ?_
  refine r_if_lt rfl (fun c_1 => ?_) (fun c_1 => ?_)
  · rw [if_pos c_1] at he
    replace hk := hk.1 c_1
    refine r_iconst_ (a := -1) rfl (by decide) ?_
    refine r_iret rfl rfl rfl ?_
    first | with_reducible exact fin_i he | exact fin_i he
  · rw [if_neg c_1] at he
    replace hk := hk.2 c_1
    refine r_iload_n rfl rfl ?_
    refine r_aload_n rfl rfl ?_
    refine q_getfield rfl (cc_0 _) rfl ?_
    refine q_getfield rfl (cT_0 (isT_l _)) rfl ?_
    refine r_icmp_ge rfl (fun c_12 => ?_) (fun c_12 => ?_)
    · rw [if_pos c_12] at he
      replace hk := hk.1 c_12
      refine r_iconst_ (a := -1) rfl (by decide) ?_
      refine r_iret rfl rfl rfl ?_
      first | with_reducible exact fin_i he | exact fin_i he
    · rw [if_neg c_12] at he
      replace hk := hk.2 c_12
      refine r_aload_n rfl rfl ?_
      refine r_iload_n rfl rfl ?_
      obtain ⟨hb0, hk⟩ := hk
      refine q_callV0 [_] _ rfl kY_X11_isHeap kT_X11_isHeap rfl rfl (Nat.le_of_ble_eq_true rfl) (Nat.le_of_ble_eq_true rfl) (cc_0 _) (s_X11_isHeap hb0) (fun r h q => ?_)
      obtain ⟨rfl, rfl⟩ := q
      simp only [Option.toList, List.cons_append, List.nil_append]
      refine r_if_ne rfl (fun c_20 => ?_) (fun c_20 => ?_)
      · rw [if_neg c_20] at he
        replace hk := hk.2 c_20
        refine r_aload_n rfl rfl ?_
        refine q_getfield rfl (cc_0 _) rfl ?_
        refine r_aload_n rfl rfl ?_
        refine q_getfield rfl (cc_0 _) rfl ?_
        refine r_aload_n rfl rfl ?_
        refine q_getfield rfl (cc_0 _) rfl ?_
        refine r_iload_n rfl rfl ?_
        obtain ⟨hb1, hk⟩ := hk
        refine q_callV0 [_, _, _] _ rfl kY_X0_gather kT_X0_gather rfl rfl (Nat.le_of_ble_eq_true rfl) (Nat.le_of_ble_eq_true rfl) (cc_55 _) (s_X0_gather (isT_l _) (Or.inl rfl) hb1) (fun r h q => ?_)
        obtain ⟨rfl, rfl⟩ := q
        simp only [Option.toList, List.cons_append, List.nil_append]
        refine r_aload_n rfl rfl ?_
        refine q_getfield rfl (cc_0 _) rfl ?_
        refine r_aload_n rfl rfl ?_
        refine q_getfield rfl (cc_0 _) rfl ?_
        refine q_getfield rfl (cT_0 (isT_l _)) rfl ?_
        refine r_iload_n rfl rfl ?_
        obtain ⟨hb2, hk⟩ := hk
        refine q_lald rfl (cT_2 (isT_l _)) hb2 ?_
        obtain ⟨hb3, hk⟩ := hk
        refine q_callV0 [_] _ rfl kY_X0_lacks kT_X0_lacks rfl rfl (Nat.le_of_ble_eq_true rfl) (Nat.le_of_ble_eq_true rfl) (cc_55 _) (s_X0_lacks hb3) (fun r h q => ?_)
        obtain ⟨rfl, rfl⟩ := q
        simp only [Option.toList, List.cons_append, List.nil_append]
        refine r_iret rfl rfl rfl ?_
        first | with_reducible exact fin_i he | exact fin_i he
      · rw [if_pos c_20] at he
        replace hk := hk.1 c_20
        refine r_iconst_ (a := -1) rfl (by decide) ?_
        refine r_iret rfl rfl rfl ?_
        first | with_reducible exact fin_i he | exact fin_i he

def f_X9_goOn_3 (fu : Nat) : Nat → Int32 → Int32 → Int32 → Nat → Nat → fl_I → fl_L → fl_I × fl_L
  | 0, x3, x4, x5, t, a, s, l => (s, l)
  | n + 1, x3, x4, x5, t, a, s, l =>
    if (x3 ≤ x5) then (s, l) else if (x4 = (-1 : Int32)) then f_X9_goOn_3 fu n x3 x4 (x5 + 1) t a (wi (f_X9_blow fu t a (f_X9_pickUp fu t a (f_X9_walk fu a s l).1 (f_X9_walk fu a s l).2).1 (f_X9_pickUp fu t a (f_X9_walk fu a s l).1 (f_X9_walk fu a s l).2).2).1 a 0 (((f_X9_blow fu t a (f_X9_pickUp fu t a (f_X9_walk fu a s l).1 (f_X9_walk fu a s l).2).1 (f_X9_pickUp fu t a (f_X9_walk fu a s l).1 (f_X9_walk fu a s l).2).2).1 a 0) + (1 : Int32))) (f_X9_blow fu t a (f_X9_pickUp fu t a (f_X9_walk fu a s l).1 (f_X9_walk fu a s l).2).1 (f_X9_pickUp fu t a (f_X9_walk fu a s l).1 (f_X9_walk fu a s l).2).2).2 else if ((f_X11_rains fu x4 ((f_X9_pickUp fu t a (f_X9_walk fu a s l).1 (f_X9_walk fu a s l).2).1 a 0) t (f_X9_pickUp fu t a (f_X9_walk fu a s l).1 (f_X9_walk fu a s l).2).1 (f_X9_pickUp fu t a (f_X9_walk fu a s l).1 (f_X9_walk fu a s l).2).2) = 0) then f_X9_goOn_3 fu n x3 x4 (x5 + 1) t a (wi (f_X9_blow fu t a (f_X9_pickUp fu t a (f_X9_walk fu a s l).1 (f_X9_walk fu a s l).2).1 (f_X9_pickUp fu t a (f_X9_walk fu a s l).1 (f_X9_walk fu a s l).2).2).1 a 0 (((f_X9_blow fu t a (f_X9_pickUp fu t a (f_X9_walk fu a s l).1 (f_X9_walk fu a s l).2).1 (f_X9_pickUp fu t a (f_X9_walk fu a s l).1 (f_X9_walk fu a s l).2).2).1 a 0) + (1 : Int32))) (f_X9_blow fu t a (f_X9_pickUp fu t a (f_X9_walk fu a s l).1 (f_X9_walk fu a s l).2).1 (f_X9_pickUp fu t a (f_X9_walk fu a s l).1 (f_X9_walk fu a s l).2).2).2 else f_X9_goOn_3 fu n x3 x4 (x5 + 1) t a (wi (f_X9_lieOn fu a (f_X9_pickUp fu t a (f_X9_walk fu a s l).1 (f_X9_walk fu a s l).2).1 (f_X9_pickUp fu t a (f_X9_walk fu a s l).1 (f_X9_walk fu a s l).2).2).1 a 0 (((f_X9_lieOn fu a (f_X9_pickUp fu t a (f_X9_walk fu a s l).1 (f_X9_walk fu a s l).2).1 (f_X9_pickUp fu t a (f_X9_walk fu a s l).1 (f_X9_walk fu a s l).2).2).1 a 0) + (1 : Int32))) (f_X9_lieOn fu a (f_X9_pickUp fu t a (f_X9_walk fu a s l).1 (f_X9_walk fu a s l).2).1 (f_X9_pickUp fu t a (f_X9_walk fu a s l).1 (f_X9_walk fu a s l).2).2).2

def p_X9_goOn_3 (fu : Nat) : Nat → Int32 → Int32 → Int32 → Nat → Nat → fl_I → fl_L → Prop
  | 0, _, _, _, _, _, _, _ => False
  | n + 1, x3, x4, x5, t, a, s, l =>
    (((x3 ≤ x5) → True) ∧ (¬ (x3 ≤ x5) → (p_X9_walk fu a s l) ∧ (p_X9_pickUp fu t a (f_X9_walk fu a s l).1 (f_X9_walk fu a s l).2) ∧ (((x4 = (-1 : Int32)) → (p_X9_blow fu t a (f_X9_pickUp fu t a (f_X9_walk fu a s l).1 (f_X9_walk fu a s l).2).1 (f_X9_pickUp fu t a (f_X9_walk fu a s l).1 (f_X9_walk fu a s l).2).2) ∧ p_X9_goOn_3 fu n x3 x4 (x5 + 1) t a (wi (f_X9_blow fu t a (f_X9_pickUp fu t a (f_X9_walk fu a s l).1 (f_X9_walk fu a s l).2).1 (f_X9_pickUp fu t a (f_X9_walk fu a s l).1 (f_X9_walk fu a s l).2).2).1 a 0 (((f_X9_blow fu t a (f_X9_pickUp fu t a (f_X9_walk fu a s l).1 (f_X9_walk fu a s l).2).1 (f_X9_pickUp fu t a (f_X9_walk fu a s l).1 (f_X9_walk fu a s l).2).2).1 a 0) + (1 : Int32))) (f_X9_blow fu t a (f_X9_pickUp fu t a (f_X9_walk fu a s l).1 (f_X9_walk fu a s l).2).1 (f_X9_pickUp fu t a (f_X9_walk fu a s l).1 (f_X9_walk fu a s l).2).2).2) ∧ (¬ (x4 = (-1 : Int32)) → (p_X11_rains fu x4 ((f_X9_pickUp fu t a (f_X9_walk fu a s l).1 (f_X9_walk fu a s l).2).1 a 0) t (f_X9_pickUp fu t a (f_X9_walk fu a s l).1 (f_X9_walk fu a s l).2).1 (f_X9_pickUp fu t a (f_X9_walk fu a s l).1 (f_X9_walk fu a s l).2).2) ∧ ((((f_X11_rains fu x4 ((f_X9_pickUp fu t a (f_X9_walk fu a s l).1 (f_X9_walk fu a s l).2).1 a 0) t (f_X9_pickUp fu t a (f_X9_walk fu a s l).1 (f_X9_walk fu a s l).2).1 (f_X9_pickUp fu t a (f_X9_walk fu a s l).1 (f_X9_walk fu a s l).2).2) = 0) → (p_X9_blow fu t a (f_X9_pickUp fu t a (f_X9_walk fu a s l).1 (f_X9_walk fu a s l).2).1 (f_X9_pickUp fu t a (f_X9_walk fu a s l).1 (f_X9_walk fu a s l).2).2) ∧ p_X9_goOn_3 fu n x3 x4 (x5 + 1) t a (wi (f_X9_blow fu t a (f_X9_pickUp fu t a (f_X9_walk fu a s l).1 (f_X9_walk fu a s l).2).1 (f_X9_pickUp fu t a (f_X9_walk fu a s l).1 (f_X9_walk fu a s l).2).2).1 a 0 (((f_X9_blow fu t a (f_X9_pickUp fu t a (f_X9_walk fu a s l).1 (f_X9_walk fu a s l).2).1 (f_X9_pickUp fu t a (f_X9_walk fu a s l).1 (f_X9_walk fu a s l).2).2).1 a 0) + (1 : Int32))) (f_X9_blow fu t a (f_X9_pickUp fu t a (f_X9_walk fu a s l).1 (f_X9_walk fu a s l).2).1 (f_X9_pickUp fu t a (f_X9_walk fu a s l).1 (f_X9_walk fu a s l).2).2).2) ∧ (¬ ((f_X11_rains fu x4 ((f_X9_pickUp fu t a (f_X9_walk fu a s l).1 (f_X9_walk fu a s l).2).1 a 0) t (f_X9_pickUp fu t a (f_X9_walk fu a s l).1 (f_X9_walk fu a s l).2).1 (f_X9_pickUp fu t a (f_X9_walk fu a s l).1 (f_X9_walk fu a s l).2).2) = 0) → (p_X9_lieOn fu a (f_X9_pickUp fu t a (f_X9_walk fu a s l).1 (f_X9_walk fu a s l).2).1 (f_X9_pickUp fu t a (f_X9_walk fu a s l).1 (f_X9_walk fu a s l).2).2) ∧ p_X9_goOn_3 fu n x3 x4 (x5 + 1) t a (wi (f_X9_lieOn fu a (f_X9_pickUp fu t a (f_X9_walk fu a s l).1 (f_X9_walk fu a s l).2).1 (f_X9_pickUp fu t a (f_X9_walk fu a s l).1 (f_X9_walk fu a s l).2).2).1 a 0 (((f_X9_lieOn fu a (f_X9_pickUp fu t a (f_X9_walk fu a s l).1 (f_X9_walk fu a s l).2).1 (f_X9_pickUp fu t a (f_X9_walk fu a s l).1 (f_X9_walk fu a s l).2).2).1 a 0) + (1 : Int32))) (f_X9_lieOn fu a (f_X9_pickUp fu t a (f_X9_walk fu a s l).1 (f_X9_walk fu a s l).2).1 (f_X9_pickUp fu t a (f_X9_walk fu a s l).1 (f_X9_walk fu a s l).2).2).2))))))

set_option maxRecDepth 100000 in
set_option maxHeartbeats 1000000 in
theorem lp_X9_goOn_3 {G : ab_G} {fu : Nat} {d : Nat} {D : fl_D} {t : Nat} (htt : isT t) {a : Nat} (hya : isY D a) : ∀ (n : Nat) (x3 : Int32) (x4 : Int32) (x5 : Int32) (s : fl_I) (l : fl_L), p_X9_goOn_3 fu n x3 x4 x5 t a s l → ab_C G (d + 4) 0 0 M_X9_goOn 3 [some (.ref 46), some (.ref t), some (.ref a), some (.int x3), some (.int x4), some (.int x5)] [] (hp D s l) (rt none (hp D (f_X9_goOn_3 fu n x3 x4 x5 t a s l).1 (f_X9_goOn_3 fu n x3 x4 x5 t a s l).2)) := by
  intro n
  induction n with
  | zero => intro x3 x4 x5 s l hk; exact hk.elim
  | succ n ih =>
    intro x3 x4 x5 s l hk
    generalize he : f_X9_goOn_3 fu (n + 1) x3 x4 x5 t a s l = res
    unfold f_X9_goOn_3 at he
    unfold p_X9_goOn_3 at hk
    refine r_iload rfl rfl ?_
    refine r_iload_n rfl rfl ?_
    refine r_icmp_ge rfl (fun c_6 => ?_) (fun c_6 => ?_)
    · rw [if_pos c_6] at he
      replace hk := hk.1 c_6
      refine r_ret rfl rfl ?_
      first | with_reducible exact fin_v he | exact fin_v he
    · rw [if_neg c_6] at he
      replace hk := hk.2 c_6
      refine r_aload_n rfl rfl ?_
      obtain ⟨hb0, hk⟩ := hk
      refine r_callS0 [_] _ rfl kY_X9_walk kT_X9_walk rfl rfl (Nat.le_of_ble_eq_true rfl) (Nat.le_of_ble_eq_true rfl) (s_X9_walk hya hb0) (fun r h q => ?_)
      obtain ⟨rfl, rfl⟩ := q
      simp only [Option.toList, List.cons_append, List.nil_append]
      refine r_aload_n rfl rfl ?_
      refine r_aload_n rfl rfl ?_
      obtain ⟨hb1, hk⟩ := hk
      refine r_callS0 [_, _] _ rfl kY_X9_pickUp kT_X9_pickUp rfl rfl (Nat.le_of_ble_eq_true rfl) (Nat.le_of_ble_eq_true rfl) (s_X9_pickUp htt hya hb1) (fun r h q => ?_)
      obtain ⟨rfl, rfl⟩ := q
      simp only [Option.toList, List.cons_append, List.nil_append]
      refine r_iload rfl rfl ?_
      refine r_iconst_ (a := -1) rfl (by decide) ?_
      refine r_icmp_eq rfl (fun c_21 => ?_) (fun c_21 => ?_)
      · rw [if_pos c_21] at he
        replace hk := hk.1 c_21
        refine r_aload_n rfl rfl ?_
        refine r_aload_n rfl rfl ?_
        refine r_aload_n rfl rfl ?_
        obtain ⟨hb2, hk⟩ := hk
        refine q_callV0 [_, _] _ rfl kY_X9_blow kT_X9_blow rfl rfl (Nat.le_of_ble_eq_true rfl) (Nat.le_of_ble_eq_true rfl) (cc_46 _) (s_X9_blow htt hya hb2) (fun r h q => ?_)
        obtain ⟨rfl, rfl⟩ := q
        simp only [Option.toList, List.cons_append, List.nil_append]
        refine r_aload_n rfl rfl ?_
        refine r_dup rfl rfl ?_
        refine q_getfield rfl (cY_0 hya) rfl ?_
        refine r_iconst_ (a := 1) rfl (by decide) ?_
        refine r_iadd rfl ?_
        refine w_put rfl (cY_0 hya) ff_10_0 ft_10_0 (fun _ _ => (Nat.le_of_ble_eq_true rfl)) (fun _ _ => rfl) ?_
        refine r_iinc (b := x5 + 1) rfl rfl rfl (Nat.le_of_ble_eq_true rfl) rfl ?_
        refine r_goto rfl ?_
        subst he
        exact r_weak (L1 := [some (.ref 46), some (.ref t), some (.ref a), some (.int x3), some (.int x4), some (.int (x5 + 1))]) ⟨rfl, rfl, rfl, rfl, rfl, rfl, trivial⟩ (ih _ _ _ _ _ hk)
      · rw [if_neg c_21] at he
        replace hk := hk.2 c_21
        refine r_aload_n rfl rfl ?_
        refine r_iload rfl rfl ?_
        refine r_aload_n rfl rfl ?_
        refine q_getfield rfl (cY_0 hya) rfl ?_
        obtain ⟨hb3, hk⟩ := hk
        refine r_callSN0 [_, _, _] _ rfl kY_X11_rains kT_X11_rains rfl rfl (Nat.le_of_ble_eq_true rfl) (Nat.le_of_ble_eq_true rfl) (s_X11_rains htt hb3) (fun r h q => ?_)
        obtain ⟨rfl, rfl⟩ := q
        simp only [Option.toList, List.cons_append, List.nil_append]
        refine r_if_eq rfl (fun c_34 => ?_) (fun c_34 => ?_)
        · rw [if_pos c_34] at he
          replace hk := hk.1 c_34
          refine r_aload_n rfl rfl ?_
          refine r_aload_n rfl rfl ?_
          refine r_aload_n rfl rfl ?_
          obtain ⟨hb4, hk⟩ := hk
          refine q_callV0 [_, _] _ rfl kY_X9_blow kT_X9_blow rfl rfl (Nat.le_of_ble_eq_true rfl) (Nat.le_of_ble_eq_true rfl) (cc_46 _) (s_X9_blow htt hya hb4) (fun r h q => ?_)
          obtain ⟨rfl, rfl⟩ := q
          simp only [Option.toList, List.cons_append, List.nil_append]
          refine r_aload_n rfl rfl ?_
          refine r_dup rfl rfl ?_
          refine q_getfield rfl (cY_0 hya) rfl ?_
          refine r_iconst_ (a := 1) rfl (by decide) ?_
          refine r_iadd rfl ?_
          refine w_put rfl (cY_0 hya) ff_10_0 ft_10_0 (fun _ _ => (Nat.le_of_ble_eq_true rfl)) (fun _ _ => rfl) ?_
          refine r_iinc (b := x5 + 1) rfl rfl rfl (Nat.le_of_ble_eq_true rfl) rfl ?_
          refine r_goto rfl ?_
          subst he
          exact r_weak (L1 := [some (.ref 46), some (.ref t), some (.ref a), some (.int x3), some (.int x4), some (.int (x5 + 1))]) ⟨rfl, rfl, rfl, rfl, rfl, rfl, trivial⟩ (ih _ _ _ _ _ hk)
        · rw [if_neg c_34] at he
          replace hk := hk.2 c_34
          refine r_aload_n rfl rfl ?_
          obtain ⟨hb5, hk⟩ := hk
          refine r_callS0 [_] _ rfl kY_X9_lieOn kT_X9_lieOn rfl rfl (Nat.le_of_ble_eq_true rfl) (Nat.le_of_ble_eq_true rfl) (s_X9_lieOn hya hb5) (fun r h q => ?_)
          obtain ⟨rfl, rfl⟩ := q
          simp only [Option.toList, List.cons_append, List.nil_append]
          refine r_goto rfl ?_
          refine r_aload_n rfl rfl ?_
          refine r_dup rfl rfl ?_
          refine q_getfield rfl (cY_0 hya) rfl ?_
          refine r_iconst_ (a := 1) rfl (by decide) ?_
          refine r_iadd rfl ?_
          refine w_put rfl (cY_0 hya) ff_10_0 ft_10_0 (fun _ _ => (Nat.le_of_ble_eq_true rfl)) (fun _ _ => rfl) ?_
          refine r_iinc (b := x5 + 1) rfl rfl rfl (Nat.le_of_ble_eq_true rfl) rfl ?_
          refine r_goto rfl ?_
          subst he
          exact r_weak (L1 := [some (.ref 46), some (.ref t), some (.ref a), some (.int x3), some (.int x4), some (.int (x5 + 1))]) ⟨rfl, rfl, rfl, rfl, rfl, rfl, trivial⟩ (ih _ _ _ _ _ hk)

def f_X9_goOn (fu : Nat) (v2 : Int32) (v3 : Int32) (t : Nat) (a : Nat) (s : fl_I) (l : fl_L) : fl_I × fl_L :=
  f_X9_goOn_3 fu fu v2 v3 (0 : Int32) t a s l

def p_X9_goOn (fu : Nat) (v2 : Int32) (v3 : Int32) (t : Nat) (a : Nat) (s : fl_I) (l : fl_L) : Prop :=
  p_X9_goOn_3 fu fu v2 v3 (0 : Int32) t a s l

set_option maxRecDepth 100000 in
set_option maxHeartbeats 1000000 in
theorem s_X9_goOn {G : ab_G} {fu : Nat} {d : Nat} {D : fl_D} {s : fl_I} {l : fl_L} {t : Nat} (htt : isT t) {a : Nat} (hya : isY D a) {v2 : Int32} {v3 : Int32} (hk : p_X9_goOn fu v2 v3 t a s l) : ab_C G (d + 4) 0 0 M_X9_goOn 0 (ab_ent [.ref 46, .ref t, .ref a, .int v2, .int v3]) [] (hp D s l) (rt none (hp D (f_X9_goOn fu v2 v3 t a s l).1 (f_X9_goOn fu v2 v3 t a s l).2)) := by
  generalize he : (f_X9_goOn fu v2 v3 t a s l) = res
  unfold f_X9_goOn at he
  unfold p_X9_goOn at hk
  refine r_weak (L1 := [some (.ref 46), some (.ref t), some (.ref a), some (.int v2), some (.int v3), none]) ⟨rfl, rfl, rfl, rfl, rfl, trivial⟩ ?_
  refine r_iconst_ (a := 0) rfl (by decide) ?_
  refine r_istore rfl (Nat.le_of_ble_eq_true rfl) rfl ?_
  subst he
  exact r_weak (L1 := [some (.ref 46), some (.ref t), some (.ref a), some (.int v2), some (.int v3), some (.int (0 : Int32))]) ⟨rfl, rfl, rfl, rfl, rfl, rfl, trivial⟩ (lp_X9_goOn_3 htt hya fu _ _ _ _ _ hk)

