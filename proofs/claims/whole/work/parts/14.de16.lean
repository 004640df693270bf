def f_X11_money (fu : Nat) (v0 : Int32) : Int32 :=
  (f_X11_held fu v0 (99 : Int32))

def p_X11_money (fu : Nat) (v0 : Int32) : Prop :=
  (p_X11_held fu v0 (99 : Int32)) ∧ True

set_option maxRecDepth 100000 in
set_option maxHeartbeats 1000000 in
theorem s_X11_money {G : ab_G} {fu : Nat} {d : Nat} {h : ab_H} {v0 : Int32} (hk : p_X11_money fu v0) : ab_C G (d + 1) 0 0 M_X11_money 0 (ab_ent [.int v0]) [] h (rt (some (.int (f_X11_money fu v0))) h) := by
  generalize he : (f_X11_money fu v0) = res
  unfold f_X11_money at he
  unfold p_X11_money at hk
  refine r_weak (L1 := [some (.int v0)]) ⟨rfl, trivial⟩ ?_
  refine r_iload_n rfl rfl ?_
  refine r_bipush_ (a := 99) rfl (by decide) ?_
  obtain ⟨hb0, hk⟩ := hk
  refine r_callS0 [_, _] _ rfl kY_X11_held kT_X11_held rfl rfl (Nat.le_of_ble_eq_true rfl) (Nat.le_of_ble_eq_true rfl) (s_X11_held hb0) (fun r h q => ?_)
  obtain ⟨rfl, rfl⟩ := q
  simp only [Option.toList, List.cons_append, List.nil_append]
  refine r_iret rfl rfl rfl ?_
  first | with_reducible exact fin_ri he | exact fin_ri he

def f_X12_isLong (fu : Nat) (v0 : Int32) : Int32 :=
  (f_X12_in fu v0 (0 : Int32) (40 : Int32))

def p_X12_isLong (fu : Nat) (v0 : Int32) : Prop :=
  (p_X12_in fu v0 (0 : Int32) (40 : Int32)) ∧ ((f_X12_in fu v0 (0 : Int32) (40 : Int32)) = 0 ∨ (f_X12_in fu v0 (0 : Int32) (40 : Int32)) = 1) ∧ True

set_option maxRecDepth 100000 in
set_option maxHeartbeats 1000000 in
theorem s_X12_isLong {G : ab_G} {fu : Nat} {d : Nat} {h : ab_H} {v0 : Int32} (hk : p_X12_isLong fu v0) : ab_C G (d + 1) 0 0 M_X12_isLong 0 (ab_ent [.int v0]) [] h (rt (some (.int (f_X12_isLong fu v0))) h) := by
  generalize he : (f_X12_isLong fu v0) = res
  unfold f_X12_isLong at he
  unfold p_X12_isLong at hk
  refine r_weak (L1 := [some (.int v0)]) ⟨rfl, trivial⟩ ?_
  refine r_iload_n rfl rfl ?_
  refine r_iconst_ (a := 0) rfl (by decide) ?_
  refine r_bipush_ (a := 40) rfl (by decide) ?_
  obtain ⟨hb0, hk⟩ := hk
  refine r_callS0 [_, _, _] _ rfl kY_X12_in kT_X12_in rfl rfl (Nat.le_of_ble_eq_true rfl) (Nat.le_of_ble_eq_true rfl) (s_X12_in hb0) (fun r h q => ?_)
  obtain ⟨rfl, rfl⟩ := q
  simp only [Option.toList, List.cons_append, List.nil_append]
  obtain ⟨hb1, hk⟩ := hk
  refine r_iret rfl rfl (nar_b hb1) ?_
  first | with_reducible exact fin_ri he | exact fin_ri he

def f_X12_copiesStill (fu : Nat) (s : fl_I) (l : fl_L) : fl_I × fl_L :=
  ((wi (f_X12_copies fu s l).1 60 53 (1 : Int32)), (f_X12_copies fu s l).2)

def p_X12_copiesStill (fu : Nat) (s : fl_I) (l : fl_L) : Prop :=
  (p_X12_copies fu s l) ∧ True

set_option maxRecDepth 100000 in
set_option maxHeartbeats 1000000 in
theorem s_X12_copiesStill {G : ab_G} {fu : Nat} {d : Nat} {D : fl_D} {s : fl_I} {l : fl_L}  (hk : p_X12_copiesStill fu s l) : ab_C G (d + 1) 0 0 M_X12_copiesStill 0 (ab_ent [.ref 60]) [] (hp D s l) (rt none (hp D (f_X12_copiesStill fu s l).1 (f_X12_copiesStill fu s l).2)) := by
  generalize he : (f_X12_copiesStill fu s l) = res
  unfold f_X12_copiesStill at he
  unfold p_X12_copiesStill at hk
  refine r_weak (L1 := [some (.ref 60)]) ⟨rfl, trivial⟩ ?_
  refine r_aload_n rfl rfl ?_
  obtain ⟨hb0, hk⟩ := hk
  refine q_callV0 [] _ rfl kY_X12_copies kT_X12_copies rfl rfl (Nat.le_of_ble_eq_true rfl) (Nat.le_of_ble_eq_true rfl) (cc_60 _) (s_X12_copies hb0) (fun r h q => ?_)
  obtain ⟨rfl, rfl⟩ := q
  simp only [Option.toList, List.cons_append, List.nil_append]
  refine r_aload_n rfl rfl ?_
  refine r_iconst_ (a := 1) rfl (by decide) ?_
  refine w_putZ rfl (cc_60 _) ff_12_53 ft_12_53 (by decide) (fun _ _ => (Nat.le_of_ble_eq_true rfl)) (fun _ _ => rfl) ?_
  refine r_ret rfl rfl ?_
  first | with_reducible exact fin_v he | exact fin_v he

def f_X12_isPiece (fu : Nat) (v0 : Int32) (s : fl_I) (l : fl_L) : Int32 :=
  (f_X12_in fu v0 (0 : Int32) ((s 60 54) - (1 : Int32)))

def p_X12_isPiece (fu : Nat) (v0 : Int32) (s : fl_I) (l : fl_L) : Prop :=
  (p_X12_in fu v0 (0 : Int32) ((s 60 54) - (1 : Int32))) ∧ ((f_X12_in fu v0 (0 : Int32) ((s 60 54) - (1 : Int32))) = 0 ∨ (f_X12_in fu v0 (0 : Int32) ((s 60 54) - (1 : Int32))) = 1) ∧ True

set_option maxRecDepth 100000 in
set_option maxHeartbeats 1000000 in
theorem s_X12_isPiece {G : ab_G} {fu : Nat} {d : Nat} {D : fl_D} {s : fl_I} {l : fl_L} {v0 : Int32} (hk : p_X12_isPiece fu v0 s l) : ab_C G (d + 1) 0 0 M_X12_isPiece 0 (ab_ent [.ref 60, .int v0]) [] (hp D s l) (rt (some (.int (f_X12_isPiece fu v0 s l))) (hp D s l)) := by
  generalize he : (f_X12_isPiece fu v0 s l) = res
  unfold f_X12_isPiece at he
  unfold p_X12_isPiece at hk
  refine r_weak (L1 := [some (.ref 60), some (.int v0)]) ⟨rfl, rfl, trivial⟩ ?_
  refine r_iload_n rfl rfl ?_
  refine r_iconst_ (a := 0) rfl (by decide) ?_
  refine r_aload_n rfl rfl ?_
  refine q_getfield rfl (cc_60 _) rfl ?_
  refine r_iconst_ (a := 1) rfl (by decide) ?_
  refine r_isub rfl ?_
  obtain ⟨hb0, hk⟩ := hk
  refine r_callS0 [_, _, _] _ rfl kY_X12_in kT_X12_in rfl rfl (Nat.le_of_ble_eq_true rfl) (Nat.le_of_ble_eq_true rfl) (s_X12_in hb0) (fun r h q => ?_)
  obtain ⟨rfl, rfl⟩ := q
  simp only [Option.toList, List.cons_append, List.nil_append]
  obtain ⟨hb1, hk⟩ := hk
  refine r_iret rfl rfl (nar_b hb1) ?_
  first | with_reducible exact fin_ri he | exact fin_ri he

def f_X12_isThere (fu : Nat) (v0 : Int32) (v1 : Int32) (s : fl_I) (l : fl_L) : Int32 :=
  if ((f_X12_timesIn fu (f_X12_wordAt fu v0 s l) v1) ≤ 0) then (0 : Int32) else (1 : Int32)

def p_X12_isThere (fu : Nat) (v0 : Int32) (v1 : Int32) (s : fl_I) (l : fl_L) : Prop :=
  (p_X12_wordAt fu v0 s l) ∧ (p_X12_timesIn fu (f_X12_wordAt fu v0 s l) v1) ∧ ((((f_X12_timesIn fu (f_X12_wordAt fu v0 s l) v1) ≤ 0) → True) ∧ (¬ ((f_X12_timesIn fu (f_X12_wordAt fu v0 s l) v1) ≤ 0) → True))

set_option maxRecDepth 100000 in
set_option maxHeartbeats 1000000 in
theorem s_X12_isThere {G : ab_G} {fu : Nat} {d : Nat} {D : fl_D} {s : fl_I} {l : fl_L} {v0 : Int32} {v1 : Int32} (hk : p_X12_isThere fu v0 v1 s l) : ab_C G (d + 1) 0 0 M_X12_isThere 0 (ab_ent [.ref 60, .int v0, .int v1]) [] (hp D s l) (rt (some (.int (f_X12_isThere fu v0 v1 s l))) (hp D s l)) := by
  generalize he : (f_X12_isThere fu v0 v1 s l) = res
  unfold f_X12_isThere at he
  unfold p_X12_isThere at hk
  refine r_weak (L1 := [some (.ref 60), some (.int v0), some (.int v1)]) ⟨rfl, rfl, rfl, trivial⟩ ?_
  refine r_aload_n rfl rfl ?_
  refine r_iload_n rfl rfl ?_
  obtain ⟨hb0, hk⟩ := hk
  refine q_callV0 [_] _ rfl kY_X12_wordAt kT_X12_wordAt rfl rfl (Nat.le_of_ble_eq_true rfl) (Nat.le_of_ble_eq_true rfl) (cc_60 _) (s_X12_wordAt hb0) (fun r h q => ?_)
  obtain ⟨rfl, rfl⟩ := q
  simp only [Option.toList, List.cons_append, List.nil_append]
  refine r_iload_n rfl rfl ?_
  obtain ⟨hb1, hk⟩ := hk
  refine r_callS0 [_, _] _ rfl kY_X12_timesIn kT_X12_timesIn rfl rfl (Nat.le_of_ble_eq_true rfl) (Nat.le_of_ble_eq_true rfl) (s_X12_timesIn hb1) (fun r h q => ?_)
  obtain ⟨rfl, rfl⟩ := q
  simp only [Option.toList, List.cons_append, List.nil_append]
  refine r_if_le rfl (fun c_9 => ?_) (fun c_9 => ?_)
  · rw [if_pos c_9] at he
    replace hk := hk.1 c_9
    refine r_iconst_ (a := 0) rfl (by decide) ?_
    refine r_iret rfl rfl rfl ?_
    first | with_reducible exact fin_ri he | exact fin_ri he
  · rw [if_neg c_9] at he
    replace hk := hk.2 c_9
    refine r_iconst_ (a := 1) rfl (by decide) ?_
    refine r_goto rfl ?_
    refine r_iret rfl rfl rfl ?_
    first | with_reducible exact fin_ri he | exact fin_ri he

def f_X12_must (fu : Nat) (v0 : Int32) (s : fl_I) (l : fl_L) : fl_I × fl_L :=
  if ((f_X12_is fu v0 s l) = 0) then ((f_X12_fail fu (1 : Int32) s l).1, (f_X12_fail fu (1 : Int32) s l).2) else ((f_X12_goesOn fu s l).1, (f_X12_goesOn fu s l).2)

def p_X12_must (fu : Nat) (v0 : Int32) (s : fl_I) (l : fl_L) : Prop :=
  (p_X12_is fu v0 s l) ∧ ((((f_X12_is fu v0 s l) = 0) → (p_X12_fail fu (1 : Int32) s l) ∧ True) ∧ (¬ ((f_X12_is fu v0 s l) = 0) → (p_X12_goesOn fu s l) ∧ True))

set_option maxRecDepth 100000 in
set_option maxHeartbeats 1000000 in
theorem s_X12_must {G : ab_G} {fu : Nat} {d : Nat} {D : fl_D} {s : fl_I} {l : fl_L} {v0 : Int32} (hk : p_X12_must fu v0 s l) : ab_C G (d + 2) 0 0 M_X12_must 0 (ab_ent [.ref 60, .int v0]) [] (hp D s l) (rt none (hp D (f_X12_must fu v0 s l).1 (f_X12_must fu v0 s l).2)) := by
  generalize he : (f_X12_must fu v0 s l) = res
  unfold f_X12_must at he
  unfold p_X12_must at hk
  refine r_weak (L1 := [some (.ref 60), some (.int v0)]) ⟨rfl, rfl, trivial⟩ ?_
  refine r_aload_n rfl rfl ?_
  refine r_iload_n rfl rfl ?_
  obtain ⟨hb0, hk⟩ := hk
  refine q_callV0 [_] _ rfl kY_X12_is kT_X12_is rfl rfl (Nat.le_of_ble_eq_true rfl) (Nat.le_of_ble_eq_true rfl) (cc_60 _) (s_X12_is hb0) (fun r h q => ?_)
  obtain ⟨rfl, rfl⟩ := q
  simp only [Option.toList, List.cons_append, List.nil_append]
  refine r_if_eq rfl (fun c_5 => ?_) (fun c_5 => ?_)
  · rw [if_pos c_5] at he
    replace hk := hk.1 c_5
    refine r_aload_n rfl rfl ?_
    refine r_iconst_ (a := 1) rfl (by decide) ?_
    obtain ⟨hb1, hk⟩ := hk
    refine q_callV0 [_] _ rfl kY_X12_fail kT_X12_fail rfl rfl (Nat.le_of_ble_eq_true rfl) (Nat.le_of_ble_eq_true rfl) (cc_60 _) (s_X12_fail hb1) (fun r h q => ?_)
    obtain ⟨rfl, rfl⟩ := q
    simp only [Option.toList, List.cons_append, List.nil_append]
    refine r_ret rfl rfl ?_
    first | with_reducible exact fin_v he | exact fin_v he
  · rw [if_neg c_5] at he
    replace hk := hk.2 c_5
    refine r_aload_n rfl rfl ?_
    obtain ⟨hb2, hk⟩ := hk
    refine q_callV0 [] _ rfl kY_X12_goesOn kT_X12_goesOn rfl rfl (Nat.le_of_ble_eq_true rfl) (Nat.le_of_ble_eq_true rfl) (cc_60 _) (s_X12_goesOn hb2) (fun r h q => ?_)
    obtain ⟨rfl, rfl⟩ := q
    simp only [Option.toList, List.cons_append, List.nil_append]
    refine r_goto rfl ?_
    refine r_ret rfl rfl ?_
    first | with_reducible exact fin_v he | exact fin_v he

def f_X12_roomFor (fu : Nat) (v0 : Int32) (v1 : Int32) (s : fl_I) (l : fl_L) : fl_I × fl_L :=
  if (v0 = v1) then if (((f_X12_fail fu (2 : Int32) s l).1 60 13) = 0) then ((f_X12_goesOn fu (f_X12_fail fu (2 : Int32) s l).1 (f_X12_fail fu (2 : Int32) s l).2).1, (f_X12_goesOn fu (f_X12_fail fu (2 : Int32) s l).1 (f_X12_fail fu (2 : Int32) s l).2).2) else ((f_X12_fail fu (2 : Int32) s l).1, (f_X12_fail fu (2 : Int32) s l).2) else if ((s 60 13) = 0) then ((f_X12_goesOn fu s l).1, (f_X12_goesOn fu s l).2) else (s, l)

def p_X12_roomFor (fu : Nat) (v0 : Int32) (v1 : Int32) (s : fl_I) (l : fl_L) : Prop :=
  (((v0 = v1) → (p_X12_fail fu (2 : Int32) s l) ∧ (((((f_X12_fail fu (2 : Int32) s l).1 60 13) = 0) → (p_X12_goesOn fu (f_X12_fail fu (2 : Int32) s l).1 (f_X12_fail fu (2 : Int32) s l).2) ∧ True) ∧ (¬ (((f_X12_fail fu (2 : Int32) s l).1 60 13) = 0) → True))) ∧ (¬ (v0 = v1) → ((((s 60 13) = 0) → (p_X12_goesOn fu s l) ∧ True) ∧ (¬ ((s 60 13) = 0) → True))))

set_option maxRecDepth 100000 in
set_option maxHeartbeats 1000000 in
theorem s_X12_roomFor {G : ab_G} {fu : Nat} {d : Nat} {D : fl_D} {s : fl_I} {l : fl_L} {v0 : Int32} {v1 : Int32} (hk : p_X12_roomFor fu v0 v1 s l) : ab_C G (d + 2) 0 0 M_X12_roomFor 0 (ab_ent [.ref 60, .int v0, .int v1]) [] (hp D s l) (rt none (hp D (f_X12_roomFor fu v0 v1 s l).1 (f_X12_roomFor fu v0 v1 s l).2)) := by
  generalize he : (f_X12_roomFor fu v0 v1 s l) = res
  unfold f_X12_roomFor at he
  unfold p_X12_roomFor at hk
  refine r_weak (L1 := [some (.ref 60), some (.int v0), some (.int v1)]) ⟨rfl, rfl, rfl, trivial⟩ ?_
  refine r_iload_n rfl rfl ?_
  refine r_iload_n rfl rfl ?_
  refine r_icmp_ne rfl (fun c_2 => ?_) (fun c_2 => ?_)
  · rw [if_neg c_2] at he
    replace hk := hk.2 c_2
    refine r_aload_n rfl rfl ?_
    refine q_getfield rfl (cc_60 _) rfl ?_
    refine r_if_ne rfl (fun c_14 => ?_) (fun c_14 => ?_)
    · rw [if_neg c_14] at he
      replace hk := hk.2 c_14
      refine r_ret rfl rfl ?_
      first | with_reducible exact fin_v he | exact fin_v he
    · rw [if_pos c_14] at he
      replace hk := hk.1 c_14
      refine r_aload_n rfl rfl ?_
      obtain ⟨hb0, hk⟩ := hk
      refine q_callV0 [] _ rfl kY_X12_goesOn kT_X12_goesOn rfl rfl (Nat.le_of_ble_eq_true rfl) (Nat.le_of_ble_eq_true rfl) (cc_60 _) (s_X12_goesOn hb0) (fun r h q => ?_)
      obtain ⟨rfl, rfl⟩ := q
      simp only [Option.toList, List.cons_append, List.nil_append]
      refine r_ret rfl rfl ?_
      first | with_reducible exact fin_v he | exact fin_v he
  · rw [if_pos c_2] at he
    replace hk := hk.1 c_2
    refine r_aload_n rfl rfl ?_
    refine r_iconst_ (a := 2) rfl (by decide) ?_
    obtain ⟨hb1, hk⟩ := hk
    refine q_callV0 [_] _ rfl kY_X12_fail kT_X12_fail rfl rfl (Nat.le_of_ble_eq_true rfl) (Nat.le_of_ble_eq_true rfl) (cc_60 _) (s_X12_fail hb1) (fun r h q => ?_)
    obtain ⟨rfl, rfl⟩ := q
    simp only [Option.toList, List.cons_append, List.nil_append]
    refine r_aload_n rfl rfl ?_
    refine q_getfield rfl (cc_60 _) rfl ?_
    refine r_if_ne rfl (fun c_14 => ?_) (fun c_14 => ?_)
    · rw [if_neg c_14] at he
      replace hk := hk.2 c_14
      refine r_ret rfl rfl ?_
      first | with_reducible exact fin_v he | exact fin_v he
    · rw [if_pos c_14] at he
      replace hk := hk.1 c_14
      refine r_aload_n rfl rfl ?_
      obtain ⟨hb2, hk⟩ := hk
      refine q_callV0 [] _ rfl kY_X12_goesOn kT_X12_goesOn rfl rfl (Nat.le_of_ble_eq_true rfl) (Nat.le_of_ble_eq_true rfl) (cc_60 _) (s_X12_goesOn hb2) (fun r h q => ?_)
      obtain ⟨rfl, rfl⟩ := q
      simp only [Option.toList, List.cons_append, List.nil_append]
      refine r_ret rfl rfl ?_
      first | with_reducible exact fin_v he | exact fin_v he

def f_X12_toldInt (fu : Nat) (v0 : Int32) (v1 : Int32) (s : fl_I) (l : fl_L) : Int32 × fl_I × fl_L :=
  ((f_X12_bounded fu v0 v1 (f_X12_goesOn fu s l).1 (f_X12_goesOn fu s l).2).1, (f_X12_must fu (4 : Int32) (f_X12_bounded fu v0 v1 (f_X12_goesOn fu s l).1 (f_X12_goesOn fu s l).2).2.1 (f_X12_bounded fu v0 v1 (f_X12_goesOn fu s l).1 (f_X12_goesOn fu s l).2).2.2).1, (f_X12_must fu (4 : Int32) (f_X12_bounded fu v0 v1 (f_X12_goesOn fu s l).1 (f_X12_goesOn fu s l).2).2.1 (f_X12_bounded fu v0 v1 (f_X12_goesOn fu s l).1 (f_X12_goesOn fu s l).2).2.2).2)

def p_X12_toldInt (fu : Nat) (v0 : Int32) (v1 : Int32) (s : fl_I) (l : fl_L) : Prop :=
  (p_X12_goesOn fu s l) ∧ (p_X12_bounded fu v0 v1 (f_X12_goesOn fu s l).1 (f_X12_goesOn fu s l).2) ∧ (p_X12_must fu (4 : Int32) (f_X12_bounded fu v0 v1 (f_X12_goesOn fu s l).1 (f_X12_goesOn fu s l).2).2.1 (f_X12_bounded fu v0 v1 (f_X12_goesOn fu s l).1 (f_X12_goesOn fu s l).2).2.2) ∧ True

set_option maxRecDepth 100000 in
set_option maxHeartbeats 1000000 in
theorem s_X12_toldInt {G : ab_G} {fu : Nat} {d : Nat} {D : fl_D} {s : fl_I} {l : fl_L} {v0 : Int32} {v1 : Int32} (hk : p_X12_toldInt fu v0 v1 s l) : ab_C G (d + 3) 0 0 M_X12_toldInt 0 (ab_ent [.ref 60, .int v0, .int v1]) [] (hp D s l) (rt (some (.int (f_X12_toldInt fu v0 v1 s l).1)) (hp D (f_X12_toldInt fu v0 v1 s l).2.1 (f_X12_toldInt fu v0 v1 s l).2.2)) := by
  generalize he : (f_X12_toldInt fu v0 v1 s l) = res
  unfold f_X12_toldInt at he
  unfold p_X12_toldInt at hk
  refine r_weak (L1 := [some (.ref 60), some (.int v0), some (.int v1), none]) ⟨rfl, rfl, rfl, trivial⟩ ?_
  refine r_aload_n rfl rfl ?_
  obtain ⟨hb0, hk⟩ := hk
  refine q_callV0 [] _ rfl kY_X12_goesOn kT_X12_goesOn rfl rfl (Nat.le_of_ble_eq_true rfl) (Nat.le_of_ble_eq_true rfl) (cc_60 _) (s_X12_goesOn hb0) (fun r h q => ?_)
  obtain ⟨rfl, rfl⟩ := q
  simp only [Option.toList, List.cons_append, List.nil_append]
  refine r_aload_n rfl rfl ?_
  refine r_iload_n rfl rfl ?_
  refine r_iload_n rfl rfl ?_
  obtain ⟨hb1, hk⟩ := hk
  refine q_callV0 [_, _] _ rfl kY_X12_bounded kT_X12_bounded rfl rfl (Nat.le_of_ble_eq_true rfl) (Nat.le_of_ble_eq_true rfl) (cc_60 _) (s_X12_bounded hb1) (fun r h q => ?_)
  obtain ⟨rfl, rfl⟩ := q
  simp only [Option.toList, List.cons_append, List.nil_append]
  refine r_istore_n rfl (Nat.le_of_ble_eq_true rfl) rfl ?_
  refine r_aload_n rfl rfl ?_
  refine r_iconst_ (a := 4) rfl (by decide) ?_
  obtain ⟨hb2, hk⟩ := hk
  refine q_callV0 [_] _ rfl kY_X12_must kT_X12_must rfl rfl (Nat.le_of_ble_eq_true rfl) (Nat.le_of_ble_eq_true rfl) (cc_60 _) (s_X12_must hb2) (fun r h q => ?_)
  obtain ⟨rfl, rfl⟩ := q
  simp only [Option.toList, List.cons_append, List.nil_append]
  refine r_iload_n rfl rfl ?_
  refine r_iret rfl rfl rfl ?_
  first | with_reducible exact fin_i he | exact fin_i he

def f_X11_rains (fu : Nat) (v1 : Int32) (v2 : Int32) (t : Nat) (s : fl_I) (l : fl_L) : Int32 :=
  if ((s t 17) ≤ (f_X11_lot fu (100 : Int32) v1 ((4 : Int32) * v2))) then (0 : Int32) else (1 : Int32)

def p_X11_rains (fu : Nat) (v1 : Int32) (v2 : Int32) (t : Nat) (s : fl_I) (l : fl_L) : Prop :=
  (p_X11_lot fu (100 : Int32) v1 ((4 : Int32) * v2)) ∧ ((((s t 17) ≤ (f_X11_lot fu (100 : Int32) v1 ((4 : Int32) * v2))) → True) ∧ (¬ ((s t 17) ≤ (f_X11_lot fu (100 : Int32) v1 ((4 : Int32) * v2))) → True))

set_option maxRecDepth 100000 in
set_option maxHeartbeats 1000000 in
theorem s_X11_rains {G : ab_G} {fu : Nat} {d : Nat} {D : fl_D} {s : fl_I} {l : fl_L} {t : Nat} (htt : isT t) {v1 : Int32} {v2 : Int32} (hk : p_X11_rains fu v1 v2 t s l) : ab_C G (d + 2) 0 0 M_X11_rains 0 (ab_ent [.ref t, .int v1, .int v2]) [] (hp D s l) (rt (some (.int (f_X11_rains fu v1 v2 t s l))) (hp D s l)) := by
  generalize he : (f_X11_rains fu v1 v2 t s l) = res
  unfold f_X11_rains at he
  unfold p_X11_rains at hk
  refine r_weak (L1 := [some (.ref t), some (.int v1), some (.int v2)]) ⟨rfl, rfl, rfl, trivial⟩ ?_
  refine r_bipush_ (a := 100) rfl (by decide) ?_
  refine r_iload_n rfl rfl ?_
  refine r_iconst_ (a := 4) rfl (by decide) ?_
  refine r_iload_n rfl rfl ?_
  refine r_imul rfl ?_
  obtain ⟨hb0, hk⟩ := hk
  refine r_callS0 [_, _, _] _ rfl kY_X11_lot kT_X11_lot rfl rfl (Nat.le_of_ble_eq_true rfl) (Nat.le_of_ble_eq_true rfl) (s_X11_lot hb0) (fun r h q => ?_)
  obtain ⟨rfl, rfl⟩ := q
  simp only [Option.toList, List.cons_append, List.nil_append]
  refine r_aload_n rfl rfl ?_
  refine q_getfield rfl (cT_0 htt) rfl ?_
  refine r_icmp_ge rfl (fun c_13 => ?_) (fun c_13 => ?_)
  · rw [if_pos c_13] at he
    replace hk := hk.1 c_13
    refine r_iconst_ (a := 0) rfl (by decide) ?_
    refine r_iret rfl rfl rfl ?_
    first | with_reducible exact fin_ri he | exact fin_ri he
  · rw [if_neg c_13] at he
    replace hk := hk.2 c_13
    refine r_iconst_ (a := 1) rfl (by decide) ?_
    refine r_goto rfl ?_
    refine r_iret rfl rfl rfl ?_
    first | with_reducible exact fin_ri he | exact fin_ri he

def f_X11_nameLength_2 (fu : Nat) : Nat → Int64 → Int32 → Int32
  | 0, _, _ => 0
  | n + 1, x0, x2 =>
    if ((8 : Int32) ≤ x2) then x2 else if ((f_X11_signAt fu x0 x2) = 0) then x2 else f_X11_nameLength_2 fu n x0 (x2 + 1)

def p_X11_nameLength_2 (fu : Nat) : Nat → Int64 → Int32 → Prop
  | 0, _, _ => False
  | n + 1, x0, x2 =>
    ((((8 : Int32) ≤ x2) → True) ∧ (¬ ((8 : Int32) ≤ x2) → (p_X11_signAt fu x0 x2) ∧ ((((f_X11_signAt fu x0 x2) = 0) → True) ∧ (¬ ((f_X11_signAt fu x0 x2) = 0) → p_X11_nameLength_2 fu n x0 (x2 + 1)))))

set_option maxRecDepth 100000 in
set_option maxHeartbeats 1000000 in
theorem lp_X11_nameLength_2 {G : ab_G} {fu : Nat} {d : Nat} {h : ab_H} : ∀ (n : Nat) (x0 : Int64) (x2 : Int32), p_X11_nameLength_2 fu n x0 x2 → ab_C G (d + 1) 0 0 M_X11_nameLength 2 [some (.long x0), none, some (.int x2)] [] h (rt (some (.int (f_X11_nameLength_2 fu n x0 x2))) h) := by
  intro n
  induction n with
  | zero => intro x0 x2 hk; exact hk.elim
  | succ n ih =>
    intro x0 x2 hk
    generalize he : f_X11_nameLength_2 fu (n + 1) x0 x2 = res
    unfold f_X11_nameLength_2 at he
    unfold p_X11_nameLength_2 at hk
    refine r_iload_n rfl rfl ?_
    refine r_bipush_ (a := 8) rfl (by decide) ?_
    refine r_icmp_ge rfl (fun c_5 => ?_) (fun c_5 => ?_)
    · rw [if_pos c_5] at he
      replace hk := hk.1 c_5
      refine r_iload_n rfl rfl ?_
      refine r_iret rfl rfl rfl ?_
      first | with_reducible exact fin_ri he | exact fin_ri he
    · rw [if_neg c_5] at he
      replace hk := hk.2 c_5
      refine r_lload_n rfl rfl ?_
      refine r_iload_n rfl rfl ?_
      obtain ⟨hb0, hk⟩ := hk
      refine r_callS0 [_, _] _ rfl kY_X11_signAt kT_X11_signAt rfl rfl (Nat.le_of_ble_eq_true rfl) (Nat.le_of_ble_eq_true rfl) (s_X11_signAt hb0) (fun r h q => ?_)
      obtain ⟨rfl, rfl⟩ := q
      simp only [Option.toList, List.cons_append, List.nil_append]
      refine r_if_eq rfl (fun c_13 => ?_) (fun c_13 => ?_)
      · rw [if_pos c_13] at he
        replace hk := hk.1 c_13
        refine r_iload_n rfl rfl ?_
        refine r_iret rfl rfl rfl ?_
        first | with_reducible exact fin_ri he | exact fin_ri he
      · rw [if_neg c_13] at he
        replace hk := hk.2 c_13
        refine r_iinc (b := x2 + 1) rfl rfl rfl (Nat.le_of_ble_eq_true rfl) rfl ?_
        refine r_goto rfl ?_
        subst he
        exact r_weak (L1 := [some (.long x0), none, some (.int (x2 + 1))]) ⟨rfl, rfl, trivial⟩ (ih _ _ hk)

def f_X11_nameLength (fu : Nat) (v0 : Int64) : Int32 :=
  f_X11_nameLength_2 fu fu v0 (0 : Int32)

def p_X11_nameLength (fu : Nat) (v0 : Int64) : Prop :=
  p_X11_nameLength_2 fu fu v0 (0 : Int32)

set_option maxRecDepth 100000 in
set_option maxHeartbeats 1000000 in
theorem s_X11_nameLength {G : ab_G} {fu : Nat} {d : Nat} {h : ab_H} {v0 : Int64} (hk : p_X11_nameLength fu v0) : ab_C G (d + 1) 0 0 M_X11_nameLength 0 (ab_ent [.long v0]) [] h (rt (some (.int (f_X11_nameLength fu v0))) h) := by
  generalize he : (f_X11_nameLength fu v0) = res
  unfold f_X11_nameLength at he
  unfold p_X11_nameLength at hk
  refine r_weak (L1 := [some (.long v0), none, none]) ⟨rfl, trivial⟩ ?_
  refine r_iconst_ (a := 0) rfl (by decide) ?_
  refine r_istore_n rfl (Nat.le_of_ble_eq_true rfl) rfl ?_
  subst he
  exact r_weak (L1 := [some (.long v0), none, some (.int (0 : Int32))]) ⟨rfl, rfl, trivial⟩ (lp_X11_nameLength_2 fu _ _ hk)

def f_X11_lies (fu : Nat) (v0 : Int32) (v1 : Int32) (s : fl_I) (l : fl_L) : Int32 :=
  if ((f_X11_isCell fu v0 v1) = 0) then (-1 : Int32) else (f_X10_countAt fu (((10 : Int32) * v1) + v0) 31 s l)

def p_X11_lies (fu : Nat) (v0 : Int32) (v1 : Int32) (s : fl_I) (l : fl_L) : Prop :=
  (p_X11_isCell fu v0 v1) ∧ ((((f_X11_isCell fu v0 v1) = 0) → True) ∧ (¬ ((f_X11_isCell fu v0 v1) = 0) → (p_X10_countAt fu (((10 : Int32) * v1) + v0) 31 s l) ∧ True))

set_option maxRecDepth 100000 in
set_option maxHeartbeats 1000000 in
theorem s_X11_lies {G : ab_G} {fu : Nat} {d : Nat} {D : fl_D} {s : fl_I} {l : fl_L} {v0 : Int32} {v1 : Int32} (hk : p_X11_lies fu v0 v1 s l) : ab_C G (d + 1) 0 0 M_X11_lies 0 (ab_ent [.ref 0, .int v0, .int v1]) [] (hp D s l) (rt (some (.int (f_X11_lies fu v0 v1 s l))) (hp D s l)) := by
  generalize he : (f_X11_lies fu v0 v1 s l) = res
  unfold f_X11_lies at he
  unfold p_X11_lies at hk
  refine r_weak (L1 := [some (.ref 0), some (.int v0), some (.int v1)]) ⟨rfl, rfl, rfl, trivial⟩ ?_
  refine r_iload_n rfl rfl ?_
  refine r_iload_n rfl rfl ?_
  obtain ⟨hb0, hk⟩ := hk
  refine r_callS0 [_, _] _ rfl kY_X11_isCell kT_X11_isCell rfl rfl (Nat.le_of_ble_eq_true rfl) (Nat.le_of_ble_eq_true rfl) (s_X11_isCell hb0) (fun r h q => ?_)
  obtain ⟨rfl, rfl⟩ := q
  simp only [Option.toList, List.cons_append, List.nil_append]
  refine r_if_ne rfl (fun c_5 => ?_) (fun c_5 => ?_)
  · rw [if_neg c_5] at he
    replace hk := hk.2 c_5
    refine r_aload_n rfl rfl ?_
    refine q_getfield rfl (cc_0 _) rfl ?_
    refine r_bipush_ (a := 10) rfl (by decide) ?_
    refine r_iload_n rfl rfl ?_
    refine r_imul rfl ?_
    refine r_iload_n rfl rfl ?_
    refine r_iadd rfl ?_
    obtain ⟨hb1, hk⟩ := hk
    refine q_callV0 [_] _ rfl kY_X10_countAt kT_X10_countAt rfl rfl (Nat.le_of_ble_eq_true rfl) (Nat.le_of_ble_eq_true rfl) (cc_31 _) (s_X10_countAt (Or.inl rfl) hb1) (fun r h q => ?_)
    obtain ⟨rfl, rfl⟩ := q
    simp only [Option.toList, List.cons_append, List.nil_append]
    refine r_iret rfl rfl rfl ?_
    first | with_reducible exact fin_ri he | exact fin_ri he
  · rw [if_pos c_5] at he
    replace hk := hk.1 c_5
    refine r_iconst_ (a := -1) rfl (by decide) ?_
    refine r_iret rfl rfl rfl ?_
    first | with_reducible exact fin_ri he | exact fin_ri he

def f_X7_hasSign_2 (fu : Nat) : Nat → Int64 → Int32 → Int32 → Int32
  | 0, _, _, _ => 0
  | n + 1, x0, x2, x3 =>
    if ((8 : Int32) ≤ x3) then (0 : Int32) else if ((f_X11_signAt fu x0 x3) = x2) then (1 : Int32) else f_X7_hasSign_2 fu n x0 x2 (x3 + 1)

def p_X7_hasSign_2 (fu : Nat) : Nat → Int64 → Int32 → Int32 → Prop
  | 0, _, _, _ => False
  | n + 1, x0, x2, x3 =>
    ((((8 : Int32) ≤ x3) → True) ∧ (¬ ((8 : Int32) ≤ x3) → (p_X11_signAt fu x0 x3) ∧ ((((f_X11_signAt fu x0 x3) = x2) → True) ∧ (¬ ((f_X11_signAt fu x0 x3) = x2) → p_X7_hasSign_2 fu n x0 x2 (x3 + 1)))))

set_option maxRecDepth 100000 in
set_option maxHeartbeats 1000000 in
theorem lp_X7_hasSign_2 {G : ab_G} {fu : Nat} {d : Nat} {h : ab_H} : ∀ (n : Nat) (x0 : Int64) (x2 : Int32) (x3 : Int32), p_X7_hasSign_2 fu n x0 x2 x3 → ab_C G (d + 1) 0 0 M_X7_hasSign 2 [some (.long x0), none, some (.int x2), some (.int x3)] [] h (rt (some (.int (f_X7_hasSign_2 fu n x0 x2 x3))) h) := by
  intro n
  induction n with
  | zero => intro x0 x2 x3 hk; exact hk.elim
  | succ n ih =>
    intro x0 x2 x3 hk
    generalize he : f_X7_hasSign_2 fu (n + 1) x0 x2 x3 = res
    unfold f_X7_hasSign_2 at he
    unfold p_X7_hasSign_2 at hk
    refine r_iload_n rfl rfl ?_
    refine r_bipush_ (a := 8) rfl (by decide) ?_
    refine r_icmp_ge rfl (fun c_5 => ?_) (fun c_5 => ?_)
    · rw [if_pos c_5] at he
      replace hk := hk.1 c_5
      refine r_iconst_ (a := 0) rfl (by decide) ?_
      refine r_iret rfl rfl rfl ?_
      first | with_reducible exact fin_ri he | exact fin_ri he
    · rw [if_neg c_5] at he
      replace hk := hk.2 c_5
      refine r_lload_n rfl rfl ?_
      refine r_iload_n rfl rfl ?_
      obtain ⟨hb0, hk⟩ := hk
      refine r_callSN0 [_, _] _ rfl kY_X11_signAt kT_X11_signAt rfl rfl (Nat.le_of_ble_eq_true rfl) (Nat.le_of_ble_eq_true rfl) (s_X11_signAt hb0) (fun r h q => ?_)
      obtain ⟨rfl, rfl⟩ := q
      simp only [Option.toList, List.cons_append, List.nil_append]
      refine r_iload_n rfl rfl ?_
      refine r_icmp_ne rfl (fun c_14 => ?_) (fun c_14 => ?_)
      · rw [if_neg c_14] at he
        replace hk := hk.2 c_14
        refine r_iinc (b := x3 + 1) rfl rfl rfl (Nat.le_of_ble_eq_true rfl) rfl ?_
        refine r_goto rfl ?_
        subst he
        exact r_weak (L1 := [some (.long x0), none, some (.int x2), some (.int (x3 + 1))]) ⟨rfl, rfl, rfl, trivial⟩ (ih _ _ _ hk)
      · rw [if_pos c_14] at he
        replace hk := hk.1 c_14
        refine r_iconst_ (a := 1) rfl (by decide) ?_
        refine r_iret rfl rfl rfl ?_
        first | with_reducible exact fin_ri he | exact fin_ri he

def f_X7_hasSign (fu : Nat) (v0 : Int64) (v1 : Int32) : Int32 :=
  f_X7_hasSign_2 fu fu v0 v1 (0 : Int32)

def p_X7_hasSign (fu : Nat) (v0 : Int64) (v1 : Int32) : Prop :=
  p_X7_hasSign_2 fu fu v0 v1 (0 : Int32)

set_option maxRecDepth 100000 in
set_option maxHeartbeats 1000000 in
theorem s_X7_hasSign {G : ab_G} {fu : Nat} {d : Nat} {h : ab_H} {v0 : Int64} {v1 : Int32} (hk : p_X7_hasSign fu v0 v1) : ab_C G (d + 1) 0 0 M_X7_hasSign 0 (ab_ent [.long v0, .int v1]) [] h (rt (some (.int (f_X7_hasSign fu v0 v1))) h) := by
  generalize he : (f_X7_hasSign fu v0 v1) = res
  unfold f_X7_hasSign at he
  unfold p_X7_hasSign at hk
  refine r_weak (L1 := [some (.long v0), none, some (.int v1), none]) ⟨rfl, rfl, trivial⟩ ?_
  refine r_iconst_ (a := 0) rfl (by decide) ?_
  refine r_istore_n rfl (Nat.le_of_ble_eq_true rfl) rfl ?_
  subst he
  exact r_weak (L1 := [some (.long v0), none, some (.int v1), some (.int (0 : Int32))]) ⟨rfl, rfl, rfl, trivial⟩ (lp_X7_hasSign_2 fu _ _ _ hk)

def f_X12_lies (fu : Nat) (v0 : Int32) (v1 : Int32) (s : fl_I) (l : fl_L) : Int32 × fl_I × fl_L :=
  if ((f_X12_isCell fu v0 v1) = 0) then ((-1 : Int32), s, l) else ((f_X12_lieAt fu (((10 : Int32) * v1) + v0) (f_X12_copies fu s l).1 (f_X12_copies fu s l).2), (f_X12_copies fu s l).1, (f_X12_copies fu s l).2)

def p_X12_lies (fu : Nat) (v0 : Int32) (v1 : Int32) (s : fl_I) (l : fl_L) : Prop :=
  (p_X12_isCell fu v0 v1) ∧ ((((f_X12_isCell fu v0 v1) = 0) → True) ∧ (¬ ((f_X12_isCell fu v0 v1) = 0) → (p_X12_copies fu s l) ∧ (p_X12_lieAt fu (((10 : Int32) * v1) + v0) (f_X12_copies fu s l).1 (f_X12_copies fu s l).2) ∧ True))

set_option maxRecDepth 100000 in
set_option maxHeartbeats 1000000 in
theorem s_X12_lies {G : ab_G} {fu : Nat} {d : Nat} {D : fl_D} {s : fl_I} {l : fl_L} {v0 : Int32} {v1 : Int32} (hk : p_X12_lies fu v0 v1 s l) : ab_C G (d + 2) 0 0 M_X12_lies 0 (ab_ent [.ref 60, .int v0, .int v1]) [] (hp D s l) (rt (some (.int (f_X12_lies fu v0 v1 s l).1)) (hp D (f_X12_lies fu v0 v1 s l).2.1 (f_X12_lies fu v0 v1 s l).2.2)) := by
  generalize he : (f_X12_lies fu v0 v1 s l) = res
  unfold f_X12_lies at he
  unfold p_X12_lies at hk
  refine r_weak (L1 := [some (.ref 60), some (.int v0), some (.int v1)]) ⟨rfl, rfl, rfl, trivial⟩ ?_
  refine r_iload_n rfl rfl ?_
  refine r_iload_n rfl rfl ?_
  obtain ⟨hb0, hk⟩ := hk
  refine r_callS0 [_, _] _ rfl kY_X12_isCell kT_X12_isCell rfl rfl (Nat.le_of_ble_eq_true rfl) (Nat.le_of_ble_eq_true rfl) (s_X12_isCell hb0) (fun r h q => ?_)
  obtain ⟨rfl, rfl⟩ := q
  simp only [Option.toList, List.cons_append, List.nil_append]
  refine r_if_ne rfl (fun c_5 => ?_) (fun c_5 => ?_)
  · rw [if_neg c_5] at he
    replace hk := hk.2 c_5
    refine r_aload_n rfl rfl ?_
    obtain ⟨hb1, hk⟩ := hk
    refine q_callV0 [] _ rfl kY_X12_copies kT_X12_copies rfl rfl (Nat.le_of_ble_eq_true rfl) (Nat.le_of_ble_eq_true rfl) (cc_60 _) (s_X12_copies hb1) (fun r h q => ?_)
    obtain ⟨rfl, rfl⟩ := q
    simp only [Option.toList, List.cons_append, List.nil_append]
    refine r_aload_n rfl rfl ?_
    refine r_bipush_ (a := 10) rfl (by decide) ?_
    refine r_iload_n rfl rfl ?_
    refine r_imul rfl ?_
    refine r_iload_n rfl rfl ?_
    refine r_iadd rfl ?_
    obtain ⟨hb2, hk⟩ := hk
    refine q_callV0 [_] _ rfl kY_X12_lieAt kT_X12_lieAt rfl rfl (Nat.le_of_ble_eq_true rfl) (Nat.le_of_ble_eq_true rfl) (cc_60 _) (s_X12_lieAt hb2) (fun r h q => ?_)
    obtain ⟨rfl, rfl⟩ := q
    simp only [Option.toList, List.cons_append, List.nil_append]
    refine r_iret rfl rfl rfl ?_
    first | with_reducible exact fin_i he | exact fin_i he
  · rw [if_pos c_5] at he
    replace hk := hk.1 c_5
    refine r_iconst_ (a := -1) rfl (by decide) ?_
    refine r_iret rfl rfl rfl ?_
    first | with_reducible exact fin_i he | exact fin_i he

def f_X12_missing (fu : Nat) (v0 : Int32) (v1 : Int32) (s : fl_I) (l : fl_L) : Int32 × fl_I × fl_L :=
  if ((f_X12_isWord fu v0 s l) = 0) then ((-1 : Int32), s, l) else if ((f_X12_isHeap fu v1 s l) = 0) then ((-1 : Int32), s, l) else ((f_X12_missingOf fu v0 (f_X12_fillsHeap fu v1 s l).1 (f_X12_fillsHeap fu v1 s l).2), (f_X12_fillsHeap fu v1 s l).1, (f_X12_fillsHeap fu v1 s l).2)

def p_X12_missing (fu : Nat) (v0 : Int32) (v1 : Int32) (s : fl_I) (l : fl_L) : Prop :=
  (p_X12_isWord fu v0 s l) ∧ ((((f_X12_isWord fu v0 s l) = 0) → True) ∧ (¬ ((f_X12_isWord fu v0 s l) = 0) → (p_X12_isHeap fu v1 s l) ∧ ((((f_X12_isHeap fu v1 s l) = 0) → True) ∧ (¬ ((f_X12_isHeap fu v1 s l) = 0) → (p_X12_fillsHeap fu v1 s l) ∧ (p_X12_missingOf fu v0 (f_X12_fillsHeap fu v1 s l).1 (f_X12_fillsHeap fu v1 s l).2) ∧ True))))

set_option maxRecDepth 100000 in
set_option maxHeartbeats 1000000 in
theorem s_X12_missing {G : ab_G} {fu : Nat} {d : Nat} {D : fl_D} {s : fl_I} {l : fl_L} {v0 : Int32} {v1 : Int32} (hk : p_X12_missing fu v0 v1 s l) : ab_C G (d + 3) 0 0 M_X12_missing 0 (ab_ent [.ref 60, .int v0, .int v1]) [] (hp D s l) (rt (some (.int (f_X12_missing fu v0 v1 s l).1)) (hp D (f_X12_missing fu v0 v1 s l).2.1 (f_X12_missing fu v0 v1 s l).2.2)) := by
  generalize he : (f_X12_missing fu v0 v1 s l) = res
  unfold f_X12_missing at he
  unfold p_X12_missing at hk
  refine r_weak (L1 := [some (.ref 60), some (.int v0), some (.int v1)]) ⟨rfl, rfl, rfl, trivial⟩ ?_
  refine r_aload_n rfl rfl ?_
  refine r_iload_n rfl rfl ?_
  obtain ⟨hb0, hk⟩ := hk
  refine q_callV0 [_] _ rfl kY_X12_isWord kT_X12_isWord rfl rfl (Nat.le_of_ble_eq_true rfl) (Nat.le_of_ble_eq_true rfl) (cc_60 _) (s_X12_isWord hb0) (fun r h q => ?_)
  obtain ⟨rfl, rfl⟩ := q
  simp only [Option.toList, List.cons_append, List.nil_append]
  refine r_if_eq rfl (fun c_5 => ?_) (fun c_5 => ?_)
  · rw [if_pos c_5] at he
    replace hk := hk.1 c_5
    refine r_iconst_ (a := -1) rfl (by decide) ?_
    refine r_iret rfl rfl rfl ?_
    first | with_reducible exact fin_i he | exact fin_i he
  · rw [if_neg c_5] at he
    replace hk := hk.2 c_5
    refine r_aload_n rfl rfl ?_
    refine r_iload_n rfl rfl ?_
    obtain ⟨hb1, hk⟩ := hk
    refine q_callV0 [_] _ rfl kY_X12_isHeap kT_X12_isHeap rfl rfl (Nat.le_of_ble_eq_true rfl) (Nat.le_of_ble_eq_true rfl) (cc_60 _) (s_X12_isHeap hb1) (fun r h q => ?_)
    obtain ⟨rfl, rfl⟩ := q
    simp only [Option.toList, List.cons_append, List.nil_append]
    refine r_if_ne rfl (fun c_13 => ?_) (fun c_13 => ?_)
    · rw [if_neg c_13] at he
      replace hk := hk.2 c_13
      refine r_aload_n rfl rfl ?_
      refine r_iload_n rfl rfl ?_
      obtain ⟨hb2, hk⟩ := hk
      refine q_callV0 [_] _ rfl kY_X12_fillsHeap kT_X12_fillsHeap rfl rfl (Nat.le_of_ble_eq_true rfl) (Nat.le_of_ble_eq_true rfl) (cc_60 _) (s_X12_fillsHeap hb2) (fun r h q => ?_)
      obtain ⟨rfl, rfl⟩ := q
      simp only [Option.toList, List.cons_append, List.nil_append]
      refine r_aload_n rfl rfl ?_
      refine r_iload_n rfl rfl ?_
      obtain ⟨hb3, hk⟩ := hk
      refine q_callV0 [_] _ rfl kY_X12_missingOf kT_X12_missingOf rfl rfl (Nat.le_of_ble_eq_true rfl) (Nat.le_of_ble_eq_true rfl) (cc_60 _) (s_X12_missingOf hb3) (fun r h q => ?_)
      obtain ⟨rfl, rfl⟩ := q
      simp only [Option.toList, List.cons_append, List.nil_append]
      refine r_iret rfl rfl rfl ?_
      first | with_reducible exact fin_i he | exact fin_i he
    · rw [if_pos c_13] at he
      replace hk := hk.1 c_13
      refine r_iconst_ (a := -1) rfl (by decide) ?_
      refine r_iret rfl rfl rfl ?_
      first | with_reducible exact fin_i he | exact fin_i he

def f_X11_tell (fu : Nat) (v0 : Int32) (v1 : Int32) (s : fl_I) (l : fl_L) : Int32 × fl_I × fl_L :=
  if (v0 < (1 : Int32)) then ((-1 : Int32), s, l) else if ((26 : Int32) < v0) then ((-1 : Int32), s, l) else if ((s 57 0) < (20 : Int32)) then ((f_X7_add fu v0 v1 s l).1, (f_X7_add fu v0 v1 s l).2.1, (f_X7_add fu v0 v1 s l).2.2) else ((-1 : Int32), s, l)

def p_X11_tell (fu : Nat) (v0 : Int32) (v1 : Int32) (s : fl_I) (l : fl_L) : Prop :=
  (((v0 < (1 : Int32)) → True) ∧ (¬ (v0 < (1 : Int32)) → ((((26 : Int32) < v0) → True) ∧ (¬ ((26 : Int32) < v0) → ((((s 57 0) < (20 : Int32)) → (p_X7_add fu v0 v1 s l) ∧ True) ∧ (¬ ((s 57 0) < (20 : Int32)) → True))))))

set_option maxRecDepth 100000 in
set_option maxHeartbeats 1000000 in
theorem s_X11_tell {G : ab_G} {fu : Nat} {d : Nat} {D : fl_D} {s : fl_I} {l : fl_L} {v0 : Int32} {v1 : Int32} (hk : p_X11_tell fu v0 v1 s l) : ab_C G (d + 1) 0 0 M_X11_tell 0 (ab_ent [.ref 0, .int v0, .int v1]) [] (hp D s l) (rt (some (.int (f_X11_tell fu v0 v1 s l).1)) (hp D (f_X11_tell fu v0 v1 s l).2.1 (f_X11_tell fu v0 v1 s l).2.2)) := by
  generalize he : (f_X11_tell fu v0 v1 s l) = res
  unfold f_X11_tell at he
  unfold p_X11_tell at hk
  refine r_weak (L1 := [some (.ref 0), some (.int v0), some (.int v1)]) ⟨rfl, rfl, rfl, trivial⟩ ?_
  refine r_iload_n rfl rfl ?_
  refine r_iconst_ (a := 1) rfl (by decide) ?_
  refine r_icmp_lt rfl (fun c_2 => ?_) (fun c_2 => ?_)
  · rw [if_pos c_2] at he
    replace hk := hk.1 c_2
    refine r_iconst_ (a := -1) rfl (by decide) ?_
    refine r_iret rfl rfl rfl ?_
    first | with_reducible exact fin_i he | exact fin_i he
  · rw [if_neg c_2] at he
    replace hk := hk.2 c_2
    refine r_iload_n rfl rfl ?_
    refine r_bipush_ (a := 26) rfl (by decide) ?_
    refine r_icmp_gt rfl (fun c_8 => ?_) (fun c_8 => ?_)
    · rw [if_pos c_8] at he
      replace hk := hk.1 c_8
      refine r_iconst_ (a := -1) rfl (by decide) ?_
      refine r_iret rfl rfl rfl ?_
      first | with_reducible exact fin_i he | exact fin_i he
    · rw [if_neg c_8] at he
      replace hk := hk.2 c_8
      refine r_aload_n rfl rfl ?_
      refine q_getfield rfl (cc_0 _) rfl ?_
      refine q_getfield rfl (cc_57 _) rfl ?_
      refine r_bipush_ (a := 20) rfl (by decide) ?_
      refine r_icmp_lt rfl (fun c_20 => ?_) (fun c_20 => ?_)
      · rw [if_pos c_20] at he
        replace hk := hk.1 c_20
        refine r_aload_n rfl rfl ?_
        refine q_getfield rfl (cc_0 _) rfl ?_
        refine r_iload_n rfl rfl ?_
        refine r_iload_n rfl rfl ?_
        obtain ⟨hb0, hk⟩ := hk
        refine q_callV0 [_, _] _ rfl kY_X7_add kT_X7_add rfl rfl (Nat.le_of_ble_eq_true rfl) (Nat.le_of_ble_eq_true rfl) (cc_57 _) (s_X7_add hb0) (fun r h q => ?_)
        obtain ⟨rfl, rfl⟩ := q
        simp only [Option.toList, List.cons_append, List.nil_append]
        refine r_iret rfl rfl rfl ?_
        first | with_reducible exact fin_i he | exact fin_i he
      · rw [if_neg c_20] at he
        replace hk := hk.2 c_20
        refine r_iconst_ (a := -1) rfl (by decide) ?_
        refine r_iret rfl rfl rfl ?_
        first | with_reducible exact fin_i he | exact fin_i he

def f_X3_takeInt (fu : Nat) (v0 : Int32) (v1 : Int32) (s : fl_I) (l : fl_L) : Int32 × fl_I × fl_L :=
  if (((wi s 3 6 (f_X3_valueNow fu s l).toInt32) 3 6) < v0) then ((f_X3_take fu (3 : Int32) (f_X3_noteLater fu (5 : Int32) (wi s 3 6 (f_X3_valueNow fu s l).toInt32) l).1 (f_X3_noteLater fu (5 : Int32) (wi s 3 6 (f_X3_valueNow fu s l).toInt32) l).2).1, (f_X3_take fu (3 : Int32) (f_X3_noteLater fu (5 : Int32) (wi s 3 6 (f_X3_valueNow fu s l).toInt32) l).1 (f_X3_noteLater fu (5 : Int32) (wi s 3 6 (f_X3_valueNow fu s l).toInt32) l).2).2.1, (f_X3_take fu (3 : Int32) (f_X3_noteLater fu (5 : Int32) (wi s 3 6 (f_X3_valueNow fu s l).toInt32) l).1 (f_X3_noteLater fu (5 : Int32) (wi s 3 6 (f_X3_valueNow fu s l).toInt32) l).2).2.2) else if (((wi s 3 6 (f_X3_valueNow fu s l).toInt32) 3 6) ≤ v1) then ((f_X3_take fu (3 : Int32) (wi s 3 6 (f_X3_valueNow fu s l).toInt32) l).1, (f_X3_take fu (3 : Int32) (wi s 3 6 (f_X3_valueNow fu s l).toInt32) l).2.1, (f_X3_take fu (3 : Int32) (wi s 3 6 (f_X3_valueNow fu s l).toInt32) l).2.2) else ((f_X3_take fu (3 : Int32) (f_X3_noteLater fu (5 : Int32) (wi s 3 6 (f_X3_valueNow fu s l).toInt32) l).1 (f_X3_noteLater fu (5 : Int32) (wi s 3 6 (f_X3_valueNow fu s l).toInt32) l).2).1, (f_X3_take fu (3 : Int32) (f_X3_noteLater fu (5 : Int32) (wi s 3 6 (f_X3_valueNow fu s l).toInt32) l).1 (f_X3_noteLater fu (5 : Int32) (wi s 3 6 (f_X3_valueNow fu s l).toInt32) l).2).2.1, (f_X3_take fu (3 : Int32) (f_X3_noteLater fu (5 : Int32) (wi s 3 6 (f_X3_valueNow fu s l).toInt32) l).1 (f_X3_noteLater fu (5 : Int32) (wi s 3 6 (f_X3_valueNow fu s l).toInt32) l).2).2.2)

def p_X3_takeInt (fu : Nat) (v0 : Int32) (v1 : Int32) (s : fl_I) (l : fl_L) : Prop :=
  (p_X3_valueNow fu s l) ∧ (((((wi s 3 6 (f_X3_valueNow fu s l).toInt32) 3 6) < v0) → (p_X3_noteLater fu (5 : Int32) (wi s 3 6 (f_X3_valueNow fu s l).toInt32) l) ∧ (p_X3_take fu (3 : Int32) (f_X3_noteLater fu (5 : Int32) (wi s 3 6 (f_X3_valueNow fu s l).toInt32) l).1 (f_X3_noteLater fu (5 : Int32) (wi s 3 6 (f_X3_valueNow fu s l).toInt32) l).2) ∧ ((f_X3_take fu (3 : Int32) (f_X3_noteLater fu (5 : Int32) (wi s 3 6 (f_X3_valueNow fu s l).toInt32) l).1 (f_X3_noteLater fu (5 : Int32) (wi s 3 6 (f_X3_valueNow fu s l).toInt32) l).2).1 = 0 ∨ (f_X3_take fu (3 : Int32) (f_X3_noteLater fu (5 : Int32) (wi s 3 6 (f_X3_valueNow fu s l).toInt32) l).1 (f_X3_noteLater fu (5 : Int32) (wi s 3 6 (f_X3_valueNow fu s l).toInt32) l).2).1 = 1) ∧ True) ∧ (¬ (((wi s 3 6 (f_X3_valueNow fu s l).toInt32) 3 6) < v0) → (((((wi s 3 6 (f_X3_valueNow fu s l).toInt32) 3 6) ≤ v1) → (p_X3_take fu (3 : Int32) (wi s 3 6 (f_X3_valueNow fu s l).toInt32) l) ∧ ((f_X3_take fu (3 : Int32) (wi s 3 6 (f_X3_valueNow fu s l).toInt32) l).1 = 0 ∨ (f_X3_take fu (3 : Int32) (wi s 3 6 (f_X3_valueNow fu s l).toInt32) l).1 = 1) ∧ True) ∧ (¬ (((wi s 3 6 (f_X3_valueNow fu s l).toInt32) 3 6) ≤ v1) → (p_X3_noteLater fu (5 : Int32) (wi s 3 6 (f_X3_valueNow fu s l).toInt32) l) ∧ (p_X3_take fu (3 : Int32) (f_X3_noteLater fu (5 : Int32) (wi s 3 6 (f_X3_valueNow fu s l).toInt32) l).1 (f_X3_noteLater fu (5 : Int32) (wi s 3 6 (f_X3_valueNow fu s l).toInt32) l).2) ∧ ((f_X3_take fu (3 : Int32) (f_X3_noteLater fu (5 : Int32) (wi s 3 6 (f_X3_valueNow fu s l).toInt32) l).1 (f_X3_noteLater fu (5 : Int32) (wi s 3 6 (f_X3_valueNow fu s l).toInt32) l).2).1 = 0 ∨ (f_X3_take fu (3 : Int32) (f_X3_noteLater fu (5 : Int32) (wi s 3 6 (f_X3_valueNow fu s l).toInt32) l).1 (f_X3_noteLater fu (5 : Int32) (wi s 3 6 (f_X3_valueNow fu s l).toInt32) l).2).1 = 1) ∧ True))))

set_option maxRecDepth 100000 in
set_option maxHeartbeats 1000000 in
theorem s_X3_takeInt {G : ab_G} {fu : Nat} {d : Nat} {D : fl_D} {s : fl_I} {l : fl_L} {v0 : Int32} {v1 : Int32} (hk : p_X3_takeInt fu v0 v1 s l) : ab_C G (d + 2) 0 0 M_X3_takeInt 0 (ab_ent [.ref 3, .int v0, .int v1]) [] (hp D s l) (rt (some (.int (f_X3_takeInt fu v0 v1 s l).1)) (hp D (f_X3_takeInt fu v0 v1 s l).2.1 (f_X3_takeInt fu v0 v1 s l).2.2)) := by
  generalize he : (f_X3_takeInt fu v0 v1 s l) = res
  unfold f_X3_takeInt at he
  unfold p_X3_takeInt at hk
  refine r_weak (L1 := [some (.ref 3), some (.int v0), some (.int v1)]) ⟨rfl, rfl, rfl, trivial⟩ ?_
  refine r_aload_n rfl rfl ?_
  refine r_aload_n rfl rfl ?_
  obtain ⟨hb0, hk⟩ := hk
  refine q_callV0 [] _ rfl kY_X3_valueNow kT_X3_valueNow rfl rfl (Nat.le_of_ble_eq_true rfl) (Nat.le_of_ble_eq_true rfl) (cc_3 _) (s_X3_valueNow hb0) (fun r h q => ?_)
  obtain ⟨rfl, rfl⟩ := q
  simp only [Option.toList, List.cons_append, List.nil_append]
  refine r_l2i rfl ?_
  refine w_put rfl (cc_3 _) ff_3_6 ft_3_6 (fun _ _ => (Nat.le_of_ble_eq_true rfl)) (fun _ _ => rfl) ?_
  refine r_aload_n rfl rfl ?_
  refine q_getfield rfl (cc_3 _) rfl ?_
  refine r_iload_n rfl rfl ?_
  refine r_icmp_lt rfl (fun c_14 => ?_) (fun c_14 => ?_)
  · rw [if_pos c_14] at he
    replace hk := hk.1 c_14
    refine r_aload_n rfl rfl ?_
    refine r_iconst_ (a := 5) rfl (by decide) ?_
    obtain ⟨hb1, hk⟩ := hk
    refine q_callV0 [_] _ rfl kY_X3_noteLater kT_X3_noteLater rfl rfl (Nat.le_of_ble_eq_true rfl) (Nat.le_of_ble_eq_true rfl) (cc_3 _) (s_X3_noteLater hb1) (fun r h q => ?_)
    obtain ⟨rfl, rfl⟩ := q
    simp only [Option.toList, List.cons_append, List.nil_append]
    refine r_aload_n rfl rfl ?_
    refine r_iconst_ (a := 3) rfl (by decide) ?_
    obtain ⟨hb2, hk⟩ := hk
    refine q_callV0 [_] _ rfl kY_X3_take kT_X3_take rfl rfl (Nat.le_of_ble_eq_true rfl) (Nat.le_of_ble_eq_true rfl) (cc_3 _) (s_X3_take hb2) (fun r h q => ?_)
    obtain ⟨rfl, rfl⟩ := q
    simp only [Option.toList, List.cons_append, List.nil_append]
    obtain ⟨hb3, hk⟩ := hk
    refine r_iret rfl rfl (nar_b hb3) ?_
    first | with_reducible exact fin_i he | exact fin_i he
  · rw [if_neg c_14] at he
    replace hk := hk.2 c_14
    refine r_aload_n rfl rfl ?_
    refine q_getfield rfl (cc_3 _) rfl ?_
    refine r_iload_n rfl rfl ?_
    refine r_icmp_le rfl (fun c_22 => ?_) (fun c_22 => ?_)
    · rw [if_pos c_22] at he
      replace hk := hk.1 c_22
      refine r_aload_n rfl rfl ?_
      refine r_iconst_ (a := 3) rfl (by decide) ?_
      obtain ⟨hb4, hk⟩ := hk
      refine q_callV0 [_] _ rfl kY_X3_take kT_X3_take rfl rfl (Nat.le_of_ble_eq_true rfl) (Nat.le_of_ble_eq_true rfl) (cc_3 _) (s_X3_take hb4) (fun r h q => ?_)
      obtain ⟨rfl, rfl⟩ := q
      simp only [Option.toList, List.cons_append, List.nil_append]
      obtain ⟨hb5, hk⟩ := hk
      refine r_iret rfl rfl (nar_b hb5) ?_
      first | with_reducible exact fin_i he | exact fin_i he
    · rw [if_neg c_22] at he
      replace hk := hk.2 c_22
      refine r_aload_n rfl rfl ?_
      refine r_iconst_ (a := 5) rfl (by decide) ?_
      obtain ⟨hb6, hk⟩ := hk
      refine q_callV0 [_] _ rfl kY_X3_noteLater kT_X3_noteLater rfl rfl (Nat.le_of_ble_eq_true rfl) (Nat.le_of_ble_eq_true rfl) (cc_3 _) (s_X3_noteLater hb6) (fun r h q => ?_)
      obtain ⟨rfl, rfl⟩ := q
      simp only [Option.toList, List.cons_append, List.nil_append]
      refine r_aload_n rfl rfl ?_
      refine r_iconst_ (a := 3) rfl (by decide) ?_
      obtain ⟨hb7, hk⟩ := hk
      refine q_callV0 [_] _ rfl kY_X3_take kT_X3_take rfl rfl (Nat.le_of_ble_eq_true rfl) (Nat.le_of_ble_eq_true rfl) (cc_3 _) (s_X3_take hb7) (fun r h q => ?_)
      obtain ⟨rfl, rfl⟩ := q
      simp only [Option.toList, List.cons_append, List.nil_append]
      obtain ⟨hb8, hk⟩ := hk
      refine r_iret rfl rfl (nar_b hb8) ?_
      first | with_reducible exact fin_i he | exact fin_i he

