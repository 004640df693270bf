def f_X12_bounded (fu : Nat) (v0 : Int32) (v1 : Int32) (s : fl_I) (l : fl_L) : Int32 × fl_I × fl_L :=
  if (0 < (s 60 13)) then (v0, (f_X12_fail fu (1 : Int32) s l).1, (f_X12_fail fu (1 : Int32) s l).2) else if ((f_X12_is fu (2 : Int32) s l) = 0) then (v0, (f_X12_fail fu (1 : Int32) s l).1, (f_X12_fail fu (1 : Int32) s l).2) else if ((s 65 (s 60 11).toNatClampNeg) < v0) then ((s 65 (s 60 11).toNatClampNeg), (f_X12_goesOn fu (f_X12_wrong fu (5 : Int32) (s 60 11) s l).1 (f_X12_wrong fu (5 : Int32) (s 60 11) s l).2).1, (f_X12_goesOn fu (f_X12_wrong fu (5 : Int32) (s 60 11) s l).1 (f_X12_wrong fu (5 : Int32) (s 60 11) s l).2).2) else if ((s 65 (s 60 11).toNatClampNeg) ≤ v1) then ((s 65 (s 60 11).toNatClampNeg), (f_X12_goesOn fu s l).1, (f_X12_goesOn fu s l).2) else ((s 65 (s 60 11).toNatClampNeg), (f_X12_goesOn fu (f_X12_wrong fu (5 : Int32) (s 60 11) s l).1 (f_X12_wrong fu (5 : Int32) (s 60 11) s l).2).1, (f_X12_goesOn fu (f_X12_wrong fu (5 : Int32) (s 60 11) s l).1 (f_X12_wrong fu (5 : Int32) (s 60 11) s l).2).2)

def p_X12_bounded (fu : Nat) (v0 : Int32) (v1 : Int32) (s : fl_I) (l : fl_L) : Prop :=
  (((0 < (s 60 13)) → (p_X12_fail fu (1 : Int32) s l) ∧ True) ∧ (¬ (0 < (s 60 13)) → (p_X12_is fu (2 : Int32) s l) ∧ ((((f_X12_is fu (2 : Int32) s l) = 0) → (p_X12_fail fu (1 : Int32) s l) ∧ True) ∧ (¬ ((f_X12_is fu (2 : Int32) s l) = 0) → (vp_in (s 60 11) 403) ∧ ((((s 65 (s 60 11).toNatClampNeg) < v0) → (p_X12_wrong fu (5 : Int32) (s 60 11) s l) ∧ (p_X12_goesOn fu (f_X12_wrong fu (5 : Int32) (s 60 11) s l).1 (f_X12_wrong fu (5 : Int32) (s 60 11) s l).2) ∧ True) ∧ (¬ ((s 65 (s 60 11).toNatClampNeg) < v0) → ((((s 65 (s 60 11).toNatClampNeg) ≤ v1) → (p_X12_goesOn fu s l) ∧ True) ∧ (¬ ((s 65 (s 60 11).toNatClampNeg) ≤ v1) → (p_X12_wrong fu (5 : Int32) (s 60 11) s l) ∧ (p_X12_goesOn fu (f_X12_wrong fu (5 : Int32) (s 60 11) s l).1 (f_X12_wrong fu (5 : Int32) (s 60 11) s l).2) ∧ True))))))))

set_option maxRecDepth 100000 in
set_option maxHeartbeats 1000000 in
theorem s_X12_bounded {G : ab_G} {fu : Nat} {d : Nat} {D : fl_D} {s : fl_I} {l : fl_L} {v0 : Int32} {v1 : Int32} (hk : p_X12_bounded fu v0 v1 s l) : ab_C G (d + 2) 0 0 M_X12_bounded 0 (ab_ent [.ref 60, .int v0, .int v1]) [] (hp D s l) (rt (some (.int (f_X12_bounded fu v0 v1 s l).1)) (hp D (f_X12_bounded fu v0 v1 s l).2.1 (f_X12_bounded fu v0 v1 s l).2.2)) := by
  generalize he : (f_X12_bounded fu v0 v1 s l) = res
  unfold f_X12_bounded at he
  unfold p_X12_bounded at hk
  refine r_weak (L1 := [some (.ref 60), some (.int v0), some (.int v1), none]) ⟨rfl, rfl, rfl, trivial⟩ ?_
  refine r_aload_n rfl rfl ?_
  refine q_getfield rfl (cc_60 _) rfl ?_
  refine r_if_gt rfl (fun c_4 => ?_) (fun c_4 => ?_)
  · rw [if_pos c_4] at he
    replace hk := hk.1 c_4
    refine r_aload_n rfl rfl ?_
    refine r_iconst_ (a := 1) rfl (by decide) ?_
    obtain ⟨hb0, hk⟩ := hk
    refine q_callV0 [_] _ rfl kY_X12_fail kT_X12_fail rfl rfl (Nat.le_of_ble_eq_true rfl) (Nat.le_of_ble_eq_true rfl) (cc_60 _) (s_X12_fail hb0) (fun r h q => ?_)
    obtain ⟨rfl, rfl⟩ := q
    simp only [Option.toList, List.cons_append, List.nil_append]
    refine r_iload_n rfl rfl ?_
    refine r_iret rfl rfl rfl ?_
    first | with_reducible exact fin_i he | exact fin_i he
  · rw [if_neg c_4] at he
    replace hk := hk.2 c_4
    refine r_aload_n rfl rfl ?_
    refine r_iconst_ (a := 2) rfl (by decide) ?_
    obtain ⟨hb1, hk⟩ := hk
    refine q_callV0 [_] _ rfl kY_X12_is kT_X12_is rfl rfl (Nat.le_of_ble_eq_true rfl) (Nat.le_of_ble_eq_true rfl) (cc_60 _) (s_X12_is hb1) (fun r h q => ?_)
    obtain ⟨rfl, rfl⟩ := q
    simp only [Option.toList, List.cons_append, List.nil_append]
    refine r_if_ne rfl (fun c_12 => ?_) (fun c_12 => ?_)
    · rw [if_neg c_12] at he
      replace hk := hk.2 c_12
      refine r_aload_n rfl rfl ?_
      refine q_getfield rfl (cc_60 _) rfl ?_
      refine r_aload_n rfl rfl ?_
      refine q_getfield rfl (cc_60 _) rfl ?_
      obtain ⟨hb2, hk⟩ := hk
      refine q_iald rfl (cc_65 _) hb2 ?_
      refine r_istore_n rfl (Nat.le_of_ble_eq_true rfl) rfl ?_
      refine r_iload_n rfl rfl ?_
      refine r_iload_n rfl rfl ?_
      refine r_icmp_lt rfl (fun c_34 => ?_) (fun c_34 => ?_)
      · rw [if_pos c_34] at he
        replace hk := hk.1 c_34
        refine r_aload_n rfl rfl ?_
        refine r_iconst_ (a := 5) rfl (by decide) ?_
        refine r_aload_n rfl rfl ?_
        refine q_getfield rfl (cc_60 _) rfl ?_
        obtain ⟨hb3, hk⟩ := hk
        refine q_callV0 [_, _] _ rfl kY_X12_wrong kT_X12_wrong rfl rfl (Nat.le_of_ble_eq_true rfl) (Nat.le_of_ble_eq_true rfl) (cc_60 _) (s_X12_wrong hb3) (fun r h q => ?_)
        obtain ⟨rfl, rfl⟩ := q
        simp only [Option.toList, List.cons_append, List.nil_append]
        refine r_aload_n rfl rfl ?_
        obtain ⟨hb4, hk⟩ := hk
        refine q_callV0 [] _ rfl kY_X12_goesOn kT_X12_goesOn rfl rfl (Nat.le_of_ble_eq_true rfl) (Nat.le_of_ble_eq_true rfl) (cc_60 _) (s_X12_goesOn hb4) (fun r h q => ?_)
        obtain ⟨rfl, rfl⟩ := q
        simp only [Option.toList, List.cons_append, List.nil_append]
        refine r_iload_n rfl rfl ?_
        refine r_iret rfl rfl rfl ?_
        first | with_reducible exact fin_i he | exact fin_i he
      · rw [if_neg c_34] at he
        replace hk := hk.2 c_34
        refine r_iload_n rfl rfl ?_
        refine r_iload_n rfl rfl ?_
        refine r_icmp_le rfl (fun c_39 => ?_) (fun c_39 => ?_)
        · rw [if_pos c_39] at he
          replace hk := hk.1 c_39
          refine r_aload_n rfl rfl ?_
          obtain ⟨hb5, hk⟩ := hk
          refine q_callV0 [] _ rfl kY_X12_goesOn kT_X12_goesOn rfl rfl (Nat.le_of_ble_eq_true rfl) (Nat.le_of_ble_eq_true rfl) (cc_60 _) (s_X12_goesOn hb5) (fun r h q => ?_)
          obtain ⟨rfl, rfl⟩ := q
          simp only [Option.toList, List.cons_append, List.nil_append]
          refine r_iload_n rfl rfl ?_
          refine r_iret rfl rfl rfl ?_
          first | with_reducible exact fin_i he | exact fin_i he
        · rw [if_neg c_39] at he
          replace hk := hk.2 c_39
          refine r_aload_n rfl rfl ?_
          refine r_iconst_ (a := 5) rfl (by decide) ?_
          refine r_aload_n rfl rfl ?_
          refine q_getfield rfl (cc_60 _) rfl ?_
          obtain ⟨hb6, hk⟩ := hk
          refine q_callV0 [_, _] _ rfl kY_X12_wrong kT_X12_wrong rfl rfl (Nat.le_of_ble_eq_true rfl) (Nat.le_of_ble_eq_true rfl) (cc_60 _) (s_X12_wrong hb6) (fun r h q => ?_)
          obtain ⟨rfl, rfl⟩ := q
          simp only [Option.toList, List.cons_append, List.nil_append]
          refine r_aload_n rfl rfl ?_
          obtain ⟨hb7, hk⟩ := hk
          refine q_callV0 [] _ rfl kY_X12_goesOn kT_X12_goesOn rfl rfl (Nat.le_of_ble_eq_true rfl) (Nat.le_of_ble_eq_true rfl) (cc_60 _) (s_X12_goesOn hb7) (fun r h q => ?_)
          obtain ⟨rfl, rfl⟩ := q
          simp only [Option.toList, List.cons_append, List.nil_append]
          refine r_iload_n rfl rfl ?_
          refine r_iret rfl rfl rfl ?_
          first | with_reducible exact fin_i he | exact fin_i he
    · rw [if_pos c_12] at he
      replace hk := hk.1 c_12
      refine r_aload_n rfl rfl ?_
      refine r_iconst_ (a := 1) rfl (by decide) ?_
      obtain ⟨hb8, hk⟩ := hk
      refine q_callV0 [_] _ rfl kY_X12_fail kT_X12_fail rfl rfl (Nat.le_of_ble_eq_true rfl) (Nat.le_of_ble_eq_true rfl) (cc_60 _) (s_X12_fail hb8) (fun r h q => ?_)
      obtain ⟨rfl, rfl⟩ := q
      simp only [Option.toList, List.cons_append, List.nil_append]
      refine r_iload_n rfl rfl ?_
      refine r_iret rfl rfl rfl ?_
      first | with_reducible exact fin_i he | exact fin_i he

def f_X12_undo_21 (fu : Nat) : Nat → Int32 → fl_I → fl_L → Int32 × fl_I × fl_L
  | 0, x1, s, l => (0, s, l)
  | n + 1, x1, s, l =>
    if ((141 : Int32) ≤ x1) then ((1 : Int32), s, l) else f_X12_undo_21 fu n (x1 + 1) (wi s 94 x1.toNatClampNeg (s 99 (((141 : Int32) * (s 60 58)) + x1).toNatClampNeg)) l

def p_X12_undo_21 (fu : Nat) : Nat → Int32 → fl_I → fl_L → Prop
  | 0, _, _, _ => False
  | n + 1, x1, s, l =>
    ((((141 : Int32) ≤ x1) → True) ∧ (¬ ((141 : Int32) ≤ x1) → (vp_in (((141 : Int32) * (s 60 58)) + x1) 5640) ∧ (vp_in x1 141) ∧ p_X12_undo_21 fu n (x1 + 1) (wi s 94 x1.toNatClampNeg (s 99 (((141 : Int32) * (s 60 58)) + x1).toNatClampNeg)) l))

set_option maxRecDepth 100000 in
set_option maxHeartbeats 1000000 in
theorem lp_X12_undo_21 {G : ab_G} {fu : Nat} {d : Nat} {D : fl_D} : ∀ (n : Nat) (x1 : Int32) (s : fl_I) (l : fl_L), p_X12_undo_21 fu n x1 s l → ab_C G d 0 0 M_X12_undo 21 [some (.ref 60), some (.int x1)] [] (hp D s l) (rt (some (.int (f_X12_undo_21 fu n x1 s l).1)) (hp D (f_X12_undo_21 fu n x1 s l).2.1 (f_X12_undo_21 fu n x1 s l).2.2)) := by
  intro n
  induction n with
  | zero => intro x1 s l hk; exact hk.elim
  | succ n ih =>
    intro x1 s l hk
    generalize he : f_X12_undo_21 fu (n + 1) x1 s l = res
    unfold f_X12_undo_21 at he
    unfold p_X12_undo_21 at hk
    refine r_iload_n rfl rfl ?_
    refine r_sipush_ (a := 141) rfl (by decide) ?_
    refine r_icmp_ge rfl (fun c_25 => ?_) (fun c_25 => ?_)
    · rw [if_pos c_25] at he
      replace hk := hk.1 c_25
      refine r_iconst_ (a := 1) rfl (by decide) ?_
      refine r_iret rfl rfl rfl ?_
      first | with_reducible exact fin_i he | exact fin_i he
    · rw [if_neg c_25] at he
      replace hk := hk.2 c_25
      refine r_aload_n rfl rfl ?_
      refine q_getfield rfl (cc_60 _) rfl ?_
      refine r_iload_n rfl rfl ?_
      refine r_aload_n rfl rfl ?_
      refine q_getfield rfl (cc_60 _) rfl ?_
      refine r_sipush_ (a := 141) rfl (by decide) ?_
      refine r_aload_n rfl rfl ?_
      refine q_getfield rfl (cc_60 _) rfl ?_
      refine r_imul rfl ?_
      refine r_iload_n rfl rfl ?_
      refine r_iadd rfl ?_
      obtain ⟨hb0, hk⟩ := hk
      refine q_iald rfl (cc_99 _) hb0 ?_
      obtain ⟨hb1, hk⟩ := hk
      refine w_iast rfl (cc_94 _) hb1 ?_
      refine r_iinc (b := x1 + 1) rfl rfl rfl (Nat.le_of_ble_eq_true rfl) rfl ?_
      refine r_goto rfl ?_
      subst he
      exact r_weak (L1 := [some (.ref 60), some (.int (x1 + 1))]) ⟨rfl, rfl, trivial⟩ (ih _ _ _ hk)

def f_X12_undo (fu : Nat) (s : fl_I) (l : fl_L) : Int32 × fl_I × fl_L :=
  if ((s 60 58) = 0) then ((0 : Int32), s, l) else f_X12_undo_21 fu fu (0 : Int32) (wi s 60 58 ((s 60 58) - (1 : Int32))) l

def p_X12_undo (fu : Nat) (s : fl_I) (l : fl_L) : Prop :=
  ((((s 60 58) = 0) → True) ∧ (¬ ((s 60 58) = 0) → p_X12_undo_21 fu fu (0 : Int32) (wi s 60 58 ((s 60 58) - (1 : Int32))) l))

set_option maxRecDepth 100000 in
set_option maxHeartbeats 1000000 in
theorem s_X12_undo {G : ab_G} {fu : Nat} {d : Nat} {D : fl_D} {s : fl_I} {l : fl_L}  (hk : p_X12_undo fu s l) : ab_C G d 0 0 M_X12_undo 0 (ab_ent [.ref 60]) [] (hp D s l) (rt (some (.int (f_X12_undo fu s l).1)) (hp D (f_X12_undo fu s l).2.1 (f_X12_undo fu s l).2.2)) := by
  generalize he : (f_X12_undo fu s l) = res
  unfold f_X12_undo at he
  unfold p_X12_undo at hk
  refine r_weak (L1 := [some (.ref 60), none]) ⟨rfl, trivial⟩ ?_
  refine r_aload_n rfl rfl ?_
  refine q_getfield rfl (cc_60 _) rfl ?_
  refine r_if_ne rfl (fun c_4 => ?_) (fun c_4 => ?_)
  · rw [if_neg c_4] at he
    replace hk := hk.2 c_4
    refine r_aload_n rfl rfl ?_
    refine r_dup rfl rfl ?_
    refine q_getfield rfl (cc_60 _) rfl ?_
    refine r_iconst_ (a := 1) rfl (by decide) ?_
    refine r_isub rfl ?_
    refine w_put rfl (cc_60 _) ff_12_58 ft_12_58 (fun _ _ => (Nat.le_of_ble_eq_true rfl)) (fun _ _ => rfl) ?_
    refine r_iconst_ (a := 0) rfl (by decide) ?_
    refine r_istore_n rfl (Nat.le_of_ble_eq_true rfl) rfl ?_
    subst he
    exact r_weak (L1 := [some (.ref 60), some (.int (0 : Int32))]) ⟨rfl, rfl, trivial⟩ (lp_X12_undo_21 fu _ _ _ hk)
  · rw [if_pos c_4] at he
    replace hk := hk.1 c_4
    refine r_iconst_ (a := 0) rfl (by decide) ?_
    refine r_iret rfl rfl rfl ?_
    first | with_reducible exact fin_i he | exact fin_i he

def f_X12_hold_20 (fu : Nat) : Nat → Int32 → Int32 → fl_I → fl_L → Int32 × fl_I × fl_L
  | 0, x1, x2, s, l => (0, s, l)
  | n + 1, x1, x2, s, l =>
    if ((141 : Int32) ≤ x2) then ((1 : Int32), s, l) else f_X12_hold_20 fu n x1 (x2 + 1) (wi s 106 (((141 : Int32) * x1) + x2).toNatClampNeg (s 94 x2.toNatClampNeg)) l

def p_X12_hold_20 (fu : Nat) : Nat → Int32 → Int32 → fl_I → fl_L → Prop
  | 0, _, _, _, _ => False
  | n + 1, x1, x2, s, l =>
    ((((141 : Int32) ≤ x2) → True) ∧ (¬ ((141 : Int32) ≤ x2) → (vp_in x2 141) ∧ (vp_in (((141 : Int32) * x1) + x2) 423) ∧ p_X12_hold_20 fu n x1 (x2 + 1) (wi s 106 (((141 : Int32) * x1) + x2).toNatClampNeg (s 94 x2.toNatClampNeg)) l))

set_option maxRecDepth 100000 in
set_option maxHeartbeats 1000000 in
theorem lp_X12_hold_20 {G : ab_G} {fu : Nat} {d : Nat} {D : fl_D} : ∀ (n : Nat) (x1 : Int32) (x2 : Int32) (s : fl_I) (l : fl_L), p_X12_hold_20 fu n x1 x2 s l → ab_C G (d + 1) 0 0 M_X12_hold 20 [some (.ref 60), some (.int x1), some (.int x2)] [] (hp D s l) (rt (some (.int (f_X12_hold_20 fu n x1 x2 s l).1)) (hp D (f_X12_hold_20 fu n x1 x2 s l).2.1 (f_X12_hold_20 fu n x1 x2 s l).2.2)) := by
  intro n
  induction n with
  | zero => intro x1 x2 s l hk; exact hk.elim
  | succ n ih =>
    intro x1 x2 s l hk
    generalize he : f_X12_hold_20 fu (n + 1) x1 x2 s l = res
    unfold f_X12_hold_20 at he
    unfold p_X12_hold_20 at hk
    refine r_iload_n rfl rfl ?_
    refine r_sipush_ (a := 141) rfl (by decide) ?_
    refine r_icmp_ge rfl (fun c_24 => ?_) (fun c_24 => ?_)
    · rw [if_pos c_24] at he
      replace hk := hk.1 c_24
      refine r_iconst_ (a := 1) rfl (by decide) ?_
      refine r_iret rfl rfl rfl ?_
      first | with_reducible exact fin_i he | exact fin_i he
    · rw [if_neg c_24] at he
      replace hk := hk.2 c_24
      refine r_aload_n rfl rfl ?_
      refine q_getfield rfl (cc_60 _) rfl ?_
      refine r_sipush_ (a := 141) rfl (by decide) ?_
      refine r_iload_n rfl rfl ?_
      refine r_imul rfl ?_
      refine r_iload_n rfl rfl ?_
      refine r_iadd rfl ?_
      refine r_aload_n rfl rfl ?_
      refine q_getfield rfl (cc_60 _) rfl ?_
      refine r_iload_n rfl rfl ?_
      obtain ⟨hb2, hk⟩ := hk
      refine q_iald rfl (cc_94 _) hb2 ?_
      obtain ⟨hb3, hk⟩ := hk
      refine w_iast rfl (cc_106 _) hb3 ?_
      refine r_iinc (b := x2 + 1) rfl rfl rfl (Nat.le_of_ble_eq_true rfl) rfl ?_
      refine r_goto rfl ?_
      subst he
      exact r_weak (L1 := [some (.ref 60), some (.int x1), some (.int (x2 + 1))]) ⟨rfl, rfl, rfl, trivial⟩ (ih _ _ _ _ hk)

def f_X12_hold (fu : Nat) (v0 : Int32) (s : fl_I) (l : fl_L) : Int32 × fl_I × fl_L :=
  if ((f_X12_in fu v0 (0 : Int32) (2 : Int32)) = 0) then ((0 : Int32), s, l) else f_X12_hold_20 fu fu v0 (0 : Int32) (wi s 105 v0.toNatClampNeg (vp_nar .boolean (1 : Int32))) l

def p_X12_hold (fu : Nat) (v0 : Int32) (s : fl_I) (l : fl_L) : Prop :=
  (p_X12_in fu v0 (0 : Int32) (2 : Int32)) ∧ ((((f_X12_in fu v0 (0 : Int32) (2 : Int32)) = 0) → True) ∧ (¬ ((f_X12_in fu v0 (0 : Int32) (2 : Int32)) = 0) → (vp_in v0 3) ∧ p_X12_hold_20 fu fu v0 (0 : Int32) (wi s 105 v0.toNatClampNeg (vp_nar .boolean (1 : Int32))) l))

set_option maxRecDepth 100000 in
set_option maxHeartbeats 1000000 in
theorem s_X12_hold {G : ab_G} {fu : Nat} {d : Nat} {D : fl_D} {s : fl_I} {l : fl_L} {v0 : Int32} (hk : p_X12_hold fu v0 s l) : ab_C G (d + 1) 0 0 M_X12_hold 0 (ab_ent [.ref 60, .int v0]) [] (hp D s l) (rt (some (.int (f_X12_hold fu v0 s l).1)) (hp D (f_X12_hold fu v0 s l).2.1 (f_X12_hold fu v0 s l).2.2)) := by
  generalize he : (f_X12_hold fu v0 s l) = res
  unfold f_X12_hold at he
  unfold p_X12_hold at hk
  refine r_weak (L1 := [some (.ref 60), some (.int v0), none]) ⟨rfl, rfl, trivial⟩ ?_
  refine r_iload_n rfl rfl ?_
  refine r_iconst_ (a := 0) rfl (by decide) ?_
  refine r_iconst_ (a := 2) rfl (by decide) ?_
  obtain ⟨hb0, hk⟩ := hk
  refine r_callS0 [_, _, _] _ rfl kY_X12_in kT_X12_in rfl rfl (Nat.le_of_ble_eq_true rfl) (Nat.le_of_ble_eq_true rfl) (s_X12_in hb0) (fun r h q => ?_)
  obtain ⟨rfl, rfl⟩ := q
  simp only [Option.toList, List.cons_append, List.nil_append]
  refine r_if_ne rfl (fun c_6 => ?_) (fun c_6 => ?_)
  · rw [if_neg c_6] at he
    replace hk := hk.2 c_6
    refine r_aload_n rfl rfl ?_
    refine q_getfield rfl (cc_60 _) rfl ?_
    refine r_iload_n rfl rfl ?_
    refine r_iconst_ (a := 1) rfl (by decide) ?_
    obtain ⟨hb1, hk⟩ := hk
    refine w_zast rfl (cc_105 _) hb1 ?_
    refine r_iconst_ (a := 0) rfl (by decide) ?_
    refine r_istore_n rfl (Nat.le_of_ble_eq_true rfl) rfl ?_
    subst he
    exact r_weak (L1 := [some (.ref 60), some (.int v0), some (.int (0 : Int32))]) ⟨rfl, rfl, rfl, trivial⟩ (lp_X12_hold_20 fu _ _ _ _ hk)
  · rw [if_pos c_6] at he
    replace hk := hk.1 c_6
    refine r_iconst_ (a := 0) rfl (by decide) ?_
    refine r_iret rfl rfl rfl ?_
    first | with_reducible exact fin_i he | exact fin_i he

def f_X12_fillsCells_7 (fu : Nat) : Nat → Int32 → Int32 → Int32 → fl_I → fl_L → fl_I × fl_L
  | 0, x1, x2, x3, s, l => (s, l)
  | n + 1, x1, x2, x3, s, l =>
    if ((80 : Int32) ≤ x3) then (s, l) else if (x3 = x1) then f_X12_fillsCells_7 fu n x1 x2 (x3 + 1) s l else if (x3 = x2) then f_X12_fillsCells_7 fu n x1 x2 (x3 + 1) s l else if ((f_X12_lieAt fu x3 s l) = 0) then f_X12_fillsCells_7 fu n x1 x2 (x3 + 1) s l else f_X12_fillsCells_7 fu n x1 x2 (x3 + 1) (wi (wi s 100 (s 60 60).toNatClampNeg x3) 60 60 (((wi s 100 (s 60 60).toNatClampNeg x3) 60 60) + (1 : Int32))) l

def p_X12_fillsCells_7 (fu : Nat) : Nat → Int32 → Int32 → Int32 → fl_I → fl_L → Prop
  | 0, _, _, _, _, _ => False
  | n + 1, x1, x2, x3, s, l =>
    ((((80 : Int32) ≤ x3) → True) ∧ (¬ ((80 : Int32) ≤ x3) → (((x3 = x1) → p_X12_fillsCells_7 fu n x1 x2 (x3 + 1) s l) ∧ (¬ (x3 = x1) → (((x3 = x2) → p_X12_fillsCells_7 fu n x1 x2 (x3 + 1) s l) ∧ (¬ (x3 = x2) → (p_X12_lieAt fu x3 s l) ∧ ((((f_X12_lieAt fu x3 s l) = 0) → p_X12_fillsCells_7 fu n x1 x2 (x3 + 1) s l) ∧ (¬ ((f_X12_lieAt fu x3 s l) = 0) → (vp_in (s 60 60) 80) ∧ p_X12_fillsCells_7 fu n x1 x2 (x3 + 1) (wi (wi s 100 (s 60 60).toNatClampNeg x3) 60 60 (((wi s 100 (s 60 60).toNatClampNeg x3) 60 60) + (1 : Int32))) l))))))))

set_option maxRecDepth 100000 in
set_option maxHeartbeats 1000000 in
theorem lp_X12_fillsCells_7 {G : ab_G} {fu : Nat} {d : Nat} {D : fl_D} : ∀ (n : Nat) (x1 : Int32) (x2 : Int32) (x3 : Int32) (s : fl_I) (l : fl_L), p_X12_fillsCells_7 fu n x1 x2 x3 s l → ab_C G (d + 2) 0 0 M_X12_fillsCells 7 [some (.ref 60), some (.int x1), some (.int x2), some (.int x3)] [] (hp D s l) (rt none (hp D (f_X12_fillsCells_7 fu n x1 x2 x3 s l).1 (f_X12_fillsCells_7 fu n x1 x2 x3 s l).2)) := by
  intro n
  induction n with
  | zero => intro x1 x2 x3 s l hk; exact hk.elim
  | succ n ih =>
    intro x1 x2 x3 s l hk
    generalize he : f_X12_fillsCells_7 fu (n + 1) x1 x2 x3 s l = res
    unfold f_X12_fillsCells_7 at he
    unfold p_X12_fillsCells_7 at hk
    refine r_iload_n rfl rfl ?_
    refine r_bipush_ (a := 80) rfl (by decide) ?_
    refine r_icmp_ge rfl (fun c_10 => ?_) (fun c_10 => ?_)
    · rw [if_pos c_10] at he
      replace hk := hk.1 c_10
      refine r_ret rfl rfl ?_
      first | with_reducible exact fin_v he | exact fin_v he
    · rw [if_neg c_10] at he
      replace hk := hk.2 c_10
      refine r_iload_n rfl rfl ?_
      refine r_iload_n rfl rfl ?_
      refine r_icmp_eq rfl (fun c_15 => ?_) (fun c_15 => ?_)
      · rw [if_pos c_15] at he
        replace hk := hk.1 c_15
        refine r_iinc (b := x3 + 1) rfl rfl rfl (Nat.le_of_ble_eq_true rfl) rfl ?_
        refine r_goto rfl ?_
        subst he
        exact r_weak (L1 := [some (.ref 60), some (.int x1), some (.int x2), some (.int (x3 + 1))]) ⟨rfl, rfl, rfl, rfl, trivial⟩ (ih _ _ _ _ _ hk)
      · rw [if_neg c_15] at he
        replace hk := hk.2 c_15
        refine r_iload_n rfl rfl ?_
        refine r_iload_n rfl rfl ?_
        refine r_icmp_eq rfl (fun c_20 => ?_) (fun c_20 => ?_)
        · rw [if_pos c_20] at he
          replace hk := hk.1 c_20
          refine r_iinc (b := x3 + 1) rfl rfl rfl (Nat.le_of_ble_eq_true rfl) rfl ?_
          refine r_goto rfl ?_
          subst he
          exact r_weak (L1 := [some (.ref 60), some (.int x1), some (.int x2), some (.int (x3 + 1))]) ⟨rfl, rfl, rfl, rfl, trivial⟩ (ih _ _ _ _ _ hk)
        · rw [if_neg c_20] at he
          replace hk := hk.2 c_20
          refine r_aload_n rfl rfl ?_
          refine r_iload_n rfl rfl ?_
          obtain ⟨hb0, hk⟩ := hk
          refine q_callV0 [_] _ rfl kY_X12_lieAt kT_X12_lieAt rfl rfl (Nat.le_of_ble_eq_true rfl) (Nat.le_of_ble_eq_true rfl) (cc_60 _) (s_X12_lieAt hb0) (fun r h q => ?_)
          obtain ⟨rfl, rfl⟩ := q
          simp only [Option.toList, List.cons_append, List.nil_append]
          refine r_if_ne rfl (fun c_28 => ?_) (fun c_28 => ?_)
          · rw [if_neg c_28] at he
            replace hk := hk.2 c_28
            refine r_aload_n rfl rfl ?_
            refine q_getfield rfl (cc_60 _) rfl ?_
            refine r_aload_n rfl rfl ?_
            refine q_getfield rfl (cc_60 _) rfl ?_
            refine r_iload_n rfl rfl ?_
            obtain ⟨hb1, hk⟩ := hk
            refine w_iast rfl (cc_100 _) hb1 ?_
            refine r_aload_n rfl rfl ?_
            refine r_dup rfl rfl ?_
            refine q_getfield rfl (cc_60 _) rfl ?_
            refine r_iconst_ (a := 1) rfl (by decide) ?_
            refine r_iadd rfl ?_
            refine w_put rfl (cc_60 _) ff_12_60 ft_12_60 (fun _ _ => (Nat.le_of_ble_eq_true rfl)) (fun _ _ => rfl) ?_
            refine r_iinc (b := x3 + 1) rfl rfl rfl (Nat.le_of_ble_eq_true rfl) rfl ?_
            refine r_goto rfl ?_
            subst he
            exact r_weak (L1 := [some (.ref 60), some (.int x1), some (.int x2), some (.int (x3 + 1))]) ⟨rfl, rfl, rfl, rfl, trivial⟩ (ih _ _ _ _ _ hk)
          · rw [if_pos c_28] at he
            replace hk := hk.1 c_28
            refine r_goto rfl ?_
            refine r_iinc (b := x3 + 1) rfl rfl rfl (Nat.le_of_ble_eq_true rfl) rfl ?_
            refine r_goto rfl ?_
            subst he
            exact r_weak (L1 := [some (.ref 60), some (.int x1), some (.int x2), some (.int (x3 + 1))]) ⟨rfl, rfl, rfl, rfl, trivial⟩ (ih _ _ _ _ _ hk)

def f_X12_fillsCells (fu : Nat) (v0 : Int32) (v1 : Int32) (s : fl_I) (l : fl_L) : fl_I × fl_L :=
  f_X12_fillsCells_7 fu fu v0 v1 (0 : Int32) (wi s 60 60 (0 : Int32)) l

def p_X12_fillsCells (fu : Nat) (v0 : Int32) (v1 : Int32) (s : fl_I) (l : fl_L) : Prop :=
  p_X12_fillsCells_7 fu fu v0 v1 (0 : Int32) (wi s 60 60 (0 : Int32)) l

set_option maxRecDepth 100000 in
set_option maxHeartbeats 1000000 in
theorem s_X12_fillsCells {G : ab_G} {fu : Nat} {d : Nat} {D : fl_D} {s : fl_I} {l : fl_L} {v0 : Int32} {v1 : Int32} (hk : p_X12_fillsCells fu v0 v1 s l) : ab_C G (d + 2) 0 0 M_X12_fillsCells 0 (ab_ent [.ref 60, .int v0, .int v1]) [] (hp D s l) (rt none (hp D (f_X12_fillsCells fu v0 v1 s l).1 (f_X12_fillsCells fu v0 v1 s l).2)) := by
  generalize he : (f_X12_fillsCells fu v0 v1 s l) = res
  unfold f_X12_fillsCells at he
  unfold p_X12_fillsCells at hk
  refine r_weak (L1 := [some (.ref 60), some (.int v0), some (.int v1), none]) ⟨rfl, rfl, rfl, trivial⟩ ?_
  refine r_aload_n rfl rfl ?_
  refine r_iconst_ (a := 0) rfl (by decide) ?_
  refine w_put rfl (cc_60 _) ff_12_60 ft_12_60 (fun _ _ => (Nat.le_of_ble_eq_true rfl)) (fun _ _ => rfl) ?_
  refine r_iconst_ (a := 0) rfl (by decide) ?_
  refine r_istore_n rfl (Nat.le_of_ble_eq_true rfl) rfl ?_
  subst he
  exact r_weak (L1 := [some (.ref 60), some (.int v0), some (.int v1), some (.int (0 : Int32))]) ⟨rfl, rfl, rfl, rfl, trivial⟩ (lp_X12_fillsCells_7 fu _ _ _ _ _ hk)

def f_X12_missingOf_4 (fu : Nat) : Nat → Int32 → Int32 → Int32 → fl_I → fl_L → Int32
  | 0, _, _, _, _, _ => 0
  | n + 1, x1, x2, x3, s, l =>
    if ((27 : Int32) ≤ x3) then x2 else if ((f_X12_timesIn fu (f_X12_wordAt fu x1 s l) x3) ≤ (s 102 x3.toNatClampNeg)) then f_X12_missingOf_4 fu n x1 x2 (x3 + 1) s l else f_X12_missingOf_4 fu n x1 (x2 + ((f_X12_timesIn fu (f_X12_wordAt fu x1 s l) x3) - (s 102 x3.toNatClampNeg))) (x3 + 1) s l

def p_X12_missingOf_4 (fu : Nat) : Nat → Int32 → Int32 → Int32 → fl_I → fl_L → Prop
  | 0, _, _, _, _, _ => False
  | n + 1, x1, x2, x3, s, l =>
    ((((27 : Int32) ≤ x3) → True) ∧ (¬ ((27 : Int32) ≤ x3) → (p_X12_wordAt fu x1 s l) ∧ (p_X12_timesIn fu (f_X12_wordAt fu x1 s l) x3) ∧ (vp_in x3 27) ∧ ((((f_X12_timesIn fu (f_X12_wordAt fu x1 s l) x3) ≤ (s 102 x3.toNatClampNeg)) → p_X12_missingOf_4 fu n x1 x2 (x3 + 1) s l) ∧ (¬ ((f_X12_timesIn fu (f_X12_wordAt fu x1 s l) x3) ≤ (s 102 x3.toNatClampNeg)) → (p_X12_wordAt fu x1 s l) ∧ (p_X12_timesIn fu (f_X12_wordAt fu x1 s l) x3) ∧ (vp_in x3 27) ∧ p_X12_missingOf_4 fu n x1 (x2 + ((f_X12_timesIn fu (f_X12_wordAt fu x1 s l) x3) - (s 102 x3.toNatClampNeg))) (x3 + 1) s l))))

set_option maxRecDepth 100000 in
set_option maxHeartbeats 1000000 in
theorem lp_X12_missingOf_4 {G : ab_G} {fu : Nat} {d : Nat} {D : fl_D} {s : fl_I} {l : fl_L} : ∀ (n : Nat) (x1 : Int32) (x2 : Int32) (x3 : Int32), p_X12_missingOf_4 fu n x1 x2 x3 s l → ab_C G (d + 1) 0 0 M_X12_missingOf 4 [some (.ref 60), some (.int x1), some (.int x2), some (.int x3)] [] (hp D s l) (rt (some (.int (f_X12_missingOf_4 fu n x1 x2 x3 s l))) (hp D s l)) := by
  intro n
  induction n with
  | zero => intro x1 x2 x3 hk; exact hk.elim
  | succ n ih =>
    intro x1 x2 x3 hk
    generalize he : f_X12_missingOf_4 fu (n + 1) x1 x2 x3 s l = res
    unfold f_X12_missingOf_4 at he
    unfold p_X12_missingOf_4 at hk
    refine r_iload_n rfl rfl ?_
    refine r_bipush_ (a := 27) rfl (by decide) ?_
    refine r_icmp_ge rfl (fun c_7 => ?_) (fun c_7 => ?_)
    · rw [if_pos c_7] at he
      replace hk := hk.1 c_7
      refine r_iload_n rfl rfl ?_
      refine r_iret rfl rfl rfl ?_
      first | with_reducible exact fin_ri he | exact fin_ri he
    · rw [if_neg c_7] at he
      replace hk := hk.2 c_7
      refine r_aload_n rfl rfl ?_
      refine r_iload_n rfl rfl ?_
      obtain ⟨hb0, hk⟩ := hk
      refine q_callV0 [_] _ rfl kY_X12_wordAt kT_X12_wordAt rfl rfl (Nat.le_of_ble_eq_true rfl) (Nat.le_of_ble_eq_true rfl) (cc_60 _) (s_X12_wordAt hb0) (fun r h q => ?_)
      obtain ⟨rfl, rfl⟩ := q
      simp only [Option.toList, List.cons_append, List.nil_append]
      refine r_iload_n rfl rfl ?_
      obtain ⟨hb1, hk⟩ := hk
      refine r_callS0 [_, _] _ rfl kY_X12_timesIn kT_X12_timesIn rfl rfl (Nat.le_of_ble_eq_true rfl) (Nat.le_of_ble_eq_true rfl) (s_X12_timesIn hb1) (fun r h q => ?_)
      obtain ⟨rfl, rfl⟩ := q
      simp only [Option.toList, List.cons_append, List.nil_append]
      refine r_aload_n rfl rfl ?_
      refine q_getfield rfl (cc_60 _) rfl ?_
      refine r_iload_n rfl rfl ?_
      obtain ⟨hb2, hk⟩ := hk
      refine q_iald rfl (cc_102 _) hb2 ?_
      refine r_icmp_le rfl (fun c_25 => ?_) (fun c_25 => ?_)
      · rw [if_pos c_25] at he
        replace hk := hk.1 c_25
        refine r_iinc (b := x3 + 1) rfl rfl rfl (Nat.le_of_ble_eq_true rfl) rfl ?_
        refine r_goto rfl ?_
        subst he
        exact r_weak (L1 := [some (.ref 60), some (.int x1), some (.int x2), some (.int (x3 + 1))]) ⟨rfl, rfl, rfl, rfl, trivial⟩ (ih _ _ _ hk)
      · rw [if_neg c_25] at he
        replace hk := hk.2 c_25
        refine r_iload_n rfl rfl ?_
        refine r_aload_n rfl rfl ?_
        refine r_iload_n rfl rfl ?_
        obtain ⟨hb3, hk⟩ := hk
        refine q_callV0 [_] _ rfl kY_X12_wordAt kT_X12_wordAt rfl rfl (Nat.le_of_ble_eq_true rfl) (Nat.le_of_ble_eq_true rfl) (cc_60 _) (s_X12_wordAt hb3) (fun r h q => ?_)
        obtain ⟨rfl, rfl⟩ := q
        simp only [Option.toList, List.cons_append, List.nil_append]
        refine r_iload_n rfl rfl ?_
        obtain ⟨hb4, hk⟩ := hk
        refine r_callS0 [_, _] _ rfl kY_X12_timesIn kT_X12_timesIn rfl rfl (Nat.le_of_ble_eq_true rfl) (Nat.le_of_ble_eq_true rfl) (s_X12_timesIn hb4) (fun r h q => ?_)
        obtain ⟨rfl, rfl⟩ := q
        simp only [Option.toList, List.cons_append, List.nil_append]
        refine r_aload_n rfl rfl ?_
        refine q_getfield rfl (cc_60 _) rfl ?_
        refine r_iload_n rfl rfl ?_
        obtain ⟨hb5, hk⟩ := hk
        refine q_iald rfl (cc_102 _) hb5 ?_
        refine r_isub rfl ?_
        refine r_iadd rfl ?_
        refine r_istore_n rfl (Nat.le_of_ble_eq_true rfl) rfl ?_
        refine r_iinc (b := x3 + 1) rfl rfl rfl (Nat.le_of_ble_eq_true rfl) rfl ?_
        refine r_goto rfl ?_
        subst he
        exact r_weak (L1 := [some (.ref 60), some (.int x1), some (.int (x2 + ((f_X12_timesIn fu (f_X12_wordAt fu x1 s l) x3) - (s 102 x3.toNatClampNeg)))), some (.int (x3 + 1))]) ⟨rfl, rfl, rfl, rfl, trivial⟩ (ih _ _ _ hk)

def f_X12_missingOf (fu : Nat) (v0 : Int32) (s : fl_I) (l : fl_L) : Int32 :=
  f_X12_missingOf_4 fu fu v0 (0 : Int32) (1 : Int32) s l

def p_X12_missingOf (fu : Nat) (v0 : Int32) (s : fl_I) (l : fl_L) : Prop :=
  p_X12_missingOf_4 fu fu v0 (0 : Int32) (1 : Int32) s l

set_option maxRecDepth 100000 in
set_option maxHeartbeats 1000000 in
theorem s_X12_missingOf {G : ab_G} {fu : Nat} {d : Nat} {D : fl_D} {s : fl_I} {l : fl_L} {v0 : Int32} (hk : p_X12_missingOf fu v0 s l) : ab_C G (d + 1) 0 0 M_X12_missingOf 0 (ab_ent [.ref 60, .int v0]) [] (hp D s l) (rt (some (.int (f_X12_missingOf fu v0 s l))) (hp D s l)) := by
  generalize he : (f_X12_missingOf fu v0 s l) = res
  unfold f_X12_missingOf at he
  unfold p_X12_missingOf at hk
  refine r_weak (L1 := [some (.ref 60), some (.int v0), none, none]) ⟨rfl, rfl, trivial⟩ ?_
  refine r_iconst_ (a := 0) rfl (by decide) ?_
  refine r_istore_n rfl (Nat.le_of_ble_eq_true rfl) rfl ?_
  refine r_iconst_ (a := 1) rfl (by decide) ?_
  refine r_istore_n rfl (Nat.le_of_ble_eq_true rfl) rfl ?_
  subst he
  exact r_weak (L1 := [some (.ref 60), some (.int v0), some (.int (0 : Int32)), some (.int (1 : Int32))]) ⟨rfl, rfl, rfl, rfl, trivial⟩ (lp_X12_missingOf_4 fu _ _ _ hk)

def f_X12_tell (fu : Nat) (v0 : Int32) (v1 : Int32) (s : fl_I) (l : fl_L) : Int32 × fl_I × fl_L :=
  if ((s 60 65) = (20 : Int32)) then ((-1 : Int32), s, l) else if ((f_X12_in fu v0 (1 : Int32) (26 : Int32)) = 0) then ((-1 : Int32), s, l) else ((((wi (wi (wi s 103 (s 60 65).toNatClampNeg v0) 104 ((wi s 103 (s 60 65).toNatClampNeg v0) 60 65).toNatClampNeg (vp_nar .boolean v1)) 60 65 (((wi (wi s 103 (s 60 65).toNatClampNeg v0) 104 ((wi s 103 (s 60 65).toNatClampNeg v0) 60 65).toNatClampNeg (vp_nar .boolean v1)) 60 65) + (1 : Int32))) 60 65) - (1 : Int32)), (wi (wi (wi s 103 (s 60 65).toNatClampNeg v0) 104 ((wi s 103 (s 60 65).toNatClampNeg v0) 60 65).toNatClampNeg (vp_nar .boolean v1)) 60 65 (((wi (wi s 103 (s 60 65).toNatClampNeg v0) 104 ((wi s 103 (s 60 65).toNatClampNeg v0) 60 65).toNatClampNeg (vp_nar .boolean v1)) 60 65) + (1 : Int32))), l)

def p_X12_tell (fu : Nat) (v0 : Int32) (v1 : Int32) (s : fl_I) (l : fl_L) : Prop :=
  ((((s 60 65) = (20 : Int32)) → True) ∧ (¬ ((s 60 65) = (20 : Int32)) → (p_X12_in fu v0 (1 : Int32) (26 : Int32)) ∧ ((((f_X12_in fu v0 (1 : Int32) (26 : Int32)) = 0) → True) ∧ (¬ ((f_X12_in fu v0 (1 : Int32) (26 : Int32)) = 0) → (vp_in (s 60 65) 20) ∧ (vp_in ((wi s 103 (s 60 65).toNatClampNeg v0) 60 65) 20) ∧ True))))

set_option maxRecDepth 100000 in
set_option maxHeartbeats 1000000 in
theorem s_X12_tell {G : ab_G} {fu : Nat} {d : Nat} {D : fl_D} {s : fl_I} {l : fl_L} {v0 : Int32} {v1 : Int32} (hk : p_X12_tell fu v0 v1 s l) : ab_C G (d + 1) 0 0 M_X12_tell 0 (ab_ent [.ref 60, .int v0, .int v1]) [] (hp D s l) (rt (some (.int (f_X12_tell fu v0 v1 s l).1)) (hp D (f_X12_tell fu v0 v1 s l).2.1 (f_X12_tell fu v0 v1 s l).2.2)) := by
  generalize he : (f_X12_tell fu v0 v1 s l) = res
  unfold f_X12_tell at he
  unfold p_X12_tell at hk
  refine r_weak (L1 := [some (.ref 60), some (.int v0), some (.int v1)]) ⟨rfl, rfl, rfl, trivial⟩ ?_
  refine r_aload_n rfl rfl ?_
  refine q_getfield rfl (cc_60 _) rfl ?_
  refine r_bipush_ (a := 20) rfl (by decide) ?_
  refine r_icmp_eq rfl (fun c_6 => ?_) (fun c_6 => ?_)
  · rw [if_pos c_6] at he
    replace hk := hk.1 c_6
    refine r_iconst_ (a := -1) rfl (by decide) ?_
    refine r_iret rfl rfl rfl ?_
    first | with_reducible exact fin_i he | exact fin_i he
  · rw [if_neg c_6] at he
    replace hk := hk.2 c_6
    refine r_iload_n rfl rfl ?_
    refine r_iconst_ (a := 1) rfl (by decide) ?_
    refine r_bipush_ (a := 26) rfl (by decide) ?_
    obtain ⟨hb0, hk⟩ := hk
    refine r_callS0 [_, _, _] _ rfl kY_X12_in kT_X12_in rfl rfl (Nat.le_of_ble_eq_true rfl) (Nat.le_of_ble_eq_true rfl) (s_X12_in hb0) (fun r h q => ?_)
    obtain ⟨rfl, rfl⟩ := q
    simp only [Option.toList, List.cons_append, List.nil_append]
    refine r_if_ne rfl (fun c_16 => ?_) (fun c_16 => ?_)
    · rw [if_neg c_16] at he
      replace hk := hk.2 c_16
      refine r_aload_n rfl rfl ?_
      refine q_getfield rfl (cc_60 _) rfl ?_
      refine r_aload_n rfl rfl ?_
      refine q_getfield rfl (cc_60 _) rfl ?_
      refine r_iload_n rfl rfl ?_
      obtain ⟨hb1, hk⟩ := hk
      refine w_iast rfl (cc_103 _) hb1 ?_
      refine r_aload_n rfl rfl ?_
      refine q_getfield rfl (cc_60 _) rfl ?_
      refine r_aload_n rfl rfl ?_
      refine q_getfield rfl (cc_60 _) rfl ?_
      refine r_iload_n rfl rfl ?_
      obtain ⟨hb2, hk⟩ := hk
      refine w_zast rfl (cc_104 _) hb2 ?_
      refine r_aload_n rfl rfl ?_
      refine r_dup rfl rfl ?_
      refine q_getfield rfl (cc_60 _) rfl ?_
      refine r_iconst_ (a := 1) rfl (by decide) ?_
      refine r_iadd rfl ?_
      refine w_put rfl (cc_60 _) ff_12_65 ft_12_65 (fun _ _ => (Nat.le_of_ble_eq_true rfl)) (fun _ _ => rfl) ?_
      refine r_aload_n rfl rfl ?_
      refine q_getfield rfl (cc_60 _) rfl ?_
      refine r_iconst_ (a := 1) rfl (by decide) ?_
      refine r_isub rfl ?_
      refine r_iret rfl rfl rfl ?_
      first | with_reducible exact fin_i he | exact fin_i he
    · rw [if_pos c_16] at he
      replace hk := hk.1 c_16
      refine r_iconst_ (a := -1) rfl (by decide) ?_
      refine r_iret rfl rfl rfl ?_
      first | with_reducible exact fin_i he | exact fin_i he

def f_X11_whole_14 (fu : Nat) : Nat → Int32 → Int32 → fl_D → fl_I → fl_L → Int32
  | 0, _, _, _, _, _ => 0
  | n + 1, x1, x2, D, s, l =>
    if ((s 31 1) ≤ x2) then x1 else if ((f_X10_isLying fu x2 31 s l) = 0) then f_X11_whole_14 fu n x1 (x2 + 1) D s l else f_X11_whole_14 fu n (x1 &&& (((1 : Int32) <<< ((s ((if D.2.2.1 then 20 else 9) + 5) x2.toNatClampNeg) &&& 31)) ^^^ (-1 : Int32))) (x2 + 1) D s l

def p_X11_whole_14 (fu : Nat) : Nat → Int32 → Int32 → fl_D → fl_I → fl_L → Prop
  | 0, _, _, _, _, _ => False
  | n + 1, x1, x2, D, s, l =>
    ((((s 31 1) ≤ x2) → True) ∧ (¬ ((s 31 1) ≤ x2) → (p_X10_isLying fu x2 31 s l) ∧ ((((f_X10_isLying fu x2 31 s l) = 0) → p_X11_whole_14 fu n x1 (x2 + 1) D s l) ∧ (¬ ((f_X10_isLying fu x2 31 s l) = 0) → (vp_in x2 32) ∧ p_X11_whole_14 fu n (x1 &&& (((1 : Int32) <<< ((s ((if D.2.2.1 then 20 else 9) + 5) x2.toNatClampNeg) &&& 31)) ^^^ (-1 : Int32))) (x2 + 1) D s l))))

set_option maxRecDepth 100000 in
set_option maxHeartbeats 1000000 in
theorem lp_X11_whole_14 {G : ab_G} {fu : Nat} {d : Nat} {D : fl_D} {s : fl_I} {l : fl_L} : ∀ (n : Nat) (x1 : Int32) (x2 : Int32), p_X11_whole_14 fu n x1 x2 D s l → ab_C G (d + 1) 0 0 M_X11_whole 14 [some (.ref 0), some (.int x1), some (.int x2)] [] (hp D s l) (rt (some (.int (f_X11_whole_14 fu n x1 x2 D s l))) (hp D s l)) := by
  intro n
  induction n with
  | zero => intro x1 x2 hk; exact hk.elim
  | succ n ih =>
    intro x1 x2 hk
    generalize he : f_X11_whole_14 fu (n + 1) x1 x2 D s l = res
    unfold f_X11_whole_14 at he
    unfold p_X11_whole_14 at hk
    refine r_iload_n rfl rfl ?_
    refine r_aload_n rfl rfl ?_
    refine q_getfield rfl (cc_0 _) rfl ?_
    refine q_getfield rfl (cc_31 _) rfl ?_
    refine r_icmp_ge rfl (fun c_22 => ?_) (fun c_22 => ?_)
    · rw [if_pos c_22] at he
      replace hk := hk.1 c_22
      refine r_iload_n rfl rfl ?_
      refine r_iret rfl rfl rfl ?_
      first | with_reducible exact fin_ri he | exact fin_ri he
    · rw [if_neg c_22] at he
      replace hk := hk.2 c_22
      refine r_aload_n rfl rfl ?_
      refine q_getfield rfl (cc_0 _) rfl ?_
      refine r_iload_n rfl rfl ?_
      obtain ⟨hb0, hk⟩ := hk
      refine q_callV0 [_] _ rfl kY_X10_isLying kT_X10_isLying rfl rfl (Nat.le_of_ble_eq_true rfl) (Nat.le_of_ble_eq_true rfl) (cc_31 _) (s_X10_isLying (Or.inl rfl) hb0) (fun r h q => ?_)
      obtain ⟨rfl, rfl⟩ := q
      simp only [Option.toList, List.cons_append, List.nil_append]
      refine r_if_eq rfl (fun c_33 => ?_) (fun c_33 => ?_)
      · rw [if_pos c_33] at he
        replace hk := hk.1 c_33
        refine r_iinc (b := x2 + 1) rfl rfl rfl (Nat.le_of_ble_eq_true rfl) rfl ?_
        refine r_goto rfl ?_
        subst he
        exact r_weak (L1 := [some (.ref 0), some (.int x1), some (.int (x2 + 1))]) ⟨rfl, rfl, rfl, trivial⟩ (ih _ _ hk)
      · rw [if_neg c_33] at he
        replace hk := hk.2 c_33
        refine r_iload_n rfl rfl ?_
        refine r_iconst_ (a := 1) rfl (by decide) ?_
        refine r_aload_n rfl rfl ?_
        refine q_getfield rfl (cc_0 _) rfl ?_
        refine q_getfield rfl (cT_0 (isT_l _)) rfl ?_
        refine r_iload_n rfl rfl ?_
        obtain ⟨hb1, hk⟩ := hk
        refine q_iald rfl (cT_5 (isT_l _)) hb1 ?_
        refine r_ishl rfl ?_
        refine r_iconst_ (a := -1) rfl (by decide) ?_
        refine r_ixor rfl ?_
        refine r_iand rfl ?_
        refine r_istore_n rfl (Nat.le_of_ble_eq_true rfl) rfl ?_
        refine r_iinc (b := x2 + 1) rfl rfl rfl (Nat.le_of_ble_eq_true rfl) rfl ?_
        refine r_goto rfl ?_
        subst he
        exact r_weak (L1 := [some (.ref 0), some (.int (x1 &&& (((1 : Int32) <<< ((s ((if D.2.2.1 then 20 else 9) + 5) x2.toNatClampNeg) &&& 31)) ^^^ (-1 : Int32)))), some (.int (x2 + 1))]) ⟨rfl, rfl, rfl, trivial⟩ (ih _ _ hk)

def f_X11_whole (fu : Nat) (D : fl_D) (s : fl_I) (l : fl_L) : Int32 :=
  f_X11_whole_14 fu fu (((1 : Int32) <<< ((s (if D.2.2.1 then 20 else 9) 0) &&& 31)) - (1 : Int32)) (0 : Int32) D s l

def p_X11_whole (fu : Nat) (D : fl_D) (s : fl_I) (l : fl_L) : Prop :=
  p_X11_whole_14 fu fu (((1 : Int32) <<< ((s (if D.2.2.1 then 20 else 9) 0) &&& 31)) - (1 : Int32)) (0 : Int32) D s l

set_option maxRecDepth 100000 in
set_option maxHeartbeats 1000000 in
theorem s_X11_whole {G : ab_G} {fu : Nat} {d : Nat} {D : fl_D} {s : fl_I} {l : fl_L}  (hk : p_X11_whole fu D s l) : ab_C G (d + 1) 0 0 M_X11_whole 0 (ab_ent [.ref 0]) [] (hp D s l) (rt (some (.int (f_X11_whole fu D s l))) (hp D s l)) := by
  generalize he : (f_X11_whole fu D s l) = res
  unfold f_X11_whole at he
  unfold p_X11_whole at hk
  refine r_weak (L1 := [some (.ref 0), none, none]) ⟨rfl, trivial⟩ ?_
  refine r_iconst_ (a := 1) rfl (by decide) ?_
  refine r_aload_n rfl rfl ?_
  refine q_getfield rfl (cc_0 _) rfl ?_
  refine q_getfield rfl (cT_0 (isT_l _)) rfl ?_
  refine r_ishl rfl ?_
  refine r_iconst_ (a := 1) rfl (by decide) ?_
  refine r_isub rfl ?_
  refine r_istore_n rfl (Nat.le_of_ble_eq_true rfl) rfl ?_
  refine r_iconst_ (a := 0) rfl (by decide) ?_
  refine r_istore_n rfl (Nat.le_of_ble_eq_true rfl) rfl ?_
  subst he
  exact r_weak (L1 := [some (.ref 0), some (.int (((1 : Int32) <<< ((s (if D.2.2.1 then 20 else 9) 0) &&& 31)) - (1 : Int32))), some (.int (0 : Int32))]) ⟨rfl, rfl, rfl, trivial⟩ (lp_X11_whole_14 fu _ _ hk)

def f_X12_restore_22 (fu : Nat) : Nat → Int32 → Int32 → fl_I → fl_L → Int32 × fl_I × fl_L
  | 0, x1, x2, s, l => (0, s, l)
  | n + 1, x1, x2, s, l =>
    if ((141 : Int32) ≤ x2) then ((1 : Int32), (wi s 60 58 (0 : Int32)), l) else f_X12_restore_22 fu n x1 (x2 + 1) (wi s 94 x2.toNatClampNeg (s 106 (((141 : Int32) * x1) + x2).toNatClampNeg)) l

def p_X12_restore_22 (fu : Nat) : Nat → Int32 → Int32 → fl_I → fl_L → Prop
  | 0, _, _, _, _ => False
  | n + 1, x1, x2, s, l =>
    ((((141 : Int32) ≤ x2) → True) ∧ (¬ ((141 : Int32) ≤ x2) → (vp_in (((141 : Int32) * x1) + x2) 423) ∧ (vp_in x2 141) ∧ p_X12_restore_22 fu n x1 (x2 + 1) (wi s 94 x2.toNatClampNeg (s 106 (((141 : Int32) * x1) + x2).toNatClampNeg)) l))

set_option maxRecDepth 100000 in
set_option maxHeartbeats 1000000 in
theorem lp_X12_restore_22 {G : ab_G} {fu : Nat} {d : Nat} {D : fl_D} : ∀ (n : Nat) (x1 : Int32) (x2 : Int32) (s : fl_I) (l : fl_L), p_X12_restore_22 fu n x1 x2 s l → ab_C G (d + 1) 0 0 M_X12_restore 22 [some (.ref 60), some (.int x1), some (.int x2)] [] (hp D s l) (rt (some (.int (f_X12_restore_22 fu n x1 x2 s l).1)) (hp D (f_X12_restore_22 fu n x1 x2 s l).2.1 (f_X12_restore_22 fu n x1 x2 s l).2.2)) := by
  intro n
  induction n with
  | zero => intro x1 x2 s l hk; exact hk.elim
  | succ n ih =>
    intro x1 x2 s l hk
    generalize he : f_X12_restore_22 fu (n + 1) x1 x2 s l = res
    unfold f_X12_restore_22 at he
    unfold p_X12_restore_22 at hk
    refine r_iload_n rfl rfl ?_
    refine r_sipush_ (a := 141) rfl (by decide) ?_
    refine r_icmp_ge rfl (fun c_26 => ?_) (fun c_26 => ?_)
    · rw [if_pos c_26] at he
      replace hk := hk.1 c_26
      refine r_aload_n rfl rfl ?_
      refine r_iconst_ (a := 0) rfl (by decide) ?_
      refine w_put rfl (cc_60 _) ff_12_58 ft_12_58 (fun _ _ => (Nat.le_of_ble_eq_true rfl)) (fun _ _ => rfl) ?_
      refine r_iconst_ (a := 1) rfl (by decide) ?_
      refine r_iret rfl rfl rfl ?_
      first | with_reducible exact fin_i he | exact fin_i he
    · rw [if_neg c_26] at he
      replace hk := hk.2 c_26
      refine r_aload_n rfl rfl ?_
      refine q_getfield rfl (cc_60 _) rfl ?_
      refine r_iload_n rfl rfl ?_
      refine r_aload_n rfl rfl ?_
      refine q_getfield rfl (cc_60 _) rfl ?_
      refine r_sipush_ (a := 141) rfl (by decide) ?_
      refine r_iload_n rfl rfl ?_
      refine r_imul rfl ?_
      refine r_iload_n rfl rfl ?_
      refine r_iadd rfl ?_
      obtain ⟨hb2, hk⟩ := hk
      refine q_iald rfl (cc_106 _) hb2 ?_
      obtain ⟨hb3, hk⟩ := hk
      refine w_iast rfl (cc_94 _) hb3 ?_
      refine r_iinc (b := x2 + 1) rfl rfl rfl (Nat.le_of_ble_eq_true rfl) rfl ?_
      refine r_goto rfl ?_
      subst he
      exact r_weak (L1 := [some (.ref 60), some (.int x1), some (.int (x2 + 1))]) ⟨rfl, rfl, rfl, trivial⟩ (ih _ _ _ _ hk)

def f_X12_restore (fu : Nat) (v0 : Int32) (s : fl_I) (l : fl_L) : Int32 × fl_I × fl_L :=
  if ((f_X12_in fu v0 (0 : Int32) (2 : Int32)) = 0) then ((0 : Int32), s, l) else if ((s 105 v0.toNatClampNeg) = 0) then ((0 : Int32), s, l) else f_X12_restore_22 fu fu v0 (0 : Int32) s l

def p_X12_restore (fu : Nat) (v0 : Int32) (s : fl_I) (l : fl_L) : Prop :=
  (p_X12_in fu v0 (0 : Int32) (2 : Int32)) ∧ ((((f_X12_in fu v0 (0 : Int32) (2 : Int32)) = 0) → True) ∧ (¬ ((f_X12_in fu v0 (0 : Int32) (2 : Int32)) = 0) → (vp_in v0 3) ∧ ((((s 105 v0.toNatClampNeg) = 0) → True) ∧ (¬ ((s 105 v0.toNatClampNeg) = 0) → p_X12_restore_22 fu fu v0 (0 : Int32) s l))))

set_option maxRecDepth 100000 in
set_option maxHeartbeats 1000000 in
theorem s_X12_restore {G : ab_G} {fu : Nat} {d : Nat} {D : fl_D} {s : fl_I} {l : fl_L} {v0 : Int32} (hk : p_X12_restore fu v0 s l) : ab_C G (d + 1) 0 0 M_X12_restore 0 (ab_ent [.ref 60, .int v0]) [] (hp D s l) (rt (some (.int (f_X12_restore fu v0 s l).1)) (hp D (f_X12_restore fu v0 s l).2.1 (f_X12_restore fu v0 s l).2.2)) := by
  generalize he : (f_X12_restore fu v0 s l) = res
  unfold f_X12_restore at he
  unfold p_X12_restore at hk
  refine r_weak (L1 := [some (.ref 60), some (.int v0), none]) ⟨rfl, rfl, trivial⟩ ?_
  refine r_iload_n rfl rfl ?_
  refine r_iconst_ (a := 0) rfl (by decide) ?_
  refine r_iconst_ (a := 2) rfl (by decide) ?_
  obtain ⟨hb0, hk⟩ := hk
  refine r_callS0 [_, _, _] _ rfl kY_X12_in kT_X12_in rfl rfl (Nat.le_of_ble_eq_true rfl) (Nat.le_of_ble_eq_true rfl) (s_X12_in hb0) (fun r h q => ?_)
  obtain ⟨rfl, rfl⟩ := q
  simp only [Option.toList, List.cons_append, List.nil_append]
  refine r_if_eq rfl (fun c_6 => ?_) (fun c_6 => ?_)
  · rw [if_pos c_6] at he
    replace hk := hk.1 c_6
    refine r_iconst_ (a := 0) rfl (by decide) ?_
    refine r_iret rfl rfl rfl ?_
    first | with_reducible exact fin_i he | exact fin_i he
  · rw [if_neg c_6] at he
    replace hk := hk.2 c_6
    refine r_aload_n rfl rfl ?_
    refine q_getfield rfl (cc_60 _) rfl ?_
    refine r_iload_n rfl rfl ?_
    obtain ⟨hb1, hk⟩ := hk
    refine q_zald rfl (cc_105 _) hb1 ?_
    refine r_if_ne rfl (fun c_15 => ?_) (fun c_15 => ?_)
    · rw [if_neg c_15] at he
      replace hk := hk.2 c_15
      refine r_iconst_ (a := 0) rfl (by decide) ?_
      refine r_istore_n rfl (Nat.le_of_ble_eq_true rfl) rfl ?_
      subst he
      exact r_weak (L1 := [some (.ref 60), some (.int v0), some (.int (0 : Int32))]) ⟨rfl, rfl, rfl, trivial⟩ (lp_X12_restore_22 fu _ _ _ _ hk)
    · rw [if_pos c_15] at he
      replace hk := hk.1 c_15
      refine r_iconst_ (a := 0) rfl (by decide) ?_
      refine r_iret rfl rfl rfl ?_
      first | with_reducible exact fin_i he | exact fin_i he

