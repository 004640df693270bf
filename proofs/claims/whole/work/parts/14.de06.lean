def f_X6_intKind_5 (fu : Nat) : Nat → Int32 → Int32 → Int32 → fl_I → fl_L → Int32 × fl_I × fl_L
  | 0, x2, x3, x4, s, l => (0, s, l)
  | n + 1, x2, x3, x4, s, l =>
    if ((s 1 1) ≤ (s 4 4)) then if (x3 ≤ (4 : Int32)) then ((3 : Int32), s, (wl l 7 x2.toNatClampNeg x4.toInt64)) else ((1 : Int32), s, (wl l 7 x2.toNatClampNeg x4.toInt64)) else if ((f_X6_isDigit fu (f_X4_byteAt fu (s 4 4) s l)) = 0) then if (x3 ≤ (4 : Int32)) then ((3 : Int32), s, (wl l 7 x2.toNatClampNeg x4.toInt64)) else ((1 : Int32), s, (wl l 7 x2.toNatClampNeg x4.toInt64)) else f_X6_intKind_5 fu n x2 (x3 + 1) (((x4 * (10 : Int32)) + (f_X4_byteAt fu (s 4 4) s l)) - (48 : Int32)) (wi s 4 4 ((s 4 4) + (1 : Int32))) l

def p_X6_intKind_5 (fu : Nat) : Nat → Int32 → Int32 → Int32 → fl_I → fl_L → Prop
  | 0, _, _, _, _, _ => False
  | n + 1, x2, x3, x4, s, l =>
    ((((s 1 1) ≤ (s 4 4)) → (vp_in x2 401) ∧ (((x3 ≤ (4 : Int32)) → True) ∧ (¬ (x3 ≤ (4 : Int32)) → True))) ∧ (¬ ((s 1 1) ≤ (s 4 4)) → (p_X4_byteAt fu (s 4 4) s l) ∧ (p_X6_isDigit fu (f_X4_byteAt fu (s 4 4) s l)) ∧ ((((f_X6_isDigit fu (f_X4_byteAt fu (s 4 4) s l)) = 0) → (vp_in x2 401) ∧ (((x3 ≤ (4 : Int32)) → True) ∧ (¬ (x3 ≤ (4 : Int32)) → True))) ∧ (¬ ((f_X6_isDigit fu (f_X4_byteAt fu (s 4 4) s l)) = 0) → (p_X4_byteAt fu (s 4 4) s l) ∧ p_X6_intKind_5 fu n x2 (x3 + 1) (((x4 * (10 : Int32)) + (f_X4_byteAt fu (s 4 4) s l)) - (48 : Int32)) (wi s 4 4 ((s 4 4) + (1 : Int32))) l))))

set_option maxRecDepth 100000 in
set_option maxHeartbeats 1000000 in
theorem lp_X6_intKind_5 {G : ab_G} {fu : Nat} {d : Nat} {D : fl_D} : ∀ (n : Nat) (x2 : Int32) (x3 : Int32) (x4 : Int32) (s : fl_I) (l : fl_L), p_X6_intKind_5 fu n x2 x3 x4 s l → ab_C G (d + 1) 0 0 M_X6_intKind 5 [some (.ref 4), some (.ref 1), some (.int x2), some (.int x3), some (.int x4)] [] (hp D s l) (rt (some (.int (f_X6_intKind_5 fu n x2 x3 x4 s l).1)) (hp D (f_X6_intKind_5 fu n x2 x3 x4 s l).2.1 (f_X6_intKind_5 fu n x2 x3 x4 s l).2.2)) := by
  intro n
  induction n with
  | zero => intro x2 x3 x4 s l hk; exact hk.elim
  | succ n ih =>
    intro x2 x3 x4 s l hk
    generalize he : f_X6_intKind_5 fu (n + 1) x2 x3 x4 s l = res
    unfold f_X6_intKind_5 at he
    unfold p_X6_intKind_5 at hk
    refine r_aload_n rfl rfl ?_
    refine q_getfield rfl (cc_4 _) rfl ?_
    refine r_aload_n rfl rfl ?_
    refine q_getfield rfl (cc_1 _) rfl ?_
    refine r_icmp_ge rfl (fun c_13 => ?_) (fun c_13 => ?_)
    · rw [if_pos c_13] at he
      replace hk := hk.1 c_13
      refine r_aload_n rfl rfl ?_
      refine q_getfield rfl (cc_4 _) rfl ?_
      refine r_iload_n rfl rfl ?_
      refine r_iload rfl rfl ?_
      refine r_i2l rfl ?_
      obtain ⟨hb0, hk⟩ := hk
      refine w_last rfl (cc_7 _) hb0 ?_
      refine r_iload_n rfl rfl ?_
      refine r_iconst_ (a := 4) rfl (by decide) ?_
      refine r_icmp_le rfl (fun c_76 => ?_) (fun c_76 => ?_)
      · rw [if_pos c_76] at he
        replace hk := hk.1 c_76
        refine r_iconst_ (a := 3) rfl (by decide) ?_
        refine r_iret rfl rfl rfl ?_
        first | with_reducible exact fin_i he | exact fin_i he
      · rw [if_neg c_76] at he
        replace hk := hk.2 c_76
        refine r_iconst_ (a := 1) rfl (by decide) ?_
        refine r_goto rfl ?_
        refine r_iret rfl rfl rfl ?_
        first | with_reducible exact fin_i he | exact fin_i he
    · rw [if_neg c_13] at he
      replace hk := hk.2 c_13
      refine r_aload_n rfl rfl ?_
      refine r_aload_n rfl rfl ?_
      refine q_getfield rfl (cc_4 _) rfl ?_
      obtain ⟨hb1, hk⟩ := hk
      refine q_callV0 [_] _ rfl kY_X4_byteAt kT_X4_byteAt rfl rfl (Nat.le_of_ble_eq_true rfl) (Nat.le_of_ble_eq_true rfl) (cc_1 _) (s_X4_byteAt hb1) (fun r h q => ?_)
      obtain ⟨rfl, rfl⟩ := q
      simp only [Option.toList, List.cons_append, List.nil_append]
      obtain ⟨hb2, hk⟩ := hk
      refine r_callS0 [_] _ rfl kY_X6_isDigit kT_X6_isDigit rfl rfl (Nat.le_of_ble_eq_true rfl) (Nat.le_of_ble_eq_true rfl) (s_X6_isDigit hb2) (fun r h q => ?_)
      obtain ⟨rfl, rfl⟩ := q
      simp only [Option.toList, List.cons_append, List.nil_append]
      refine r_if_eq rfl (fun c_27 => ?_) (fun c_27 => ?_)
      · rw [if_pos c_27] at he
        replace hk := hk.1 c_27
        refine r_aload_n rfl rfl ?_
        refine q_getfield rfl (cc_4 _) rfl ?_
        refine r_iload_n rfl rfl ?_
        refine r_iload rfl rfl ?_
        refine r_i2l rfl ?_
        obtain ⟨hb3, hk⟩ := hk
        refine w_last rfl (cc_7 _) hb3 ?_
        refine r_iload_n rfl rfl ?_
        refine r_iconst_ (a := 4) rfl (by decide) ?_
        refine r_icmp_le rfl (fun c_76 => ?_) (fun c_76 => ?_)
        · rw [if_pos c_76] at he
          replace hk := hk.1 c_76
          refine r_iconst_ (a := 3) rfl (by decide) ?_
          refine r_iret rfl rfl rfl ?_
          first | with_reducible exact fin_i he | exact fin_i he
        · rw [if_neg c_76] at he
          replace hk := hk.2 c_76
          refine r_iconst_ (a := 1) rfl (by decide) ?_
          refine r_goto rfl ?_
          refine r_iret rfl rfl rfl ?_
          first | with_reducible exact fin_i he | exact fin_i he
      · rw [if_neg c_27] at he
        replace hk := hk.2 c_27
        refine r_iload rfl rfl ?_
        refine r_bipush_ (a := 10) rfl (by decide) ?_
        refine r_imul rfl ?_
        refine r_aload_n rfl rfl ?_
        refine r_aload_n rfl rfl ?_
        refine q_getfield rfl (cc_4 _) rfl ?_
        obtain ⟨hb4, hk⟩ := hk
        refine q_callV0 [_] _ rfl kY_X4_byteAt kT_X4_byteAt rfl rfl (Nat.le_of_ble_eq_true rfl) (Nat.le_of_ble_eq_true rfl) (cc_1 _) (s_X4_byteAt hb4) (fun r h q => ?_)
        obtain ⟨rfl, rfl⟩ := q
        simp only [Option.toList, List.cons_append, List.nil_append]
        refine r_iadd rfl ?_
        refine r_bipush_ (a := 48) rfl (by decide) ?_
        refine r_isub rfl ?_
        refine r_istore rfl (Nat.le_of_ble_eq_true rfl) rfl ?_
        refine r_iinc (b := x3 + 1) rfl rfl rfl (Nat.le_of_ble_eq_true rfl) rfl ?_
        refine r_aload_n rfl rfl ?_
        refine r_dup rfl rfl ?_
        refine q_getfield rfl (cc_4 _) rfl ?_
        refine r_iconst_ (a := 1) rfl (by decide) ?_
        refine r_iadd rfl ?_
        refine w_put rfl (cc_4 _) ff_6_4 ft_6_4 (fun _ _ => (Nat.le_of_ble_eq_true rfl)) (fun _ _ => rfl) ?_
        refine r_goto rfl ?_
        subst he
        exact r_weak (L1 := [some (.ref 4), some (.ref 1), some (.int x2), some (.int (x3 + 1)), some (.int (((x4 * (10 : Int32)) + (f_X4_byteAt fu (s 4 4) s l)) - (48 : Int32)))]) ⟨rfl, rfl, rfl, rfl, rfl, trivial⟩ (ih _ _ _ _ _ hk)

def f_X6_intKind (fu : Nat) (v1 : Int32) (s : fl_I) (l : fl_L) : Int32 × fl_I × fl_L :=
  f_X6_intKind_5 fu fu v1 (0 : Int32) (0 : Int32) s l

def p_X6_intKind (fu : Nat) (v1 : Int32) (s : fl_I) (l : fl_L) : Prop :=
  p_X6_intKind_5 fu fu v1 (0 : Int32) (0 : Int32) s l

set_option maxRecDepth 100000 in
set_option maxHeartbeats 1000000 in
theorem s_X6_intKind {G : ab_G} {fu : Nat} {d : Nat} {D : fl_D} {s : fl_I} {l : fl_L} {v1 : Int32} (hk : p_X6_intKind fu v1 s l) : ab_C G (d + 1) 0 0 M_X6_intKind 0 (ab_ent [.ref 4, .ref 1, .int v1]) [] (hp D s l) (rt (some (.int (f_X6_intKind fu v1 s l).1)) (hp D (f_X6_intKind fu v1 s l).2.1 (f_X6_intKind fu v1 s l).2.2)) := by
  generalize he : (f_X6_intKind fu v1 s l) = res
  unfold f_X6_intKind at he
  unfold p_X6_intKind at hk
  refine r_weak (L1 := [some (.ref 4), some (.ref 1), some (.int v1), none, none]) ⟨rfl, rfl, rfl, trivial⟩ ?_
  refine r_iconst_ (a := 0) rfl (by decide) ?_
  refine r_istore_n rfl (Nat.le_of_ble_eq_true rfl) rfl ?_
  refine r_iconst_ (a := 0) rfl (by decide) ?_
  refine r_istore rfl (Nat.le_of_ble_eq_true rfl) rfl ?_
  subst he
  exact r_weak (L1 := [some (.ref 4), some (.ref 1), some (.int v1), some (.int (0 : Int32)), some (.int (0 : Int32))]) ⟨rfl, rfl, rfl, rfl, rfl, trivial⟩ (lp_X6_intKind_5 fu _ _ _ _ _ hk)

def f_X12_unit (fu : Nat) (s : fl_I) (l : fl_L) : fl_I × fl_L :=
  if ((f_X12_is fu (2 : Int32) s l) = 0) then if ((s 60 13) = 0) then if ((s 63 (s 60 11).toNatClampNeg) < (32 : Int32)) then ((f_X12_fail fu (1 : Int32) s l).1, (f_X12_fail fu (1 : Int32) s l).2) else if ((40 : Int32) < (s 63 (s 60 11).toNatClampNeg)) then ((f_X12_fail fu (1 : Int32) s l).1, (f_X12_fail fu (1 : Int32) s l).2) else ((f_X12_goesOn fu (f_X12_emit fu (1 : Int32) ((s 63 (s 60 11).toNatClampNeg) - (32 : Int32)) s l).1 (f_X12_emit fu (1 : Int32) ((s 63 (s 60 11).toNatClampNeg) - (32 : Int32)) s l).2).1, (f_X12_goesOn fu (f_X12_emit fu (1 : Int32) ((s 63 (s 60 11).toNatClampNeg) - (32 : Int32)) s l).1 (f_X12_emit fu (1 : Int32) ((s 63 (s 60 11).toNatClampNeg) - (32 : Int32)) s l).2).2) else ((f_X12_fail fu (1 : Int32) s l).1, (f_X12_fail fu (1 : Int32) s l).2) else ((f_X12_goesOn fu (f_X12_emit fu (0 : Int32) (s 65 (s 60 11).toNatClampNeg) s l).1 (f_X12_emit fu (0 : Int32) (s 65 (s 60 11).toNatClampNeg) s l).2).1, (f_X12_goesOn fu (f_X12_emit fu (0 : Int32) (s 65 (s 60 11).toNatClampNeg) s l).1 (f_X12_emit fu (0 : Int32) (s 65 (s 60 11).toNatClampNeg) s l).2).2)

def p_X12_unit (fu : Nat) (s : fl_I) (l : fl_L) : Prop :=
  (p_X12_is fu (2 : Int32) s l) ∧ ((((f_X12_is fu (2 : Int32) s l) = 0) → ((((s 60 13) = 0) → (vp_in (s 60 11) 403) ∧ ((((s 63 (s 60 11).toNatClampNeg) < (32 : Int32)) → (p_X12_fail fu (1 : Int32) s l) ∧ True) ∧ (¬ ((s 63 (s 60 11).toNatClampNeg) < (32 : Int32)) → (vp_in (s 60 11) 403) ∧ ((((40 : Int32) < (s 63 (s 60 11).toNatClampNeg)) → (p_X12_fail fu (1 : Int32) s l) ∧ True) ∧ (¬ ((40 : Int32) < (s 63 (s 60 11).toNatClampNeg)) → (vp_in (s 60 11) 403) ∧ (p_X12_emit fu (1 : Int32) ((s 63 (s 60 11).toNatClampNeg) - (32 : Int32)) s l) ∧ (p_X12_goesOn fu (f_X12_emit fu (1 : Int32) ((s 63 (s 60 11).toNatClampNeg) - (32 : Int32)) s l).1 (f_X12_emit fu (1 : Int32) ((s 63 (s 60 11).toNatClampNeg) - (32 : Int32)) s l).2) ∧ True))))) ∧ (¬ ((s 60 13) = 0) → (p_X12_fail fu (1 : Int32) s l) ∧ True))) ∧ (¬ ((f_X12_is fu (2 : Int32) s l) = 0) → (vp_in (s 60 11) 403) ∧ (p_X12_emit fu (0 : Int32) (s 65 (s 60 11).toNatClampNeg) s l) ∧ (p_X12_goesOn fu (f_X12_emit fu (0 : Int32) (s 65 (s 60 11).toNatClampNeg) s l).1 (f_X12_emit fu (0 : Int32) (s 65 (s 60 11).toNatClampNeg) s l).2) ∧ True))

set_option maxRecDepth 100000 in
set_option maxHeartbeats 1000000 in
theorem s_X12_unit {G : ab_G} {fu : Nat} {d : Nat} {D : fl_D} {s : fl_I} {l : fl_L}  (hk : p_X12_unit fu s l) : ab_C G (d + 2) 0 0 M_X12_unit 0 (ab_ent [.ref 60]) [] (hp D s l) (rt none (hp D (f_X12_unit fu s l).1 (f_X12_unit fu s l).2)) := by
  generalize he : (f_X12_unit fu s l) = res
  unfold f_X12_unit at he
  unfold p_X12_unit at hk
  refine r_weak (L1 := [some (.ref 60)]) ⟨rfl, trivial⟩ ?_
  refine r_aload_n rfl rfl ?_
  refine r_iconst_ (a := 2) rfl (by decide) ?_
  obtain ⟨hb0, hk⟩ := hk
  refine q_callV0 [_] _ rfl kY_X12_is kT_X12_is rfl rfl (Nat.le_of_ble_eq_true rfl) (Nat.le_of_ble_eq_true rfl) (cc_60 _) (s_X12_is hb0) (fun r h q => ?_)
  obtain ⟨rfl, rfl⟩ := q
  simp only [Option.toList, List.cons_append, List.nil_append]
  refine r_if_eq rfl (fun c_5 => ?_) (fun c_5 => ?_)
  · rw [if_pos c_5] at he
    replace hk := hk.1 c_5
    refine r_aload_n rfl rfl ?_
    refine q_getfield rfl (cc_60 _) rfl ?_
    refine r_if_ne rfl (fun c_33 => ?_) (fun c_33 => ?_)
    · rw [if_neg c_33] at he
      replace hk := hk.2 c_33
      refine r_aload_n rfl rfl ?_
      refine r_iconst_ (a := 1) rfl (by decide) ?_
      obtain ⟨hb1, hk⟩ := hk
      refine q_callV0 [_] _ rfl kY_X12_fail kT_X12_fail rfl rfl (Nat.le_of_ble_eq_true rfl) (Nat.le_of_ble_eq_true rfl) (cc_60 _) (s_X12_fail hb1) (fun r h q => ?_)
      obtain ⟨rfl, rfl⟩ := q
      simp only [Option.toList, List.cons_append, List.nil_append]
      refine r_ret rfl rfl ?_
      first | with_reducible exact fin_v he | exact fin_v he
    · rw [if_pos c_33] at he
      replace hk := hk.1 c_33
      refine r_aload_n rfl rfl ?_
      refine q_getfield rfl (cc_60 _) rfl ?_
      refine r_aload_n rfl rfl ?_
      refine q_getfield rfl (cc_60 _) rfl ?_
      obtain ⟨hb2, hk⟩ := hk
      refine q_iald rfl (cc_63 _) hb2 ?_
      refine r_bipush_ (a := 32) rfl (by decide) ?_
      refine r_icmp_lt rfl (fun c_47 => ?_) (fun c_47 => ?_)
      · rw [if_pos c_47] at he
        replace hk := hk.1 c_47
        refine r_aload_n rfl rfl ?_
        refine r_iconst_ (a := 1) rfl (by decide) ?_
        obtain ⟨hb3, hk⟩ := hk
        refine q_callV0 [_] _ rfl kY_X12_fail kT_X12_fail rfl rfl (Nat.le_of_ble_eq_true rfl) (Nat.le_of_ble_eq_true rfl) (cc_60 _) (s_X12_fail hb3) (fun r h q => ?_)
        obtain ⟨rfl, rfl⟩ := q
        simp only [Option.toList, List.cons_append, List.nil_append]
        refine r_ret rfl rfl ?_
        first | with_reducible exact fin_v he | exact fin_v he
      · rw [if_neg c_47] at he
        replace hk := hk.2 c_47
        refine r_aload_n rfl rfl ?_
        refine q_getfield rfl (cc_60 _) rfl ?_
        refine r_aload_n rfl rfl ?_
        refine q_getfield rfl (cc_60 _) rfl ?_
        obtain ⟨hb4, hk⟩ := hk
        refine q_iald rfl (cc_63 _) hb4 ?_
        refine r_bipush_ (a := 40) rfl (by decide) ?_
        refine r_icmp_gt rfl (fun c_61 => ?_) (fun c_61 => ?_)
        · rw [if_pos c_61] at he
          replace hk := hk.1 c_61
          refine r_aload_n rfl rfl ?_
          refine r_iconst_ (a := 1) rfl (by decide) ?_
          obtain ⟨hb5, hk⟩ := hk
          refine q_callV0 [_] _ rfl kY_X12_fail kT_X12_fail rfl rfl (Nat.le_of_ble_eq_true rfl) (Nat.le_of_ble_eq_true rfl) (cc_60 _) (s_X12_fail hb5) (fun r h q => ?_)
          obtain ⟨rfl, rfl⟩ := q
          simp only [Option.toList, List.cons_append, List.nil_append]
          refine r_ret rfl rfl ?_
          first | with_reducible exact fin_v he | exact fin_v he
        · rw [if_neg c_61] at he
          replace hk := hk.2 c_61
          refine r_aload_n rfl rfl ?_
          refine r_iconst_ (a := 1) rfl (by decide) ?_
          refine r_aload_n rfl rfl ?_
          refine q_getfield rfl (cc_60 _) rfl ?_
          refine r_aload_n rfl rfl ?_
          refine q_getfield rfl (cc_60 _) rfl ?_
          obtain ⟨hb6, hk⟩ := hk
          refine q_iald rfl (cc_63 _) hb6 ?_
          refine r_bipush_ (a := 32) rfl (by decide) ?_
          refine r_isub rfl ?_
          obtain ⟨hb7, hk⟩ := hk
          refine q_callV0 [_, _] _ rfl kY_X12_emit kT_X12_emit rfl rfl (Nat.le_of_ble_eq_true rfl) (Nat.le_of_ble_eq_true rfl) (cc_60 _) (s_X12_emit hb7) (fun r h q => ?_)
          obtain ⟨rfl, rfl⟩ := q
          simp only [Option.toList, List.cons_append, List.nil_append]
          refine r_aload_n rfl rfl ?_
          obtain ⟨hb8, hk⟩ := hk
          refine q_callV0 [] _ rfl kY_X12_goesOn kT_X12_goesOn rfl rfl (Nat.le_of_ble_eq_true rfl) (Nat.le_of_ble_eq_true rfl) (cc_60 _) (s_X12_goesOn hb8) (fun r h q => ?_)
          obtain ⟨rfl, rfl⟩ := q
          simp only [Option.toList, List.cons_append, List.nil_append]
          refine r_goto rfl ?_
          refine r_ret rfl rfl ?_
          first | with_reducible exact fin_v he | exact fin_v he
  · rw [if_neg c_5] at he
    replace hk := hk.2 c_5
    refine r_aload_n rfl rfl ?_
    refine r_iconst_ (a := 0) rfl (by decide) ?_
    refine r_aload_n rfl rfl ?_
    refine q_getfield rfl (cc_60 _) rfl ?_
    refine r_aload_n rfl rfl ?_
    refine q_getfield rfl (cc_60 _) rfl ?_
    obtain ⟨hb9, hk⟩ := hk
    refine q_iald rfl (cc_65 _) hb9 ?_
    obtain ⟨hb10, hk⟩ := hk
    refine q_callV0 [_, _] _ rfl kY_X12_emit kT_X12_emit rfl rfl (Nat.le_of_ble_eq_true rfl) (Nat.le_of_ble_eq_true rfl) (cc_60 _) (s_X12_emit hb10) (fun r h q => ?_)
    obtain ⟨rfl, rfl⟩ := q
    simp only [Option.toList, List.cons_append, List.nil_append]
    refine r_aload_n rfl rfl ?_
    obtain ⟨hb11, hk⟩ := hk
    refine q_callV0 [] _ rfl kY_X12_goesOn kT_X12_goesOn rfl rfl (Nat.le_of_ble_eq_true rfl) (Nat.le_of_ble_eq_true rfl) (cc_60 _) (s_X12_goesOn hb11) (fun r h q => ?_)
    obtain ⟨rfl, rfl⟩ := q
    simp only [Option.toList, List.cons_append, List.nil_append]
    refine r_goto rfl ?_
    refine r_ret rfl rfl ?_
    first | with_reducible exact fin_v he | exact fin_v he

def f_X12_comesOut_41 (fu : Nat) (s : fl_I) (l : fl_L) : fl_I × fl_L :=
    (s, l)

def p_X12_comesOut_41 (fu : Nat) (s : fl_I) (l : fl_L) : Prop :=
    True

set_option maxRecDepth 100000 in
set_option maxHeartbeats 1000000 in
theorem lp_X12_comesOut_41 {G : ab_G} {fu : Nat} {d : Nat} {D : fl_D} : ∀ (s : fl_I) (l : fl_L), p_X12_comesOut_41 fu  s l → ab_C G (d + 1) 0 0 M_X12_comesOut 41 [none, none, none] [] (hp D s l) (rt none (hp D (f_X12_comesOut_41 fu  s l).1 (f_X12_comesOut_41 fu  s l).2)) := by
  intro  s l hk
  generalize he : f_X12_comesOut_41 fu  s l = res
  unfold f_X12_comesOut_41 at he
  unfold p_X12_comesOut_41 at hk
  refine r_ret rfl rfl ?_
  first | with_reducible exact fin_v he | exact fin_v he

def f_X12_comesOut_88 (fu : Nat) (K0 : Int32 → fl_I → fl_L → fl_I × fl_L) (x1 : Int32) (s : fl_I) (l : fl_L) : fl_I × fl_L :=
    K0 x1 s l

def p_X12_comesOut_88 (fu : Nat) (P0 : Int32 → fl_I → fl_L → Prop) (x1 : Int32) (s : fl_I) (l : fl_L) : Prop :=
    P0 x1 s l

set_option maxRecDepth 100000 in
set_option maxHeartbeats 1000000 in
theorem lp_X12_comesOut_88 {G : ab_G} {fu : Nat} {d : Nat} {D : fl_D} (K0 : Int32 → fl_I → fl_L → fl_I × fl_L) (P0 : Int32 → fl_I → fl_L → Prop) (hK0 : ∀ (x1 : Int32) (s : fl_I) (l : fl_L), P0 x1 s l → ab_C G (d + 1) 0 0 M_X12_comesOut 0 [some (.ref 60), some (.int x1), none] [] (hp D s l) (rt none (hp D (K0 x1 s l).1 (K0 x1 s l).2))) : ∀ (x1 : Int32) (s : fl_I) (l : fl_L), p_X12_comesOut_88 fu P0 x1 s l → ab_C G (d + 1) 0 0 M_X12_comesOut 88 [some (.ref 60), some (.int x1), none] [] (hp D s l) (rt none (hp D (f_X12_comesOut_88 fu K0 x1 s l).1 (f_X12_comesOut_88 fu K0 x1 s l).2)) := by
  intro x1 s l hk
  generalize he : f_X12_comesOut_88 fu K0 x1 s l = res
  unfold f_X12_comesOut_88 at he
  unfold p_X12_comesOut_88 at hk
  refine r_goto rfl ?_
  subst he
  exact r_weak (L1 := [some (.ref 60), some (.int x1), none]) ⟨rfl, rfl, trivial⟩ (hK0 _ _ _ hk)

def f_X12_comesOut_42 (fu : Nat) (K0 : Int32 → fl_I → fl_L → fl_I × fl_L) (x1 : Int32) (x2 : Int32) (s : fl_I) (l : fl_L) : fl_I × fl_L :=
    if (x2 = (8 : Int32)) then f_X12_comesOut_88 fu K0 x1 (f_X12_emit fu (2 : Int32) (0 : Int32) (wi s 60 46 ((s 60 46) - (1 : Int32))) l).1 (f_X12_emit fu (2 : Int32) (0 : Int32) (wi s 60 46 ((s 60 46) - (1 : Int32))) l).2 else if (x2 = (9 : Int32)) then f_X12_comesOut_88 fu K0 x1 (f_X12_emit fu (3 : Int32) (0 : Int32) (wi s 60 46 ((s 60 46) - (1 : Int32))) l).1 (f_X12_emit fu (3 : Int32) (0 : Int32) (wi s 60 46 ((s 60 46) - (1 : Int32))) l).2 else if (x2 = (10 : Int32)) then f_X12_comesOut_88 fu K0 x1 (f_X12_emit fu (4 : Int32) (0 : Int32) (wi s 60 46 ((s 60 46) - (1 : Int32))) l).1 (f_X12_emit fu (4 : Int32) (0 : Int32) (wi s 60 46 ((s 60 46) - (1 : Int32))) l).2 else f_X12_comesOut_88 fu K0 x1 (f_X12_emit fu (5 : Int32) (0 : Int32) (wi s 60 46 ((s 60 46) - (1 : Int32))) l).1 (f_X12_emit fu (5 : Int32) (0 : Int32) (wi s 60 46 ((s 60 46) - (1 : Int32))) l).2

def p_X12_comesOut_42 (fu : Nat) (P0 : Int32 → fl_I → fl_L → Prop) (x1 : Int32) (x2 : Int32) (s : fl_I) (l : fl_L) : Prop :=
    (((x2 = (8 : Int32)) → (p_X12_emit fu (2 : Int32) (0 : Int32) (wi s 60 46 ((s 60 46) - (1 : Int32))) l) ∧ p_X12_comesOut_88 fu P0 x1 (f_X12_emit fu (2 : Int32) (0 : Int32) (wi s 60 46 ((s 60 46) - (1 : Int32))) l).1 (f_X12_emit fu (2 : Int32) (0 : Int32) (wi s 60 46 ((s 60 46) - (1 : Int32))) l).2) ∧ (¬ (x2 = (8 : Int32)) → (((x2 = (9 : Int32)) → (p_X12_emit fu (3 : Int32) (0 : Int32) (wi s 60 46 ((s 60 46) - (1 : Int32))) l) ∧ p_X12_comesOut_88 fu P0 x1 (f_X12_emit fu (3 : Int32) (0 : Int32) (wi s 60 46 ((s 60 46) - (1 : Int32))) l).1 (f_X12_emit fu (3 : Int32) (0 : Int32) (wi s 60 46 ((s 60 46) - (1 : Int32))) l).2) ∧ (¬ (x2 = (9 : Int32)) → (((x2 = (10 : Int32)) → (p_X12_emit fu (4 : Int32) (0 : Int32) (wi s 60 46 ((s 60 46) - (1 : Int32))) l) ∧ p_X12_comesOut_88 fu P0 x1 (f_X12_emit fu (4 : Int32) (0 : Int32) (wi s 60 46 ((s 60 46) - (1 : Int32))) l).1 (f_X12_emit fu (4 : Int32) (0 : Int32) (wi s 60 46 ((s 60 46) - (1 : Int32))) l).2) ∧ (¬ (x2 = (10 : Int32)) → (p_X12_emit fu (5 : Int32) (0 : Int32) (wi s 60 46 ((s 60 46) - (1 : Int32))) l) ∧ p_X12_comesOut_88 fu P0 x1 (f_X12_emit fu (5 : Int32) (0 : Int32) (wi s 60 46 ((s 60 46) - (1 : Int32))) l).1 (f_X12_emit fu (5 : Int32) (0 : Int32) (wi s 60 46 ((s 60 46) - (1 : Int32))) l).2))))))

set_option maxRecDepth 100000 in
set_option maxHeartbeats 1000000 in
theorem lp_X12_comesOut_42 {G : ab_G} {fu : Nat} {d : Nat} {D : fl_D} (K0 : Int32 → fl_I → fl_L → fl_I × fl_L) (P0 : Int32 → fl_I → fl_L → Prop) (hK0 : ∀ (x1 : Int32) (s : fl_I) (l : fl_L), P0 x1 s l → ab_C G (d + 1) 0 0 M_X12_comesOut 0 [some (.ref 60), some (.int x1), none] [] (hp D s l) (rt none (hp D (K0 x1 s l).1 (K0 x1 s l).2))) : ∀ (x1 : Int32) (x2 : Int32) (s : fl_I) (l : fl_L), p_X12_comesOut_42 fu P0 x1 x2 s l → ab_C G (d + 1) 0 0 M_X12_comesOut 42 [some (.ref 60), some (.int x1), some (.int x2)] [] (hp D s l) (rt none (hp D (f_X12_comesOut_42 fu K0 x1 x2 s l).1 (f_X12_comesOut_42 fu K0 x1 x2 s l).2)) := by
  intro x1 x2 s l hk
  generalize he : f_X12_comesOut_42 fu K0 x1 x2 s l = res
  unfold f_X12_comesOut_42 at he
  unfold p_X12_comesOut_42 at hk
  refine r_aload_n rfl rfl ?_
  refine r_dup rfl rfl ?_
  refine q_getfield rfl (cc_60 _) rfl ?_
  refine r_iconst_ (a := 1) rfl (by decide) ?_
  refine r_isub rfl ?_
  refine w_put rfl (cc_60 _) ff_12_46 ft_12_46 (fun _ _ => (Nat.le_of_ble_eq_true rfl)) (fun _ _ => rfl) ?_
  refine r_aload_n rfl rfl ?_
  refine r_iload_n rfl rfl ?_
  refine r_bipush_ (a := 8) rfl (by decide) ?_
  refine r_icmp_ne rfl (fun c_56 => ?_) (fun c_56 => ?_)
  · rw [if_neg c_56] at he
    replace hk := hk.2 c_56
    refine r_iload_n rfl rfl ?_
    refine r_bipush_ (a := 9) rfl (by decide) ?_
    refine r_icmp_ne rfl (fun c_66 => ?_) (fun c_66 => ?_)
    · rw [if_neg c_66] at he
      replace hk := hk.2 c_66
      refine r_iload_n rfl rfl ?_
      refine r_bipush_ (a := 10) rfl (by decide) ?_
      refine r_icmp_ne rfl (fun c_76 => ?_) (fun c_76 => ?_)
      · rw [if_neg c_76] at he
        replace hk := hk.2 c_76
        refine r_iconst_ (a := 5) rfl (by decide) ?_
        refine r_iconst_ (a := 0) rfl (by decide) ?_
        obtain ⟨hb1, hk⟩ := hk
        refine q_callV0 [_, _] _ rfl kY_X12_emit kT_X12_emit rfl rfl (Nat.le_of_ble_eq_true rfl) (Nat.le_of_ble_eq_true rfl) (cc_60 _) (s_X12_emit hb1) (fun r h q => ?_)
        obtain ⟨rfl, rfl⟩ := q
        simp only [Option.toList, List.cons_append, List.nil_append]
        subst he
        exact r_weak (L1 := [some (.ref 60), some (.int x1), none]) ⟨rfl, rfl, trivial⟩ (lp_X12_comesOut_88 _ _ hK0 _ _ _ hk)
      · rw [if_pos c_76] at he
        replace hk := hk.1 c_76
        refine r_iconst_ (a := 4) rfl (by decide) ?_
        refine r_goto rfl ?_
        refine r_iconst_ (a := 0) rfl (by decide) ?_
        obtain ⟨hb2, hk⟩ := hk
        refine q_callV0 [_, _] _ rfl kY_X12_emit kT_X12_emit rfl rfl (Nat.le_of_ble_eq_true rfl) (Nat.le_of_ble_eq_true rfl) (cc_60 _) (s_X12_emit hb2) (fun r h q => ?_)
        obtain ⟨rfl, rfl⟩ := q
        simp only [Option.toList, List.cons_append, List.nil_append]
        subst he
        exact r_weak (L1 := [some (.ref 60), some (.int x1), none]) ⟨rfl, rfl, trivial⟩ (lp_X12_comesOut_88 _ _ hK0 _ _ _ hk)
    · rw [if_pos c_66] at he
      replace hk := hk.1 c_66
      refine r_iconst_ (a := 3) rfl (by decide) ?_
      refine r_goto rfl ?_
      refine r_iconst_ (a := 0) rfl (by decide) ?_
      obtain ⟨hb3, hk⟩ := hk
      refine q_callV0 [_, _] _ rfl kY_X12_emit kT_X12_emit rfl rfl (Nat.le_of_ble_eq_true rfl) (Nat.le_of_ble_eq_true rfl) (cc_60 _) (s_X12_emit hb3) (fun r h q => ?_)
      obtain ⟨rfl, rfl⟩ := q
      simp only [Option.toList, List.cons_append, List.nil_append]
      subst he
      exact r_weak (L1 := [some (.ref 60), some (.int x1), none]) ⟨rfl, rfl, trivial⟩ (lp_X12_comesOut_88 _ _ hK0 _ _ _ hk)
  · rw [if_pos c_56] at he
    replace hk := hk.1 c_56
    refine r_iconst_ (a := 2) rfl (by decide) ?_
    refine r_goto rfl ?_
    refine r_iconst_ (a := 0) rfl (by decide) ?_
    obtain ⟨hb4, hk⟩ := hk
    refine q_callV0 [_, _] _ rfl kY_X12_emit kT_X12_emit rfl rfl (Nat.le_of_ble_eq_true rfl) (Nat.le_of_ble_eq_true rfl) (cc_60 _) (s_X12_emit hb4) (fun r h q => ?_)
    obtain ⟨rfl, rfl⟩ := q
    simp only [Option.toList, List.cons_append, List.nil_append]
    subst he
    exact r_weak (L1 := [some (.ref 60), some (.int x1), none]) ⟨rfl, rfl, trivial⟩ (lp_X12_comesOut_88 _ _ hK0 _ _ _ hk)

def f_X12_comesOut_0 (fu : Nat) : Nat → Int32 → fl_I → fl_L → fl_I × fl_L
  | 0, x1, s, l => (s, l)
  | n + 1, x1, s, l =>
    if ((s 60 46) ≤ 0) then (s, l) else if ((s 91 ((s 60 46) - (1 : Int32)).toNatClampNeg) = (6 : Int32)) then f_X12_comesOut_41 fu  s l else if (x1 = 0) then f_X12_comesOut_42 fu (fun x1 s l => f_X12_comesOut_0 fu n x1 s l) x1 (s 91 ((s 60 46) - (1 : Int32)).toNatClampNeg) s l else if ((s 91 ((s 60 46) - (1 : Int32)).toNatClampNeg) = (8 : Int32)) then f_X12_comesOut_41 fu  s l else if ((s 91 ((s 60 46) - (1 : Int32)).toNatClampNeg) = (9 : Int32)) then f_X12_comesOut_41 fu  s l else f_X12_comesOut_42 fu (fun x1 s l => f_X12_comesOut_0 fu n x1 s l) x1 (s 91 ((s 60 46) - (1 : Int32)).toNatClampNeg) s l

def p_X12_comesOut_0 (fu : Nat) : Nat → Int32 → fl_I → fl_L → Prop
  | 0, _, _, _ => False
  | n + 1, x1, s, l =>
    ((((s 60 46) ≤ 0) → True) ∧ (¬ ((s 60 46) ≤ 0) → (vp_in ((s 60 46) - (1 : Int32)) 64) ∧ ((((s 91 ((s 60 46) - (1 : Int32)).toNatClampNeg) = (6 : Int32)) → p_X12_comesOut_41 fu  s l) ∧ (¬ ((s 91 ((s 60 46) - (1 : Int32)).toNatClampNeg) = (6 : Int32)) → (((x1 = 0) → p_X12_comesOut_42 fu (fun x1 s l => p_X12_comesOut_0 fu n x1 s l) x1 (s 91 ((s 60 46) - (1 : Int32)).toNatClampNeg) s l) ∧ (¬ (x1 = 0) → ((((s 91 ((s 60 46) - (1 : Int32)).toNatClampNeg) = (8 : Int32)) → p_X12_comesOut_41 fu  s l) ∧ (¬ ((s 91 ((s 60 46) - (1 : Int32)).toNatClampNeg) = (8 : Int32)) → ((((s 91 ((s 60 46) - (1 : Int32)).toNatClampNeg) = (9 : Int32)) → p_X12_comesOut_41 fu  s l) ∧ (¬ ((s 91 ((s 60 46) - (1 : Int32)).toNatClampNeg) = (9 : Int32)) → p_X12_comesOut_42 fu (fun x1 s l => p_X12_comesOut_0 fu n x1 s l) x1 (s 91 ((s 60 46) - (1 : Int32)).toNatClampNeg) s l))))))))))

set_option maxRecDepth 100000 in
set_option maxHeartbeats 1000000 in
theorem lp_X12_comesOut_0 {G : ab_G} {fu : Nat} {d : Nat} {D : fl_D} : ∀ (n : Nat) (x1 : Int32) (s : fl_I) (l : fl_L), p_X12_comesOut_0 fu n x1 s l → ab_C G (d + 1) 0 0 M_X12_comesOut 0 [some (.ref 60), some (.int x1), none] [] (hp D s l) (rt none (hp D (f_X12_comesOut_0 fu n x1 s l).1 (f_X12_comesOut_0 fu n x1 s l).2)) := by
  intro n
  induction n with
  | zero => intro x1 s l hk; exact hk.elim
  | succ n ih =>
    intro x1 s l hk
    generalize he : f_X12_comesOut_0 fu (n + 1) x1 s l = res
    unfold f_X12_comesOut_0 at he
    unfold p_X12_comesOut_0 at hk
    refine r_aload_n rfl rfl ?_
    refine q_getfield rfl (cc_60 _) rfl ?_
    refine r_if_le rfl (fun c_4 => ?_) (fun c_4 => ?_)
    · rw [if_pos c_4] at he
      replace hk := hk.1 c_4
      refine r_ret rfl rfl ?_
      first | with_reducible exact fin_v he | exact fin_v he
    · rw [if_neg c_4] at he
      replace hk := hk.2 c_4
      refine r_aload_n rfl rfl ?_
      refine q_getfield rfl (cc_60 _) rfl ?_
      refine r_aload_n rfl rfl ?_
      refine q_getfield rfl (cc_60 _) rfl ?_
      refine r_iconst_ (a := 1) rfl (by decide) ?_
      refine r_isub rfl ?_
      obtain ⟨hb0, hk⟩ := hk
      refine q_iald rfl (cc_91 _) hb0 ?_
      refine r_istore_n rfl (Nat.le_of_ble_eq_true rfl) rfl ?_
      refine r_iload_n rfl rfl ?_
      refine r_bipush_ (a := 6) rfl (by decide) ?_
      refine r_icmp_eq rfl (fun c_22 => ?_) (fun c_22 => ?_)
      · rw [if_pos c_22] at he
        replace hk := hk.1 c_22
        subst he
        exact r_weak (L1 := [none, none, none]) trivial (lp_X12_comesOut_41 _ _ hk)
      · rw [if_neg c_22] at he
        replace hk := hk.2 c_22
        refine r_iload_n rfl rfl ?_
        refine r_if_eq rfl (fun c_26 => ?_) (fun c_26 => ?_)
        · rw [if_pos c_26] at he
          replace hk := hk.1 c_26
          subst he
          exact r_weak (L1 := [some (.ref 60), some (.int x1), some (.int (s 91 ((s 60 46) - (1 : Int32)).toNatClampNeg))]) ⟨rfl, rfl, rfl, trivial⟩ (lp_X12_comesOut_42 _ _ (fun _ _ _ h9 => ih _ _ _ h9) _ _ _ _ hk)
        · rw [if_neg c_26] at he
          replace hk := hk.2 c_26
          refine r_iload_n rfl rfl ?_
          refine r_bipush_ (a := 8) rfl (by decide) ?_
          refine r_icmp_eq rfl (fun c_32 => ?_) (fun c_32 => ?_)
          · rw [if_pos c_32] at he
            replace hk := hk.1 c_32
            subst he
            exact r_weak (L1 := [none, none, none]) trivial (lp_X12_comesOut_41 _ _ hk)
          · rw [if_neg c_32] at he
            replace hk := hk.2 c_32
            refine r_iload_n rfl rfl ?_
            refine r_bipush_ (a := 9) rfl (by decide) ?_
            refine r_icmp_ne rfl (fun c_38 => ?_) (fun c_38 => ?_)
            · rw [if_neg c_38] at he
              replace hk := hk.2 c_38
              subst he
              exact r_weak (L1 := [some (.ref 60), some (.int x1), some (.int (s 91 ((s 60 46) - (1 : Int32)).toNatClampNeg))]) ⟨rfl, rfl, rfl, trivial⟩ (lp_X12_comesOut_42 _ _ (fun _ _ _ h9 => ih _ _ _ h9) _ _ _ _ hk)
            · rw [if_pos c_38] at he
              replace hk := hk.1 c_38
              subst he
              exact r_weak (L1 := [none, none, none]) trivial (lp_X12_comesOut_41 _ _ hk)

def f_X12_comesOut (fu : Nat) (v0 : Int32) (s : fl_I) (l : fl_L) : fl_I × fl_L :=
  f_X12_comesOut_0 fu fu v0 s l

def p_X12_comesOut (fu : Nat) (v0 : Int32) (s : fl_I) (l : fl_L) : Prop :=
  p_X12_comesOut_0 fu fu v0 s l

set_option maxRecDepth 100000 in
set_option maxHeartbeats 1000000 in
theorem s_X12_comesOut {G : ab_G} {fu : Nat} {d : Nat} {D : fl_D} {s : fl_I} {l : fl_L} {v0 : Int32} (hk : p_X12_comesOut fu v0 s l) : ab_C G (d + 1) 0 0 M_X12_comesOut 0 (ab_ent [.ref 60, .int v0]) [] (hp D s l) (rt none (hp D (f_X12_comesOut fu v0 s l).1 (f_X12_comesOut fu v0 s l).2)) := by
  generalize he : (f_X12_comesOut fu v0 s l) = res
  unfold f_X12_comesOut at he
  unfold p_X12_comesOut at hk
  refine r_weak (L1 := [some (.ref 60), some (.int v0), none]) ⟨rfl, rfl, trivial⟩ ?_
  subst he
  exact r_weak (L1 := [some (.ref 60), some (.int v0), none]) ⟨rfl, rfl, trivial⟩ (lp_X12_comesOut_0 fu _ _ _ hk)

def f_X12_picksUp_8 (fu : Nat) : Nat → Int32 → Int32 → Int32 → fl_I → fl_L → fl_I × fl_L
  | 0, x1, x2, x3, s, l => (s, l)
  | n + 1, x1, x2, x3, s, l =>
    if ((s 60 54) ≤ x3) then (s, l) else if ((s 78 (((4 : Int32) * (s 60 18)) + x1).toNatClampNeg) ≤ x2) then (s, l) else if ((f_X12_doesLie fu x3 s l) = 0) then f_X12_picksUp_8 fu n x1 x2 (x3 + 1) s l else if ((f_X12_cellOf fu x3 s l) = (f_X12_cellOfPicker fu x1 s l)) then f_X12_picksUp_8 fu n x1 (x2 + 1) (x3 + 1) (wi (wi s 95 ((64 : Int32) + x3).toNatClampNeg x1) 95 ((96 : Int32) + x3).toNatClampNeg (0 : Int32)) l else f_X12_picksUp_8 fu n x1 x2 (x3 + 1) s l

def p_X12_picksUp_8 (fu : Nat) : Nat → Int32 → Int32 → Int32 → fl_I → fl_L → Prop
  | 0, _, _, _, _, _ => False
  | n + 1, x1, x2, x3, s, l =>
    ((((s 60 54) ≤ x3) → True) ∧ (¬ ((s 60 54) ≤ x3) → (vp_in (((4 : Int32) * (s 60 18)) + x1) 8) ∧ ((((s 78 (((4 : Int32) * (s 60 18)) + x1).toNatClampNeg) ≤ x2) → True) ∧ (¬ ((s 78 (((4 : Int32) * (s 60 18)) + x1).toNatClampNeg) ≤ x2) → (p_X12_doesLie fu x3 s l) ∧ ((((f_X12_doesLie fu x3 s l) = 0) → p_X12_picksUp_8 fu n x1 x2 (x3 + 1) s l) ∧ (¬ ((f_X12_doesLie fu x3 s l) = 0) → (p_X12_cellOf fu x3 s l) ∧ (p_X12_cellOfPicker fu x1 s l) ∧ ((((f_X12_cellOf fu x3 s l) = (f_X12_cellOfPicker fu x1 s l)) → (vp_in ((64 : Int32) + x3) 141) ∧ (vp_in ((96 : Int32) + x3) 141) ∧ p_X12_picksUp_8 fu n x1 (x2 + 1) (x3 + 1) (wi (wi s 95 ((64 : Int32) + x3).toNatClampNeg x1) 95 ((96 : Int32) + x3).toNatClampNeg (0 : Int32)) l) ∧ (¬ ((f_X12_cellOf fu x3 s l) = (f_X12_cellOfPicker fu x1 s l)) → p_X12_picksUp_8 fu n x1 x2 (x3 + 1) s l))))))))

set_option maxRecDepth 100000 in
set_option maxHeartbeats 1000000 in
theorem lp_X12_picksUp_8 {G : ab_G} {fu : Nat} {d : Nat} {D : fl_D} : ∀ (n : Nat) (x1 : Int32) (x2 : Int32) (x3 : Int32) (s : fl_I) (l : fl_L), p_X12_picksUp_8 fu n x1 x2 x3 s l → ab_C G (d + 1) 0 0 M_X12_picksUp 8 [some (.ref 60), some (.int x1), some (.int x2), some (.int x3)] [] (hp D s l) (rt none (hp D (f_X12_picksUp_8 fu n x1 x2 x3 s l).1 (f_X12_picksUp_8 fu n x1 x2 x3 s l).2)) := by
  intro n
  induction n with
  | zero => intro x1 x2 x3 s l hk; exact hk.elim
  | succ n ih =>
    intro x1 x2 x3 s l hk
    generalize he : f_X12_picksUp_8 fu (n + 1) x1 x2 x3 s l = res
    unfold f_X12_picksUp_8 at he
    unfold p_X12_picksUp_8 at hk
    refine r_iload_n rfl rfl ?_
    refine r_aload_n rfl rfl ?_
    refine q_getfield rfl (cc_60 _) rfl ?_
    refine r_icmp_ge rfl (fun c_13 => ?_) (fun c_13 => ?_)
    · rw [if_pos c_13] at he
      replace hk := hk.1 c_13
      refine r_ret rfl rfl ?_
      first | with_reducible exact fin_v he | exact fin_v he
    · rw [if_neg c_13] at he
      replace hk := hk.2 c_13
      refine r_iload_n rfl rfl ?_
      refine r_aload_n rfl rfl ?_
      refine q_getfield rfl (cc_60 _) rfl ?_
      refine r_iconst_ (a := 4) rfl (by decide) ?_
      refine r_aload_n rfl rfl ?_
      refine q_getfield rfl (cc_60 _) rfl ?_
      refine r_imul rfl ?_
      refine r_iload_n rfl rfl ?_
      refine r_iadd rfl ?_
      obtain ⟨hb1, hk⟩ := hk
      refine q_iald rfl (cc_78 _) hb1 ?_
      refine r_icmp_ge rfl (fun c_30 => ?_) (fun c_30 => ?_)
      · rw [if_pos c_30] at he
        replace hk := hk.1 c_30
        refine r_ret rfl rfl ?_
        first | with_reducible exact fin_v he | exact fin_v he
      · rw [if_neg c_30] at he
        replace hk := hk.2 c_30
        refine r_aload_n rfl rfl ?_
        refine r_iload_n rfl rfl ?_
        obtain ⟨hb2, hk⟩ := hk
        refine q_callV0 [_] _ rfl kY_X12_doesLie kT_X12_doesLie rfl rfl (Nat.le_of_ble_eq_true rfl) (Nat.le_of_ble_eq_true rfl) (cc_60 _) (s_X12_doesLie hb2) (fun r h q => ?_)
        obtain ⟨rfl, rfl⟩ := q
        simp only [Option.toList, List.cons_append, List.nil_append]
        refine r_if_eq rfl (fun c_38 => ?_) (fun c_38 => ?_)
        · rw [if_pos c_38] at he
          replace hk := hk.1 c_38
          refine r_iinc (b := x3 + 1) rfl rfl rfl (Nat.le_of_ble_eq_true rfl) rfl ?_
          refine r_goto rfl ?_
          subst he
          exact r_weak (L1 := [some (.ref 60), some (.int x1), some (.int x2), some (.int (x3 + 1))]) ⟨rfl, rfl, rfl, rfl, trivial⟩ (ih _ _ _ _ _ hk)
        · rw [if_neg c_38] at he
          replace hk := hk.2 c_38
          refine r_aload_n rfl rfl ?_
          refine r_iload_n rfl rfl ?_
          obtain ⟨hb3, hk⟩ := hk
          refine q_callV0 [_] _ rfl kY_X12_cellOf kT_X12_cellOf rfl rfl (Nat.le_of_ble_eq_true rfl) (Nat.le_of_ble_eq_true rfl) (cc_60 _) (s_X12_cellOf hb3) (fun r h q => ?_)
          obtain ⟨rfl, rfl⟩ := q
          simp only [Option.toList, List.cons_append, List.nil_append]
          refine r_aload_n rfl rfl ?_
          refine r_iload_n rfl rfl ?_
          obtain ⟨hb4, hk⟩ := hk
          refine q_callV0 [_] _ rfl kY_X12_cellOfPicker kT_X12_cellOfPicker rfl rfl (Nat.le_of_ble_eq_true rfl) (Nat.le_of_ble_eq_true rfl) (cc_60 _) (s_X12_cellOfPicker hb4) (fun r h q => ?_)
          obtain ⟨rfl, rfl⟩ := q
          simp only [Option.toList, List.cons_append, List.nil_append]
          refine r_icmp_eq rfl (fun c_51 => ?_) (fun c_51 => ?_)
          · rw [if_pos c_51] at he
            replace hk := hk.1 c_51
            refine r_aload_n rfl rfl ?_
            refine q_getfield rfl (cc_60 _) rfl ?_
            refine r_bipush_ (a := 64) rfl (by decide) ?_
            refine r_iload_n rfl rfl ?_
            refine r_iadd rfl ?_
            refine r_iload_n rfl rfl ?_
            obtain ⟨hb5, hk⟩ := hk
            refine w_iast rfl (cc_95 _) hb5 ?_
            refine r_aload_n rfl rfl ?_
            refine q_getfield rfl (cc_60 _) rfl ?_
            refine r_bipush_ (a := 96) rfl (by decide) ?_
            refine r_iload_n rfl rfl ?_
            refine r_iadd rfl ?_
            refine r_iconst_ (a := 0) rfl (by decide) ?_
            obtain ⟨hb6, hk⟩ := hk
            refine w_iast rfl (cc_95 _) hb6 ?_
            refine r_iinc (b := x2 + 1) rfl rfl rfl (Nat.le_of_ble_eq_true rfl) rfl ?_
            refine r_iinc (b := x3 + 1) rfl rfl rfl (Nat.le_of_ble_eq_true rfl) rfl ?_
            refine r_goto rfl ?_
            subst he
            exact r_weak (L1 := [some (.ref 60), some (.int x1), some (.int (x2 + 1)), some (.int (x3 + 1))]) ⟨rfl, rfl, rfl, rfl, trivial⟩ (ih _ _ _ _ _ hk)
          · rw [if_neg c_51] at he
            replace hk := hk.2 c_51
            refine r_goto rfl ?_
            refine r_iinc (b := x3 + 1) rfl rfl rfl (Nat.le_of_ble_eq_true rfl) rfl ?_
            refine r_goto rfl ?_
            subst he
            exact r_weak (L1 := [some (.ref 60), some (.int x1), some (.int x2), some (.int (x3 + 1))]) ⟨rfl, rfl, rfl, rfl, trivial⟩ (ih _ _ _ _ _ hk)

def f_X12_picksUp (fu : Nat) (v0 : Int32) (s : fl_I) (l : fl_L) : fl_I × fl_L :=
  f_X12_picksUp_8 fu fu v0 (f_X12_inHat fu v0 s l) (0 : Int32) s l

def p_X12_picksUp (fu : Nat) (v0 : Int32) (s : fl_I) (l : fl_L) : Prop :=
  (p_X12_inHat fu v0 s l) ∧ p_X12_picksUp_8 fu fu v0 (f_X12_inHat fu v0 s l) (0 : Int32) s l

set_option maxRecDepth 100000 in
set_option maxHeartbeats 1000000 in
theorem s_X12_picksUp {G : ab_G} {fu : Nat} {d : Nat} {D : fl_D} {s : fl_I} {l : fl_L} {v0 : Int32} (hk : p_X12_picksUp fu v0 s l) : ab_C G (d + 1) 0 0 M_X12_picksUp 0 (ab_ent [.ref 60, .int v0]) [] (hp D s l) (rt none (hp D (f_X12_picksUp fu v0 s l).1 (f_X12_picksUp fu v0 s l).2)) := by
  generalize he : (f_X12_picksUp fu v0 s l) = res
  unfold f_X12_picksUp at he
  unfold p_X12_picksUp at hk
  refine r_weak (L1 := [some (.ref 60), some (.int v0), none, none]) ⟨rfl, rfl, trivial⟩ ?_
  refine r_aload_n rfl rfl ?_
  refine r_iload_n rfl rfl ?_
  obtain ⟨hb0, hk⟩ := hk
  refine q_callV0 [_] _ rfl kY_X12_inHat kT_X12_inHat rfl rfl (Nat.le_of_ble_eq_true rfl) (Nat.le_of_ble_eq_true rfl) (cc_60 _) (s_X12_inHat hb0) (fun r h q => ?_)
  obtain ⟨rfl, rfl⟩ := q
  simp only [Option.toList, List.cons_append, List.nil_append]
  refine r_istore_n rfl (Nat.le_of_ble_eq_true rfl) rfl ?_
  refine r_iconst_ (a := 0) rfl (by decide) ?_
  refine r_istore_n rfl (Nat.le_of_ble_eq_true rfl) rfl ?_
  subst he
  exact r_weak (L1 := [some (.ref 60), some (.int v0), some (.int (f_X12_inHat fu v0 s l)), some (.int (0 : Int32))]) ⟨rfl, rfl, rfl, rfl, trivial⟩ (lp_X12_picksUp_8 fu _ _ _ _ _ hk)

def f_X10_copy (fu : Nat) (a : Nat) (b : Nat) (s : fl_I) (l : fl_L) : fl_I × fl_L :=
  ((wc (wc (wc (wc (wc (wi (wi (wi s a 0 (s b 0)) a 1 ((wi s a 0 (s b 0)) b 1)) a 2 ((wi (wi s a 0 (s b 0)) a 1 ((wi s a 0 (s b 0)) b 1)) b 2)) (b + 1) (a + 1) (0 : Int32).toNatClampNeg (0 : Int32).toNatClampNeg (32 : Int32).toNatClampNeg) (b + 2) (a + 2) (0 : Int32).toNatClampNeg (0 : Int32).toNatClampNeg (32 : Int32).toNatClampNeg) (b + 3) (a + 3) (0 : Int32).toNatClampNeg (0 : Int32).toNatClampNeg (4 : Int32).toNatClampNeg) (b + 4) (a + 4) (0 : Int32).toNatClampNeg (0 : Int32).toNatClampNeg (4 : Int32).toNatClampNeg) (b + 5) (a + 5) (0 : Int32).toNatClampNeg (0 : Int32).toNatClampNeg (4 : Int32).toNatClampNeg), l)

def p_X10_copy (fu : Nat) (a : Nat) (b : Nat) (s : fl_I) (l : fl_L) : Prop :=
  True

set_option maxRecDepth 100000 in
set_option maxHeartbeats 1000000 in
theorem s_X10_copy {G : ab_G} {fu : Nat} {d : Nat} {D : fl_D} {s : fl_I} {l : fl_L} {a : Nat} (hya : isY D a) {b : Nat} (hyb : isY D b)  (hk : p_X10_copy fu a b s l) : ab_C G d 0 0 M_X10_copy 0 (ab_ent [.ref a, .ref b]) [] (hp D s l) (rt none (hp D (f_X10_copy fu a b s l).1 (f_X10_copy fu a b s l).2)) := by
  generalize he : (f_X10_copy fu a b s l) = res
  unfold f_X10_copy at he
  unfold p_X10_copy at hk
  refine r_weak (L1 := [some (.ref a), some (.ref b)]) ⟨rfl, rfl, trivial⟩ ?_
  refine r_aload_n rfl rfl ?_
  refine r_aload_n rfl rfl ?_
  refine q_getfield rfl (cY_0 hyb) rfl ?_
  refine w_put rfl (cY_0 hya) ff_10_0 ft_10_0 (fun _ _ => (Nat.le_of_ble_eq_true rfl)) (fun _ _ => rfl) ?_
  refine r_aload_n rfl rfl ?_
  refine r_aload_n rfl rfl ?_
  refine q_getfield rfl (cY_0 hyb) rfl ?_
  refine w_put rfl (cY_0 hya) ff_10_1 ft_10_1 (fun _ _ => (Nat.le_of_ble_eq_true rfl)) (fun _ _ => rfl) ?_
  refine r_aload_n rfl rfl ?_
  refine r_aload_n rfl rfl ?_
  refine q_getfield rfl (cY_0 hyb) rfl ?_
  refine w_put rfl (cY_0 hya) ff_10_2 ft_10_2 (fun _ _ => (Nat.le_of_ble_eq_true rfl)) (fun _ _ => rfl) ?_
  refine r_aload_n rfl rfl ?_
  refine q_getfield rfl (cY_0 hyb) rfl ?_
  refine r_iconst_ (a := 0) rfl (by decide) ?_
  refine r_aload_n rfl rfl ?_
  refine q_getfield rfl (cY_0 hya) rfl ?_
  refine r_iconst_ (a := 0) rfl (by decide) ?_
  refine r_bipush_ (a := 32) rfl (by decide) ?_
  refine w_copy rfl (cY_1 hyb) (cY_1 hya) (by decide) (by decide) (by decide) (Nat.le_of_ble_eq_true rfl) (Nat.le_of_ble_eq_true rfl) (Nat.le_of_ble_eq_true rfl) ?_
  refine r_aload_n rfl rfl ?_
  refine q_getfield rfl (cY_0 hyb) rfl ?_
  refine r_iconst_ (a := 0) rfl (by decide) ?_
  refine r_aload_n rfl rfl ?_
  refine q_getfield rfl (cY_0 hya) rfl ?_
  refine r_iconst_ (a := 0) rfl (by decide) ?_
  refine r_bipush_ (a := 32) rfl (by decide) ?_
  refine w_copy rfl (cY_2 hyb) (cY_2 hya) (by decide) (by decide) (by decide) (Nat.le_of_ble_eq_true rfl) (Nat.le_of_ble_eq_true rfl) (Nat.le_of_ble_eq_true rfl) ?_
  refine r_aload_n rfl rfl ?_
  refine q_getfield rfl (cY_0 hyb) rfl ?_
  refine r_iconst_ (a := 0) rfl (by decide) ?_
  refine r_aload_n rfl rfl ?_
  refine q_getfield rfl (cY_0 hya) rfl ?_
  refine r_iconst_ (a := 0) rfl (by decide) ?_
  refine r_iconst_ (a := 4) rfl (by decide) ?_
  refine w_copy rfl (cY_3 hyb) (cY_3 hya) (by decide) (by decide) (by decide) (Nat.le_of_ble_eq_true rfl) (Nat.le_of_ble_eq_true rfl) (Nat.le_of_ble_eq_true rfl) ?_
  refine r_aload_n rfl rfl ?_
  refine q_getfield rfl (cY_0 hyb) rfl ?_
  refine r_iconst_ (a := 0) rfl (by decide) ?_
  refine r_aload_n rfl rfl ?_
  refine q_getfield rfl (cY_0 hya) rfl ?_
  refine r_iconst_ (a := 0) rfl (by decide) ?_
  refine r_iconst_ (a := 4) rfl (by decide) ?_
  refine w_copy rfl (cY_4 hyb) (cY_4 hya) (by decide) (by decide) (by decide) (Nat.le_of_ble_eq_true rfl) (Nat.le_of_ble_eq_true rfl) (Nat.le_of_ble_eq_true rfl) ?_
  refine r_aload_n rfl rfl ?_
  refine q_getfield rfl (cY_0 hyb) rfl ?_
  refine r_iconst_ (a := 0) rfl (by decide) ?_
  refine r_aload_n rfl rfl ?_
  refine q_getfield rfl (cY_0 hya) rfl ?_
  refine r_iconst_ (a := 0) rfl (by decide) ?_
  refine r_iconst_ (a := 4) rfl (by decide) ?_
  refine w_copy rfl (cY_5 hyb) (cY_5 hya) (by decide) (by decide) (by decide) (Nat.le_of_ble_eq_true rfl) (Nat.le_of_ble_eq_true rfl) (Nat.le_of_ble_eq_true rfl) ?_
  refine r_ret rfl rfl ?_
  first | with_reducible exact fin_v he | exact fin_v he

