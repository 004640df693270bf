def f_X12_hold_20 (fu : Nat) : Nat → Int32 → Int32 → fl_I → fl_L → Int32 × fl_I × fl_L
  | 0, x1, x2, s, l => (0, s, l)
  | n + 1, x1, x2, s, l =>
    if ((141 : Int32) ≤ x2) then ((1 : Int32), s, l) else f_X12_hold_20 fu n x1 (x2 + 1) (wi s 106 (((141 : Int32) * x1) + x2).toNatClampNeg (s 94 x2.toNatClampNeg)) l

def p_X12_hold_20 (fu : Nat) : Nat → Int32 → Int32 → fl_I → fl_L → Prop
  | 0, _, _, _, _ => False
  | n + 1, x1, x2, s, l =>
    ((((141 : Int32) ≤ x2) → True) ∧ (¬ ((141 : Int32) ≤ x2) → (vp_in x2 141) ∧ (vp_in (((141 : Int32) * x1) + x2) 423) ∧ p_X12_hold_20 fu n x1 (x2 + 1) (wi s 106 (((141 : Int32) * x1) + x2).toNatClampNeg (s 94 x2.toNatClampNeg)) l))

set_option maxRecDepth 100000 in
set_option maxHeartbeats 4000000 in
theorem lp_X12_hold_20 {G : ab_G} {fu : Nat} {d : Nat} {D : fl_D} : ∀ (n : Nat) (x1 : Int32) (x2 : Int32) (s : fl_I) (l : fl_L), p_X12_hold_20 fu n x1 x2 s l → ab_C G (d + 1) 0 0 M_X12_hold 20 [some (.ref 60), some (.int x1), some (.int x2)] [] (hp D s l) (rt (some (.int (f_X12_hold_20 fu n x1 x2 s l).1)) (hp D (f_X12_hold_20 fu n x1 x2 s l).2.1 (f_X12_hold_20 fu n x1 x2 s l).2.2)) := by
  intro n
  induction n with
  | zero => intro x1 x2 s l hk; exact hk.elim
  | succ n ih =>
    intro x1 x2 s l hk
    generalize he : f_X12_hold_20 fu (n + 1) x1 x2 s l = res
    unfold f_X12_hold_20 at he
    unfold p_X12_hold_20 at hk
    refine r_iload_n rfl rfl ?_
    refine r_sipush_ (a := 141) rfl (by decide) ?_
    refine r_icmp_ge rfl (fun c_24 => ?_) (fun c_24 => ?_)
    · rw [if_pos c_24] at he
      replace hk := hk.1 c_24
      refine r_iconst_ (a := 1) rfl (by decide) ?_
      refine r_iret rfl rfl rfl ?_
      exact fin_i he
    · rw [if_neg c_24] at he
      replace hk := hk.2 c_24
      refine r_aload_n rfl rfl ?_
      refine q_getfield rfl (cc_60 _) rfl ?_
      refine r_sipush_ (a := 141) rfl (by decide) ?_
      refine r_iload_n rfl rfl ?_
      refine r_imul rfl ?_
      refine r_iload_n rfl rfl ?_
      refine r_iadd rfl ?_
      refine r_aload_n rfl rfl ?_
      refine q_getfield rfl (cc_60 _) rfl ?_
      refine r_iload_n rfl rfl ?_
      obtain ⟨hb2, hk⟩ := hk
      refine q_iald rfl (cc_94 _) hb2 ?_
      obtain ⟨hb3, hk⟩ := hk
      refine w_iast rfl (cc_106 _) hb3 ?_
      refine r_iinc (b := x2 + 1) rfl rfl rfl (Nat.le_of_ble_eq_true rfl) rfl ?_
      refine r_goto rfl ?_
      subst he
      exact r_weak (L1 := [some (.ref 60), some (.int x1), some (.int (x2 + 1))]) ⟨rfl, rfl, rfl, trivial⟩ (ih _ _ _ _ hk)

def f_X12_hold (fu : Nat) (v0 : Int32) (s : fl_I) (l : fl_L) : Int32 × fl_I × fl_L :=
  if ((f_X12_in fu v0 (0 : Int32) (2 : Int32)) = 0) then ((0 : Int32), s, l) else f_X12_hold_20 fu fu v0 (0 : Int32) (wi s 105 v0.toNatClampNeg (vp_nar .boolean (1 : Int32))) l

def p_X12_hold (fu : Nat) (v0 : Int32) (s : fl_I) (l : fl_L) : Prop :=
  (p_X12_in fu v0 (0 : Int32) (2 : Int32)) ∧ ((((f_X12_in fu v0 (0 : Int32) (2 : Int32)) = 0) → True) ∧ (¬ ((f_X12_in fu v0 (0 : Int32) (2 : Int32)) = 0) → (vp_in v0 3) ∧ p_X12_hold_20 fu fu v0 (0 : Int32) (wi s 105 v0.toNatClampNeg (vp_nar .boolean (1 : Int32))) l))

set_option maxRecDepth 100000 in
set_option maxHeartbeats 4000000 in
theorem s_X12_hold {G : ab_G} {fu : Nat} {d : Nat} {D : fl_D} {s : fl_I} {l : fl_L} {v0 : Int32} (hk : p_X12_hold fu v0 s l) : ab_C G (d + 1) 0 0 M_X12_hold 0 (ab_ent [.ref 60, .int v0]) [] (hp D s l) (rt (some (.int (f_X12_hold fu v0 s l).1)) (hp D (f_X12_hold fu v0 s l).2.1 (f_X12_hold fu v0 s l).2.2)) := by
  generalize he : (f_X12_hold fu v0 s l) = res
  unfold f_X12_hold at he
  unfold p_X12_hold at hk
  refine r_weak (L1 := [some (.ref 60), some (.int v0), none]) ⟨rfl, rfl, trivial⟩ ?_
  refine r_iload_n rfl rfl ?_
  refine r_iconst_ (a := 0) rfl (by decide) ?_
  refine r_iconst_ (a := 2) rfl (by decide) ?_
  obtain ⟨hb0, hk⟩ := hk
  refine r_callS0 [_, _, _] _ rfl kY_X12_in kT_X12_in rfl rfl (Nat.le_of_ble_eq_true rfl) (Nat.le_of_ble_eq_true rfl) (s_X12_in hb0) (fun r h q => ?_)
  obtain ⟨rfl, rfl⟩ := q
  simp only [Option.toList, List.cons_append, List.nil_append]
  refine r_if_ne rfl (fun c_6 => ?_) (fun c_6 => ?_)
  · rw [if_neg c_6] at he
    replace hk := hk.2 c_6
    refine r_aload_n rfl rfl ?_
    refine q_getfield rfl (cc_60 _) rfl ?_
    refine r_iload_n rfl rfl ?_
    refine r_iconst_ (a := 1) rfl (by decide) ?_
    obtain ⟨hb1, hk⟩ := hk
    refine w_zast rfl (cc_105 _) hb1 ?_
    refine r_iconst_ (a := 0) rfl (by decide) ?_
    refine r_istore_n rfl (Nat.le_of_ble_eq_true rfl) rfl ?_
    subst he
    exact r_weak (L1 := [some (.ref 60), some (.int v0), some (.int (0 : Int32))]) ⟨rfl, rfl, rfl, trivial⟩ (lp_X12_hold_20 fu _ _ _ _ hk)
  · rw [if_pos c_6] at he
    replace hk := hk.1 c_6
    refine r_iconst_ (a := 0) rfl (by decide) ?_
    refine r_iret rfl rfl rfl ?_
    exact fin_i he

def f_X12_fillsCells_7 (fu : Nat) : Nat → Int32 → Int32 → Int32 → fl_I → fl_L → fl_I × fl_L
  | 0, x1, x2, x3, s, l => (s, l)
  | n + 1, x1, x2, x3, s, l =>
    if ((80 : Int32) ≤ x3) then (s, l) else if (x3 = x1) then f_X12_fillsCells_7 fu n x1 x2 (x3 + 1) s l else if (x3 = x2) then f_X12_fillsCells_7 fu n x1 x2 (x3 + 1) s l else if ((f_X12_lieAt fu x3 s l) = 0) then f_X12_fillsCells_7 fu n x1 x2 (x3 + 1) s l else f_X12_fillsCells_7 fu n x1 x2 (x3 + 1) (wi (wi s 100 (s 60 60).toNatClampNeg x3) 60 60 (((wi s 100 (s 60 60).toNatClampNeg x3) 60 60) + (1 : Int32))) l

def p_X12_fillsCells_7 (fu : Nat) : Nat → Int32 → Int32 → Int32 → fl_I → fl_L → Prop
  | 0, _, _, _, _, _ => False
  | n + 1, x1, x2, x3, s, l =>
    ((((80 : Int32) ≤ x3) → True) ∧ (¬ ((80 : Int32) ≤ x3) → (((x3 = x1) → p_X12_fillsCells_7 fu n x1 x2 (x3 + 1) s l) ∧ (¬ (x3 = x1) → (((x3 = x2) → p_X12_fillsCells_7 fu n x1 x2 (x3 + 1) s l) ∧ (¬ (x3 = x2) → (p_X12_lieAt fu x3 s l) ∧ ((((f_X12_lieAt fu x3 s l) = 0) → p_X12_fillsCells_7 fu n x1 x2 (x3 + 1) s l) ∧ (¬ ((f_X12_lieAt fu x3 s l) = 0) → (vp_in (s 60 60) 80) ∧ p_X12_fillsCells_7 fu n x1 x2 (x3 + 1) (wi (wi s 100 (s 60 60).toNatClampNeg x3) 60 60 (((wi s 100 (s 60 60).toNatClampNeg x3) 60 60) + (1 : Int32))) l))))))))

set_option maxRecDepth 100000 in
set_option maxHeartbeats 4000000 in
theorem lp_X12_fillsCells_7 {G : ab_G} {fu : Nat} {d : Nat} {D : fl_D} : ∀ (n : Nat) (x1 : Int32) (x2 : Int32) (x3 : Int32) (s : fl_I) (l : fl_L), p_X12_fillsCells_7 fu n x1 x2 x3 s l → ab_C G (d + 2) 0 0 M_X12_fillsCells 7 [some (.ref 60), some (.int x1), some (.int x2), some (.int x3)] [] (hp D s l) (rt none (hp D (f_X12_fillsCells_7 fu n x1 x2 x3 s l).1 (f_X12_fillsCells_7 fu n x1 x2 x3 s l).2)) := by
  intro n
  induction n with
  | zero => intro x1 x2 x3 s l hk; exact hk.elim
  | succ n ih =>
    intro x1 x2 x3 s l hk
    generalize he : f_X12_fillsCells_7 fu (n + 1) x1 x2 x3 s l = res
    unfold f_X12_fillsCells_7 at he
    unfold p_X12_fillsCells_7 at hk
    refine r_iload_n rfl rfl ?_
    refine r_bipush_ (a := 80) rfl (by decide) ?_
    refine r_icmp_ge rfl (fun c_10 => ?_) (fun c_10 => ?_)
    · rw [if_pos c_10] at he
      replace hk := hk.1 c_10
      refine r_ret rfl rfl ?_
      exact fin_v he
    · rw [if_neg c_10] at he
      replace hk := hk.2 c_10
      refine r_iload_n rfl rfl ?_
      refine r_iload_n rfl rfl ?_
      refine r_icmp_eq rfl (fun c_15 => ?_) (fun c_15 => ?_)
      · rw [if_pos c_15] at he
        replace hk := hk.1 c_15
        refine r_iinc (b := x3 + 1) rfl rfl rfl (Nat.le_of_ble_eq_true rfl) rfl ?_
        refine r_goto rfl ?_
        subst he
        exact r_weak (L1 := [some (.ref 60), some (.int x1), some (.int x2), some (.int (x3 + 1))]) ⟨rfl, rfl, rfl, rfl, trivial⟩ (ih _ _ _ _ _ hk)
      · rw [if_neg c_15] at he
        replace hk := hk.2 c_15
        refine r_iload_n rfl rfl ?_
        refine r_iload_n rfl rfl ?_
        refine r_icmp_eq rfl (fun c_20 => ?_) (fun c_20 => ?_)
        · rw [if_pos c_20] at he
          replace hk := hk.1 c_20
          refine r_iinc (b := x3 + 1) rfl rfl rfl (Nat.le_of_ble_eq_true rfl) rfl ?_
          refine r_goto rfl ?_
          subst he
          exact r_weak (L1 := [some (.ref 60), some (.int x1), some (.int x2), some (.int (x3 + 1))]) ⟨rfl, rfl, rfl, rfl, trivial⟩ (ih _ _ _ _ _ hk)
        · rw [if_neg c_20] at he
          replace hk := hk.2 c_20
          refine r_aload_n rfl rfl ?_
          refine r_iload_n rfl rfl ?_
          obtain ⟨hb0, hk⟩ := hk
          refine q_callV0 [_] _ rfl kY_X12_lieAt kT_X12_lieAt rfl rfl (Nat.le_of_ble_eq_true rfl) (Nat.le_of_ble_eq_true rfl) (cc_60 _) (s_X12_lieAt hb0) (fun r h q => ?_)
          obtain ⟨rfl, rfl⟩ := q
          simp only [Option.toList, List.cons_append, List.nil_append]
          refine r_if_ne rfl (fun c_28 => ?_) (fun c_28 => ?_)
          · rw [if_neg c_28] at he
            replace hk := hk.2 c_28
            refine r_aload_n rfl rfl ?_
            refine q_getfield rfl (cc_60 _) rfl ?_
            refine r_aload_n rfl rfl ?_
            refine q_getfield rfl (cc_60 _) rfl ?_
            refine r_iload_n rfl rfl ?_
            obtain ⟨hb1, hk⟩ := hk
            refine w_iast rfl (cc_100 _) hb1 ?_
            refine r_aload_n rfl rfl ?_
            refine r_dup rfl rfl ?_
            refine q_getfield rfl (cc_60 _) rfl ?_
            refine r_iconst_ (a := 1) rfl (by decide) ?_
            refine r_iadd rfl ?_
            refine w_put rfl (cc_60 _) ff_12_60 ft_12_60 (fun _ _ => (Nat.le_of_ble_eq_true rfl)) (fun _ _ => rfl) ?_
            refine r_iinc (b := x3 + 1) rfl rfl rfl (Nat.le_of_ble_eq_true rfl) rfl ?_
            refine r_goto rfl ?_
            subst he
            exact r_weak (L1 := [some (.ref 60), some (.int x1), some (.int x2), some (.int (x3 + 1))]) ⟨rfl, rfl, rfl, rfl, trivial⟩ (ih _ _ _ _ _ hk)
          · rw [if_pos c_28] at he
            replace hk := hk.1 c_28
            refine r_goto rfl ?_
            refine r_iinc (b := x3 + 1) rfl rfl rfl (Nat.le_of_ble_eq_true rfl) rfl ?_
            refine r_goto rfl ?_
            subst he
            exact r_weak (L1 := [some (.ref 60), some (.int x1), some (.int x2), some (.int (x3 + 1))]) ⟨rfl, rfl, rfl, rfl, trivial⟩ (ih _ _ _ _ _ hk)

def f_X12_fillsCells (fu : Nat) (v0 : Int32) (v1 : Int32) (s : fl_I) (l : fl_L) : fl_I × fl_L :=
  f_X12_fillsCells_7 fu fu v0 v1 (0 : Int32) (wi s 60 60 (0 : Int32)) l

def p_X12_fillsCells (fu : Nat) (v0 : Int32) (v1 : Int32) (s : fl_I) (l : fl_L) : Prop :=
  p_X12_fillsCells_7 fu fu v0 v1 (0 : Int32) (wi s 60 60 (0 : Int32)) l

set_option maxRecDepth 100000 in
set_option maxHeartbeats 4000000 in
theorem s_X12_fillsCells {G : ab_G} {fu : Nat} {d : Nat} {D : fl_D} {s : fl_I} {l : fl_L} {v0 : Int32} {v1 : Int32} (hk : p_X12_fillsCells fu v0 v1 s l) : ab_C G (d + 2) 0 0 M_X12_fillsCells 0 (ab_ent [.ref 60, .int v0, .int v1]) [] (hp D s l) (rt none (hp D (f_X12_fillsCells fu v0 v1 s l).1 (f_X12_fillsCells fu v0 v1 s l).2)) := by
  generalize he : (f_X12_fillsCells fu v0 v1 s l) = res
  unfold f_X12_fillsCells at he
  unfold p_X12_fillsCells at hk
  refine r_weak (L1 := [some (.ref 60), some (.int v0), some (.int v1), none]) ⟨rfl, rfl, rfl, trivial⟩ ?_
  refine r_aload_n rfl rfl ?_
  refine r_iconst_ (a := 0) rfl (by decide) ?_
  refine w_put rfl (cc_60 _) ff_12_60 ft_12_60 (fun _ _ => (Nat.le_of_ble_eq_true rfl)) (fun _ _ => rfl) ?_
  refine r_iconst_ (a := 0) rfl (by decide) ?_
  refine r_istore_n rfl (Nat.le_of_ble_eq_true rfl) rfl ?_
  subst he
  exact r_weak (L1 := [some (.ref 60), some (.int v0), some (.int v1), some (.int (0 : Int32))]) ⟨rfl, rfl, rfl, rfl, trivial⟩ (lp_X12_fillsCells_7 fu _ _ _ _ _ hk)

def f_X12_missingOf_4 (fu : Nat) : Nat → Int32 → Int32 → Int32 → fl_I → fl_L → Int32
  | 0, _, _, _, _, _ => 0
  | n + 1, x1, x2, x3, s, l =>
    if ((27 : Int32) ≤ x3) then x2 else if ((f_X12_timesIn fu (f_X12_wordAt fu x1 s l) x3) ≤ (s 102 x3.toNatClampNeg)) then f_X12_missingOf_4 fu n x1 x2 (x3 + 1) s l else f_X12_missingOf_4 fu n x1 (x2 + ((f_X12_timesIn fu (f_X12_wordAt fu x1 s l) x3) - (s 102 x3.toNatClampNeg))) (x3 + 1) s l

def p_X12_missingOf_4 (fu : Nat) : Nat → Int32 → Int32 → Int32 → fl_I → fl_L → Prop
  | 0, _, _, _, _, _ => False
  | n + 1, x1, x2, x3, s, l =>
    ((((27 : Int32) ≤ x3) → True) ∧ (¬ ((27 : Int32) ≤ x3) → (p_X12_wordAt fu x1 s l) ∧ (p_X12_timesIn fu (f_X12_wordAt fu x1 s l) x3) ∧ (vp_in x3 27) ∧ ((((f_X12_timesIn fu (f_X12_wordAt fu x1 s l) x3) ≤ (s 102 x3.toNatClampNeg)) → p_X12_missingOf_4 fu n x1 x2 (x3 + 1) s l) ∧ (¬ ((f_X12_timesIn fu (f_X12_wordAt fu x1 s l) x3) ≤ (s 102 x3.toNatClampNeg)) → (p_X12_wordAt fu x1 s l) ∧ (p_X12_timesIn fu (f_X12_wordAt fu x1 s l) x3) ∧ (vp_in x3 27) ∧ p_X12_missingOf_4 fu n x1 (x2 + ((f_X12_timesIn fu (f_X12_wordAt fu x1 s l) x3) - (s 102 x3.toNatClampNeg))) (x3 + 1) s l))))

set_option maxRecDepth 100000 in
set_option maxHeartbeats 4000000 in
theorem lp_X12_missingOf_4 {G : ab_G} {fu : Nat} {d : Nat} {D : fl_D} {s : fl_I} {l : fl_L} : ∀ (n : Nat) (x1 : Int32) (x2 : Int32) (x3 : Int32), p_X12_missingOf_4 fu n x1 x2 x3 s l → ab_C G (d + 1) 0 0 M_X12_missingOf 4 [some (.ref 60), some (.int x1), some (.int x2), some (.int x3)] [] (hp D s l) (rt (some (.int (f_X12_missingOf_4 fu n x1 x2 x3 s l))) (hp D s l)) := by
  intro n
  induction n with
  | zero => intro x1 x2 x3 hk; exact hk.elim
  | succ n ih =>
    intro x1 x2 x3 hk
    generalize he : f_X12_missingOf_4 fu (n + 1) x1 x2 x3 s l = res
    unfold f_X12_missingOf_4 at he
    unfold p_X12_missingOf_4 at hk
    refine r_iload_n rfl rfl ?_
    refine r_bipush_ (a := 27) rfl (by decide) ?_
    refine r_icmp_ge rfl (fun c_7 => ?_) (fun c_7 => ?_)
    · rw [if_pos c_7] at he
      replace hk := hk.1 c_7
      refine r_iload_n rfl rfl ?_
      refine r_iret rfl rfl rfl ?_
      exact fin_ri he
    · rw [if_neg c_7] at he
      replace hk := hk.2 c_7
      refine r_aload_n rfl rfl ?_
      refine r_iload_n rfl rfl ?_
      obtain ⟨hb0, hk⟩ := hk
      refine q_callV0 [_] _ rfl kY_X12_wordAt kT_X12_wordAt rfl rfl (Nat.le_of_ble_eq_true rfl) (Nat.le_of_ble_eq_true rfl) (cc_60 _) (s_X12_wordAt hb0) (fun r h q => ?_)
      obtain ⟨rfl, rfl⟩ := q
      simp only [Option.toList, List.cons_append, List.nil_append]
      refine r_iload_n rfl rfl ?_
      obtain ⟨hb1, hk⟩ := hk
      refine r_callS0 [_, _] _ rfl kY_X12_timesIn kT_X12_timesIn rfl rfl (Nat.le_of_ble_eq_true rfl) (Nat.le_of_ble_eq_true rfl) (s_X12_timesIn hb1) (fun r h q => ?_)
      obtain ⟨rfl, rfl⟩ := q
      simp only [Option.toList, List.cons_append, List.nil_append]
      refine r_aload_n rfl rfl ?_
      refine q_getfield rfl (cc_60 _) rfl ?_
      refine r_iload_n rfl rfl ?_
      obtain ⟨hb2, hk⟩ := hk
      refine q_iald rfl (cc_102 _) hb2 ?_
      refine r_icmp_le rfl (fun c_25 => ?_) (fun c_25 => ?_)
      · rw [if_pos c_25] at he
        replace hk := hk.1 c_25
        refine r_iinc (b := x3 + 1) rfl rfl rfl (Nat.le_of_ble_eq_true rfl) rfl ?_
        refine r_goto rfl ?_
        subst he
        exact r_weak (L1 := [some (.ref 60), some (.int x1), some (.int x2), some (.int (x3 + 1))]) ⟨rfl, rfl, rfl, rfl, trivial⟩ (ih _ _ _ hk)
      · rw [if_neg c_25] at he
        replace hk := hk.2 c_25
        refine r_iload_n rfl rfl ?_
        refine r_aload_n rfl rfl ?_
        refine r_iload_n rfl rfl ?_
        obtain ⟨hb3, hk⟩ := hk
        refine q_callV0 [_] _ rfl kY_X12_wordAt kT_X12_wordAt rfl rfl (Nat.le_of_ble_eq_true rfl) (Nat.le_of_ble_eq_true rfl) (cc_60 _) (s_X12_wordAt hb3) (fun r h q => ?_)
        obtain ⟨rfl, rfl⟩ := q
        simp only [Option.toList, List.cons_append, List.nil_append]
        refine r_iload_n rfl rfl ?_
        obtain ⟨hb4, hk⟩ := hk
        refine r_callS0 [_, _] _ rfl kY_X12_timesIn kT_X12_timesIn rfl rfl (Nat.le_of_ble_eq_true rfl) (Nat.le_of_ble_eq_true rfl) (s_X12_timesIn hb4) (fun r h q => ?_)
        obtain ⟨rfl, rfl⟩ := q
        simp only [Option.toList, List.cons_append, List.nil_append]
        refine r_aload_n rfl rfl ?_
        refine q_getfield rfl (cc_60 _) rfl ?_
        refine r_iload_n rfl rfl ?_
        obtain ⟨hb5, hk⟩ := hk
        refine q_iald rfl (cc_102 _) hb5 ?_
        refine r_isub rfl ?_
        refine r_iadd rfl ?_
        refine r_istore_n rfl (Nat.le_of_ble_eq_true rfl) rfl ?_
        refine r_iinc (b := x3 + 1) rfl rfl rfl (Nat.le_of_ble_eq_true rfl) rfl ?_
        refine r_goto rfl ?_
        subst he
        exact r_weak (L1 := [some (.ref 60), some (.int x1), some (.int (x2 + ((f_X12_timesIn fu (f_X12_wordAt fu x1 s l) x3) - (s 102 x3.toNatClampNeg)))), some (.int (x3 + 1))]) ⟨rfl, rfl, rfl, rfl, trivial⟩ (ih _ _ _ hk)

def f_X12_missingOf (fu : Nat) (v0 : Int32) (s : fl_I) (l : fl_L) : Int32 :=
  f_X12_missingOf_4 fu fu v0 (0 : Int32) (1 : Int32) s l

def p_X12_missingOf (fu : Nat) (v0 : Int32) (s : fl_I) (l : fl_L) : Prop :=
  p_X12_missingOf_4 fu fu v0 (0 : Int32) (1 : Int32) s l

set_option maxRecDepth 100000 in
set_option maxHeartbeats 4000000 in
theorem s_X12_missingOf {G : ab_G} {fu : Nat} {d : Nat} {D : fl_D} {s : fl_I} {l : fl_L} {v0 : Int32} (hk : p_X12_missingOf fu v0 s l) : ab_C G (d + 1) 0 0 M_X12_missingOf 0 (ab_ent [.ref 60, .int v0]) [] (hp D s l) (rt (some (.int (f_X12_missingOf fu v0 s l))) (hp D s l)) := by
  generalize he : (f_X12_missingOf fu v0 s l) = res
  unfold f_X12_missingOf at he
  unfold p_X12_missingOf at hk
  refine r_weak (L1 := [some (.ref 60), some (.int v0), none, none]) ⟨rfl, rfl, trivial⟩ ?_
  refine r_iconst_ (a := 0) rfl (by decide) ?_
  refine r_istore_n rfl (Nat.le_of_ble_eq_true rfl) rfl ?_
  refine r_iconst_ (a := 1) rfl (by decide) ?_
  refine r_istore_n rfl (Nat.le_of_ble_eq_true rfl) rfl ?_
  subst he
  exact r_weak (L1 := [some (.ref 60), some (.int v0), some (.int (0 : Int32)), some (.int (1 : Int32))]) ⟨rfl, rfl, rfl, rfl, trivial⟩ (lp_X12_missingOf_4 fu _ _ _ hk)

def f_X12_tell (fu : Nat) (v0 : Int32) (v1 : Int32) (s : fl_I) (l : fl_L) : Int32 × fl_I × fl_L :=
  if ((s 60 65) = (20 : Int32)) then ((-1 : Int32), s, l) else if ((f_X12_in fu v0 (1 : Int32) (26 : Int32)) = 0) then ((-1 : Int32), s, l) else ((((wi (wi (wi s 103 (s 60 65).toNatClampNeg v0) 104 ((wi s 103 (s 60 65).toNatClampNeg v0) 60 65).toNatClampNeg (vp_nar .boolean v1)) 60 65 (((wi (wi s 103 (s 60 65).toNatClampNeg v0) 104 ((wi s 103 (s 60 65).toNatClampNeg v0) 60 65).toNatClampNeg (vp_nar .boolean v1)) 60 65) + (1 : Int32))) 60 65) - (1 : Int32)), (wi (wi (wi s 103 (s 60 65).toNatClampNeg v0) 104 ((wi s 103 (s 60 65).toNatClampNeg v0) 60 65).toNatClampNeg (vp_nar .boolean v1)) 60 65 (((wi (wi s 103 (s 60 65).toNatClampNeg v0) 104 ((wi s 103 (s 60 65).toNatClampNeg v0) 60 65).toNatClampNeg (vp_nar .boolean v1)) 60 65) + (1 : Int32))), l)

def p_X12_tell (fu : Nat) (v0 : Int32) (v1 : Int32) (s : fl_I) (l : fl_L) : Prop :=
  ((((s 60 65) = (20 : Int32)) → True) ∧ (¬ ((s 60 65) = (20 : Int32)) → (p_X12_in fu v0 (1 : Int32) (26 : Int32)) ∧ ((((f_X12_in fu v0 (1 : Int32) (26 : Int32)) = 0) → True) ∧ (¬ ((f_X12_in fu v0 (1 : Int32) (26 : Int32)) = 0) → (vp_in (s 60 65) 20) ∧ (vp_in ((wi s 103 (s 60 65).toNatClampNeg v0) 60 65) 20) ∧ True))))

set_option maxRecDepth 100000 in
set_option maxHeartbeats 4000000 in
theorem s_X12_tell {G : ab_G} {fu : Nat} {d : Nat} {D : fl_D} {s : fl_I} {l : fl_L} {v0 : Int32} {v1 : Int32} (hk : p_X12_tell fu v0 v1 s l) : ab_C G (d + 1) 0 0 M_X12_tell 0 (ab_ent [.ref 60, .int v0, .int v1]) [] (hp D s l) (rt (some (.int (f_X12_tell fu v0 v1 s l).1)) (hp D (f_X12_tell fu v0 v1 s l).2.1 (f_X12_tell fu v0 v1 s l).2.2)) := by
  generalize he : (f_X12_tell fu v0 v1 s l) = res
  unfold f_X12_tell at he
  unfold p_X12_tell at hk
  refine r_weak (L1 := [some (.ref 60), some (.int v0), some (.int v1)]) ⟨rfl, rfl, rfl, trivial⟩ ?_
  refine r_aload_n rfl rfl ?_
  refine q_getfield rfl (cc_60 _) rfl ?_
  refine r_bipush_ (a := 20) rfl (by decide) ?_
  refine r_icmp_eq rfl (fun c_6 => ?_) (fun c_6 => ?_)
  · rw [if_pos c_6] at he
    replace hk := hk.1 c_6
    refine r_iconst_ (a := -1) rfl (by decide) ?_
    refine r_iret rfl rfl rfl ?_
    exact fin_i he
  · rw [if_neg c_6] at he
    replace hk := hk.2 c_6
    refine r_iload_n rfl rfl ?_
    refine r_iconst_ (a := 1) rfl (by decide) ?_
    refine r_bipush_ (a := 26) rfl (by decide) ?_
    obtain ⟨hb0, hk⟩ := hk
    refine r_callS0 [_, _, _] _ rfl kY_X12_in kT_X12_in rfl rfl (Nat.le_of_ble_eq_true rfl) (Nat.le_of_ble_eq_true rfl) (s_X12_in hb0) (fun r h q => ?_)
    obtain ⟨rfl, rfl⟩ := q
    simp only [Option.toList, List.cons_append, List.nil_append]
    refine r_if_ne rfl (fun c_16 => ?_) (fun c_16 => ?_)
    · rw [if_neg c_16] at he
      replace hk := hk.2 c_16
      refine r_aload_n rfl rfl ?_
      refine q_getfield rfl (cc_60 _) rfl ?_
      refine r_aload_n rfl rfl ?_
      refine q_getfield rfl (cc_60 _) rfl ?_
      refine r_iload_n rfl rfl ?_
      obtain ⟨hb1, hk⟩ := hk
      refine w_iast rfl (cc_103 _) hb1 ?_
      refine r_aload_n rfl rfl ?_
      refine q_getfield rfl (cc_60 _) rfl ?_
      refine r_aload_n rfl rfl ?_
      refine q_getfield rfl (cc_60 _) rfl ?_
      refine r_iload_n rfl rfl ?_
      obtain ⟨hb2, hk⟩ := hk
      refine w_zast rfl (cc_104 _) hb2 ?_
      refine r_aload_n rfl rfl ?_
      refine r_dup rfl rfl ?_
      refine q_getfield rfl (cc_60 _) rfl ?_
      refine r_iconst_ (a := 1) rfl (by decide) ?_
      refine r_iadd rfl ?_
      refine w_put rfl (cc_60 _) ff_12_65 ft_12_65 (fun _ _ => (Nat.le_of_ble_eq_true rfl)) (fun _ _ => rfl) ?_
      refine r_aload_n rfl rfl ?_
      refine q_getfield rfl (cc_60 _) rfl ?_
      refine r_iconst_ (a := 1) rfl (by decide) ?_
      refine r_isub rfl ?_
      refine r_iret rfl rfl rfl ?_
      exact fin_i he
    · rw [if_pos c_16] at he
      replace hk := hk.1 c_16
      refine r_iconst_ (a := -1) rfl (by decide) ?_
      refine r_iret rfl rfl rfl ?_
      exact fin_i he

def f_X11_whole_14 (fu : Nat) : Nat → Int32 → Int32 → fl_D → fl_I → fl_L → Int32
  | 0, _, _, _, _, _ => 0
  | n + 1, x1, x2, D, s, l =>
    if ((s 31 1) ≤ x2) then x1 else if ((f_X10_isLying fu x2 31 s l) = 0) then f_X11_whole_14 fu n x1 (x2 + 1) D s l else f_X11_whole_14 fu n (x1 &&& (((1 : Int32) <<< ((s ((if D.2.2.1 then 20 else 9) + 5) x2.toNatClampNeg) &&& 31)) ^^^ (-1 : Int32))) (x2 + 1) D s l

def p_X11_whole_14 (fu : Nat) : Nat → Int32 → Int32 → fl_D → fl_I → fl_L → Prop
  | 0, _, _, _, _, _ => False
  | n + 1, x1, x2, D, s, l =>
    ((((s 31 1) ≤ x2) → True) ∧ (¬ ((s 31 1) ≤ x2) → (p_X10_isLying fu x2 31 s l) ∧ ((((f_X10_isLying fu x2 31 s l) = 0) → p_X11_whole_14 fu n x1 (x2 + 1) D s l) ∧ (¬ ((f_X10_isLying fu x2 31 s l) = 0) → (vp_in x2 32) ∧ p_X11_whole_14 fu n (x1 &&& (((1 : Int32) <<< ((s ((if D.2.2.1 then 20 else 9) + 5) x2.toNatClampNeg) &&& 31)) ^^^ (-1 : Int32))) (x2 + 1) D s l))))

set_option maxRecDepth 100000 in
set_option maxHeartbeats 4000000 in
theorem lp_X11_whole_14 {G : ab_G} {fu : Nat} {d : Nat} {D : fl_D} {s : fl_I} {l : fl_L} : ∀ (n : Nat) (x1 : Int32) (x2 : Int32), p_X11_whole_14 fu n x1 x2 D s l → ab_C G (d + 1) 0 0 M_X11_whole 14 [some (.ref 0), some (.int x1), some (.int x2)] [] (hp D s l) (rt (some (.int (f_X11_whole_14 fu n x1 x2 D s l))) (hp D s l)) := by
  intro n
  induction n with
  | zero => intro x1 x2 hk; exact hk.elim
  | succ n ih =>
    intro x1 x2 hk
    generalize he : f_X11_whole_14 fu (n + 1) x1 x2 D s l = res
    unfold f_X11_whole_14 at he
    unfold p_X11_whole_14 at hk
    refine r_iload_n rfl rfl ?_
    refine r_aload_n rfl rfl ?_
    refine q_getfield rfl (cc_0 _) rfl ?_
    refine q_getfield rfl (cc_31 _) rfl ?_
    refine r_icmp_ge rfl (fun c_22 => ?_) (fun c_22 => ?_)
    · rw [if_pos c_22] at he
      replace hk := hk.1 c_22
      refine r_iload_n rfl rfl ?_
      refine r_iret rfl rfl rfl ?_
      exact fin_ri he
    · rw [if_neg c_22] at he
      replace hk := hk.2 c_22
      refine r_aload_n rfl rfl ?_
      refine q_getfield rfl (cc_0 _) rfl ?_
      refine r_iload_n rfl rfl ?_
      obtain ⟨hb0, hk⟩ := hk
      refine q_callV0 [_] _ rfl kY_X10_isLying kT_X10_isLying rfl rfl (Nat.le_of_ble_eq_true rfl) (Nat.le_of_ble_eq_true rfl) (cc_31 _) (s_X10_isLying (Or.inl rfl) hb0) (fun r h q => ?_)
      obtain ⟨rfl, rfl⟩ := q
      simp only [Option.toList, List.cons_append, List.nil_append]
      refine r_if_eq rfl (fun c_33 => ?_) (fun c_33 => ?_)
      · rw [if_pos c_33] at he
        replace hk := hk.1 c_33
        refine r_iinc (b := x2 + 1) rfl rfl rfl (Nat.le_of_ble_eq_true rfl) rfl ?_
        refine r_goto rfl ?_
        subst he
        exact r_weak (L1 := [some (.ref 0), some (.int x1), some (.int (x2 + 1))]) ⟨rfl, rfl, rfl, trivial⟩ (ih _ _ hk)
      · rw [if_neg c_33] at he
        replace hk := hk.2 c_33
        refine r_iload_n rfl rfl ?_
        refine r_iconst_ (a := 1) rfl (by decide) ?_
        refine r_aload_n rfl rfl ?_
        refine q_getfield rfl (cc_0 _) rfl ?_
        refine q_getfield rfl (cT_0 (isT_l _)) rfl ?_
        refine r_iload_n rfl rfl ?_
        obtain ⟨hb1, hk⟩ := hk
        refine q_iald rfl (cT_5 (isT_l _)) hb1 ?_
        refine r_ishl rfl ?_
        refine r_iconst_ (a := -1) rfl (by decide) ?_
        refine r_ixor rfl ?_
        refine r_iand rfl ?_
        refine r_istore_n rfl (Nat.le_of_ble_eq_true rfl) rfl ?_
        refine r_iinc (b := x2 + 1) rfl rfl rfl (Nat.le_of_ble_eq_true rfl) rfl ?_
        refine r_goto rfl ?_
        subst he
        exact r_weak (L1 := [some (.ref 0), some (.int (x1 &&& (((1 : Int32) <<< ((s ((if D.2.2.1 then 20 else 9) + 5) x2.toNatClampNeg) &&& 31)) ^^^ (-1 : Int32)))), some (.int (x2 + 1))]) ⟨rfl, rfl, rfl, trivial⟩ (ih _ _ hk)

def f_X11_whole (fu : Nat) (D : fl_D) (s : fl_I) (l : fl_L) : Int32 :=
  f_X11_whole_14 fu fu (((1 : Int32) <<< ((s (if D.2.2.1 then 20 else 9) 0) &&& 31)) - (1 : Int32)) (0 : Int32) D s l

def p_X11_whole (fu : Nat) (D : fl_D) (s : fl_I) (l : fl_L) : Prop :=
  p_X11_whole_14 fu fu (((1 : Int32) <<< ((s (if D.2.2.1 then 20 else 9) 0) &&& 31)) - (1 : Int32)) (0 : Int32) D s l

set_option maxRecDepth 100000 in
set_option maxHeartbeats 4000000 in
theorem s_X11_whole {G : ab_G} {fu : Nat} {d : Nat} {D : fl_D} {s : fl_I} {l : fl_L}  (hk : p_X11_whole fu D s l) : ab_C G (d + 1) 0 0 M_X11_whole 0 (ab_ent [.ref 0]) [] (hp D s l) (rt (some (.int (f_X11_whole fu D s l))) (hp D s l)) := by
  generalize he : (f_X11_whole fu D s l) = res
  unfold f_X11_whole at he
  unfold p_X11_whole at hk
  refine r_weak (L1 := [some (.ref 0), none, none]) ⟨rfl, trivial⟩ ?_
  refine r_iconst_ (a := 1) rfl (by decide) ?_
  refine r_aload_n rfl rfl ?_
  refine q_getfield rfl (cc_0 _) rfl ?_
  refine q_getfield rfl (cT_0 (isT_l _)) rfl ?_
  refine r_ishl rfl ?_
  refine r_iconst_ (a := 1) rfl (by decide) ?_
  refine r_isub rfl ?_
  refine r_istore_n rfl (Nat.le_of_ble_eq_true rfl) rfl ?_
  refine r_iconst_ (a := 0) rfl (by decide) ?_
  refine r_istore_n rfl (Nat.le_of_ble_eq_true rfl) rfl ?_
  subst he
  exact r_weak (L1 := [some (.ref 0), some (.int (((1 : Int32) <<< ((s (if D.2.2.1 then 20 else 9) 0) &&& 31)) - (1 : Int32))), some (.int (0 : Int32))]) ⟨rfl, rfl, rfl, trivial⟩ (lp_X11_whole_14 fu _ _ hk)

def f_X12_restore_22 (fu : Nat) : Nat → Int32 → Int32 → fl_I → fl_L → Int32 × fl_I × fl_L
  | 0, x1, x2, s, l => (0, s, l)
  | n + 1, x1, x2, s, l =>
    if ((141 : Int32) ≤ x2) then ((1 : Int32), (wi s 60 58 (0 : Int32)), l) else f_X12_restore_22 fu n x1 (x2 + 1) (wi s 94 x2.toNatClampNeg (s 106 (((141 : Int32) * x1) + x2).toNatClampNeg)) l

def p_X12_restore_22 (fu : Nat) : Nat → Int32 → Int32 → fl_I → fl_L → Prop
  | 0, _, _, _, _ => False
  | n + 1, x1, x2, s, l =>
    ((((141 : Int32) ≤ x2) → True) ∧ (¬ ((141 : Int32) ≤ x2) → (vp_in (((141 : Int32) * x1) + x2) 423) ∧ (vp_in x2 141) ∧ p_X12_restore_22 fu n x1 (x2 + 1) (wi s 94 x2.toNatClampNeg (s 106 (((141 : Int32) * x1) + x2).toNatClampNeg)) l))

set_option maxRecDepth 100000 in
set_option maxHeartbeats 4000000 in
theorem lp_X12_restore_22 {G : ab_G} {fu : Nat} {d : Nat} {D : fl_D} : ∀ (n : Nat) (x1 : Int32) (x2 : Int32) (s : fl_I) (l : fl_L), p_X12_restore_22 fu n x1 x2 s l → ab_C G (d + 1) 0 0 M_X12_restore 22 [some (.ref 60), some (.int x1), some (.int x2)] [] (hp D s l) (rt (some (.int (f_X12_restore_22 fu n x1 x2 s l).1)) (hp D (f_X12_restore_22 fu n x1 x2 s l).2.1 (f_X12_restore_22 fu n x1 x2 s l).2.2)) := by
  intro n
  induction n with
  | zero => intro x1 x2 s l hk; exact hk.elim
  | succ n ih =>
    intro x1 x2 s l hk
    generalize he : f_X12_restore_22 fu (n + 1) x1 x2 s l = res
    unfold f_X12_restore_22 at he
    unfold p_X12_restore_22 at hk
    refine r_iload_n rfl rfl ?_
    refine r_sipush_ (a := 141) rfl (by decide) ?_
    refine r_icmp_ge rfl (fun c_26 => ?_) (fun c_26 => ?_)
    · rw [if_pos c_26] at he
      replace hk := hk.1 c_26
      refine r_aload_n rfl rfl ?_
      refine r_iconst_ (a := 0) rfl (by decide) ?_
      refine w_put rfl (cc_60 _) ff_12_58 ft_12_58 (fun _ _ => (Nat.le_of_ble_eq_true rfl)) (fun _ _ => rfl) ?_
      refine r_iconst_ (a := 1) rfl (by decide) ?_
      refine r_iret rfl rfl rfl ?_
      exact fin_i he
    · rw [if_neg c_26] at he
      replace hk := hk.2 c_26
      refine r_aload_n rfl rfl ?_
      refine q_getfield rfl (cc_60 _) rfl ?_
      refine r_iload_n rfl rfl ?_
      refine r_aload_n rfl rfl ?_
      refine q_getfield rfl (cc_60 _) rfl ?_
      refine r_sipush_ (a := 141) rfl (by decide) ?_
      refine r_iload_n rfl rfl ?_
      refine r_imul rfl ?_
      refine r_iload_n rfl rfl ?_
      refine r_iadd rfl ?_
      obtain ⟨hb2, hk⟩ := hk
      refine q_iald rfl (cc_106 _) hb2 ?_
      obtain ⟨hb3, hk⟩ := hk
      refine w_iast rfl (cc_94 _) hb3 ?_
      refine r_iinc (b := x2 + 1) rfl rfl rfl (Nat.le_of_ble_eq_true rfl) rfl ?_
      refine r_goto rfl ?_
      subst he
      exact r_weak (L1 := [some (.ref 60), some (.int x1), some (.int (x2 + 1))]) ⟨rfl, rfl, rfl, trivial⟩ (ih _ _ _ _ hk)

def f_X12_restore (fu : Nat) (v0 : Int32) (s : fl_I) (l : fl_L) : Int32 × fl_I × fl_L :=
  if ((f_X12_in fu v0 (0 : Int32) (2 : Int32)) = 0) then ((0 : Int32), s, l) else if ((s 105 v0.toNatClampNeg) = 0) then ((0 : Int32), s, l) else f_X12_restore_22 fu fu v0 (0 : Int32) s l

def p_X12_restore (fu : Nat) (v0 : Int32) (s : fl_I) (l : fl_L) : Prop :=
  (p_X12_in fu v0 (0 : Int32) (2 : Int32)) ∧ ((((f_X12_in fu v0 (0 : Int32) (2 : Int32)) = 0) → True) ∧ (¬ ((f_X12_in fu v0 (0 : Int32) (2 : Int32)) = 0) → (vp_in v0 3) ∧ ((((s 105 v0.toNatClampNeg) = 0) → True) ∧ (¬ ((s 105 v0.toNatClampNeg) = 0) → p_X12_restore_22 fu fu v0 (0 : Int32) s l))))

set_option maxRecDepth 100000 in
set_option maxHeartbeats 4000000 in
theorem s_X12_restore {G : ab_G} {fu : Nat} {d : Nat} {D : fl_D} {s : fl_I} {l : fl_L} {v0 : Int32} (hk : p_X12_restore fu v0 s l) : ab_C G (d + 1) 0 0 M_X12_restore 0 (ab_ent [.ref 60, .int v0]) [] (hp D s l) (rt (some (.int (f_X12_restore fu v0 s l).1)) (hp D (f_X12_restore fu v0 s l).2.1 (f_X12_restore fu v0 s l).2.2)) := by
  generalize he : (f_X12_restore fu v0 s l) = res
  unfold f_X12_restore at he
  unfold p_X12_restore at hk
  refine r_weak (L1 := [some (.ref 60), some (.int v0), none]) ⟨rfl, rfl, trivial⟩ ?_
  refine r_iload_n rfl rfl ?_
  refine r_iconst_ (a := 0) rfl (by decide) ?_
  refine r_iconst_ (a := 2) rfl (by decide) ?_
  obtain ⟨hb0, hk⟩ := hk
  refine r_callS0 [_, _, _] _ rfl kY_X12_in kT_X12_in rfl rfl (Nat.le_of_ble_eq_true rfl) (Nat.le_of_ble_eq_true rfl) (s_X12_in hb0) (fun r h q => ?_)
  obtain ⟨rfl, rfl⟩ := q
  simp only [Option.toList, List.cons_append, List.nil_append]
  refine r_if_eq rfl (fun c_6 => ?_) (fun c_6 => ?_)
  · rw [if_pos c_6] at he
    replace hk := hk.1 c_6
    refine r_iconst_ (a := 0) rfl (by decide) ?_
    refine r_iret rfl rfl rfl ?_
    exact fin_i he
  · rw [if_neg c_6] at he
    replace hk := hk.2 c_6
    refine r_aload_n rfl rfl ?_
    refine q_getfield rfl (cc_60 _) rfl ?_
    refine r_iload_n rfl rfl ?_
    obtain ⟨hb1, hk⟩ := hk
    refine q_zald rfl (cc_105 _) hb1 ?_
    refine r_if_ne rfl (fun c_15 => ?_) (fun c_15 => ?_)
    · rw [if_neg c_15] at he
      replace hk := hk.2 c_15
      refine r_iconst_ (a := 0) rfl (by decide) ?_
      refine r_istore_n rfl (Nat.le_of_ble_eq_true rfl) rfl ?_
      subst he
      exact r_weak (L1 := [some (.ref 60), some (.int v0), some (.int (0 : Int32))]) ⟨rfl, rfl, rfl, trivial⟩ (lp_X12_restore_22 fu _ _ _ _ hk)
    · rw [if_pos c_15] at he
      replace hk := hk.1 c_15
      refine r_iconst_ (a := 0) rfl (by decide) ?_
      refine r_iret rfl rfl rfl ?_
      exact fin_i he

def f_X12_whole_16 (fu : Nat) : Nat → Int32 → Int32 → fl_I → fl_L → Int32
  | 0, _, _, _, _ => 0
  | n + 1, x1, x2, s, l =>
    if ((s 60 54) ≤ x2) then x1 else if (0 ≤ (s 94 ((64 : Int32) + x2).toNatClampNeg)) then f_X12_whole_16 fu n x1 (x2 + 1) s l else f_X12_whole_16 fu n (x1 &&& (((1 : Int32) <<< ((s 97 x2.toNatClampNeg) &&& 31)) ^^^ (-1 : Int32))) (x2 + 1) s l

def p_X12_whole_16 (fu : Nat) : Nat → Int32 → Int32 → fl_I → fl_L → Prop
  | 0, _, _, _, _ => False
  | n + 1, x1, x2, s, l =>
    ((((s 60 54) ≤ x2) → True) ∧ (¬ ((s 60 54) ≤ x2) → (vp_in ((64 : Int32) + x2) 141) ∧ (((0 ≤ (s 94 ((64 : Int32) + x2).toNatClampNeg)) → p_X12_whole_16 fu n x1 (x2 + 1) s l) ∧ (¬ (0 ≤ (s 94 ((64 : Int32) + x2).toNatClampNeg)) → (vp_in x2 32) ∧ p_X12_whole_16 fu n (x1 &&& (((1 : Int32) <<< ((s 97 x2.toNatClampNeg) &&& 31)) ^^^ (-1 : Int32))) (x2 + 1) s l))))

set_option maxRecDepth 100000 in
set_option maxHeartbeats 4000000 in
theorem lp_X12_whole_16 {G : ab_G} {fu : Nat} {d : Nat} {D : fl_D} {s : fl_I} {l : fl_L} : ∀ (n : Nat) (x1 : Int32) (x2 : Int32), p_X12_whole_16 fu n x1 x2 s l → ab_C G d 0 0 M_X12_whole 16 [some (.ref 60), some (.int x1), some (.int x2)] [] (hp D s l) (rt (some (.int (f_X12_whole_16 fu n x1 x2 s l))) (hp D s l)) := by
  intro n
  induction n with
  | zero => intro x1 x2 hk; exact hk.elim
  | succ n ih =>
    intro x1 x2 hk
    generalize he : f_X12_whole_16 fu (n + 1) x1 x2 s l = res
    unfold f_X12_whole_16 at he
    unfold p_X12_whole_16 at hk
    refine r_iload_n rfl rfl ?_
    refine r_aload_n rfl rfl ?_
    refine q_getfield rfl (cc_60 _) rfl ?_
    refine r_icmp_ge rfl (fun c_21 => ?_) (fun c_21 => ?_)
    · rw [if_pos c_21] at he
      replace hk := hk.1 c_21
      refine r_iload_n rfl rfl ?_
      refine r_iret rfl rfl rfl ?_
      exact fin_ri he
    · rw [if_neg c_21] at he
      replace hk := hk.2 c_21
      refine r_aload_n rfl rfl ?_
      refine q_getfield rfl (cc_60 _) rfl ?_
      refine r_bipush_ (a := 64) rfl (by decide) ?_
      refine r_iload_n rfl rfl ?_
      refine r_iadd rfl ?_
      obtain ⟨hb1, hk⟩ := hk
      refine q_iald rfl (cc_94 _) hb1 ?_
      refine r_if_ge rfl (fun c_33 => ?_) (fun c_33 => ?_)
      · rw [if_pos c_33] at he
        replace hk := hk.1 c_33
        refine r_iinc (b := x2 + 1) rfl rfl rfl (Nat.le_of_ble_eq_true rfl) rfl ?_
        refine r_goto rfl ?_
        subst he
        exact r_weak (L1 := [some (.ref 60), some (.int x1), some (.int (x2 + 1))]) ⟨rfl, rfl, rfl, trivial⟩ (ih _ _ hk)
      · rw [if_neg c_33] at he
        replace hk := hk.2 c_33
        refine r_iload_n rfl rfl ?_
        refine r_iconst_ (a := 1) rfl (by decide) ?_
        refine r_aload_n rfl rfl ?_
        refine q_getfield rfl (cc_60 _) rfl ?_
        refine r_iload_n rfl rfl ?_
        obtain ⟨hb2, hk⟩ := hk
        refine q_iald rfl (cc_97 _) hb2 ?_
        refine r_ishl rfl ?_
        refine r_iconst_ (a := -1) rfl (by decide) ?_
        refine r_ixor rfl ?_
        refine r_iand rfl ?_
        refine r_istore_n rfl (Nat.le_of_ble_eq_true rfl) rfl ?_
        refine r_iinc (b := x2 + 1) rfl rfl rfl (Nat.le_of_ble_eq_true rfl) rfl ?_
        refine r_goto rfl ?_
        subst he
        exact r_weak (L1 := [some (.ref 60), some (.int (x1 &&& (((1 : Int32) <<< ((s 97 x2.toNatClampNeg) &&& 31)) ^^^ (-1 : Int32)))), some (.int (x2 + 1))]) ⟨rfl, rfl, rfl, trivial⟩ (ih _ _ hk)

def f_X12_whole (fu : Nat) (s : fl_I) (l : fl_L) : Int32 :=
  f_X12_whole_16 fu fu (((1 : Int32) <<< ((s 68 (s 60 18).toNatClampNeg) &&& 31)) - (1 : Int32)) (0 : Int32) s l

def p_X12_whole (fu : Nat) (s : fl_I) (l : fl_L) : Prop :=
  (vp_in (s 60 18) 2) ∧ p_X12_whole_16 fu fu (((1 : Int32) <<< ((s 68 (s 60 18).toNatClampNeg) &&& 31)) - (1 : Int32)) (0 : Int32) s l

set_option maxRecDepth 100000 in
set_option maxHeartbeats 4000000 in
theorem s_X12_whole {G : ab_G} {fu : Nat} {d : Nat} {D : fl_D} {s : fl_I} {l : fl_L}  (hk : p_X12_whole fu s l) : ab_C G d 0 0 M_X12_whole 0 (ab_ent [.ref 60]) [] (hp D s l) (rt (some (.int (f_X12_whole fu s l))) (hp D s l)) := by
  generalize he : (f_X12_whole fu s l) = res
  unfold f_X12_whole at he
  unfold p_X12_whole at hk
  refine r_weak (L1 := [some (.ref 60), none, none]) ⟨rfl, trivial⟩ ?_
  refine r_iconst_ (a := 1) rfl (by decide) ?_
  refine r_aload_n rfl rfl ?_
  refine q_getfield rfl (cc_60 _) rfl ?_
  refine r_aload_n rfl rfl ?_
  refine q_getfield rfl (cc_60 _) rfl ?_
  obtain ⟨hb0, hk⟩ := hk
  refine q_iald rfl (cc_68 _) hb0 ?_
  refine r_ishl rfl ?_
  refine r_iconst_ (a := 1) rfl (by decide) ?_
  refine r_isub rfl ?_
  refine r_istore_n rfl (Nat.le_of_ble_eq_true rfl) rfl ?_
  refine r_iconst_ (a := 0) rfl (by decide) ?_
  refine r_istore_n rfl (Nat.le_of_ble_eq_true rfl) rfl ?_
  subst he
  exact r_weak (L1 := [some (.ref 60), some (.int (((1 : Int32) <<< ((s 68 (s 60 18).toNatClampNeg) &&& 31)) - (1 : Int32))), some (.int (0 : Int32))]) ⟨rfl, rfl, rfl, trivial⟩ (lp_X12_whole_16 fu _ _ hk)

def f_X8_fewest_14 (fu : Nat) : Nat → Int32 → Int32 → Int32 → Int32 → fl_D → fl_I → fl_L → Int32
  | 0, _, _, _, _, _, _, _ => 0
  | n + 1, x1, x2, x3, x4, D, s, l =>
    if ((s 51 0) ≤ x4) then x3 else if (((x2 >>> (x4 &&& 31)) &&& (1 : Int32)) = (1 : Int32)) then f_X8_fewest_14 fu n x1 x2 (i_min x3 ((f_X11_apart fu x1 (s 52 x4.toNatClampNeg)) + (s D.2.2.2.1 (f_X8_index fu x2 x4).toNatClampNeg))) (x4 + 1) D s l else f_X8_fewest_14 fu n x1 x2 x3 (x4 + 1) D s l

def p_X8_fewest_14 (fu : Nat) : Nat → Int32 → Int32 → Int32 → Int32 → fl_D → fl_I → fl_L → Prop
  | 0, _, _, _, _, _, _, _ => False
  | n + 1, x1, x2, x3, x4, D, s, l =>
    ((((s 51 0) ≤ x4) → True) ∧ (¬ ((s 51 0) ≤ x4) → (((((x2 >>> (x4 &&& 31)) &&& (1 : Int32)) = (1 : Int32)) → (vp_in x4 10) ∧ (p_X11_apart fu x1 (s 52 x4.toNatClampNeg)) ∧ (p_X8_index fu x2 x4) ∧ (vp_in (f_X8_index fu x2 x4) 10240) ∧ p_X8_fewest_14 fu n x1 x2 (i_min x3 ((f_X11_apart fu x1 (s 52 x4.toNatClampNeg)) + (s D.2.2.2.1 (f_X8_index fu x2 x4).toNatClampNeg))) (x4 + 1) D s l) ∧ (¬ (((x2 >>> (x4 &&& 31)) &&& (1 : Int32)) = (1 : Int32)) → p_X8_fewest_14 fu n x1 x2 x3 (x4 + 1) D s l))))

set_option maxRecDepth 100000 in
set_option maxHeartbeats 4000000 in
theorem lp_X8_fewest_14 {G : ab_G} {fu : Nat} {d : Nat} {D : fl_D} {s : fl_I} {l : fl_L} (hfr : ∀ f g, cl D D.2.2.2.1 f g = some (.inl (0, 10240, .inl f))) : ∀ (n : Nat) (x1 : Int32) (x2 : Int32) (x3 : Int32) (x4 : Int32), p_X8_fewest_14 fu n x1 x2 x3 x4 D s l → ab_C G (d + 1) 0 0 M_X8_fewest 14 [some (.ref 51), some (.int x1), some (.int x2), some (.int x3), some (.int x4)] [] (hp D s l) (rt (some (.int (f_X8_fewest_14 fu n x1 x2 x3 x4 D s l))) (hp D s l)) := by
  intro n
  induction n with
  | zero => intro x1 x2 x3 x4 hk; exact hk.elim
  | succ n ih =>
    intro x1 x2 x3 x4 hk
    generalize he : f_X8_fewest_14 fu (n + 1) x1 x2 x3 x4 D s l = res
    unfold f_X8_fewest_14 at he
    unfold p_X8_fewest_14 at hk
    refine r_iload rfl rfl ?_
    refine r_aload_n rfl rfl ?_
    refine q_getfield rfl (cc_51 _) rfl ?_
    refine r_icmp_ge rfl (fun c_20 => ?_) (fun c_20 => ?_)
    · rw [if_pos c_20] at he
      replace hk := hk.1 c_20
      refine r_iload_n rfl rfl ?_
      refine r_iret rfl rfl rfl ?_
      exact fin_ri he
    · rw [if_neg c_20] at he
      replace hk := hk.2 c_20
      refine r_iload_n rfl rfl ?_
      refine r_iload rfl rfl ?_
      refine r_ishr rfl ?_
      refine r_iconst_ (a := 1) rfl (by decide) ?_
      refine r_iand rfl ?_
      refine r_iconst_ (a := 1) rfl (by decide) ?_
      refine r_icmp_ne rfl (fun c_30 => ?_) (fun c_30 => ?_)
      · rw [if_neg c_30] at he
        replace hk := hk.2 c_30
        refine r_iinc (b := x4 + 1) rfl rfl rfl (Nat.le_of_ble_eq_true rfl) rfl ?_
        refine r_goto rfl ?_
        subst he
        exact r_weak (L1 := [some (.ref 51), some (.int x1), some (.int x2), some (.int x3), some (.int (x4 + 1))]) ⟨rfl, rfl, rfl, rfl, rfl, trivial⟩ (ih _ _ _ _ hk)
      · rw [if_pos c_30] at he
        replace hk := hk.1 c_30
        refine r_iload_n rfl rfl ?_
        refine r_iload_n rfl rfl ?_
        refine r_aload_n rfl rfl ?_
        refine q_getfield rfl (cc_51 _) rfl ?_
        refine r_iload rfl rfl ?_
        obtain ⟨hb0, hk⟩ := hk
        refine q_iald rfl (cc_52 _) hb0 ?_
        obtain ⟨hb1, hk⟩ := hk
        refine r_callSN0 [_, _] _ rfl kY_X11_apart kT_X11_apart rfl rfl (Nat.le_of_ble_eq_true rfl) (Nat.le_of_ble_eq_true rfl) (s_X11_apart hb1) (fun r h q => ?_)
        obtain ⟨rfl, rfl⟩ := q
        simp only [Option.toList, List.cons_append, List.nil_append]
        refine r_aload_n rfl rfl ?_
        refine q_getfield rfl (cc_51 _) rfl ?_
        refine r_iload_n rfl rfl ?_
        refine r_iload rfl rfl ?_
        obtain ⟨hb2, hk⟩ := hk
        refine r_callS0 [_, _] _ rfl kY_X8_index kT_X8_index rfl rfl (Nat.le_of_ble_eq_true rfl) (Nat.le_of_ble_eq_true rfl) (s_X8_index hb2) (fun r h q => ?_)
        obtain ⟨rfl, rfl⟩ := q
        simp only [Option.toList, List.cons_append, List.nil_append]
        obtain ⟨hb3, hk⟩ := hk
        refine q_iald rfl hfr hb3 ?_
        refine r_iadd rfl ?_
        refine r_mmin rfl (Nat.le_of_ble_eq_true rfl) ?_
        refine r_istore_n rfl (Nat.le_of_ble_eq_true rfl) rfl ?_
        refine r_iinc (b := x4 + 1) rfl rfl rfl (Nat.le_of_ble_eq_true rfl) rfl ?_
        refine r_goto rfl ?_
        subst he
        exact r_weak (L1 := [some (.ref 51), some (.int x1), some (.int x2), some (.int (i_min x3 ((f_X11_apart fu x1 (s 52 x4.toNatClampNeg)) + (s D.2.2.2.1 (f_X8_index fu x2 x4).toNatClampNeg)))), some (.int (x4 + 1))]) ⟨rfl, rfl, rfl, rfl, rfl, trivial⟩ (ih _ _ _ _ hk)

def f_X8_fewest (fu : Nat) (v0 : Int32) (v1 : Int32) (D : fl_D) (s : fl_I) (l : fl_L) : Int32 :=
  if (v1 = 0) then f_X8_fewest_14 fu fu v0 v1 (0 : Int32) (0 : Int32) D s l else f_X8_fewest_14 fu fu v0 v1 (1000000 : Int32) (0 : Int32) D s l

def p_X8_fewest (fu : Nat) (v0 : Int32) (v1 : Int32) (D : fl_D) (s : fl_I) (l : fl_L) : Prop :=
  (((v1 = 0) → p_X8_fewest_14 fu fu v0 v1 (0 : Int32) (0 : Int32) D s l) ∧ (¬ (v1 = 0) → p_X8_fewest_14 fu fu v0 v1 (1000000 : Int32) (0 : Int32) D s l))

set_option maxRecDepth 100000 in
set_option maxHeartbeats 4000000 in
theorem s_X8_fewest {G : ab_G} {fu : Nat} {d : Nat} {D : fl_D} {s : fl_I} {l : fl_L} (hfr : ∀ f g, cl D D.2.2.2.1 f g = some (.inl (0, 10240, .inl f))) {v0 : Int32} {v1 : Int32} (hk : p_X8_fewest fu v0 v1 D s l) : ab_C G (d + 1) 0 0 M_X8_fewest 0 (ab_ent [.ref 51, .int v0, .int v1]) [] (hp D s l) (rt (some (.int (f_X8_fewest fu v0 v1 D s l))) (hp D s l)) := by
  generalize he : (f_X8_fewest fu v0 v1 D s l) = res
  unfold f_X8_fewest at he
  unfold p_X8_fewest at hk
  refine r_weak (L1 := [some (.ref 51), some (.int v0), some (.int v1), none, none]) ⟨rfl, rfl, rfl, trivial⟩ ?_
  refine r_iload_n rfl rfl ?_
  refine r_if_ne rfl (fun c_1 => ?_) (fun c_1 => ?_)
  · rw [if_neg c_1] at he
    replace hk := hk.2 c_1
    refine r_ldc rfl ?_
    refine r_istore_n rfl (Nat.le_of_ble_eq_true rfl) rfl ?_
    refine r_iconst_ (a := 0) rfl (by decide) ?_
    refine r_istore rfl (Nat.le_of_ble_eq_true rfl) rfl ?_
    subst he
    exact r_weak (L1 := [some (.ref 51), some (.int v0), some (.int v1), some (.int (1000000 : Int32)), some (.int (0 : Int32))]) ⟨rfl, rfl, rfl, rfl, rfl, trivial⟩ (lp_X8_fewest_14 hfr fu _ _ _ _ hk)
  · rw [if_pos c_1] at he
    replace hk := hk.1 c_1
    refine r_iconst_ (a := 0) rfl (by decide) ?_
    refine r_goto rfl ?_
    refine r_istore_n rfl (Nat.le_of_ble_eq_true rfl) rfl ?_
    refine r_iconst_ (a := 0) rfl (by decide) ?_
    refine r_istore rfl (Nat.le_of_ble_eq_true rfl) rfl ?_
    subst he
    exact r_weak (L1 := [some (.ref 51), some (.int v0), some (.int v1), some (.int (0 : Int32)), some (.int (0 : Int32))]) ⟨rfl, rfl, rfl, rfl, rfl, trivial⟩ (lp_X8_fewest_14 hfr fu _ _ _ _ hk)

