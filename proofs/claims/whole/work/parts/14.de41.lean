def f_X12_late_6 (fu : Nat) : Nat → Int32 → fl_I → fl_L → Int32 × fl_I × fl_L
  | 0, x1, s, l => (0, s, l)
  | n + 1, x1, s, l =>
    if ((100 : Int32) < x1) then ((-2 : Int32), s, l) else if ((f_X12_lieMany fu s l) = 0) then (x1, s, l) else f_X12_late_6 fu n (x1 + 1) (f_X12_hourGoes fu s l).1 (f_X12_hourGoes fu s l).2

def p_X12_late_6 (fu : Nat) : Nat → Int32 → fl_I → fl_L → Prop
  | 0, _, _, _ => False
  | n + 1, x1, s, l =>
    ((((100 : Int32) < x1) → True) ∧ (¬ ((100 : Int32) < x1) → (p_X12_lieMany fu s l) ∧ ((((f_X12_lieMany fu s l) = 0) → True) ∧ (¬ ((f_X12_lieMany fu s l) = 0) → (p_X12_hourGoes fu s l) ∧ p_X12_late_6 fu n (x1 + 1) (f_X12_hourGoes fu s l).1 (f_X12_hourGoes fu s l).2))))

set_option maxRecDepth 100000 in
set_option maxHeartbeats 1000000 in
theorem lp_X12_late_6 {G : ab_G} {fu : Nat} {d : Nat} {D : fl_D} : ∀ (n : Nat) (x1 : Int32) (s : fl_I) (l : fl_L), p_X12_late_6 fu n x1 s l → ab_C G (d + 6) 0 0 M_X12_late 6 [some (.ref 60), some (.int x1)] [] (hp D s l) (rt (some (.int (f_X12_late_6 fu n x1 s l).1)) (hp D (f_X12_late_6 fu n x1 s l).2.1 (f_X12_late_6 fu n x1 s l).2.2)) := by
  intro n
  induction n with
  | zero => intro x1 s l hk; exact hk.elim
  | succ n ih =>
    intro x1 s l hk
    generalize he : f_X12_late_6 fu (n + 1) x1 s l = res
    unfold f_X12_late_6 at he
    unfold p_X12_late_6 at hk
    refine r_iload_n rfl rfl ?_
    refine r_bipush_ (a := 100) rfl (by decide) ?_
    refine r_icmp_gt rfl (fun c_9 => ?_) (fun c_9 => ?_)
    · rw [if_pos c_9] at he
      replace hk := hk.1 c_9
      refine r_bipush_ (a := -2) rfl (by decide) ?_
      refine r_iret rfl rfl rfl ?_
      first | with_reducible exact fin_i he | exact fin_i he
    · rw [if_neg c_9] at he
      replace hk := hk.2 c_9
      refine r_aload_n rfl rfl ?_
      obtain ⟨hb1, hk⟩ := hk
      refine q_callV0 [] _ rfl kY_X12_lieMany kT_X12_lieMany rfl rfl (Nat.le_of_ble_eq_true rfl) (Nat.le_of_ble_eq_true rfl) (cc_60 _) (s_X12_lieMany hb1) (fun r h q => ?_)
      obtain ⟨rfl, rfl⟩ := q
      simp only [Option.toList, List.cons_append, List.nil_append]
      refine r_if_ne rfl (fun c_16 => ?_) (fun c_16 => ?_)
      · rw [if_neg c_16] at he
        replace hk := hk.2 c_16
        refine r_aload_n rfl rfl ?_
        obtain ⟨hb2, hk⟩ := hk
        refine q_callV0 [] _ rfl kY_X12_hourGoes kT_X12_hourGoes rfl rfl (Nat.le_of_ble_eq_true rfl) (Nat.le_of_ble_eq_true rfl) (cc_60 _) (s_X12_hourGoes hb2) (fun r h q => ?_)
        obtain ⟨rfl, rfl⟩ := q
        simp only [Option.toList, List.cons_append, List.nil_append]
        refine r_iinc (b := x1 + 1) rfl rfl rfl (Nat.le_of_ble_eq_true rfl) rfl ?_
        refine r_goto rfl ?_
        subst he
        exact r_weak (L1 := [some (.ref 60), some (.int (x1 + 1))]) ⟨rfl, rfl, trivial⟩ (ih _ _ _ hk)
      · rw [if_pos c_16] at he
        replace hk := hk.1 c_16
        refine r_iload_n rfl rfl ?_
        refine r_iret rfl rfl rfl ?_
        first | with_reducible exact fin_i he | exact fin_i he

def f_X12_late (fu : Nat) (s : fl_I) (l : fl_L) : Int32 × fl_I × fl_L :=
  f_X12_late_6 fu fu (0 : Int32) (f_X12_copiesStill fu s l).1 (f_X12_copiesStill fu s l).2

def p_X12_late (fu : Nat) (s : fl_I) (l : fl_L) : Prop :=
  (p_X12_copiesStill fu s l) ∧ p_X12_late_6 fu fu (0 : Int32) (f_X12_copiesStill fu s l).1 (f_X12_copiesStill fu s l).2

set_option maxRecDepth 100000 in
set_option maxHeartbeats 1000000 in
theorem s_X12_late {G : ab_G} {fu : Nat} {d : Nat} {D : fl_D} {s : fl_I} {l : fl_L}  (hk : p_X12_late fu s l) : ab_C G (d + 6) 0 0 M_X12_late 0 (ab_ent [.ref 60]) [] (hp D s l) (rt (some (.int (f_X12_late fu s l).1)) (hp D (f_X12_late fu s l).2.1 (f_X12_late fu s l).2.2)) := by
  generalize he : (f_X12_late fu s l) = res
  unfold f_X12_late at he
  unfold p_X12_late at hk
  refine r_weak (L1 := [some (.ref 60), none]) ⟨rfl, trivial⟩ ?_
  refine r_aload_n rfl rfl ?_
  obtain ⟨hb0, hk⟩ := hk
  refine q_callV0 [] _ rfl kY_X12_copiesStill kT_X12_copiesStill rfl rfl (Nat.le_of_ble_eq_true rfl) (Nat.le_of_ble_eq_true rfl) (cc_60 _) (s_X12_copiesStill hb0) (fun r h q => ?_)
  obtain ⟨rfl, rfl⟩ := q
  simp only [Option.toList, List.cons_append, List.nil_append]
  refine r_iconst_ (a := 0) rfl (by decide) ?_
  refine r_istore_n rfl (Nat.le_of_ble_eq_true rfl) rfl ?_
  subst he
  exact r_weak (L1 := [some (.ref 60), some (.int (0 : Int32))]) ⟨rfl, rfl, trivial⟩ (lp_X12_late_6 fu _ _ _ hk)

def f_X12_hours (fu : Nat) (v0 : Int32) (s : fl_I) (l : fl_L) : Int32 × fl_I × fl_L :=
  if ((f_X12_isLong fu v0) = 0) then ((-1 : Int32), s, l) else if (v0 = 0) then ((s 94 (140 : Int32).toNatClampNeg), s, l) else (((f_X12_records fu (f_X12_goes fu v0 (f_X12_copies fu s l).1 (f_X12_copies fu s l).2).1 (f_X12_goes fu v0 (f_X12_copies fu s l).1 (f_X12_copies fu s l).2).2).1 94 (140 : Int32).toNatClampNeg), (f_X12_records fu (f_X12_goes fu v0 (f_X12_copies fu s l).1 (f_X12_copies fu s l).2).1 (f_X12_goes fu v0 (f_X12_copies fu s l).1 (f_X12_copies fu s l).2).2).1, (f_X12_records fu (f_X12_goes fu v0 (f_X12_copies fu s l).1 (f_X12_copies fu s l).2).1 (f_X12_goes fu v0 (f_X12_copies fu s l).1 (f_X12_copies fu s l).2).2).2)

def p_X12_hours (fu : Nat) (v0 : Int32) (s : fl_I) (l : fl_L) : Prop :=
  (p_X12_isLong fu v0) ∧ ((((f_X12_isLong fu v0) = 0) → True) ∧ (¬ ((f_X12_isLong fu v0) = 0) → (((v0 = 0) → True) ∧ (¬ (v0 = 0) → (p_X12_copies fu s l) ∧ (p_X12_goes fu v0 (f_X12_copies fu s l).1 (f_X12_copies fu s l).2) ∧ (p_X12_records fu (f_X12_goes fu v0 (f_X12_copies fu s l).1 (f_X12_copies fu s l).2).1 (f_X12_goes fu v0 (f_X12_copies fu s l).1 (f_X12_copies fu s l).2).2) ∧ True))))

set_option maxRecDepth 100000 in
set_option maxHeartbeats 1000000 in
theorem s_X12_hours {G : ab_G} {fu : Nat} {d : Nat} {D : fl_D} {s : fl_I} {l : fl_L} {v0 : Int32} (hk : p_X12_hours fu v0 s l) : ab_C G (d + 7) 0 0 M_X12_hours 0 (ab_ent [.ref 60, .int v0]) [] (hp D s l) (rt (some (.int (f_X12_hours fu v0 s l).1)) (hp D (f_X12_hours fu v0 s l).2.1 (f_X12_hours fu v0 s l).2.2)) := by
  generalize he : (f_X12_hours fu v0 s l) = res
  unfold f_X12_hours at he
  unfold p_X12_hours at hk
  refine r_weak (L1 := [some (.ref 60), some (.int v0)]) ⟨rfl, rfl, trivial⟩ ?_
  refine r_iload_n rfl rfl ?_
  obtain ⟨hb0, hk⟩ := hk
  refine r_callS0 [_] _ rfl kY_X12_isLong kT_X12_isLong rfl rfl (Nat.le_of_ble_eq_true rfl) (Nat.le_of_ble_eq_true rfl) (s_X12_isLong hb0) (fun r h q => ?_)
  obtain ⟨rfl, rfl⟩ := q
  simp only [Option.toList, List.cons_append, List.nil_append]
  refine r_if_ne rfl (fun c_4 => ?_) (fun c_4 => ?_)
  · rw [if_neg c_4] at he
    replace hk := hk.2 c_4
    refine r_iload_n rfl rfl ?_
    refine r_if_ne rfl (fun c_10 => ?_) (fun c_10 => ?_)
    · rw [if_neg c_10] at he
      replace hk := hk.2 c_10
      refine r_aload_n rfl rfl ?_
      obtain ⟨hb1, hk⟩ := hk
      refine q_callV0 [] _ rfl kY_X12_copies kT_X12_copies rfl rfl (Nat.le_of_ble_eq_true rfl) (Nat.le_of_ble_eq_true rfl) (cc_60 _) (s_X12_copies hb1) (fun r h q => ?_)
      obtain ⟨rfl, rfl⟩ := q
      simp only [Option.toList, List.cons_append, List.nil_append]
      refine r_aload_n rfl rfl ?_
      refine r_iload_n rfl rfl ?_
      obtain ⟨hb2, hk⟩ := hk
      refine q_callV0 [_] _ rfl kY_X12_goes kT_X12_goes rfl rfl (Nat.le_of_ble_eq_true rfl) (Nat.le_of_ble_eq_true rfl) (cc_60 _) (s_X12_goes hb2) (fun r h q => ?_)
      obtain ⟨rfl, rfl⟩ := q
      simp only [Option.toList, List.cons_append, List.nil_append]
      refine r_aload_n rfl rfl ?_
      obtain ⟨hb3, hk⟩ := hk
      refine q_callV0 [] _ rfl kY_X12_records kT_X12_records rfl rfl (Nat.le_of_ble_eq_true rfl) (Nat.le_of_ble_eq_true rfl) (cc_60 _) (s_X12_records hb3) (fun r h q => ?_)
      obtain ⟨rfl, rfl⟩ := q
      simp only [Option.toList, List.cons_append, List.nil_append]
      refine r_aload_n rfl rfl ?_
      refine q_getfield rfl (cc_60 _) rfl ?_
      refine r_sipush_ (a := 140) rfl (by decide) ?_
      refine q_iald rfl (cc_94 _) (by unfold vp_in; decide) ?_
      refine r_iret rfl rfl rfl ?_
      first | with_reducible exact fin_i he | exact fin_i he
    · rw [if_pos c_10] at he
      replace hk := hk.1 c_10
      refine r_aload_n rfl rfl ?_
      refine q_getfield rfl (cc_60 _) rfl ?_
      refine r_sipush_ (a := 140) rfl (by decide) ?_
      refine q_iald rfl (cc_94 _) (by unfold vp_in; decide) ?_
      refine r_iret rfl rfl rfl ?_
      first | with_reducible exact fin_i he | exact fin_i he
  · rw [if_pos c_4] at he
    replace hk := hk.1 c_4
    refine r_iconst_ (a := -1) rfl (by decide) ?_
    refine r_iret rfl rfl rfl ?_
    first | with_reducible exact fin_i he | exact fin_i he

def f_X12_year_24 (fu : Nat) : Nat → Int32 → Int32 → Int32 → Int32 → fl_I → fl_L → Int32 × fl_I × fl_L
  | 0, x1, x2, x3, x4, s, l => (0, s, l)
  | n + 1, x1, x2, x3, x4, s, l =>
    if (x2 ≤ x4) then (x3, s, l) else if ((f_X12_lieMany fu (f_X12_goes fu x1 (wi (f_X12_copies fu s l).1 60 52 (((f_X12_copies fu s l).1 60 52) + x4)) (f_X12_copies fu s l).2).1 (f_X12_goes fu x1 (wi (f_X12_copies fu s l).1 60 52 (((f_X12_copies fu s l).1 60 52) + x4)) (f_X12_copies fu s l).2).2) = 0) then f_X12_year_24 fu n x1 x2 (x3 + 1) (x4 + 1) (f_X12_goes fu x1 (wi (f_X12_copies fu s l).1 60 52 (((f_X12_copies fu s l).1 60 52) + x4)) (f_X12_copies fu s l).2).1 (f_X12_goes fu x1 (wi (f_X12_copies fu s l).1 60 52 (((f_X12_copies fu s l).1 60 52) + x4)) (f_X12_copies fu s l).2).2 else f_X12_year_24 fu n x1 x2 x3 (x4 + 1) (f_X12_goes fu x1 (wi (f_X12_copies fu s l).1 60 52 (((f_X12_copies fu s l).1 60 52) + x4)) (f_X12_copies fu s l).2).1 (f_X12_goes fu x1 (wi (f_X12_copies fu s l).1 60 52 (((f_X12_copies fu s l).1 60 52) + x4)) (f_X12_copies fu s l).2).2

def p_X12_year_24 (fu : Nat) : Nat → Int32 → Int32 → Int32 → Int32 → fl_I → fl_L → Prop
  | 0, _, _, _, _, _, _ => False
  | n + 1, x1, x2, x3, x4, s, l =>
    (((x2 ≤ x4) → True) ∧ (¬ (x2 ≤ x4) → (p_X12_copies fu s l) ∧ (p_X12_goes fu x1 (wi (f_X12_copies fu s l).1 60 52 (((f_X12_copies fu s l).1 60 52) + x4)) (f_X12_copies fu s l).2) ∧ (p_X12_lieMany fu (f_X12_goes fu x1 (wi (f_X12_copies fu s l).1 60 52 (((f_X12_copies fu s l).1 60 52) + x4)) (f_X12_copies fu s l).2).1 (f_X12_goes fu x1 (wi (f_X12_copies fu s l).1 60 52 (((f_X12_copies fu s l).1 60 52) + x4)) (f_X12_copies fu s l).2).2) ∧ ((((f_X12_lieMany fu (f_X12_goes fu x1 (wi (f_X12_copies fu s l).1 60 52 (((f_X12_copies fu s l).1 60 52) + x4)) (f_X12_copies fu s l).2).1 (f_X12_goes fu x1 (wi (f_X12_copies fu s l).1 60 52 (((f_X12_copies fu s l).1 60 52) + x4)) (f_X12_copies fu s l).2).2) = 0) → p_X12_year_24 fu n x1 x2 (x3 + 1) (x4 + 1) (f_X12_goes fu x1 (wi (f_X12_copies fu s l).1 60 52 (((f_X12_copies fu s l).1 60 52) + x4)) (f_X12_copies fu s l).2).1 (f_X12_goes fu x1 (wi (f_X12_copies fu s l).1 60 52 (((f_X12_copies fu s l).1 60 52) + x4)) (f_X12_copies fu s l).2).2) ∧ (¬ ((f_X12_lieMany fu (f_X12_goes fu x1 (wi (f_X12_copies fu s l).1 60 52 (((f_X12_copies fu s l).1 60 52) + x4)) (f_X12_copies fu s l).2).1 (f_X12_goes fu x1 (wi (f_X12_copies fu s l).1 60 52 (((f_X12_copies fu s l).1 60 52) + x4)) (f_X12_copies fu s l).2).2) = 0) → p_X12_year_24 fu n x1 x2 x3 (x4 + 1) (f_X12_goes fu x1 (wi (f_X12_copies fu s l).1 60 52 (((f_X12_copies fu s l).1 60 52) + x4)) (f_X12_copies fu s l).2).1 (f_X12_goes fu x1 (wi (f_X12_copies fu s l).1 60 52 (((f_X12_copies fu s l).1 60 52) + x4)) (f_X12_copies fu s l).2).2))))

set_option maxRecDepth 100000 in
set_option maxHeartbeats 1000000 in
theorem lp_X12_year_24 {G : ab_G} {fu : Nat} {d : Nat} {D : fl_D} : ∀ (n : Nat) (x1 : Int32) (x2 : Int32) (x3 : Int32) (x4 : Int32) (s : fl_I) (l : fl_L), p_X12_year_24 fu n x1 x2 x3 x4 s l → ab_C G (d + 7) 0 0 M_X12_year 24 [some (.ref 60), some (.int x1), some (.int x2), some (.int x3), some (.int x4)] [] (hp D s l) (rt (some (.int (f_X12_year_24 fu n x1 x2 x3 x4 s l).1)) (hp D (f_X12_year_24 fu n x1 x2 x3 x4 s l).2.1 (f_X12_year_24 fu n x1 x2 x3 x4 s l).2.2)) := by
  intro n
  induction n with
  | zero => intro x1 x2 x3 x4 s l hk; exact hk.elim
  | succ n ih =>
    intro x1 x2 x3 x4 s l hk
    generalize he : f_X12_year_24 fu (n + 1) x1 x2 x3 x4 s l = res
    unfold f_X12_year_24 at he
    unfold p_X12_year_24 at hk
    refine r_iload rfl rfl ?_
    refine r_iload_n rfl rfl ?_
    refine r_icmp_ge rfl (fun c_27 => ?_) (fun c_27 => ?_)
    · rw [if_pos c_27] at he
      replace hk := hk.1 c_27
      refine r_iload_n rfl rfl ?_
      refine r_iret rfl rfl rfl ?_
      first | with_reducible exact fin_i he | exact fin_i he
    · rw [if_neg c_27] at he
      replace hk := hk.2 c_27
      refine r_aload_n rfl rfl ?_
      obtain ⟨hb2, hk⟩ := hk
      refine q_callV0 [] _ rfl kY_X12_copies kT_X12_copies rfl rfl (Nat.le_of_ble_eq_true rfl) (Nat.le_of_ble_eq_true rfl) (cc_60 _) (s_X12_copies hb2) (fun r h q => ?_)
      obtain ⟨rfl, rfl⟩ := q
      simp only [Option.toList, List.cons_append, List.nil_append]
      refine r_aload_n rfl rfl ?_
      refine r_dup rfl rfl ?_
      refine q_getfield rfl (cc_60 _) rfl ?_
      refine r_iload rfl rfl ?_
      refine r_iadd rfl ?_
      refine w_put rfl (cc_60 _) ff_12_52 ft_12_52 (fun _ _ => (Nat.le_of_ble_eq_true rfl)) (fun _ _ => rfl) ?_
      refine r_aload_n rfl rfl ?_
      refine r_iload_n rfl rfl ?_
      obtain ⟨hb3, hk⟩ := hk
      refine q_callV0 [_] _ rfl kY_X12_goes kT_X12_goes rfl rfl (Nat.le_of_ble_eq_true rfl) (Nat.le_of_ble_eq_true rfl) (cc_60 _) (s_X12_goes hb3) (fun r h q => ?_)
      obtain ⟨rfl, rfl⟩ := q
      simp only [Option.toList, List.cons_append, List.nil_append]
      refine r_aload_n rfl rfl ?_
      obtain ⟨hb4, hk⟩ := hk
      refine q_callV0 [] _ rfl kY_X12_lieMany kT_X12_lieMany rfl rfl (Nat.le_of_ble_eq_true rfl) (Nat.le_of_ble_eq_true rfl) (cc_60 _) (s_X12_lieMany hb4) (fun r h q => ?_)
      obtain ⟨rfl, rfl⟩ := q
      simp only [Option.toList, List.cons_append, List.nil_append]
      refine r_if_ne rfl (fun c_54 => ?_) (fun c_54 => ?_)
      · rw [if_neg c_54] at he
        replace hk := hk.2 c_54
        refine r_iinc (b := x4 + 1) rfl rfl rfl (Nat.le_of_ble_eq_true rfl) rfl ?_
        refine r_goto rfl ?_
        subst he
        exact r_weak (L1 := [some (.ref 60), some (.int x1), some (.int x2), some (.int x3), some (.int (x4 + 1))]) ⟨rfl, rfl, rfl, rfl, rfl, trivial⟩ (ih _ _ _ _ _ _ hk)
      · rw [if_pos c_54] at he
        replace hk := hk.1 c_54
        refine r_iinc (b := x3 + 1) rfl rfl rfl (Nat.le_of_ble_eq_true rfl) rfl ?_
        refine r_iinc (b := x4 + 1) rfl rfl rfl (Nat.le_of_ble_eq_true rfl) rfl ?_
        refine r_goto rfl ?_
        subst he
        exact r_weak (L1 := [some (.ref 60), some (.int x1), some (.int x2), some (.int (x3 + 1)), some (.int (x4 + 1))]) ⟨rfl, rfl, rfl, rfl, rfl, trivial⟩ (ih _ _ _ _ _ _ hk)

def f_X12_year (fu : Nat) (v0 : Int32) (v1 : Int32) (s : fl_I) (l : fl_L) : Int32 × fl_I × fl_L :=
  if ((f_X12_isLong fu v0) = 0) then ((-1 : Int32), s, l) else if ((f_X12_in fu v1 (1 : Int32) (20 : Int32)) = 0) then ((-1 : Int32), s, l) else f_X12_year_24 fu fu v0 v1 (0 : Int32) (0 : Int32) s l

def p_X12_year (fu : Nat) (v0 : Int32) (v1 : Int32) (s : fl_I) (l : fl_L) : Prop :=
  (p_X12_isLong fu v0) ∧ ((((f_X12_isLong fu v0) = 0) → True) ∧ (¬ ((f_X12_isLong fu v0) = 0) → (p_X12_in fu v1 (1 : Int32) (20 : Int32)) ∧ ((((f_X12_in fu v1 (1 : Int32) (20 : Int32)) = 0) → True) ∧ (¬ ((f_X12_in fu v1 (1 : Int32) (20 : Int32)) = 0) → p_X12_year_24 fu fu v0 v1 (0 : Int32) (0 : Int32) s l))))

set_option maxRecDepth 100000 in
set_option maxHeartbeats 1000000 in
theorem s_X12_year {G : ab_G} {fu : Nat} {d : Nat} {D : fl_D} {s : fl_I} {l : fl_L} {v0 : Int32} {v1 : Int32} (hk : p_X12_year fu v0 v1 s l) : ab_C G (d + 7) 0 0 M_X12_year 0 (ab_ent [.ref 60, .int v0, .int v1]) [] (hp D s l) (rt (some (.int (f_X12_year fu v0 v1 s l).1)) (hp D (f_X12_year fu v0 v1 s l).2.1 (f_X12_year fu v0 v1 s l).2.2)) := by
  generalize he : (f_X12_year fu v0 v1 s l) = res
  unfold f_X12_year at he
  unfold p_X12_year at hk
  refine r_weak (L1 := [some (.ref 60), some (.int v0), some (.int v1), none, none]) ⟨rfl, rfl, rfl, trivial⟩ ?_
  refine r_iload_n rfl rfl ?_
  obtain ⟨hb0, hk⟩ := hk
  refine r_callS0 [_] _ rfl kY_X12_isLong kT_X12_isLong rfl rfl (Nat.le_of_ble_eq_true rfl) (Nat.le_of_ble_eq_true rfl) (s_X12_isLong hb0) (fun r h q => ?_)
  obtain ⟨rfl, rfl⟩ := q
  simp only [Option.toList, List.cons_append, List.nil_append]
  refine r_if_eq rfl (fun c_4 => ?_) (fun c_4 => ?_)
  · rw [if_pos c_4] at he
    replace hk := hk.1 c_4
    refine r_iconst_ (a := -1) rfl (by decide) ?_
    refine r_iret rfl rfl rfl ?_
    first | with_reducible exact fin_i he | exact fin_i he
  · rw [if_neg c_4] at he
    replace hk := hk.2 c_4
    refine r_iload_n rfl rfl ?_
    refine r_iconst_ (a := 1) rfl (by decide) ?_
    refine r_bipush_ (a := 20) rfl (by decide) ?_
    obtain ⟨hb1, hk⟩ := hk
    refine r_callS0 [_, _, _] _ rfl kY_X12_in kT_X12_in rfl rfl (Nat.le_of_ble_eq_true rfl) (Nat.le_of_ble_eq_true rfl) (s_X12_in hb1) (fun r h q => ?_)
    obtain ⟨rfl, rfl⟩ := q
    simp only [Option.toList, List.cons_append, List.nil_append]
    refine r_if_ne rfl (fun c_14 => ?_) (fun c_14 => ?_)
    · rw [if_neg c_14] at he
      replace hk := hk.2 c_14
      refine r_iconst_ (a := 0) rfl (by decide) ?_
      refine r_istore_n rfl (Nat.le_of_ble_eq_true rfl) rfl ?_
      refine r_iconst_ (a := 0) rfl (by decide) ?_
      refine r_istore rfl (Nat.le_of_ble_eq_true rfl) rfl ?_
      subst he
      exact r_weak (L1 := [some (.ref 60), some (.int v0), some (.int v1), some (.int (0 : Int32)), some (.int (0 : Int32))]) ⟨rfl, rfl, rfl, rfl, rfl, trivial⟩ (lp_X12_year_24 fu _ _ _ _ _ _ hk)
    · rw [if_pos c_14] at he
      replace hk := hk.1 c_14
      refine r_iconst_ (a := -1) rfl (by decide) ?_
      refine r_iret rfl rfl rfl ?_
      first | with_reducible exact fin_i he | exact fin_i he

def f_X12_pickerIn (fu : Nat) (v0 : Int32) (v1 : Int32) (v2 : Int32) (s : fl_I) (l : fl_L) : Int32 × fl_I × fl_L :=
  if ((f_X12_isPicker fu v0 s l) = 0) then ((-1 : Int32), s, l) else if ((f_X12_isLong fu v1) = 0) then ((-1 : Int32), s, l) else if ((f_X12_in fu v2 (0 : Int32) (2 : Int32)) = 0) then ((-1 : Int32), s, l) else if (v2 = (2 : Int32)) then ((f_X12_inHat fu v0 (f_X12_goes fu v1 (f_X12_copies fu s l).1 (f_X12_copies fu s l).2).1 (f_X12_goes fu v1 (f_X12_copies fu s l).1 (f_X12_copies fu s l).2).2), (f_X12_goes fu v1 (f_X12_copies fu s l).1 (f_X12_copies fu s l).2).1, (f_X12_goes fu v1 (f_X12_copies fu s l).1 (f_X12_copies fu s l).2).2) else (((f_X12_goes fu v1 (f_X12_copies fu s l).1 (f_X12_copies fu s l).2).1 95 (((128 : Int32) + ((4 : Int32) * v2)) + v0).toNatClampNeg), (f_X12_goes fu v1 (f_X12_copies fu s l).1 (f_X12_copies fu s l).2).1, (f_X12_goes fu v1 (f_X12_copies fu s l).1 (f_X12_copies fu s l).2).2)

def p_X12_pickerIn (fu : Nat) (v0 : Int32) (v1 : Int32) (v2 : Int32) (s : fl_I) (l : fl_L) : Prop :=
  (p_X12_isPicker fu v0 s l) ∧ ((((f_X12_isPicker fu v0 s l) = 0) → True) ∧ (¬ ((f_X12_isPicker fu v0 s l) = 0) → (p_X12_isLong fu v1) ∧ ((((f_X12_isLong fu v1) = 0) → True) ∧ (¬ ((f_X12_isLong fu v1) = 0) → (p_X12_in fu v2 (0 : Int32) (2 : Int32)) ∧ ((((f_X12_in fu v2 (0 : Int32) (2 : Int32)) = 0) → True) ∧ (¬ ((f_X12_in fu v2 (0 : Int32) (2 : Int32)) = 0) → (p_X12_copies fu s l) ∧ (p_X12_goes fu v1 (f_X12_copies fu s l).1 (f_X12_copies fu s l).2) ∧ (((v2 = (2 : Int32)) → (p_X12_inHat fu v0 (f_X12_goes fu v1 (f_X12_copies fu s l).1 (f_X12_copies fu s l).2).1 (f_X12_goes fu v1 (f_X12_copies fu s l).1 (f_X12_copies fu s l).2).2) ∧ True) ∧ (¬ (v2 = (2 : Int32)) → (vp_in (((128 : Int32) + ((4 : Int32) * v2)) + v0) 141) ∧ True))))))))

set_option maxRecDepth 100000 in
set_option maxHeartbeats 1000000 in
theorem s_X12_pickerIn {G : ab_G} {fu : Nat} {d : Nat} {D : fl_D} {s : fl_I} {l : fl_L} {v0 : Int32} {v1 : Int32} {v2 : Int32} (hk : p_X12_pickerIn fu v0 v1 v2 s l) : ab_C G (d + 7) 0 0 M_X12_pickerIn 0 (ab_ent [.ref 60, .int v0, .int v1, .int v2]) [] (hp D s l) (rt (some (.int (f_X12_pickerIn fu v0 v1 v2 s l).1)) (hp D (f_X12_pickerIn fu v0 v1 v2 s l).2.1 (f_X12_pickerIn fu v0 v1 v2 s l).2.2)) := by
  generalize he : (f_X12_pickerIn fu v0 v1 v2 s l) = res
  unfold f_X12_pickerIn at he
  unfold p_X12_pickerIn at hk
  refine r_weak (L1 := [some (.ref 60), some (.int v0), some (.int v1), some (.int v2)]) ⟨rfl, rfl, rfl, rfl, trivial⟩ ?_
  refine r_aload_n rfl rfl ?_
  refine r_iload_n rfl rfl ?_
  obtain ⟨hb0, hk⟩ := hk
  refine q_callV0 [_] _ rfl kY_X12_isPicker kT_X12_isPicker rfl rfl (Nat.le_of_ble_eq_true rfl) (Nat.le_of_ble_eq_true rfl) (cc_60 _) (s_X12_isPicker hb0) (fun r h q => ?_)
  obtain ⟨rfl, rfl⟩ := q
  simp only [Option.toList, List.cons_append, List.nil_append]
  refine r_if_eq rfl (fun c_5 => ?_) (fun c_5 => ?_)
  · rw [if_pos c_5] at he
    replace hk := hk.1 c_5
    refine r_iconst_ (a := -1) rfl (by decide) ?_
    refine r_iret rfl rfl rfl ?_
    first | with_reducible exact fin_i he | exact fin_i he
  · rw [if_neg c_5] at he
    replace hk := hk.2 c_5
    refine r_iload_n rfl rfl ?_
    obtain ⟨hb1, hk⟩ := hk
    refine r_callS0 [_] _ rfl kY_X12_isLong kT_X12_isLong rfl rfl (Nat.le_of_ble_eq_true rfl) (Nat.le_of_ble_eq_true rfl) (s_X12_isLong hb1) (fun r h q => ?_)
    obtain ⟨rfl, rfl⟩ := q
    simp only [Option.toList, List.cons_append, List.nil_append]
    refine r_if_eq rfl (fun c_12 => ?_) (fun c_12 => ?_)
    · rw [if_pos c_12] at he
      replace hk := hk.1 c_12
      refine r_iconst_ (a := -1) rfl (by decide) ?_
      refine r_iret rfl rfl rfl ?_
      first | with_reducible exact fin_i he | exact fin_i he
    · rw [if_neg c_12] at he
      replace hk := hk.2 c_12
      refine r_iload_n rfl rfl ?_
      refine r_iconst_ (a := 0) rfl (by decide) ?_
      refine r_iconst_ (a := 2) rfl (by decide) ?_
      obtain ⟨hb2, hk⟩ := hk
      refine r_callS0 [_, _, _] _ rfl kY_X12_in kT_X12_in rfl rfl (Nat.le_of_ble_eq_true rfl) (Nat.le_of_ble_eq_true rfl) (s_X12_in hb2) (fun r h q => ?_)
      obtain ⟨rfl, rfl⟩ := q
      simp only [Option.toList, List.cons_append, List.nil_append]
      refine r_if_ne rfl (fun c_21 => ?_) (fun c_21 => ?_)
      · rw [if_neg c_21] at he
        replace hk := hk.2 c_21
        refine r_aload_n rfl rfl ?_
        obtain ⟨hb3, hk⟩ := hk
        refine q_callV0 [] _ rfl kY_X12_copies kT_X12_copies rfl rfl (Nat.le_of_ble_eq_true rfl) (Nat.le_of_ble_eq_true rfl) (cc_60 _) (s_X12_copies hb3) (fun r h q => ?_)
        obtain ⟨rfl, rfl⟩ := q
        simp only [Option.toList, List.cons_append, List.nil_append]
        refine r_aload_n rfl rfl ?_
        refine r_iload_n rfl rfl ?_
        obtain ⟨hb4, hk⟩ := hk
        refine q_callV0 [_] _ rfl kY_X12_goes kT_X12_goes rfl rfl (Nat.le_of_ble_eq_true rfl) (Nat.le_of_ble_eq_true rfl) (cc_60 _) (s_X12_goes hb4) (fun r h q => ?_)
        obtain ⟨rfl, rfl⟩ := q
        simp only [Option.toList, List.cons_append, List.nil_append]
        refine r_iload_n rfl rfl ?_
        refine r_iconst_ (a := 2) rfl (by decide) ?_
        refine r_icmp_ne rfl (fun c_37 => ?_) (fun c_37 => ?_)
        · rw [if_neg c_37] at he
          replace hk := hk.2 c_37
          refine r_aload_n rfl rfl ?_
          refine q_getfield rfl (cc_60 _) rfl ?_
          refine r_sipush_ (a := 128) rfl (by decide) ?_
          refine r_iconst_ (a := 4) rfl (by decide) ?_
          refine r_iload_n rfl rfl ?_
          refine r_imul rfl ?_
          refine r_iadd rfl ?_
          refine r_iload_n rfl rfl ?_
          refine r_iadd rfl ?_
          obtain ⟨hb5, hk⟩ := hk
          refine q_iald rfl (cc_95 _) hb5 ?_
          refine r_iret rfl rfl rfl ?_
          first | with_reducible exact fin_i he | exact fin_i he
        · rw [if_pos c_37] at he
          replace hk := hk.1 c_37
          refine r_aload_n rfl rfl ?_
          refine r_iload_n rfl rfl ?_
          obtain ⟨hb6, hk⟩ := hk
          refine q_callV0 [_] _ rfl kY_X12_inHat kT_X12_inHat rfl rfl (Nat.le_of_ble_eq_true rfl) (Nat.le_of_ble_eq_true rfl) (cc_60 _) (s_X12_inHat hb6) (fun r h q => ?_)
          obtain ⟨rfl, rfl⟩ := q
          simp only [Option.toList, List.cons_append, List.nil_append]
          refine r_goto rfl ?_
          refine r_iret rfl rfl rfl ?_
          first | with_reducible exact fin_i he | exact fin_i he
      · rw [if_pos c_21] at he
        replace hk := hk.1 c_21
        refine r_iconst_ (a := -1) rfl (by decide) ?_
        refine r_iret rfl rfl rfl ?_
        first | with_reducible exact fin_i he | exact fin_i he

def f_X12_pieceIn (fu : Nat) (v0 : Int32) (v1 : Int32) (v2 : Int32) (s : fl_I) (l : fl_L) : Int32 × fl_I × fl_L :=
  if ((f_X12_isPiece fu v0 s l) = 0) then ((-1 : Int32), s, l) else if ((f_X12_isLong fu v1) = 0) then ((-1 : Int32), s, l) else if ((f_X12_in fu v2 (0 : Int32) (2 : Int32)) = 0) then ((-1 : Int32), s, l) else if (v2 = 0) then ((f_X12_pieceAcross fu v0 (f_X12_goes fu v1 (f_X12_copies fu s l).1 (f_X12_copies fu s l).2).1 (f_X12_goes fu v1 (f_X12_copies fu s l).1 (f_X12_copies fu s l).2).2), (f_X12_goes fu v1 (f_X12_copies fu s l).1 (f_X12_copies fu s l).2).1, (f_X12_goes fu v1 (f_X12_copies fu s l).1 (f_X12_copies fu s l).2).2) else if (v2 = (1 : Int32)) then ((f_X12_pieceDown fu v0 (f_X12_goes fu v1 (f_X12_copies fu s l).1 (f_X12_copies fu s l).2).1 (f_X12_goes fu v1 (f_X12_copies fu s l).1 (f_X12_copies fu s l).2).2), (f_X12_goes fu v1 (f_X12_copies fu s l).1 (f_X12_copies fu s l).2).1, (f_X12_goes fu v1 (f_X12_copies fu s l).1 (f_X12_copies fu s l).2).2) else (((f_X12_goes fu v1 (f_X12_copies fu s l).1 (f_X12_copies fu s l).2).1 95 ((64 : Int32) + v0).toNatClampNeg), (f_X12_goes fu v1 (f_X12_copies fu s l).1 (f_X12_copies fu s l).2).1, (f_X12_goes fu v1 (f_X12_copies fu s l).1 (f_X12_copies fu s l).2).2)

def p_X12_pieceIn (fu : Nat) (v0 : Int32) (v1 : Int32) (v2 : Int32) (s : fl_I) (l : fl_L) : Prop :=
  (p_X12_isPiece fu v0 s l) ∧ ((((f_X12_isPiece fu v0 s l) = 0) → True) ∧ (¬ ((f_X12_isPiece fu v0 s l) = 0) → (p_X12_isLong fu v1) ∧ ((((f_X12_isLong fu v1) = 0) → True) ∧ (¬ ((f_X12_isLong fu v1) = 0) → (p_X12_in fu v2 (0 : Int32) (2 : Int32)) ∧ ((((f_X12_in fu v2 (0 : Int32) (2 : Int32)) = 0) → True) ∧ (¬ ((f_X12_in fu v2 (0 : Int32) (2 : Int32)) = 0) → (p_X12_copies fu s l) ∧ (p_X12_goes fu v1 (f_X12_copies fu s l).1 (f_X12_copies fu s l).2) ∧ (((v2 = 0) → (p_X12_pieceAcross fu v0 (f_X12_goes fu v1 (f_X12_copies fu s l).1 (f_X12_copies fu s l).2).1 (f_X12_goes fu v1 (f_X12_copies fu s l).1 (f_X12_copies fu s l).2).2) ∧ True) ∧ (¬ (v2 = 0) → (((v2 = (1 : Int32)) → (p_X12_pieceDown fu v0 (f_X12_goes fu v1 (f_X12_copies fu s l).1 (f_X12_copies fu s l).2).1 (f_X12_goes fu v1 (f_X12_copies fu s l).1 (f_X12_copies fu s l).2).2) ∧ True) ∧ (¬ (v2 = (1 : Int32)) → (vp_in ((64 : Int32) + v0) 141) ∧ True))))))))))

set_option maxRecDepth 100000 in
set_option maxHeartbeats 1000000 in
theorem s_X12_pieceIn {G : ab_G} {fu : Nat} {d : Nat} {D : fl_D} {s : fl_I} {l : fl_L} {v0 : Int32} {v1 : Int32} {v2 : Int32} (hk : p_X12_pieceIn fu v0 v1 v2 s l) : ab_C G (d + 7) 0 0 M_X12_pieceIn 0 (ab_ent [.ref 60, .int v0, .int v1, .int v2]) [] (hp D s l) (rt (some (.int (f_X12_pieceIn fu v0 v1 v2 s l).1)) (hp D (f_X12_pieceIn fu v0 v1 v2 s l).2.1 (f_X12_pieceIn fu v0 v1 v2 s l).2.2)) := by
  generalize he : (f_X12_pieceIn fu v0 v1 v2 s l) = res
  unfold f_X12_pieceIn at he
  unfold p_X12_pieceIn at hk
  refine r_weak (L1 := [some (.ref 60), some (.int v0), some (.int v1), some (.int v2)]) ⟨rfl, rfl, rfl, rfl, trivial⟩ ?_
  refine r_aload_n rfl rfl ?_
  refine r_iload_n rfl rfl ?_
  obtain ⟨hb0, hk⟩ := hk
  refine q_callV0 [_] _ rfl kY_X12_isPiece kT_X12_isPiece rfl rfl (Nat.le_of_ble_eq_true rfl) (Nat.le_of_ble_eq_true rfl) (cc_60 _) (s_X12_isPiece hb0) (fun r h q => ?_)
  obtain ⟨rfl, rfl⟩ := q
  simp only [Option.toList, List.cons_append, List.nil_append]
  refine r_if_eq rfl (fun c_5 => ?_) (fun c_5 => ?_)
  · rw [if_pos c_5] at he
    replace hk := hk.1 c_5
    refine r_iconst_ (a := -1) rfl (by decide) ?_
    refine r_iret rfl rfl rfl ?_
    first | with_reducible exact fin_i he | exact fin_i he
  · rw [if_neg c_5] at he
    replace hk := hk.2 c_5
    refine r_iload_n rfl rfl ?_
    obtain ⟨hb1, hk⟩ := hk
    refine r_callS0 [_] _ rfl kY_X12_isLong kT_X12_isLong rfl rfl (Nat.le_of_ble_eq_true rfl) (Nat.le_of_ble_eq_true rfl) (s_X12_isLong hb1) (fun r h q => ?_)
    obtain ⟨rfl, rfl⟩ := q
    simp only [Option.toList, List.cons_append, List.nil_append]
    refine r_if_eq rfl (fun c_12 => ?_) (fun c_12 => ?_)
    · rw [if_pos c_12] at he
      replace hk := hk.1 c_12
      refine r_iconst_ (a := -1) rfl (by decide) ?_
      refine r_iret rfl rfl rfl ?_
      first | with_reducible exact fin_i he | exact fin_i he
    · rw [if_neg c_12] at he
      replace hk := hk.2 c_12
      refine r_iload_n rfl rfl ?_
      refine r_iconst_ (a := 0) rfl (by decide) ?_
      refine r_iconst_ (a := 2) rfl (by decide) ?_
      obtain ⟨hb2, hk⟩ := hk
      refine r_callS0 [_, _, _] _ rfl kY_X12_in kT_X12_in rfl rfl (Nat.le_of_ble_eq_true rfl) (Nat.le_of_ble_eq_true rfl) (s_X12_in hb2) (fun r h q => ?_)
      obtain ⟨rfl, rfl⟩ := q
      simp only [Option.toList, List.cons_append, List.nil_append]
      refine r_if_ne rfl (fun c_21 => ?_) (fun c_21 => ?_)
      · rw [if_neg c_21] at he
        replace hk := hk.2 c_21
        refine r_aload_n rfl rfl ?_
        obtain ⟨hb3, hk⟩ := hk
        refine q_callV0 [] _ rfl kY_X12_copies kT_X12_copies rfl rfl (Nat.le_of_ble_eq_true rfl) (Nat.le_of_ble_eq_true rfl) (cc_60 _) (s_X12_copies hb3) (fun r h q => ?_)
        obtain ⟨rfl, rfl⟩ := q
        simp only [Option.toList, List.cons_append, List.nil_append]
        refine r_aload_n rfl rfl ?_
        refine r_iload_n rfl rfl ?_
        obtain ⟨hb4, hk⟩ := hk
        refine q_callV0 [_] _ rfl kY_X12_goes kT_X12_goes rfl rfl (Nat.le_of_ble_eq_true rfl) (Nat.le_of_ble_eq_true rfl) (cc_60 _) (s_X12_goes hb4) (fun r h q => ?_)
        obtain ⟨rfl, rfl⟩ := q
        simp only [Option.toList, List.cons_append, List.nil_append]
        refine r_iload_n rfl rfl ?_
        refine r_if_ne rfl (fun c_36 => ?_) (fun c_36 => ?_)
        · rw [if_neg c_36] at he
          replace hk := hk.2 c_36
          refine r_iload_n rfl rfl ?_
          refine r_iconst_ (a := 1) rfl (by decide) ?_
          refine r_icmp_ne rfl (fun c_49 => ?_) (fun c_49 => ?_)
          · rw [if_neg c_49] at he
            replace hk := hk.2 c_49
            refine r_aload_n rfl rfl ?_
            refine q_getfield rfl (cc_60 _) rfl ?_
            refine r_bipush_ (a := 64) rfl (by decide) ?_
            refine r_iload_n rfl rfl ?_
            refine r_iadd rfl ?_
            obtain ⟨hb5, hk⟩ := hk
            refine q_iald rfl (cc_95 _) hb5 ?_
            refine r_iret rfl rfl rfl ?_
            first | with_reducible exact fin_i he | exact fin_i he
          · rw [if_pos c_49] at he
            replace hk := hk.1 c_49
            refine r_aload_n rfl rfl ?_
            refine r_iload_n rfl rfl ?_
            obtain ⟨hb6, hk⟩ := hk
            refine q_callV0 [_] _ rfl kY_X12_pieceDown kT_X12_pieceDown rfl rfl (Nat.le_of_ble_eq_true rfl) (Nat.le_of_ble_eq_true rfl) (cc_60 _) (s_X12_pieceDown hb6) (fun r h q => ?_)
            obtain ⟨rfl, rfl⟩ := q
            simp only [Option.toList, List.cons_append, List.nil_append]
            refine r_goto rfl ?_
            refine r_iret rfl rfl rfl ?_
            first | with_reducible exact fin_i he | exact fin_i he
        · rw [if_pos c_36] at he
          replace hk := hk.1 c_36
          refine r_aload_n rfl rfl ?_
          refine r_iload_n rfl rfl ?_
          obtain ⟨hb7, hk⟩ := hk
          refine q_callV0 [_] _ rfl kY_X12_pieceAcross kT_X12_pieceAcross rfl rfl (Nat.le_of_ble_eq_true rfl) (Nat.le_of_ble_eq_true rfl) (cc_60 _) (s_X12_pieceAcross hb7) (fun r h q => ?_)
          obtain ⟨rfl, rfl⟩ := q
          simp only [Option.toList, List.cons_append, List.nil_append]
          refine r_goto rfl ?_
          refine r_iret rfl rfl rfl ?_
          first | with_reducible exact fin_i he | exact fin_i he
      · rw [if_pos c_21] at he
        replace hk := hk.1 c_21
        refine r_iconst_ (a := -1) rfl (by decide) ?_
        refine r_iret rfl rfl rfl ?_
        first | with_reducible exact fin_i he | exact fin_i he

