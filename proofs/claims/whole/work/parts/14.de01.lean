def f_X12_isRain (fu : Nat) (s : fl_I) (l : fl_L) : Int32 :=
  if ((s 80 (s 60 18).toNatClampNeg) ≤ ((i_ushr (f_X12_mixed fu (f_X12_mixed fu (s 60 52) (145 : Int32)) ((4 : Int32) * (s 95 (140 : Int32).toNatClampNeg))) (1 : Int32)) - (i_ushr (f_X12_mixed fu (f_X12_mixed fu (s 60 52) (145 : Int32)) ((4 : Int32) * (s 95 (140 : Int32).toNatClampNeg))) (1 : Int32)) / (100 : Int32) * (100 : Int32))) then (0 : Int32) else (1 : Int32)

def p_X12_isRain (fu : Nat) (s : fl_I) (l : fl_L) : Prop :=
  (p_X12_mixed fu (s 60 52) (145 : Int32)) ∧ (p_X12_mixed fu (f_X12_mixed fu (s 60 52) (145 : Int32)) ((4 : Int32) * (s 95 (140 : Int32).toNatClampNeg))) ∧ (vp_in (s 60 18) 2) ∧ ((((s 80 (s 60 18).toNatClampNeg) ≤ ((i_ushr (f_X12_mixed fu (f_X12_mixed fu (s 60 52) (145 : Int32)) ((4 : Int32) * (s 95 (140 : Int32).toNatClampNeg))) (1 : Int32)) - (i_ushr (f_X12_mixed fu (f_X12_mixed fu (s 60 52) (145 : Int32)) ((4 : Int32) * (s 95 (140 : Int32).toNatClampNeg))) (1 : Int32)) / (100 : Int32) * (100 : Int32))) → True) ∧ (¬ ((s 80 (s 60 18).toNatClampNeg) ≤ ((i_ushr (f_X12_mixed fu (f_X12_mixed fu (s 60 52) (145 : Int32)) ((4 : Int32) * (s 95 (140 : Int32).toNatClampNeg))) (1 : Int32)) - (i_ushr (f_X12_mixed fu (f_X12_mixed fu (s 60 52) (145 : Int32)) ((4 : Int32) * (s 95 (140 : Int32).toNatClampNeg))) (1 : Int32)) / (100 : Int32) * (100 : Int32))) → True))

set_option maxRecDepth 100000 in
set_option maxHeartbeats 1000000 in
theorem s_X12_isRain {G : ab_G} {fu : Nat} {d : Nat} {D : fl_D} {s : fl_I} {l : fl_L}  (hk : p_X12_isRain fu s l) : ab_C G (d + 1) 0 0 M_X12_isRain 0 (ab_ent [.ref 60]) [] (hp D s l) (rt (some (.int (f_X12_isRain fu s l))) (hp D s l)) := by
  generalize he : (f_X12_isRain fu s l) = res
  unfold f_X12_isRain at he
  unfold p_X12_isRain at hk
  refine r_weak (L1 := [some (.ref 60)]) ⟨rfl, trivial⟩ ?_
  refine r_aload_n rfl rfl ?_
  refine q_getfield rfl (cc_60 _) rfl ?_
  refine r_sipush_ (a := 145) rfl (by decide) ?_
  obtain ⟨hb0, hk⟩ := hk
  refine r_callS0 [_, _] _ rfl kY_X12_mixed kT_X12_mixed rfl rfl (Nat.le_of_ble_eq_true rfl) (Nat.le_of_ble_eq_true rfl) (s_X12_mixed hb0) (fun r h q => ?_)
  obtain ⟨rfl, rfl⟩ := q
  simp only [Option.toList, List.cons_append, List.nil_append]
  refine r_iconst_ (a := 4) rfl (by decide) ?_
  refine r_aload_n rfl rfl ?_
  refine q_getfield rfl (cc_60 _) rfl ?_
  refine r_sipush_ (a := 140) rfl (by decide) ?_
  refine q_iald rfl (cc_95 _) (by unfold vp_in; decide) ?_
  refine r_imul rfl ?_
  obtain ⟨hb1, hk⟩ := hk
  refine r_callS0 [_, _] _ rfl kY_X12_mixed kT_X12_mixed rfl rfl (Nat.le_of_ble_eq_true rfl) (Nat.le_of_ble_eq_true rfl) (s_X12_mixed hb1) (fun r h q => ?_)
  obtain ⟨rfl, rfl⟩ := q
  simp only [Option.toList, List.cons_append, List.nil_append]
  refine r_iconst_ (a := 1) rfl (by decide) ?_
  refine r_iushr rfl ?_
  refine r_bipush_ (a := 100) rfl (by decide) ?_
  refine r_irem rfl (by decide) ?_
  refine r_aload_n rfl rfl ?_
  refine q_getfield rfl (cc_60 _) rfl ?_
  refine r_aload_n rfl rfl ?_
  refine q_getfield rfl (cc_60 _) rfl ?_
  obtain ⟨hb2, hk⟩ := hk
  refine q_iald rfl (cc_80 _) hb2 ?_
  refine r_icmp_ge rfl (fun c_37 => ?_) (fun c_37 => ?_)
  · rw [if_pos c_37] at he
    replace hk := hk.1 c_37
    refine r_iconst_ (a := 0) rfl (by decide) ?_
    refine r_iret rfl rfl rfl ?_
    first | with_reducible exact fin_ri he | exact fin_ri he
  · rw [if_neg c_37] at he
    replace hk := hk.2 c_37
    refine r_iconst_ (a := 1) rfl (by decide) ?_
    refine r_goto rfl ?_
    refine r_iret rfl rfl rfl ?_
    first | with_reducible exact fin_ri he | exact fin_ri he

def f_X4_add_3 (fu : Nat) : Nat → Int32 → Int32 → fl_I → fl_L → fl_I × fl_L
  | 0, x1, x2, s, l => (s, l)
  | n + 1, x1, x2, s, l =>
    if (x2 < 0) then (s, l) else if ((2000 : Int32) ≤ (s 1 1)) then (s, l) else f_X4_add_3 fu n x1 (x2 + (-8)) (wi (wi s 2 (s 1 1).toNatClampNeg (vp_nar .byte (i_ushr x1 x2).toInt8.toInt32)) 1 1 (((wi s 2 (s 1 1).toNatClampNeg (vp_nar .byte (i_ushr x1 x2).toInt8.toInt32)) 1 1) + (1 : Int32))) l

def p_X4_add_3 (fu : Nat) : Nat → Int32 → Int32 → fl_I → fl_L → Prop
  | 0, _, _, _, _ => False
  | n + 1, x1, x2, s, l =>
    (((x2 < 0) → True) ∧ (¬ (x2 < 0) → ((((2000 : Int32) ≤ (s 1 1)) → True) ∧ (¬ ((2000 : Int32) ≤ (s 1 1)) → (vp_in (s 1 1) 2000) ∧ p_X4_add_3 fu n x1 (x2 + (-8)) (wi (wi s 2 (s 1 1).toNatClampNeg (vp_nar .byte (i_ushr x1 x2).toInt8.toInt32)) 1 1 (((wi s 2 (s 1 1).toNatClampNeg (vp_nar .byte (i_ushr x1 x2).toInt8.toInt32)) 1 1) + (1 : Int32))) l))))

set_option maxRecDepth 100000 in
set_option maxHeartbeats 1000000 in
theorem lp_X4_add_3 {G : ab_G} {fu : Nat} {d : Nat} {D : fl_D} : ∀ (n : Nat) (x1 : Int32) (x2 : Int32) (s : fl_I) (l : fl_L), p_X4_add_3 fu n x1 x2 s l → ab_C G d 0 0 M_X4_add 3 [some (.ref 1), some (.int x1), some (.int x2)] [] (hp D s l) (rt none (hp D (f_X4_add_3 fu n x1 x2 s l).1 (f_X4_add_3 fu n x1 x2 s l).2)) := by
  intro n
  induction n with
  | zero => intro x1 x2 s l hk; exact hk.elim
  | succ n ih =>
    intro x1 x2 s l hk
    generalize he : f_X4_add_3 fu (n + 1) x1 x2 s l = res
    unfold f_X4_add_3 at he
    unfold p_X4_add_3 at hk
    refine r_iload_n rfl rfl ?_
    refine r_if_lt rfl (fun c_4 => ?_) (fun c_4 => ?_)
    · rw [if_pos c_4] at he
      replace hk := hk.1 c_4
      refine r_ret rfl rfl ?_
      first | with_reducible exact fin_v he | exact fin_v he
    · rw [if_neg c_4] at he
      replace hk := hk.2 c_4
      refine r_aload_n rfl rfl ?_
      refine q_getfield rfl (cc_1 _) rfl ?_
      refine r_sipush_ (a := 2000) rfl (by decide) ?_
      refine r_icmp_ge rfl (fun c_14 => ?_) (fun c_14 => ?_)
      · rw [if_pos c_14] at he
        replace hk := hk.1 c_14
        refine r_ret rfl rfl ?_
        first | with_reducible exact fin_v he | exact fin_v he
      · rw [if_neg c_14] at he
        replace hk := hk.2 c_14
        refine r_aload_n rfl rfl ?_
        refine q_getfield rfl (cc_1 _) rfl ?_
        refine r_aload_n rfl rfl ?_
        refine q_getfield rfl (cc_1 _) rfl ?_
        refine r_iload_n rfl rfl ?_
        refine r_iload_n rfl rfl ?_
        refine r_iushr rfl ?_
        refine r_i2b rfl ?_
        obtain ⟨hb0, hk⟩ := hk
        refine w_bast rfl (cc_2 _) hb0 ?_
        refine r_aload_n rfl rfl ?_
        refine r_dup rfl rfl ?_
        refine q_getfield rfl (cc_1 _) rfl ?_
        refine r_iconst_ (a := 1) rfl (by decide) ?_
        refine r_iadd rfl ?_
        refine w_put rfl (cc_1 _) ff_4_1 ft_4_1 (fun _ _ => (Nat.le_of_ble_eq_true rfl)) (fun _ _ => rfl) ?_
        refine r_iinc (b := x2 + (-8)) rfl rfl rfl (Nat.le_of_ble_eq_true rfl) rfl ?_
        refine r_goto rfl ?_
        subst he
        exact r_weak (L1 := [some (.ref 1), some (.int x1), some (.int (x2 + (-8)))]) ⟨rfl, rfl, rfl, trivial⟩ (ih _ _ _ _ hk)

def f_X4_add (fu : Nat) (v0 : Int32) (s : fl_I) (l : fl_L) : fl_I × fl_L :=
  f_X4_add_3 fu fu v0 (24 : Int32) s l

def p_X4_add (fu : Nat) (v0 : Int32) (s : fl_I) (l : fl_L) : Prop :=
  p_X4_add_3 fu fu v0 (24 : Int32) s l

set_option maxRecDepth 100000 in
set_option maxHeartbeats 1000000 in
theorem s_X4_add {G : ab_G} {fu : Nat} {d : Nat} {D : fl_D} {s : fl_I} {l : fl_L} {v0 : Int32} (hk : p_X4_add fu v0 s l) : ab_C G d 0 0 M_X4_add 0 (ab_ent [.ref 1, .int v0]) [] (hp D s l) (rt none (hp D (f_X4_add fu v0 s l).1 (f_X4_add fu v0 s l).2)) := by
  generalize he : (f_X4_add fu v0 s l) = res
  unfold f_X4_add at he
  unfold p_X4_add at hk
  refine r_weak (L1 := [some (.ref 1), some (.int v0), none]) ⟨rfl, rfl, trivial⟩ ?_
  refine r_bipush_ (a := 24) rfl (by decide) ?_
  refine r_istore_n rfl (Nat.le_of_ble_eq_true rfl) rfl ?_
  subst he
  exact r_weak (L1 := [some (.ref 1), some (.int v0), some (.int (24 : Int32))]) ⟨rfl, rfl, rfl, trivial⟩ (lp_X4_add_3 fu _ _ _ _ hk)

def f_X11_pickersWithGoal_4 (fu : Nat) : Nat → Int32 → Int32 → fl_I → fl_L → Int32
  | 0, _, _, _, _ => 0
  | n + 1, x1, x2, s, l =>
    if ((s 31 2) ≤ x2) then x1 else if ((s 35 x2.toNatClampNeg) = (-2 : Int32)) then f_X11_pickersWithGoal_4 fu n x1 (x2 + 1) s l else f_X11_pickersWithGoal_4 fu n (x1 ||| ((1 : Int32) <<< (x2 &&& 31))) (x2 + 1) s l

def p_X11_pickersWithGoal_4 (fu : Nat) : Nat → Int32 → Int32 → fl_I → fl_L → Prop
  | 0, _, _, _, _ => False
  | n + 1, x1, x2, s, l =>
    ((((s 31 2) ≤ x2) → True) ∧ (¬ ((s 31 2) ≤ x2) → (vp_in x2 4) ∧ ((((s 35 x2.toNatClampNeg) = (-2 : Int32)) → p_X11_pickersWithGoal_4 fu n x1 (x2 + 1) s l) ∧ (¬ ((s 35 x2.toNatClampNeg) = (-2 : Int32)) → p_X11_pickersWithGoal_4 fu n (x1 ||| ((1 : Int32) <<< (x2 &&& 31))) (x2 + 1) s l))))

set_option maxRecDepth 100000 in
set_option maxHeartbeats 1000000 in
theorem lp_X11_pickersWithGoal_4 {G : ab_G} {fu : Nat} {d : Nat} {D : fl_D} {s : fl_I} {l : fl_L} : ∀ (n : Nat) (x1 : Int32) (x2 : Int32), p_X11_pickersWithGoal_4 fu n x1 x2 s l → ab_C G d 0 0 M_X11_pickersWithGoal 4 [some (.ref 0), some (.int x1), some (.int x2)] [] (hp D s l) (rt (some (.int (f_X11_pickersWithGoal_4 fu n x1 x2 s l))) (hp D s l)) := by
  intro n
  induction n with
  | zero => intro x1 x2 hk; exact hk.elim
  | succ n ih =>
    intro x1 x2 hk
    generalize he : f_X11_pickersWithGoal_4 fu (n + 1) x1 x2 s l = res
    unfold f_X11_pickersWithGoal_4 at he
    unfold p_X11_pickersWithGoal_4 at hk
    refine r_iload_n rfl rfl ?_
    refine r_aload_n rfl rfl ?_
    refine q_getfield rfl (cc_0 _) rfl ?_
    refine q_getfield rfl (cc_31 _) rfl ?_
    refine r_icmp_ge rfl (fun c_12 => ?_) (fun c_12 => ?_)
    · rw [if_pos c_12] at he
      replace hk := hk.1 c_12
      refine r_iload_n rfl rfl ?_
      refine r_iret rfl rfl rfl ?_
      first | with_reducible exact fin_ri he | exact fin_ri he
    · rw [if_neg c_12] at he
      replace hk := hk.2 c_12
      refine r_aload_n rfl rfl ?_
      refine q_getfield rfl (cc_0 _) rfl ?_
      refine q_getfield rfl (cc_31 _) rfl ?_
      refine r_iload_n rfl rfl ?_
      obtain ⟨hb0, hk⟩ := hk
      refine q_iald rfl (cc_35 _) hb0 ?_
      refine r_bipush_ (a := -2) rfl (by decide) ?_
      refine r_icmp_eq rfl (fun c_26 => ?_) (fun c_26 => ?_)
      · rw [if_pos c_26] at he
        replace hk := hk.1 c_26
        refine r_iinc (b := x2 + 1) rfl rfl rfl (Nat.le_of_ble_eq_true rfl) rfl ?_
        refine r_goto rfl ?_
        subst he
        exact r_weak (L1 := [some (.ref 0), some (.int x1), some (.int (x2 + 1))]) ⟨rfl, rfl, rfl, trivial⟩ (ih _ _ hk)
      · rw [if_neg c_26] at he
        replace hk := hk.2 c_26
        refine r_iload_n rfl rfl ?_
        refine r_iconst_ (a := 1) rfl (by decide) ?_
        refine r_iload_n rfl rfl ?_
        refine r_ishl rfl ?_
        refine r_ior rfl ?_
        refine r_istore_n rfl (Nat.le_of_ble_eq_true rfl) rfl ?_
        refine r_iinc (b := x2 + 1) rfl rfl rfl (Nat.le_of_ble_eq_true rfl) rfl ?_
        refine r_goto rfl ?_
        subst he
        exact r_weak (L1 := [some (.ref 0), some (.int (x1 ||| ((1 : Int32) <<< (x2 &&& 31)))), some (.int (x2 + 1))]) ⟨rfl, rfl, rfl, trivial⟩ (ih _ _ hk)

def f_X11_pickersWithGoal (fu : Nat) (s : fl_I) (l : fl_L) : Int32 :=
  f_X11_pickersWithGoal_4 fu fu (0 : Int32) (0 : Int32) s l

def p_X11_pickersWithGoal (fu : Nat) (s : fl_I) (l : fl_L) : Prop :=
  p_X11_pickersWithGoal_4 fu fu (0 : Int32) (0 : Int32) s l

set_option maxRecDepth 100000 in
set_option maxHeartbeats 1000000 in
theorem s_X11_pickersWithGoal {G : ab_G} {fu : Nat} {d : Nat} {D : fl_D} {s : fl_I} {l : fl_L}  (hk : p_X11_pickersWithGoal fu s l) : ab_C G d 0 0 M_X11_pickersWithGoal 0 (ab_ent [.ref 0]) [] (hp D s l) (rt (some (.int (f_X11_pickersWithGoal fu s l))) (hp D s l)) := by
  generalize he : (f_X11_pickersWithGoal fu s l) = res
  unfold f_X11_pickersWithGoal at he
  unfold p_X11_pickersWithGoal at hk
  refine r_weak (L1 := [some (.ref 0), none, none]) ⟨rfl, trivial⟩ ?_
  refine r_iconst_ (a := 0) rfl (by decide) ?_
  refine r_istore_n rfl (Nat.le_of_ble_eq_true rfl) rfl ?_
  refine r_iconst_ (a := 0) rfl (by decide) ?_
  refine r_istore_n rfl (Nat.le_of_ble_eq_true rfl) rfl ?_
  subst he
  exact r_weak (L1 := [some (.ref 0), some (.int (0 : Int32)), some (.int (0 : Int32))]) ⟨rfl, rfl, rfl, trivial⟩ (lp_X11_pickersWithGoal_4 fu _ _ hk)

def f_X12_feed (fu : Nat) (v0 : Int32) (v1 : Int32) (v2 : Int32) (v3 : Int32) (v4 : Int32) (s : fl_I) (l : fl_L) : Int32 × fl_I × fl_L :=
  if (((s 60 2) + (20 : Int32)) ≤ (2000 : Int32)) then (((f_X12_put fu v4 (f_X12_put fu v3 (f_X12_put fu v2 (f_X12_put fu v1 (f_X12_put fu v0 s l).1 (f_X12_put fu v0 s l).2).1 (f_X12_put fu v1 (f_X12_put fu v0 s l).1 (f_X12_put fu v0 s l).2).2).1 (f_X12_put fu v2 (f_X12_put fu v1 (f_X12_put fu v0 s l).1 (f_X12_put fu v0 s l).2).1 (f_X12_put fu v1 (f_X12_put fu v0 s l).1 (f_X12_put fu v0 s l).2).2).2).1 (f_X12_put fu v3 (f_X12_put fu v2 (f_X12_put fu v1 (f_X12_put fu v0 s l).1 (f_X12_put fu v0 s l).2).1 (f_X12_put fu v1 (f_X12_put fu v0 s l).1 (f_X12_put fu v0 s l).2).2).1 (f_X12_put fu v2 (f_X12_put fu v1 (f_X12_put fu v0 s l).1 (f_X12_put fu v0 s l).2).1 (f_X12_put fu v1 (f_X12_put fu v0 s l).1 (f_X12_put fu v0 s l).2).2).2).2).1 60 2), (f_X12_put fu v4 (f_X12_put fu v3 (f_X12_put fu v2 (f_X12_put fu v1 (f_X12_put fu v0 s l).1 (f_X12_put fu v0 s l).2).1 (f_X12_put fu v1 (f_X12_put fu v0 s l).1 (f_X12_put fu v0 s l).2).2).1 (f_X12_put fu v2 (f_X12_put fu v1 (f_X12_put fu v0 s l).1 (f_X12_put fu v0 s l).2).1 (f_X12_put fu v1 (f_X12_put fu v0 s l).1 (f_X12_put fu v0 s l).2).2).2).1 (f_X12_put fu v3 (f_X12_put fu v2 (f_X12_put fu v1 (f_X12_put fu v0 s l).1 (f_X12_put fu v0 s l).2).1 (f_X12_put fu v1 (f_X12_put fu v0 s l).1 (f_X12_put fu v0 s l).2).2).1 (f_X12_put fu v2 (f_X12_put fu v1 (f_X12_put fu v0 s l).1 (f_X12_put fu v0 s l).2).1 (f_X12_put fu v1 (f_X12_put fu v0 s l).1 (f_X12_put fu v0 s l).2).2).2).2).1, (f_X12_put fu v4 (f_X12_put fu v3 (f_X12_put fu v2 (f_X12_put fu v1 (f_X12_put fu v0 s l).1 (f_X12_put fu v0 s l).2).1 (f_X12_put fu v1 (f_X12_put fu v0 s l).1 (f_X12_put fu v0 s l).2).2).1 (f_X12_put fu v2 (f_X12_put fu v1 (f_X12_put fu v0 s l).1 (f_X12_put fu v0 s l).2).1 (f_X12_put fu v1 (f_X12_put fu v0 s l).1 (f_X12_put fu v0 s l).2).2).2).1 (f_X12_put fu v3 (f_X12_put fu v2 (f_X12_put fu v1 (f_X12_put fu v0 s l).1 (f_X12_put fu v0 s l).2).1 (f_X12_put fu v1 (f_X12_put fu v0 s l).1 (f_X12_put fu v0 s l).2).2).1 (f_X12_put fu v2 (f_X12_put fu v1 (f_X12_put fu v0 s l).1 (f_X12_put fu v0 s l).2).1 (f_X12_put fu v1 (f_X12_put fu v0 s l).1 (f_X12_put fu v0 s l).2).2).2).2).2) else ((-1 : Int32), s, l)

def p_X12_feed (fu : Nat) (v0 : Int32) (v1 : Int32) (v2 : Int32) (v3 : Int32) (v4 : Int32) (s : fl_I) (l : fl_L) : Prop :=
  (((((s 60 2) + (20 : Int32)) ≤ (2000 : Int32)) → (p_X12_put fu v0 s l) ∧ (p_X12_put fu v1 (f_X12_put fu v0 s l).1 (f_X12_put fu v0 s l).2) ∧ (p_X12_put fu v2 (f_X12_put fu v1 (f_X12_put fu v0 s l).1 (f_X12_put fu v0 s l).2).1 (f_X12_put fu v1 (f_X12_put fu v0 s l).1 (f_X12_put fu v0 s l).2).2) ∧ (p_X12_put fu v3 (f_X12_put fu v2 (f_X12_put fu v1 (f_X12_put fu v0 s l).1 (f_X12_put fu v0 s l).2).1 (f_X12_put fu v1 (f_X12_put fu v0 s l).1 (f_X12_put fu v0 s l).2).2).1 (f_X12_put fu v2 (f_X12_put fu v1 (f_X12_put fu v0 s l).1 (f_X12_put fu v0 s l).2).1 (f_X12_put fu v1 (f_X12_put fu v0 s l).1 (f_X12_put fu v0 s l).2).2).2) ∧ (p_X12_put fu v4 (f_X12_put fu v3 (f_X12_put fu v2 (f_X12_put fu v1 (f_X12_put fu v0 s l).1 (f_X12_put fu v0 s l).2).1 (f_X12_put fu v1 (f_X12_put fu v0 s l).1 (f_X12_put fu v0 s l).2).2).1 (f_X12_put fu v2 (f_X12_put fu v1 (f_X12_put fu v0 s l).1 (f_X12_put fu v0 s l).2).1 (f_X12_put fu v1 (f_X12_put fu v0 s l).1 (f_X12_put fu v0 s l).2).2).2).1 (f_X12_put fu v3 (f_X12_put fu v2 (f_X12_put fu v1 (f_X12_put fu v0 s l).1 (f_X12_put fu v0 s l).2).1 (f_X12_put fu v1 (f_X12_put fu v0 s l).1 (f_X12_put fu v0 s l).2).2).1 (f_X12_put fu v2 (f_X12_put fu v1 (f_X12_put fu v0 s l).1 (f_X12_put fu v0 s l).2).1 (f_X12_put fu v1 (f_X12_put fu v0 s l).1 (f_X12_put fu v0 s l).2).2).2).2) ∧ True) ∧ (¬ (((s 60 2) + (20 : Int32)) ≤ (2000 : Int32)) → True))

set_option maxRecDepth 100000 in
set_option maxHeartbeats 1000000 in
theorem s_X12_feed {G : ab_G} {fu : Nat} {d : Nat} {D : fl_D} {s : fl_I} {l : fl_L} {v0 : Int32} {v1 : Int32} {v2 : Int32} {v3 : Int32} {v4 : Int32} (hk : p_X12_feed fu v0 v1 v2 v3 v4 s l) : ab_C G (d + 1) 0 0 M_X12_feed 0 (ab_ent [.ref 60, .int v0, .int v1, .int v2, .int v3, .int v4]) [] (hp D s l) (rt (some (.int (f_X12_feed fu v0 v1 v2 v3 v4 s l).1)) (hp D (f_X12_feed fu v0 v1 v2 v3 v4 s l).2.1 (f_X12_feed fu v0 v1 v2 v3 v4 s l).2.2)) := by
  generalize he : (f_X12_feed fu v0 v1 v2 v3 v4 s l) = res
  unfold f_X12_feed at he
  unfold p_X12_feed at hk
  refine r_weak (L1 := [some (.ref 60), some (.int v0), some (.int v1), some (.int v2), some (.int v3), some (.int v4)]) ⟨rfl, rfl, rfl, rfl, rfl, rfl, trivial⟩ ?_
  refine r_aload_n rfl rfl ?_
  refine q_getfield rfl (cc_60 _) rfl ?_
  refine r_bipush_ (a := 20) rfl (by decide) ?_
  refine r_iadd rfl ?_
  refine r_sipush_ (a := 2000) rfl (by decide) ?_
  refine r_icmp_le rfl (fun c_10 => ?_) (fun c_10 => ?_)
  · rw [if_pos c_10] at he
    replace hk := hk.1 c_10
    refine r_aload_n rfl rfl ?_
    refine r_iload_n rfl rfl ?_
    obtain ⟨hb0, hk⟩ := hk
    refine q_callV0 [_] _ rfl kY_X12_put kT_X12_put rfl rfl (Nat.le_of_ble_eq_true rfl) (Nat.le_of_ble_eq_true rfl) (cc_60 _) (s_X12_put hb0) (fun r h q => ?_)
    obtain ⟨rfl, rfl⟩ := q
    simp only [Option.toList, List.cons_append, List.nil_append]
    refine r_aload_n rfl rfl ?_
    refine r_iload_n rfl rfl ?_
    obtain ⟨hb1, hk⟩ := hk
    refine q_callV0 [_] _ rfl kY_X12_put kT_X12_put rfl rfl (Nat.le_of_ble_eq_true rfl) (Nat.le_of_ble_eq_true rfl) (cc_60 _) (s_X12_put hb1) (fun r h q => ?_)
    obtain ⟨rfl, rfl⟩ := q
    simp only [Option.toList, List.cons_append, List.nil_append]
    refine r_aload_n rfl rfl ?_
    refine r_iload_n rfl rfl ?_
    obtain ⟨hb2, hk⟩ := hk
    refine q_callV0 [_] _ rfl kY_X12_put kT_X12_put rfl rfl (Nat.le_of_ble_eq_true rfl) (Nat.le_of_ble_eq_true rfl) (cc_60 _) (s_X12_put hb2) (fun r h q => ?_)
    obtain ⟨rfl, rfl⟩ := q
    simp only [Option.toList, List.cons_append, List.nil_append]
    refine r_aload_n rfl rfl ?_
    refine r_iload rfl rfl ?_
    obtain ⟨hb3, hk⟩ := hk
    refine q_callV0 [_] _ rfl kY_X12_put kT_X12_put rfl rfl (Nat.le_of_ble_eq_true rfl) (Nat.le_of_ble_eq_true rfl) (cc_60 _) (s_X12_put hb3) (fun r h q => ?_)
    obtain ⟨rfl, rfl⟩ := q
    simp only [Option.toList, List.cons_append, List.nil_append]
    refine r_aload_n rfl rfl ?_
    refine r_iload rfl rfl ?_
    obtain ⟨hb4, hk⟩ := hk
    refine q_callV0 [_] _ rfl kY_X12_put kT_X12_put rfl rfl (Nat.le_of_ble_eq_true rfl) (Nat.le_of_ble_eq_true rfl) (cc_60 _) (s_X12_put hb4) (fun r h q => ?_)
    obtain ⟨rfl, rfl⟩ := q
    simp only [Option.toList, List.cons_append, List.nil_append]
    refine r_aload_n rfl rfl ?_
    refine q_getfield rfl (cc_60 _) rfl ?_
    refine r_iret rfl rfl rfl ?_
    first | with_reducible exact fin_i he | exact fin_i he
  · rw [if_neg c_10] at he
    replace hk := hk.2 c_10
    refine r_iconst_ (a := -1) rfl (by decide) ?_
    refine r_iret rfl rfl rfl ?_
    first | with_reducible exact fin_i he | exact fin_i he

def f_X12_copies_2 (fu : Nat) : Nat → Int32 → fl_I → fl_L → fl_I × fl_L
  | 0, x1, s, l => (s, l)
  | n + 1, x1, s, l =>
    if ((141 : Int32) ≤ x1) then ((wi (wi s 60 52 (s 81 (s 60 18).toNatClampNeg)) 60 53 (0 : Int32)), l) else f_X12_copies_2 fu n (x1 + 1) (wi s 95 x1.toNatClampNeg (s 94 x1.toNatClampNeg)) l

def p_X12_copies_2 (fu : Nat) : Nat → Int32 → fl_I → fl_L → Prop
  | 0, _, _, _ => False
  | n + 1, x1, s, l =>
    ((((141 : Int32) ≤ x1) → (vp_in (s 60 18) 2) ∧ True) ∧ (¬ ((141 : Int32) ≤ x1) → (vp_in x1 141) ∧ (vp_in x1 141) ∧ p_X12_copies_2 fu n (x1 + 1) (wi s 95 x1.toNatClampNeg (s 94 x1.toNatClampNeg)) l))

set_option maxRecDepth 100000 in
set_option maxHeartbeats 1000000 in
theorem lp_X12_copies_2 {G : ab_G} {fu : Nat} {d : Nat} {D : fl_D} : ∀ (n : Nat) (x1 : Int32) (s : fl_I) (l : fl_L), p_X12_copies_2 fu n x1 s l → ab_C G d 0 0 M_X12_copies 2 [some (.ref 60), some (.int x1)] [] (hp D s l) (rt none (hp D (f_X12_copies_2 fu n x1 s l).1 (f_X12_copies_2 fu n x1 s l).2)) := by
  intro n
  induction n with
  | zero => intro x1 s l hk; exact hk.elim
  | succ n ih =>
    intro x1 s l hk
    generalize he : f_X12_copies_2 fu (n + 1) x1 s l = res
    unfold f_X12_copies_2 at he
    unfold p_X12_copies_2 at hk
    refine r_iload_n rfl rfl ?_
    refine r_sipush_ (a := 141) rfl (by decide) ?_
    refine r_icmp_ge rfl (fun c_6 => ?_) (fun c_6 => ?_)
    · rw [if_pos c_6] at he
      replace hk := hk.1 c_6
      refine r_aload_n rfl rfl ?_
      refine r_aload_n rfl rfl ?_
      refine q_getfield rfl (cc_60 _) rfl ?_
      refine r_aload_n rfl rfl ?_
      refine q_getfield rfl (cc_60 _) rfl ?_
      obtain ⟨hb0, hk⟩ := hk
      refine q_iald rfl (cc_81 _) hb0 ?_
      refine w_put rfl (cc_60 _) ff_12_52 ft_12_52 (fun _ _ => (Nat.le_of_ble_eq_true rfl)) (fun _ _ => rfl) ?_
      refine r_aload_n rfl rfl ?_
      refine r_iconst_ (a := 0) rfl (by decide) ?_
      refine w_putZ rfl (cc_60 _) ff_12_53 ft_12_53 (by decide) (fun _ _ => (Nat.le_of_ble_eq_true rfl)) (fun _ _ => rfl) ?_
      refine r_ret rfl rfl ?_
      first | with_reducible exact fin_v he | exact fin_v he
    · rw [if_neg c_6] at he
      replace hk := hk.2 c_6
      refine r_aload_n rfl rfl ?_
      refine q_getfield rfl (cc_60 _) rfl ?_
      refine r_iload_n rfl rfl ?_
      refine r_aload_n rfl rfl ?_
      refine q_getfield rfl (cc_60 _) rfl ?_
      refine r_iload_n rfl rfl ?_
      obtain ⟨hb1, hk⟩ := hk
      refine q_iald rfl (cc_94 _) hb1 ?_
      obtain ⟨hb2, hk⟩ := hk
      refine w_iast rfl (cc_95 _) hb2 ?_
      refine r_iinc (b := x1 + 1) rfl rfl rfl (Nat.le_of_ble_eq_true rfl) rfl ?_
      refine r_goto rfl ?_
      subst he
      exact r_weak (L1 := [some (.ref 60), some (.int (x1 + 1))]) ⟨rfl, rfl, trivial⟩ (ih _ _ _ hk)

def f_X12_copies (fu : Nat) (s : fl_I) (l : fl_L) : fl_I × fl_L :=
  f_X12_copies_2 fu fu (0 : Int32) s l

def p_X12_copies (fu : Nat) (s : fl_I) (l : fl_L) : Prop :=
  p_X12_copies_2 fu fu (0 : Int32) s l

set_option maxRecDepth 100000 in
set_option maxHeartbeats 1000000 in
theorem s_X12_copies {G : ab_G} {fu : Nat} {d : Nat} {D : fl_D} {s : fl_I} {l : fl_L}  (hk : p_X12_copies fu s l) : ab_C G d 0 0 M_X12_copies 0 (ab_ent [.ref 60]) [] (hp D s l) (rt none (hp D (f_X12_copies fu s l).1 (f_X12_copies fu s l).2)) := by
  generalize he : (f_X12_copies fu s l) = res
  unfold f_X12_copies at he
  unfold p_X12_copies at hk
  refine r_weak (L1 := [some (.ref 60), none]) ⟨rfl, trivial⟩ ?_
  refine r_iconst_ (a := 0) rfl (by decide) ?_
  refine r_istore_n rfl (Nat.le_of_ble_eq_true rfl) rfl ?_
  subst he
  exact r_weak (L1 := [some (.ref 60), some (.int (0 : Int32))]) ⟨rfl, rfl, trivial⟩ (lp_X12_copies_2 fu _ _ _ hk)

def f_X3_takeName_10 (fu : Nat) : Nat → Int32 → Int32 → Nat → Nat → fl_I → fl_L → Int32 × fl_I × fl_L
  | 0, x2, x3, q, z, s, l => (0, s, l)
  | n + 1, x2, x3, q, z, s, l =>
    if (x2 ≤ x3) then ((f_X3_take fu (2 : Int32) s l).1, (f_X3_take fu (2 : Int32) s l).2.1, (f_X3_take fu (2 : Int32) s l).2.2) else if ((nI z) ≤ x3) then ((f_X3_take fu (2 : Int32) s l).1, (f_X3_take fu (2 : Int32) s l).2.1, (f_X3_take fu (2 : Int32) s l).2.2) else if ((lg_cmp (l q x3.toNatClampNeg) (l 3 7)) = 0) then f_X3_takeName_10 fu n x2 (x3 + 1) q z (f_X3_noteLater fu (3 : Int32) s l).1 (f_X3_noteLater fu (3 : Int32) s l).2 else f_X3_takeName_10 fu n x2 (x3 + 1) q z s l

def p_X3_takeName_10 (fu : Nat) : Nat → Int32 → Int32 → Nat → Nat → fl_I → fl_L → Prop
  | 0, _, _, _, _, _, _ => False
  | n + 1, x2, x3, q, z, s, l =>
    (((x2 ≤ x3) → (p_X3_take fu (2 : Int32) s l) ∧ ((f_X3_take fu (2 : Int32) s l).1 = 0 ∨ (f_X3_take fu (2 : Int32) s l).1 = 1) ∧ True) ∧ (¬ (x2 ≤ x3) → ((((nI z) ≤ x3) → (p_X3_take fu (2 : Int32) s l) ∧ ((f_X3_take fu (2 : Int32) s l).1 = 0 ∨ (f_X3_take fu (2 : Int32) s l).1 = 1) ∧ True) ∧ (¬ ((nI z) ≤ x3) → (vp_in x3 z) ∧ ((((lg_cmp (l q x3.toNatClampNeg) (l 3 7)) = 0) → (p_X3_noteLater fu (3 : Int32) s l) ∧ p_X3_takeName_10 fu n x2 (x3 + 1) q z (f_X3_noteLater fu (3 : Int32) s l).1 (f_X3_noteLater fu (3 : Int32) s l).2) ∧ (¬ ((lg_cmp (l q x3.toNatClampNeg) (l 3 7)) = 0) → p_X3_takeName_10 fu n x2 (x3 + 1) q z s l))))))

set_option maxRecDepth 100000 in
set_option maxHeartbeats 1000000 in
theorem lp_X3_takeName_10 {G : ab_G} {fu : Nat} {d : Nat} {D : fl_D} {q z : Nat} (hcq : ∀ f g, cl D q f g = some (.inl (1, z, .inr (.inl g)))) : ∀ (n : Nat) (x2 : Int32) (x3 : Int32) (s : fl_I) (l : fl_L), p_X3_takeName_10 fu n x2 x3 q z s l → ab_C G (d + 2) 0 0 M_X3_takeName 10 [some (.ref 3), some (.ref q), some (.int x2), some (.int x3)] [] (hp D s l) (rt (some (.int (f_X3_takeName_10 fu n x2 x3 q z s l).1)) (hp D (f_X3_takeName_10 fu n x2 x3 q z s l).2.1 (f_X3_takeName_10 fu n x2 x3 q z s l).2.2)) := by
  intro n
  induction n with
  | zero => intro x2 x3 s l hk; exact hk.elim
  | succ n ih =>
    intro x2 x3 s l hk
    generalize he : f_X3_takeName_10 fu (n + 1) x2 x3 q z s l = res
    unfold f_X3_takeName_10 at he
    unfold p_X3_takeName_10 at hk
    refine r_iload_n rfl rfl ?_
    refine r_iload_n rfl rfl ?_
    refine r_icmp_ge rfl (fun c_12 => ?_) (fun c_12 => ?_)
    · rw [if_pos c_12] at he
      replace hk := hk.1 c_12
      refine r_aload_n rfl rfl ?_
      refine r_iconst_ (a := 2) rfl (by decide) ?_
      obtain ⟨hb1, hk⟩ := hk
      refine q_callV0 [_] _ rfl kY_X3_take kT_X3_take rfl rfl (Nat.le_of_ble_eq_true rfl) (Nat.le_of_ble_eq_true rfl) (cc_3 _) (s_X3_take hb1) (fun r h q => ?_)
      obtain ⟨rfl, rfl⟩ := q
      simp only [Option.toList, List.cons_append, List.nil_append]
      obtain ⟨hb2, hk⟩ := hk
      refine r_iret rfl rfl (nar_b hb2) ?_
      first | with_reducible exact fin_i he | exact fin_i he
    · rw [if_neg c_12] at he
      replace hk := hk.2 c_12
      refine r_iload_n rfl rfl ?_
      refine r_aload_n rfl rfl ?_
      refine q_alen (v := (nI z)) rfl hcq (Nat.le_of_ble_eq_true rfl) rfl ?_
      refine r_icmp_ge rfl (fun c_18 => ?_) (fun c_18 => ?_)
      · rw [if_pos c_18] at he
        replace hk := hk.1 c_18
        refine r_aload_n rfl rfl ?_
        refine r_iconst_ (a := 2) rfl (by decide) ?_
        obtain ⟨hb3, hk⟩ := hk
        refine q_callV0 [_] _ rfl kY_X3_take kT_X3_take rfl rfl (Nat.le_of_ble_eq_true rfl) (Nat.le_of_ble_eq_true rfl) (cc_3 _) (s_X3_take hb3) (fun r h q => ?_)
        obtain ⟨rfl, rfl⟩ := q
        simp only [Option.toList, List.cons_append, List.nil_append]
        obtain ⟨hb4, hk⟩ := hk
        refine r_iret rfl rfl (nar_b hb4) ?_
        first | with_reducible exact fin_i he | exact fin_i he
      · rw [if_neg c_18] at he
        replace hk := hk.2 c_18
        refine r_aload_n rfl rfl ?_
        refine r_iload_n rfl rfl ?_
        obtain ⟨hb5, hk⟩ := hk
        refine q_lald rfl hcq hb5 ?_
        refine r_aload_n rfl rfl ?_
        refine q_getfield rfl (cc_3 _) rfl ?_
        refine r_lcmp rfl ?_
        refine r_if_ne rfl (fun c_29 => ?_) (fun c_29 => ?_)
        · rw [if_neg c_29] at he
          replace hk := hk.2 c_29
          refine r_iinc (b := x3 + 1) rfl rfl rfl (Nat.le_of_ble_eq_true rfl) rfl ?_
          refine r_goto rfl ?_
          subst he
          exact r_weak (L1 := [some (.ref 3), some (.ref q), some (.int x2), some (.int (x3 + 1))]) ⟨rfl, rfl, rfl, rfl, trivial⟩ (ih _ _ _ _ hk)
        · rw [if_pos c_29] at he
          replace hk := hk.1 c_29
          refine r_aload_n rfl rfl ?_
          refine r_iconst_ (a := 3) rfl (by decide) ?_
          obtain ⟨hb6, hk⟩ := hk
          refine q_callV0 [_] _ rfl kY_X3_noteLater kT_X3_noteLater rfl rfl (Nat.le_of_ble_eq_true rfl) (Nat.le_of_ble_eq_true rfl) (cc_3 _) (s_X3_noteLater hb6) (fun r h q => ?_)
          obtain ⟨rfl, rfl⟩ := q
          simp only [Option.toList, List.cons_append, List.nil_append]
          refine r_iinc (b := x3 + 1) rfl rfl rfl (Nat.le_of_ble_eq_true rfl) rfl ?_
          refine r_goto rfl ?_
          subst he
          exact r_weak (L1 := [some (.ref 3), some (.ref q), some (.int x2), some (.int (x3 + 1))]) ⟨rfl, rfl, rfl, rfl, trivial⟩ (ih _ _ _ _ hk)

def f_X3_takeName (fu : Nat) (v1 : Int32) (q : Nat) (z : Nat) (s : fl_I) (l : fl_L) : Int32 × fl_I × fl_L :=
  f_X3_takeName_10 fu fu v1 (0 : Int32) q z s (wl l 3 7 (f_X3_valueNow fu s l))

def p_X3_takeName (fu : Nat) (v1 : Int32) (q : Nat) (z : Nat) (s : fl_I) (l : fl_L) : Prop :=
  (p_X3_valueNow fu s l) ∧ p_X3_takeName_10 fu fu v1 (0 : Int32) q z s (wl l 3 7 (f_X3_valueNow fu s l))

set_option maxRecDepth 100000 in
set_option maxHeartbeats 1000000 in
theorem s_X3_takeName {G : ab_G} {fu : Nat} {d : Nat} {D : fl_D} {s : fl_I} {l : fl_L} {q z : Nat} (hcq : ∀ f g, cl D q f g = some (.inl (1, z, .inr (.inl g)))) {v1 : Int32} (hk : p_X3_takeName fu v1 q z s l) : ab_C G (d + 2) 0 0 M_X3_takeName 0 (ab_ent [.ref 3, .ref q, .int v1]) [] (hp D s l) (rt (some (.int (f_X3_takeName fu v1 q z s l).1)) (hp D (f_X3_takeName fu v1 q z s l).2.1 (f_X3_takeName fu v1 q z s l).2.2)) := by
  generalize he : (f_X3_takeName fu v1 q z s l) = res
  unfold f_X3_takeName at he
  unfold p_X3_takeName at hk
  refine r_weak (L1 := [some (.ref 3), some (.ref q), some (.int v1), none]) ⟨rfl, rfl, rfl, trivial⟩ ?_
  refine r_aload_n rfl rfl ?_
  refine r_aload_n rfl rfl ?_
  obtain ⟨hb0, hk⟩ := hk
  refine q_callV0 [] _ rfl kY_X3_valueNow kT_X3_valueNow rfl rfl (Nat.le_of_ble_eq_true rfl) (Nat.le_of_ble_eq_true rfl) (cc_3 _) (s_X3_valueNow hb0) (fun r h q => ?_)
  obtain ⟨rfl, rfl⟩ := q
  simp only [Option.toList, List.cons_append, List.nil_append]
  refine w_putL rfl (cc_3 _) ff_3_7 ft_3_7 (fun _ _ => (Nat.le_of_ble_eq_true rfl)) (fun _ _ => rfl) ?_
  refine r_iconst_ (a := 0) rfl (by decide) ?_
  refine r_istore_n rfl (Nat.le_of_ble_eq_true rfl) rfl ?_
  subst he
  exact r_weak (L1 := [some (.ref 3), some (.ref q), some (.int v1), some (.int (0 : Int32))]) ⟨rfl, rfl, rfl, rfl, trivial⟩ (lp_X3_takeName_10 hcq fu _ _ _ _ hk)

def f_X11_pickersWithFullHat_4 (fu : Nat) : Nat → Int32 → Int32 → fl_D → fl_I → fl_L → Int32
  | 0, _, _, _, _, _ => 0
  | n + 1, x1, x2, D, s, l =>
    if ((s 31 2) ≤ x2) then x1 else if ((s 36 x2.toNatClampNeg) < (s ((if D.2.2.1 then 20 else 9) + 8) x2.toNatClampNeg)) then f_X11_pickersWithFullHat_4 fu n x1 (x2 + 1) D s l else f_X11_pickersWithFullHat_4 fu n (x1 ||| ((1 : Int32) <<< (x2 &&& 31))) (x2 + 1) D s l

def p_X11_pickersWithFullHat_4 (fu : Nat) : Nat → Int32 → Int32 → fl_D → fl_I → fl_L → Prop
  | 0, _, _, _, _, _ => False
  | n + 1, x1, x2, D, s, l =>
    ((((s 31 2) ≤ x2) → True) ∧ (¬ ((s 31 2) ≤ x2) → (vp_in x2 4) ∧ (vp_in x2 4) ∧ ((((s 36 x2.toNatClampNeg) < (s ((if D.2.2.1 then 20 else 9) + 8) x2.toNatClampNeg)) → p_X11_pickersWithFullHat_4 fu n x1 (x2 + 1) D s l) ∧ (¬ ((s 36 x2.toNatClampNeg) < (s ((if D.2.2.1 then 20 else 9) + 8) x2.toNatClampNeg)) → p_X11_pickersWithFullHat_4 fu n (x1 ||| ((1 : Int32) <<< (x2 &&& 31))) (x2 + 1) D s l))))

set_option maxRecDepth 100000 in
set_option maxHeartbeats 1000000 in
theorem lp_X11_pickersWithFullHat_4 {G : ab_G} {fu : Nat} {d : Nat} {D : fl_D} {s : fl_I} {l : fl_L} : ∀ (n : Nat) (x1 : Int32) (x2 : Int32), p_X11_pickersWithFullHat_4 fu n x1 x2 D s l → ab_C G d 0 0 M_X11_pickersWithFullHat 4 [some (.ref 0), some (.int x1), some (.int x2)] [] (hp D s l) (rt (some (.int (f_X11_pickersWithFullHat_4 fu n x1 x2 D s l))) (hp D s l)) := by
  intro n
  induction n with
  | zero => intro x1 x2 hk; exact hk.elim
  | succ n ih =>
    intro x1 x2 hk
    generalize he : f_X11_pickersWithFullHat_4 fu (n + 1) x1 x2 D s l = res
    unfold f_X11_pickersWithFullHat_4 at he
    unfold p_X11_pickersWithFullHat_4 at hk
    refine r_iload_n rfl rfl ?_
    refine r_aload_n rfl rfl ?_
    refine q_getfield rfl (cc_0 _) rfl ?_
    refine q_getfield rfl (cc_31 _) rfl ?_
    refine r_icmp_ge rfl (fun c_12 => ?_) (fun c_12 => ?_)
    · rw [if_pos c_12] at he
      replace hk := hk.1 c_12
      refine r_iload_n rfl rfl ?_
      refine r_iret rfl rfl rfl ?_
      first | with_reducible exact fin_ri he | exact fin_ri he
    · rw [if_neg c_12] at he
      replace hk := hk.2 c_12
      refine r_aload_n rfl rfl ?_
      refine q_getfield rfl (cc_0 _) rfl ?_
      refine q_getfield rfl (cc_31 _) rfl ?_
      refine r_iload_n rfl rfl ?_
      obtain ⟨hb0, hk⟩ := hk
      refine q_iald rfl (cc_36 _) hb0 ?_
      refine r_aload_n rfl rfl ?_
      refine q_getfield rfl (cc_0 _) rfl ?_
      refine q_getfield rfl (cT_0 (isT_l _)) rfl ?_
      refine r_iload_n rfl rfl ?_
      obtain ⟨hb1, hk⟩ := hk
      refine q_iald rfl (cT_8 (isT_l _)) hb1 ?_
      refine r_icmp_lt rfl (fun c_33 => ?_) (fun c_33 => ?_)
      · rw [if_pos c_33] at he
        replace hk := hk.1 c_33
        refine r_iinc (b := x2 + 1) rfl rfl rfl (Nat.le_of_ble_eq_true rfl) rfl ?_
        refine r_goto rfl ?_
        subst he
        exact r_weak (L1 := [some (.ref 0), some (.int x1), some (.int (x2 + 1))]) ⟨rfl, rfl, rfl, trivial⟩ (ih _ _ hk)
      · rw [if_neg c_33] at he
        replace hk := hk.2 c_33
        refine r_iload_n rfl rfl ?_
        refine r_iconst_ (a := 1) rfl (by decide) ?_
        refine r_iload_n rfl rfl ?_
        refine r_ishl rfl ?_
        refine r_ior rfl ?_
        refine r_istore_n rfl (Nat.le_of_ble_eq_true rfl) rfl ?_
        refine r_iinc (b := x2 + 1) rfl rfl rfl (Nat.le_of_ble_eq_true rfl) rfl ?_
        refine r_goto rfl ?_
        subst he
        exact r_weak (L1 := [some (.ref 0), some (.int (x1 ||| ((1 : Int32) <<< (x2 &&& 31)))), some (.int (x2 + 1))]) ⟨rfl, rfl, rfl, trivial⟩ (ih _ _ hk)

def f_X11_pickersWithFullHat (fu : Nat) (D : fl_D) (s : fl_I) (l : fl_L) : Int32 :=
  f_X11_pickersWithFullHat_4 fu fu (0 : Int32) (0 : Int32) D s l

def p_X11_pickersWithFullHat (fu : Nat) (D : fl_D) (s : fl_I) (l : fl_L) : Prop :=
  p_X11_pickersWithFullHat_4 fu fu (0 : Int32) (0 : Int32) D s l

set_option maxRecDepth 100000 in
set_option maxHeartbeats 1000000 in
theorem s_X11_pickersWithFullHat {G : ab_G} {fu : Nat} {d : Nat} {D : fl_D} {s : fl_I} {l : fl_L}  (hk : p_X11_pickersWithFullHat fu D s l) : ab_C G d 0 0 M_X11_pickersWithFullHat 0 (ab_ent [.ref 0]) [] (hp D s l) (rt (some (.int (f_X11_pickersWithFullHat fu D s l))) (hp D s l)) := by
  generalize he : (f_X11_pickersWithFullHat fu D s l) = res
  unfold f_X11_pickersWithFullHat at he
  unfold p_X11_pickersWithFullHat at hk
  refine r_weak (L1 := [some (.ref 0), none, none]) ⟨rfl, trivial⟩ ?_
  refine r_iconst_ (a := 0) rfl (by decide) ?_
  refine r_istore_n rfl (Nat.le_of_ble_eq_true rfl) rfl ?_
  refine r_iconst_ (a := 0) rfl (by decide) ?_
  refine r_istore_n rfl (Nat.le_of_ble_eq_true rfl) rfl ?_
  subst he
  exact r_weak (L1 := [some (.ref 0), some (.int (0 : Int32)), some (.int (0 : Int32))]) ⟨rfl, rfl, rfl, trivial⟩ (lp_X11_pickersWithFullHat_4 fu _ _ hk)

