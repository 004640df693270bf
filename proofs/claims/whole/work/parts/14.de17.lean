def f_X0_putBack_8 (fu : Nat) : Nat → Int64 → Int32 → Int32 → fl_I → fl_L → fl_I × fl_L
  | 0, x1, x3, x4, s, l => (s, l)
  | n + 1, x1, x3, x4, s, l =>
    if (x3 ≤ x4) then (s, l) else f_X0_putBack_8 fu n x1 x3 (x4 + 1) (wi s 56 (f_X11_signAt fu x1 x4).toNatClampNeg ((s 56 (f_X11_signAt fu x1 x4).toNatClampNeg) + (1 : Int32))) l

def p_X0_putBack_8 (fu : Nat) : Nat → Int64 → Int32 → Int32 → fl_I → fl_L → Prop
  | 0, _, _, _, _, _ => False
  | n + 1, x1, x3, x4, s, l =>
    (((x3 ≤ x4) → True) ∧ (¬ (x3 ≤ x4) → (p_X11_signAt fu x1 x4) ∧ (vp_in (f_X11_signAt fu x1 x4) 32) ∧ (vp_in (f_X11_signAt fu x1 x4) 32) ∧ p_X0_putBack_8 fu n x1 x3 (x4 + 1) (wi s 56 (f_X11_signAt fu x1 x4).toNatClampNeg ((s 56 (f_X11_signAt fu x1 x4).toNatClampNeg) + (1 : Int32))) l))

set_option maxRecDepth 100000 in
set_option maxHeartbeats 1000000 in
theorem lp_X0_putBack_8 {G : ab_G} {fu : Nat} {d : Nat} {D : fl_D} : ∀ (n : Nat) (x1 : Int64) (x3 : Int32) (x4 : Int32) (s : fl_I) (l : fl_L), p_X0_putBack_8 fu n x1 x3 x4 s l → ab_C G (d + 2) 0 0 M_X0_putBack 8 [some (.ref 55), some (.long x1), none, some (.int x3), some (.int x4)] [] (hp D s l) (rt none (hp D (f_X0_putBack_8 fu n x1 x3 x4 s l).1 (f_X0_putBack_8 fu n x1 x3 x4 s l).2)) := by
  intro n
  induction n with
  | zero => intro x1 x3 x4 s l hk; exact hk.elim
  | succ n ih =>
    intro x1 x3 x4 s l hk
    generalize he : f_X0_putBack_8 fu (n + 1) x1 x3 x4 s l = res
    unfold f_X0_putBack_8 at he
    unfold p_X0_putBack_8 at hk
    refine r_iload rfl rfl ?_
    refine r_iload_n rfl rfl ?_
    refine r_icmp_ge rfl (fun c_11 => ?_) (fun c_11 => ?_)
    · rw [if_pos c_11] at he
      replace hk := hk.1 c_11
      refine r_ret rfl rfl ?_
      first | with_reducible exact fin_v he | exact fin_v he
    · rw [if_neg c_11] at he
      replace hk := hk.2 c_11
      refine r_aload_n rfl rfl ?_
      refine q_getfield rfl (cc_55 _) rfl ?_
      refine r_lload_n rfl rfl ?_
      refine r_iload rfl rfl ?_
      obtain ⟨hb1, hk⟩ := hk
      refine r_callSN0 [_, _] _ rfl kY_X11_signAt kT_X11_signAt rfl rfl (Nat.le_of_ble_eq_true rfl) (Nat.le_of_ble_eq_true rfl) (s_X11_signAt hb1) (fun r h q => ?_)
      obtain ⟨rfl, rfl⟩ := q
      simp only [Option.toList, List.cons_append, List.nil_append]
      refine r_dup2 rfl rfl rfl ?_
      obtain ⟨hb2, hk⟩ := hk
      refine q_iald rfl (cc_56 _) hb2 ?_
      refine r_iconst_ (a := 1) rfl (by decide) ?_
      refine r_iadd rfl ?_
      obtain ⟨hb3, hk⟩ := hk
      refine w_iast rfl (cc_56 _) hb3 ?_
      refine r_iinc (b := x4 + 1) rfl rfl rfl (Nat.le_of_ble_eq_true rfl) rfl ?_
      refine r_goto rfl ?_
      subst he
      exact r_weak (L1 := [some (.ref 55), some (.long x1), none, some (.int x3), some (.int (x4 + 1))]) ⟨rfl, rfl, rfl, rfl, trivial⟩ (ih _ _ _ _ _ hk)

def f_X0_putBack (fu : Nat) (v0 : Int64) (s : fl_I) (l : fl_L) : fl_I × fl_L :=
  f_X0_putBack_8 fu fu v0 (f_X11_nameLength fu v0) (0 : Int32) s l

def p_X0_putBack (fu : Nat) (v0 : Int64) (s : fl_I) (l : fl_L) : Prop :=
  (p_X11_nameLength fu v0) ∧ p_X0_putBack_8 fu fu v0 (f_X11_nameLength fu v0) (0 : Int32) s l

set_option maxRecDepth 100000 in
set_option maxHeartbeats 1000000 in
theorem s_X0_putBack {G : ab_G} {fu : Nat} {d : Nat} {D : fl_D} {s : fl_I} {l : fl_L} {v0 : Int64} (hk : p_X0_putBack fu v0 s l) : ab_C G (d + 2) 0 0 M_X0_putBack 0 (ab_ent [.ref 55, .long v0]) [] (hp D s l) (rt none (hp D (f_X0_putBack fu v0 s l).1 (f_X0_putBack fu v0 s l).2)) := by
  generalize he : (f_X0_putBack fu v0 s l) = res
  unfold f_X0_putBack at he
  unfold p_X0_putBack at hk
  refine r_weak (L1 := [some (.ref 55), some (.long v0), none, none, none]) ⟨rfl, rfl, trivial⟩ ?_
  refine r_lload_n rfl rfl ?_
  obtain ⟨hb0, hk⟩ := hk
  refine r_callSN0 [_] _ rfl kY_X11_nameLength kT_X11_nameLength rfl rfl (Nat.le_of_ble_eq_true rfl) (Nat.le_of_ble_eq_true rfl) (s_X11_nameLength hb0) (fun r h q => ?_)
  obtain ⟨rfl, rfl⟩ := q
  simp only [Option.toList, List.cons_append, List.nil_append]
  refine r_istore_n rfl (Nat.le_of_ble_eq_true rfl) rfl ?_
  refine r_iconst_ (a := 0) rfl (by decide) ?_
  refine r_istore rfl (Nat.le_of_ble_eq_true rfl) rfl ?_
  subst he
  exact r_weak (L1 := [some (.ref 55), some (.long v0), none, some (.int (f_X11_nameLength fu v0)), some (.int (0 : Int32))]) ⟨rfl, rfl, rfl, rfl, trivial⟩ (lp_X0_putBack_8 fu _ _ _ _ _ hk)

def f_X3_rainTold (fu : Nat) (t : Nat) (s : fl_I) (l : fl_L) : Int32 × fl_I × fl_L :=
  if ((f_X3_take fu (263 : Int32) s l).1 = 0) then ((0 : Int32), (f_X3_take fu (263 : Int32) s l).2.1, (f_X3_take fu (263 : Int32) s l).2.2) else if ((f_X3_takeInt fu (0 : Int32) (100 : Int32) (f_X3_take fu (263 : Int32) s l).2.1 (f_X3_take fu (263 : Int32) s l).2.2).1 = 0) then ((0 : Int32), (f_X3_takeInt fu (0 : Int32) (100 : Int32) (f_X3_take fu (263 : Int32) s l).2.1 (f_X3_take fu (263 : Int32) s l).2.2).2.1, (f_X3_takeInt fu (0 : Int32) (100 : Int32) (f_X3_take fu (263 : Int32) s l).2.1 (f_X3_take fu (263 : Int32) s l).2.2).2.2) else if ((f_X3_take fu (59 : Int32) (f_X3_takeInt fu (0 : Int32) (100 : Int32) (f_X3_take fu (263 : Int32) s l).2.1 (f_X3_take fu (263 : Int32) s l).2.2).2.1 (f_X3_takeInt fu (0 : Int32) (100 : Int32) (f_X3_take fu (263 : Int32) s l).2.1 (f_X3_take fu (263 : Int32) s l).2.2).2.2).1 = 0) then ((0 : Int32), (f_X3_take fu (59 : Int32) (f_X3_takeInt fu (0 : Int32) (100 : Int32) (f_X3_take fu (263 : Int32) s l).2.1 (f_X3_take fu (263 : Int32) s l).2.2).2.1 (f_X3_takeInt fu (0 : Int32) (100 : Int32) (f_X3_take fu (263 : Int32) s l).2.1 (f_X3_take fu (263 : Int32) s l).2.2).2.2).2.1, (f_X3_take fu (59 : Int32) (f_X3_takeInt fu (0 : Int32) (100 : Int32) (f_X3_take fu (263 : Int32) s l).2.1 (f_X3_take fu (263 : Int32) s l).2.2).2.1 (f_X3_takeInt fu (0 : Int32) (100 : Int32) (f_X3_take fu (263 : Int32) s l).2.1 (f_X3_take fu (263 : Int32) s l).2.2).2.2).2.2) else ((1 : Int32), (wi (f_X3_take fu (59 : Int32) (f_X3_takeInt fu (0 : Int32) (100 : Int32) (f_X3_take fu (263 : Int32) s l).2.1 (f_X3_take fu (263 : Int32) s l).2.2).2.1 (f_X3_takeInt fu (0 : Int32) (100 : Int32) (f_X3_take fu (263 : Int32) s l).2.1 (f_X3_take fu (263 : Int32) s l).2.2).2.2).2.1 t 17 ((f_X3_take fu (59 : Int32) (f_X3_takeInt fu (0 : Int32) (100 : Int32) (f_X3_take fu (263 : Int32) s l).2.1 (f_X3_take fu (263 : Int32) s l).2.2).2.1 (f_X3_takeInt fu (0 : Int32) (100 : Int32) (f_X3_take fu (263 : Int32) s l).2.1 (f_X3_take fu (263 : Int32) s l).2.2).2.2).2.1 3 6)), (f_X3_take fu (59 : Int32) (f_X3_takeInt fu (0 : Int32) (100 : Int32) (f_X3_take fu (263 : Int32) s l).2.1 (f_X3_take fu (263 : Int32) s l).2.2).2.1 (f_X3_takeInt fu (0 : Int32) (100 : Int32) (f_X3_take fu (263 : Int32) s l).2.1 (f_X3_take fu (263 : Int32) s l).2.2).2.2).2.2)

def p_X3_rainTold (fu : Nat) (t : Nat) (s : fl_I) (l : fl_L) : Prop :=
  (p_X3_take fu (263 : Int32) s l) ∧ ((((f_X3_take fu (263 : Int32) s l).1 = 0) → True) ∧ (¬ ((f_X3_take fu (263 : Int32) s l).1 = 0) → (p_X3_takeInt fu (0 : Int32) (100 : Int32) (f_X3_take fu (263 : Int32) s l).2.1 (f_X3_take fu (263 : Int32) s l).2.2) ∧ ((((f_X3_takeInt fu (0 : Int32) (100 : Int32) (f_X3_take fu (263 : Int32) s l).2.1 (f_X3_take fu (263 : Int32) s l).2.2).1 = 0) → True) ∧ (¬ ((f_X3_takeInt fu (0 : Int32) (100 : Int32) (f_X3_take fu (263 : Int32) s l).2.1 (f_X3_take fu (263 : Int32) s l).2.2).1 = 0) → (p_X3_take fu (59 : Int32) (f_X3_takeInt fu (0 : Int32) (100 : Int32) (f_X3_take fu (263 : Int32) s l).2.1 (f_X3_take fu (263 : Int32) s l).2.2).2.1 (f_X3_takeInt fu (0 : Int32) (100 : Int32) (f_X3_take fu (263 : Int32) s l).2.1 (f_X3_take fu (263 : Int32) s l).2.2).2.2) ∧ ((((f_X3_take fu (59 : Int32) (f_X3_takeInt fu (0 : Int32) (100 : Int32) (f_X3_take fu (263 : Int32) s l).2.1 (f_X3_take fu (263 : Int32) s l).2.2).2.1 (f_X3_takeInt fu (0 : Int32) (100 : Int32) (f_X3_take fu (263 : Int32) s l).2.1 (f_X3_take fu (263 : Int32) s l).2.2).2.2).1 = 0) → True) ∧ (¬ ((f_X3_take fu (59 : Int32) (f_X3_takeInt fu (0 : Int32) (100 : Int32) (f_X3_take fu (263 : Int32) s l).2.1 (f_X3_take fu (263 : Int32) s l).2.2).2.1 (f_X3_takeInt fu (0 : Int32) (100 : Int32) (f_X3_take fu (263 : Int32) s l).2.1 (f_X3_take fu (263 : Int32) s l).2.2).2.2).1 = 0) → True))))))

set_option maxRecDepth 100000 in
set_option maxHeartbeats 1000000 in
theorem s_X3_rainTold {G : ab_G} {fu : Nat} {d : Nat} {D : fl_D} {s : fl_I} {l : fl_L} {t : Nat} (htt : isT t)  (hk : p_X3_rainTold fu t s l) : ab_C G (d + 3) 0 0 M_X3_rainTold 0 (ab_ent [.ref 3, .ref t]) [] (hp D s l) (rt (some (.int (f_X3_rainTold fu t s l).1)) (hp D (f_X3_rainTold fu t s l).2.1 (f_X3_rainTold fu t s l).2.2)) := by
  generalize he : (f_X3_rainTold fu t s l) = res
  unfold f_X3_rainTold at he
  unfold p_X3_rainTold at hk
  refine r_weak (L1 := [some (.ref 3), some (.ref t)]) ⟨rfl, rfl, trivial⟩ ?_
  refine r_aload_n rfl rfl ?_
  refine r_sipush_ (a := 263) rfl (by decide) ?_
  obtain ⟨hb0, hk⟩ := hk
  refine q_callV0 [_] _ rfl kY_X3_take kT_X3_take rfl rfl (Nat.le_of_ble_eq_true rfl) (Nat.le_of_ble_eq_true rfl) (cc_3 _) (s_X3_take hb0) (fun r h q => ?_)
  obtain ⟨rfl, rfl⟩ := q
  simp only [Option.toList, List.cons_append, List.nil_append]
  refine r_if_eq rfl (fun c_7 => ?_) (fun c_7 => ?_)
  · rw [if_pos c_7] at he
    replace hk := hk.1 c_7
    refine r_iconst_ (a := 0) rfl (by decide) ?_
    refine r_iret rfl rfl rfl ?_
    first | with_reducible exact fin_i he | exact fin_i he
  · rw [if_neg c_7] at he
    replace hk := hk.2 c_7
    refine r_aload_n rfl rfl ?_
    refine r_iconst_ (a := 0) rfl (by decide) ?_
    refine r_bipush_ (a := 100) rfl (by decide) ?_
    obtain ⟨hb1, hk⟩ := hk
    refine q_callV0 [_, _] _ rfl kY_X3_takeInt kT_X3_takeInt rfl rfl (Nat.le_of_ble_eq_true rfl) (Nat.le_of_ble_eq_true rfl) (cc_3 _) (s_X3_takeInt hb1) (fun r h q => ?_)
    obtain ⟨rfl, rfl⟩ := q
    simp only [Option.toList, List.cons_append, List.nil_append]
    refine r_if_eq rfl (fun c_17 => ?_) (fun c_17 => ?_)
    · rw [if_pos c_17] at he
      replace hk := hk.1 c_17
      refine r_iconst_ (a := 0) rfl (by decide) ?_
      refine r_iret rfl rfl rfl ?_
      first | with_reducible exact fin_i he | exact fin_i he
    · rw [if_neg c_17] at he
      replace hk := hk.2 c_17
      refine r_aload_n rfl rfl ?_
      refine r_bipush_ (a := 59) rfl (by decide) ?_
      obtain ⟨hb2, hk⟩ := hk
      refine q_callV0 [_] _ rfl kY_X3_take kT_X3_take rfl rfl (Nat.le_of_ble_eq_true rfl) (Nat.le_of_ble_eq_true rfl) (cc_3 _) (s_X3_take hb2) (fun r h q => ?_)
      obtain ⟨rfl, rfl⟩ := q
      simp only [Option.toList, List.cons_append, List.nil_append]
      refine r_if_ne rfl (fun c_26 => ?_) (fun c_26 => ?_)
      · rw [if_neg c_26] at he
        replace hk := hk.2 c_26
        refine r_aload_n rfl rfl ?_
        refine r_aload_n rfl rfl ?_
        refine q_getfield rfl (cc_3 _) rfl ?_
        refine w_put rfl (cT_0 htt) ff_5_17 ft_5_17 (fun _ _ => (Nat.le_of_ble_eq_true rfl)) (fun _ _ => rfl) ?_
        refine r_iconst_ (a := 1) rfl (by decide) ?_
        refine r_iret rfl rfl rfl ?_
        first | with_reducible exact fin_i he | exact fin_i he
      · rw [if_pos c_26] at he
        replace hk := hk.1 c_26
        refine r_iconst_ (a := 0) rfl (by decide) ?_
        refine r_iret rfl rfl rfl ?_
        first | with_reducible exact fin_i he | exact fin_i he

def f_X3_seedTold (fu : Nat) (t : Nat) (s : fl_I) (l : fl_L) : Int32 × fl_I × fl_L :=
  if ((f_X3_take fu (264 : Int32) s l).1 = 0) then ((0 : Int32), (f_X3_take fu (264 : Int32) s l).2.1, (f_X3_take fu (264 : Int32) s l).2.2) else if ((f_X3_takeInt fu (0 : Int32) (9999 : Int32) (f_X3_take fu (264 : Int32) s l).2.1 (f_X3_take fu (264 : Int32) s l).2.2).1 = 0) then ((0 : Int32), (f_X3_takeInt fu (0 : Int32) (9999 : Int32) (f_X3_take fu (264 : Int32) s l).2.1 (f_X3_take fu (264 : Int32) s l).2.2).2.1, (f_X3_takeInt fu (0 : Int32) (9999 : Int32) (f_X3_take fu (264 : Int32) s l).2.1 (f_X3_take fu (264 : Int32) s l).2.2).2.2) else if ((f_X3_take fu (59 : Int32) (f_X3_takeInt fu (0 : Int32) (9999 : Int32) (f_X3_take fu (264 : Int32) s l).2.1 (f_X3_take fu (264 : Int32) s l).2.2).2.1 (f_X3_takeInt fu (0 : Int32) (9999 : Int32) (f_X3_take fu (264 : Int32) s l).2.1 (f_X3_take fu (264 : Int32) s l).2.2).2.2).1 = 0) then ((0 : Int32), (f_X3_take fu (59 : Int32) (f_X3_takeInt fu (0 : Int32) (9999 : Int32) (f_X3_take fu (264 : Int32) s l).2.1 (f_X3_take fu (264 : Int32) s l).2.2).2.1 (f_X3_takeInt fu (0 : Int32) (9999 : Int32) (f_X3_take fu (264 : Int32) s l).2.1 (f_X3_take fu (264 : Int32) s l).2.2).2.2).2.1, (f_X3_take fu (59 : Int32) (f_X3_takeInt fu (0 : Int32) (9999 : Int32) (f_X3_take fu (264 : Int32) s l).2.1 (f_X3_take fu (264 : Int32) s l).2.2).2.1 (f_X3_takeInt fu (0 : Int32) (9999 : Int32) (f_X3_take fu (264 : Int32) s l).2.1 (f_X3_take fu (264 : Int32) s l).2.2).2.2).2.2) else ((1 : Int32), (wi (f_X3_take fu (59 : Int32) (f_X3_takeInt fu (0 : Int32) (9999 : Int32) (f_X3_take fu (264 : Int32) s l).2.1 (f_X3_take fu (264 : Int32) s l).2.2).2.1 (f_X3_takeInt fu (0 : Int32) (9999 : Int32) (f_X3_take fu (264 : Int32) s l).2.1 (f_X3_take fu (264 : Int32) s l).2.2).2.2).2.1 t 18 ((f_X3_take fu (59 : Int32) (f_X3_takeInt fu (0 : Int32) (9999 : Int32) (f_X3_take fu (264 : Int32) s l).2.1 (f_X3_take fu (264 : Int32) s l).2.2).2.1 (f_X3_takeInt fu (0 : Int32) (9999 : Int32) (f_X3_take fu (264 : Int32) s l).2.1 (f_X3_take fu (264 : Int32) s l).2.2).2.2).2.1 3 6)), (f_X3_take fu (59 : Int32) (f_X3_takeInt fu (0 : Int32) (9999 : Int32) (f_X3_take fu (264 : Int32) s l).2.1 (f_X3_take fu (264 : Int32) s l).2.2).2.1 (f_X3_takeInt fu (0 : Int32) (9999 : Int32) (f_X3_take fu (264 : Int32) s l).2.1 (f_X3_take fu (264 : Int32) s l).2.2).2.2).2.2)

def p_X3_seedTold (fu : Nat) (t : Nat) (s : fl_I) (l : fl_L) : Prop :=
  (p_X3_take fu (264 : Int32) s l) ∧ ((((f_X3_take fu (264 : Int32) s l).1 = 0) → True) ∧ (¬ ((f_X3_take fu (264 : Int32) s l).1 = 0) → (p_X3_takeInt fu (0 : Int32) (9999 : Int32) (f_X3_take fu (264 : Int32) s l).2.1 (f_X3_take fu (264 : Int32) s l).2.2) ∧ ((((f_X3_takeInt fu (0 : Int32) (9999 : Int32) (f_X3_take fu (264 : Int32) s l).2.1 (f_X3_take fu (264 : Int32) s l).2.2).1 = 0) → True) ∧ (¬ ((f_X3_takeInt fu (0 : Int32) (9999 : Int32) (f_X3_take fu (264 : Int32) s l).2.1 (f_X3_take fu (264 : Int32) s l).2.2).1 = 0) → (p_X3_take fu (59 : Int32) (f_X3_takeInt fu (0 : Int32) (9999 : Int32) (f_X3_take fu (264 : Int32) s l).2.1 (f_X3_take fu (264 : Int32) s l).2.2).2.1 (f_X3_takeInt fu (0 : Int32) (9999 : Int32) (f_X3_take fu (264 : Int32) s l).2.1 (f_X3_take fu (264 : Int32) s l).2.2).2.2) ∧ ((((f_X3_take fu (59 : Int32) (f_X3_takeInt fu (0 : Int32) (9999 : Int32) (f_X3_take fu (264 : Int32) s l).2.1 (f_X3_take fu (264 : Int32) s l).2.2).2.1 (f_X3_takeInt fu (0 : Int32) (9999 : Int32) (f_X3_take fu (264 : Int32) s l).2.1 (f_X3_take fu (264 : Int32) s l).2.2).2.2).1 = 0) → True) ∧ (¬ ((f_X3_take fu (59 : Int32) (f_X3_takeInt fu (0 : Int32) (9999 : Int32) (f_X3_take fu (264 : Int32) s l).2.1 (f_X3_take fu (264 : Int32) s l).2.2).2.1 (f_X3_takeInt fu (0 : Int32) (9999 : Int32) (f_X3_take fu (264 : Int32) s l).2.1 (f_X3_take fu (264 : Int32) s l).2.2).2.2).1 = 0) → True))))))

set_option maxRecDepth 100000 in
set_option maxHeartbeats 1000000 in
theorem s_X3_seedTold {G : ab_G} {fu : Nat} {d : Nat} {D : fl_D} {s : fl_I} {l : fl_L} {t : Nat} (htt : isT t)  (hk : p_X3_seedTold fu t s l) : ab_C G (d + 3) 0 0 M_X3_seedTold 0 (ab_ent [.ref 3, .ref t]) [] (hp D s l) (rt (some (.int (f_X3_seedTold fu t s l).1)) (hp D (f_X3_seedTold fu t s l).2.1 (f_X3_seedTold fu t s l).2.2)) := by
  generalize he : (f_X3_seedTold fu t s l) = res
  unfold f_X3_seedTold at he
  unfold p_X3_seedTold at hk
  refine r_weak (L1 := [some (.ref 3), some (.ref t)]) ⟨rfl, rfl, trivial⟩ ?_
  refine r_aload_n rfl rfl ?_
  refine r_sipush_ (a := 264) rfl (by decide) ?_
  obtain ⟨hb0, hk⟩ := hk
  refine q_callV0 [_] _ rfl kY_X3_take kT_X3_take rfl rfl (Nat.le_of_ble_eq_true rfl) (Nat.le_of_ble_eq_true rfl) (cc_3 _) (s_X3_take hb0) (fun r h q => ?_)
  obtain ⟨rfl, rfl⟩ := q
  simp only [Option.toList, List.cons_append, List.nil_append]
  refine r_if_eq rfl (fun c_7 => ?_) (fun c_7 => ?_)
  · rw [if_pos c_7] at he
    replace hk := hk.1 c_7
    refine r_iconst_ (a := 0) rfl (by decide) ?_
    refine r_iret rfl rfl rfl ?_
    first | with_reducible exact fin_i he | exact fin_i he
  · rw [if_neg c_7] at he
    replace hk := hk.2 c_7
    refine r_aload_n rfl rfl ?_
    refine r_iconst_ (a := 0) rfl (by decide) ?_
    refine r_sipush_ (a := 9999) rfl (by decide) ?_
    obtain ⟨hb1, hk⟩ := hk
    refine q_callV0 [_, _] _ rfl kY_X3_takeInt kT_X3_takeInt rfl rfl (Nat.le_of_ble_eq_true rfl) (Nat.le_of_ble_eq_true rfl) (cc_3 _) (s_X3_takeInt hb1) (fun r h q => ?_)
    obtain ⟨rfl, rfl⟩ := q
    simp only [Option.toList, List.cons_append, List.nil_append]
    refine r_if_eq rfl (fun c_18 => ?_) (fun c_18 => ?_)
    · rw [if_pos c_18] at he
      replace hk := hk.1 c_18
      refine r_iconst_ (a := 0) rfl (by decide) ?_
      refine r_iret rfl rfl rfl ?_
      first | with_reducible exact fin_i he | exact fin_i he
    · rw [if_neg c_18] at he
      replace hk := hk.2 c_18
      refine r_aload_n rfl rfl ?_
      refine r_bipush_ (a := 59) rfl (by decide) ?_
      obtain ⟨hb2, hk⟩ := hk
      refine q_callV0 [_] _ rfl kY_X3_take kT_X3_take rfl rfl (Nat.le_of_ble_eq_true rfl) (Nat.le_of_ble_eq_true rfl) (cc_3 _) (s_X3_take hb2) (fun r h q => ?_)
      obtain ⟨rfl, rfl⟩ := q
      simp only [Option.toList, List.cons_append, List.nil_append]
      refine r_if_ne rfl (fun c_27 => ?_) (fun c_27 => ?_)
      · rw [if_neg c_27] at he
        replace hk := hk.2 c_27
        refine r_aload_n rfl rfl ?_
        refine r_aload_n rfl rfl ?_
        refine q_getfield rfl (cc_3 _) rfl ?_
        refine w_put rfl (cT_0 htt) ff_5_18 ft_5_18 (fun _ _ => (Nat.le_of_ble_eq_true rfl)) (fun _ _ => rfl) ?_
        refine r_iconst_ (a := 1) rfl (by decide) ?_
        refine r_iret rfl rfl rfl ?_
        first | with_reducible exact fin_i he | exact fin_i he
      · rw [if_pos c_27] at he
        replace hk := hk.1 c_27
        refine r_iconst_ (a := 0) rfl (by decide) ?_
        refine r_iret rfl rfl rfl ?_
        first | with_reducible exact fin_i he | exact fin_i he

def f_X12_steps (fu : Nat) (v0 : Int32) (v1 : Int32) (v2 : Int32) (s : fl_I) (l : fl_L) : Int32 × fl_I × fl_L :=
  if ((f_X12_isPicker fu v0 s l) = 0) then ((-1 : Int32), s, l) else if ((f_X12_isCell fu v1 v2) = 0) then ((-1 : Int32), s, l) else ((f_X12_stepsOff fu (f_X12_cellOfPicker fu v0 (f_X12_copies fu s l).1 (f_X12_copies fu s l).2) (((10 : Int32) * v2) + v1)), (f_X12_copies fu s l).1, (f_X12_copies fu s l).2)

def p_X12_steps (fu : Nat) (v0 : Int32) (v1 : Int32) (v2 : Int32) (s : fl_I) (l : fl_L) : Prop :=
  (p_X12_isPicker fu v0 s l) ∧ ((((f_X12_isPicker fu v0 s l) = 0) → True) ∧ (¬ ((f_X12_isPicker fu v0 s l) = 0) → (p_X12_isCell fu v1 v2) ∧ ((((f_X12_isCell fu v1 v2) = 0) → True) ∧ (¬ ((f_X12_isCell fu v1 v2) = 0) → (p_X12_copies fu s l) ∧ (p_X12_cellOfPicker fu v0 (f_X12_copies fu s l).1 (f_X12_copies fu s l).2) ∧ (p_X12_stepsOff fu (f_X12_cellOfPicker fu v0 (f_X12_copies fu s l).1 (f_X12_copies fu s l).2) (((10 : Int32) * v2) + v1)) ∧ True))))

set_option maxRecDepth 100000 in
set_option maxHeartbeats 1000000 in
theorem s_X12_steps {G : ab_G} {fu : Nat} {d : Nat} {D : fl_D} {s : fl_I} {l : fl_L} {v0 : Int32} {v1 : Int32} {v2 : Int32} (hk : p_X12_steps fu v0 v1 v2 s l) : ab_C G (d + 2) 0 0 M_X12_steps 0 (ab_ent [.ref 60, .int v0, .int v1, .int v2]) [] (hp D s l) (rt (some (.int (f_X12_steps fu v0 v1 v2 s l).1)) (hp D (f_X12_steps fu v0 v1 v2 s l).2.1 (f_X12_steps fu v0 v1 v2 s l).2.2)) := by
  generalize he : (f_X12_steps fu v0 v1 v2 s l) = res
  unfold f_X12_steps at he
  unfold p_X12_steps at hk
  refine r_weak (L1 := [some (.ref 60), some (.int v0), some (.int v1), some (.int v2)]) ⟨rfl, rfl, rfl, rfl, trivial⟩ ?_
  refine r_aload_n rfl rfl ?_
  refine r_iload_n rfl rfl ?_
  obtain ⟨hb0, hk⟩ := hk
  refine q_callV0 [_] _ rfl kY_X12_isPicker kT_X12_isPicker rfl rfl (Nat.le_of_ble_eq_true rfl) (Nat.le_of_ble_eq_true rfl) (cc_60 _) (s_X12_isPicker hb0) (fun r h q => ?_)
  obtain ⟨rfl, rfl⟩ := q
  simp only [Option.toList, List.cons_append, List.nil_append]
  refine r_if_eq rfl (fun c_5 => ?_) (fun c_5 => ?_)
  · rw [if_pos c_5] at he
    replace hk := hk.1 c_5
    refine r_iconst_ (a := -1) rfl (by decide) ?_
    refine r_iret rfl rfl rfl ?_
    first | with_reducible exact fin_i he | exact fin_i he
  · rw [if_neg c_5] at he
    replace hk := hk.2 c_5
    refine r_iload_n rfl rfl ?_
    refine r_iload_n rfl rfl ?_
    obtain ⟨hb1, hk⟩ := hk
    refine r_callS0 [_, _] _ rfl kY_X12_isCell kT_X12_isCell rfl rfl (Nat.le_of_ble_eq_true rfl) (Nat.le_of_ble_eq_true rfl) (s_X12_isCell hb1) (fun r h q => ?_)
    obtain ⟨rfl, rfl⟩ := q
    simp only [Option.toList, List.cons_append, List.nil_append]
    refine r_if_ne rfl (fun c_13 => ?_) (fun c_13 => ?_)
    · rw [if_neg c_13] at he
      replace hk := hk.2 c_13
      refine r_aload_n rfl rfl ?_
      obtain ⟨hb2, hk⟩ := hk
      refine q_callV0 [] _ rfl kY_X12_copies kT_X12_copies rfl rfl (Nat.le_of_ble_eq_true rfl) (Nat.le_of_ble_eq_true rfl) (cc_60 _) (s_X12_copies hb2) (fun r h q => ?_)
      obtain ⟨rfl, rfl⟩ := q
      simp only [Option.toList, List.cons_append, List.nil_append]
      refine r_aload_n rfl rfl ?_
      refine r_iload_n rfl rfl ?_
      obtain ⟨hb3, hk⟩ := hk
      refine q_callV0 [_] _ rfl kY_X12_cellOfPicker kT_X12_cellOfPicker rfl rfl (Nat.le_of_ble_eq_true rfl) (Nat.le_of_ble_eq_true rfl) (cc_60 _) (s_X12_cellOfPicker hb3) (fun r h q => ?_)
      obtain ⟨rfl, rfl⟩ := q
      simp only [Option.toList, List.cons_append, List.nil_append]
      refine r_bipush_ (a := 10) rfl (by decide) ?_
      refine r_iload_n rfl rfl ?_
      refine r_imul rfl ?_
      refine r_iload_n rfl rfl ?_
      refine r_iadd rfl ?_
      obtain ⟨hb4, hk⟩ := hk
      refine r_callS0 [_, _] _ rfl kY_X12_stepsOff kT_X12_stepsOff rfl rfl (Nat.le_of_ble_eq_true rfl) (Nat.le_of_ble_eq_true rfl) (s_X12_stepsOff hb4) (fun r h q => ?_)
      obtain ⟨rfl, rfl⟩ := q
      simp only [Option.toList, List.cons_append, List.nil_append]
      refine r_iret rfl rfl rfl ?_
      first | with_reducible exact fin_i he | exact fin_i he
    · rw [if_pos c_13] at he
      replace hk := hk.1 c_13
      refine r_iconst_ (a := -1) rfl (by decide) ?_
      refine r_iret rfl rfl rfl ?_
      first | with_reducible exact fin_i he | exact fin_i he

def f_X10_countCells_16 (fu : Nat) : Nat → Int32 → Int32 → Int32 → Nat → Nat → fl_I → fl_L → Int32 × fl_I × fl_L
  | 0, x2, x4, x5, a, q, s, l => (0, s, l)
  | n + 1, x2, x4, x5, a, q, s, l =>
    if (x4 ≤ x5) then (x2, s, l) else if ((s q x5.toNatClampNeg) ≤ 0) then f_X10_countCells_16 fu n x2 x4 (x5 + 1) a q s l else f_X10_countCells_16 fu n (x2 + 1) x4 (x5 + 1) a q s l

def p_X10_countCells_16 (fu : Nat) : Nat → Int32 → Int32 → Int32 → Nat → Nat → fl_I → fl_L → Prop
  | 0, _, _, _, _, _, _, _ => False
  | n + 1, x2, x4, x5, a, q, s, l =>
    (((x4 ≤ x5) → True) ∧ (¬ (x4 ≤ x5) → (vp_in x5 80) ∧ ((((s q x5.toNatClampNeg) ≤ 0) → p_X10_countCells_16 fu n x2 x4 (x5 + 1) a q s l) ∧ (¬ ((s q x5.toNatClampNeg) ≤ 0) → p_X10_countCells_16 fu n (x2 + 1) x4 (x5 + 1) a q s l))))

set_option maxRecDepth 100000 in
set_option maxHeartbeats 1000000 in
theorem lp_X10_countCells_16 {G : ab_G} {fu : Nat} {d : Nat} {D : fl_D} {a : Nat} (hya : isY D a) {q : Nat} (hcq : ∀ f g, cl D q f g = some (.inl (0, 80, .inl f))) : ∀ (n : Nat) (x2 : Int32) (x4 : Int32) (x5 : Int32) (s : fl_I) (l : fl_L), p_X10_countCells_16 fu n x2 x4 x5 a q s l → ab_C G (d + 2) 0 0 M_X10_countCells 16 [none, none, some (.int x2), some (.ref q), some (.int x4), some (.int x5), none] [] (hp D s l) (rt (some (.int (f_X10_countCells_16 fu n x2 x4 x5 a q s l).1)) (hp D (f_X10_countCells_16 fu n x2 x4 x5 a q s l).2.1 (f_X10_countCells_16 fu n x2 x4 x5 a q s l).2.2)) := by
  intro n
  induction n with
  | zero => intro x2 x4 x5 s l hk; exact hk.elim
  | succ n ih =>
    intro x2 x4 x5 s l hk
    generalize he : f_X10_countCells_16 fu (n + 1) x2 x4 x5 a q s l = res
    unfold f_X10_countCells_16 at he
    unfold p_X10_countCells_16 at hk
    refine r_iload rfl rfl ?_
    refine r_iload rfl rfl ?_
    refine r_icmp_ge rfl (fun c_20 => ?_) (fun c_20 => ?_)
    · rw [if_pos c_20] at he
      replace hk := hk.1 c_20
      refine r_iload_n rfl rfl ?_
      refine r_iret rfl rfl rfl ?_
      first | with_reducible exact fin_i he | exact fin_i he
    · rw [if_neg c_20] at he
      replace hk := hk.2 c_20
      refine r_aload_n rfl rfl ?_
      refine r_iload rfl rfl ?_
      obtain ⟨hb1, hk⟩ := hk
      refine q_iald rfl hcq hb1 ?_
      refine r_istore rfl (Nat.le_of_ble_eq_true rfl) rfl ?_
      refine r_iload rfl rfl ?_
      refine r_if_le rfl (fun c_31 => ?_) (fun c_31 => ?_)
      · rw [if_pos c_31] at he
        replace hk := hk.1 c_31
        refine r_iinc (b := x5 + 1) rfl rfl rfl (Nat.le_of_ble_eq_true rfl) rfl ?_
        refine r_goto rfl ?_
        subst he
        exact r_weak (L1 := [none, none, some (.int x2), some (.ref q), some (.int x4), some (.int (x5 + 1)), none]) ⟨rfl, rfl, rfl, rfl, trivial⟩ (ih _ _ _ _ _ hk)
      · rw [if_neg c_31] at he
        replace hk := hk.2 c_31
        refine r_iinc (b := x2 + 1) rfl rfl rfl (Nat.le_of_ble_eq_true rfl) rfl ?_
        refine r_iinc (b := x5 + 1) rfl rfl rfl (Nat.le_of_ble_eq_true rfl) rfl ?_
        refine r_goto rfl ?_
        subst he
        exact r_weak (L1 := [none, none, some (.int (x2 + 1)), some (.ref q), some (.int x4), some (.int (x5 + 1)), none]) ⟨rfl, rfl, rfl, rfl, trivial⟩ (ih _ _ _ _ _ hk)

def f_X10_countCells (fu : Nat) (a : Nat) (q : Nat) (s : fl_I) (l : fl_L) : Int32 × fl_I × fl_L :=
  f_X10_countCells_16 fu fu (0 : Int32) (80 : Int32) (0 : Int32) a q (f_X10_countAll fu a q s l).1 (f_X10_countAll fu a q s l).2

def p_X10_countCells (fu : Nat) (a : Nat) (q : Nat) (s : fl_I) (l : fl_L) : Prop :=
  (p_X10_countAll fu a q s l) ∧ p_X10_countCells_16 fu fu (0 : Int32) (80 : Int32) (0 : Int32) a q (f_X10_countAll fu a q s l).1 (f_X10_countAll fu a q s l).2

set_option maxRecDepth 100000 in
set_option maxHeartbeats 1000000 in
theorem s_X10_countCells {G : ab_G} {fu : Nat} {d : Nat} {D : fl_D} {s : fl_I} {l : fl_L} {a : Nat} (hya : isY D a) {q : Nat} (hcq : ∀ f g, cl D q f g = some (.inl (0, 80, .inl f)))  (hk : p_X10_countCells fu a q s l) : ab_C G (d + 2) 0 0 M_X10_countCells 0 (ab_ent [.ref a, .ref q]) [] (hp D s l) (rt (some (.int (f_X10_countCells fu a q s l).1)) (hp D (f_X10_countCells fu a q s l).2.1 (f_X10_countCells fu a q s l).2.2)) := by
  generalize he : (f_X10_countCells fu a q s l) = res
  unfold f_X10_countCells at he
  unfold p_X10_countCells at hk
  refine r_weak (L1 := [some (.ref a), some (.ref q), none, none, none, none, none]) ⟨rfl, rfl, trivial⟩ ?_
  refine r_aload_n rfl rfl ?_
  refine r_aload_n rfl rfl ?_
  obtain ⟨hb0, hk⟩ := hk
  refine q_callV0 [_] _ rfl kY_X10_countAll kT_X10_countAll rfl rfl (Nat.le_of_ble_eq_true rfl) (Nat.le_of_ble_eq_true rfl) (cY_0 hya) (s_X10_countAll hya hcq hb0) (fun r h q => ?_)
  obtain ⟨rfl, rfl⟩ := q
  simp only [Option.toList, List.cons_append, List.nil_append]
  refine r_iconst_ (a := 0) rfl (by decide) ?_
  refine r_istore_n rfl (Nat.le_of_ble_eq_true rfl) rfl ?_
  refine r_aload_n rfl rfl ?_
  refine r_astore_n rfl (Nat.le_of_ble_eq_true rfl) rfl ?_
  refine r_aload_n rfl rfl ?_
  refine q_alen (v := (80 : Int32)) rfl hcq (Nat.le_of_ble_eq_true rfl) rfl ?_
  refine r_istore rfl (Nat.le_of_ble_eq_true rfl) rfl ?_
  refine r_iconst_ (a := 0) rfl (by decide) ?_
  refine r_istore rfl (Nat.le_of_ble_eq_true rfl) rfl ?_
  subst he
  exact r_weak (L1 := [none, none, some (.int (0 : Int32)), some (.ref q), some (.int (80 : Int32)), some (.int (0 : Int32)), none]) ⟨rfl, rfl, rfl, rfl, trivial⟩ (lp_X10_countCells_16 hya hcq fu _ _ _ _ _ hk)

def f_X12_term (fu : Nat) (s : fl_I) (l : fl_L) : fl_I × fl_L :=
  if (((wi s 87 (s 60 36).toNatClampNeg (s 60 42)) 60 13) = 0) then ((wi (wi (f_X12_expression fu (wi s 87 (s 60 36).toNatClampNeg (s 60 42)) l).1 88 ((f_X12_expression fu (wi s 87 (s 60 36).toNatClampNeg (s 60 42)) l).1 60 36).toNatClampNeg ((f_X12_expression fu (wi s 87 (s 60 36).toNatClampNeg (s 60 42)) l).1 60 42)) 60 36 (((wi (f_X12_expression fu (wi s 87 (s 60 36).toNatClampNeg (s 60 42)) l).1 88 ((f_X12_expression fu (wi s 87 (s 60 36).toNatClampNeg (s 60 42)) l).1 60 36).toNatClampNeg ((f_X12_expression fu (wi s 87 (s 60 36).toNatClampNeg (s 60 42)) l).1 60 42)) 60 36) + (1 : Int32))), (f_X12_expression fu (wi s 87 (s 60 36).toNatClampNeg (s 60 42)) l).2) else ((wi (wi (wi s 87 (s 60 36).toNatClampNeg (s 60 42)) 88 ((wi s 87 (s 60 36).toNatClampNeg (s 60 42)) 60 36).toNatClampNeg ((wi s 87 (s 60 36).toNatClampNeg (s 60 42)) 60 42)) 60 36 (((wi (wi s 87 (s 60 36).toNatClampNeg (s 60 42)) 88 ((wi s 87 (s 60 36).toNatClampNeg (s 60 42)) 60 36).toNatClampNeg ((wi s 87 (s 60 36).toNatClampNeg (s 60 42)) 60 42)) 60 36) + (1 : Int32))), l)

def p_X12_term (fu : Nat) (s : fl_I) (l : fl_L) : Prop :=
  (vp_in (s 60 36) 260) ∧ (((((wi s 87 (s 60 36).toNatClampNeg (s 60 42)) 60 13) = 0) → (p_X12_expression fu (wi s 87 (s 60 36).toNatClampNeg (s 60 42)) l) ∧ (vp_in ((f_X12_expression fu (wi s 87 (s 60 36).toNatClampNeg (s 60 42)) l).1 60 36) 260) ∧ True) ∧ (¬ (((wi s 87 (s 60 36).toNatClampNeg (s 60 42)) 60 13) = 0) → (vp_in ((wi s 87 (s 60 36).toNatClampNeg (s 60 42)) 60 36) 260) ∧ True))

set_option maxRecDepth 100000 in
set_option maxHeartbeats 1000000 in
theorem s_X12_term {G : ab_G} {fu : Nat} {d : Nat} {D : fl_D} {s : fl_I} {l : fl_L}  (hk : p_X12_term fu s l) : ab_C G (d + 4) 0 0 M_X12_term 0 (ab_ent [.ref 60]) [] (hp D s l) (rt none (hp D (f_X12_term fu s l).1 (f_X12_term fu s l).2)) := by
  generalize he : (f_X12_term fu s l) = res
  unfold f_X12_term at he
  unfold p_X12_term at hk
  refine r_weak (L1 := [some (.ref 60)]) ⟨rfl, trivial⟩ ?_
  refine r_aload_n rfl rfl ?_
  refine q_getfield rfl (cc_60 _) rfl ?_
  refine r_aload_n rfl rfl ?_
  refine q_getfield rfl (cc_60 _) rfl ?_
  refine r_aload_n rfl rfl ?_
  refine q_getfield rfl (cc_60 _) rfl ?_
  obtain ⟨hb0, hk⟩ := hk
  refine w_iast rfl (cc_87 _) hb0 ?_
  refine r_aload_n rfl rfl ?_
  refine q_getfield rfl (cc_60 _) rfl ?_
  refine r_if_ne rfl (fun c_17 => ?_) (fun c_17 => ?_)
  · rw [if_neg c_17] at he
    replace hk := hk.2 c_17
    refine r_aload_n rfl rfl ?_
    refine q_getfield rfl (cc_60 _) rfl ?_
    refine r_aload_n rfl rfl ?_
    refine q_getfield rfl (cc_60 _) rfl ?_
    refine r_aload_n rfl rfl ?_
    refine q_getfield rfl (cc_60 _) rfl ?_
    obtain ⟨hb1, hk⟩ := hk
    refine w_iast rfl (cc_88 _) hb1 ?_
    refine r_aload_n rfl rfl ?_
    refine r_dup rfl rfl ?_
    refine q_getfield rfl (cc_60 _) rfl ?_
    refine r_iconst_ (a := 1) rfl (by decide) ?_
    refine r_iadd rfl ?_
    refine w_put rfl (cc_60 _) ff_12_36 ft_12_36 (fun _ _ => (Nat.le_of_ble_eq_true rfl)) (fun _ _ => rfl) ?_
    refine r_ret rfl rfl ?_
    first | with_reducible exact fin_v he | exact fin_v he
  · rw [if_pos c_17] at he
    replace hk := hk.1 c_17
    refine r_aload_n rfl rfl ?_
    obtain ⟨hb2, hk⟩ := hk
    refine q_callV0 [] _ rfl kY_X12_expression kT_X12_expression rfl rfl (Nat.le_of_ble_eq_true rfl) (Nat.le_of_ble_eq_true rfl) (cc_60 _) (s_X12_expression hb2) (fun r h q => ?_)
    obtain ⟨rfl, rfl⟩ := q
    simp only [Option.toList, List.cons_append, List.nil_append]
    refine r_aload_n rfl rfl ?_
    refine q_getfield rfl (cc_60 _) rfl ?_
    refine r_aload_n rfl rfl ?_
    refine q_getfield rfl (cc_60 _) rfl ?_
    refine r_aload_n rfl rfl ?_
    refine q_getfield rfl (cc_60 _) rfl ?_
    obtain ⟨hb3, hk⟩ := hk
    refine w_iast rfl (cc_88 _) hb3 ?_
    refine r_aload_n rfl rfl ?_
    refine r_dup rfl rfl ?_
    refine q_getfield rfl (cc_60 _) rfl ?_
    refine r_iconst_ (a := 1) rfl (by decide) ?_
    refine r_iadd rfl ?_
    refine w_put rfl (cc_60 _) ff_12_36 ft_12_36 (fun _ _ => (Nat.le_of_ble_eq_true rfl)) (fun _ _ => rfl) ?_
    refine r_ret rfl rfl ?_
    first | with_reducible exact fin_v he | exact fin_v he

def f_X12_toldStep_36 (fu : Nat) (x1 : Int32) (y0 : Int32) (s : fl_I) (l : fl_L) : Int32 × fl_I × fl_L :=
    if (x1 = 0) then (y0, s, l) else ((-y0), s, l)

def p_X12_toldStep_36 (fu : Nat) (x1 : Int32) (y0 : Int32) (s : fl_I) (l : fl_L) : Prop :=
    (((x1 = 0) → True) ∧ (¬ (x1 = 0) → True))

set_option maxRecDepth 100000 in
set_option maxHeartbeats 1000000 in
theorem lp_X12_toldStep_36 {G : ab_G} {fu : Nat} {d : Nat} {D : fl_D} : ∀ (x1 : Int32) (y0 : Int32) (s : fl_I) (l : fl_L), p_X12_toldStep_36 fu x1 y0 s l → ab_C G (d + 3) 0 0 M_X12_toldStep 36 [none, some (.int x1), none] [.int y0] (hp D s l) (rt (some (.int (f_X12_toldStep_36 fu x1 y0 s l).1)) (hp D (f_X12_toldStep_36 fu x1 y0 s l).2.1 (f_X12_toldStep_36 fu x1 y0 s l).2.2)) := by
  intro x1 y0 s l hk
  generalize he : f_X12_toldStep_36 fu x1 y0 s l = res
  unfold f_X12_toldStep_36 at he
  unfold p_X12_toldStep_36 at hk
  refine r_istore_n rfl (Nat.le_of_ble_eq_true rfl) rfl ?_
  refine r_iload_n rfl rfl ?_
  refine r_if_eq rfl (fun c_38 => ?_) (fun c_38 => ?_)
  · rw [if_pos c_38] at he
    replace hk := hk.1 c_38
    refine r_iload_n rfl rfl ?_
    refine r_iret rfl rfl rfl ?_
    first | with_reducible exact fin_i he | exact fin_i he
  · rw [if_neg c_38] at he
    replace hk := hk.2 c_38
    refine r_iload_n rfl rfl ?_
    refine r_ineg rfl ?_
    refine r_goto rfl ?_
    refine r_iret rfl rfl rfl ?_
    first | with_reducible exact fin_i he | exact fin_i he

def f_X12_toldStep_30 (fu : Nat) (x1 : Int32) (s : fl_I) (l : fl_L) : Int32 × fl_I × fl_L :=
    f_X12_toldStep_36 fu x1 (f_X12_bounded fu (0 : Int32) (2 : Int32) s l).1 (f_X12_bounded fu (0 : Int32) (2 : Int32) s l).2.1 (f_X12_bounded fu (0 : Int32) (2 : Int32) s l).2.2

def p_X12_toldStep_30 (fu : Nat) (x1 : Int32) (s : fl_I) (l : fl_L) : Prop :=
    (p_X12_bounded fu (0 : Int32) (2 : Int32) s l) ∧ p_X12_toldStep_36 fu x1 (f_X12_bounded fu (0 : Int32) (2 : Int32) s l).1 (f_X12_bounded fu (0 : Int32) (2 : Int32) s l).2.1 (f_X12_bounded fu (0 : Int32) (2 : Int32) s l).2.2

set_option maxRecDepth 100000 in
set_option maxHeartbeats 1000000 in
theorem lp_X12_toldStep_30 {G : ab_G} {fu : Nat} {d : Nat} {D : fl_D} : ∀ (x1 : Int32) (s : fl_I) (l : fl_L), p_X12_toldStep_30 fu x1 s l → ab_C G (d + 3) 0 0 M_X12_toldStep 30 [some (.ref 60), some (.int x1), none] [] (hp D s l) (rt (some (.int (f_X12_toldStep_30 fu x1 s l).1)) (hp D (f_X12_toldStep_30 fu x1 s l).2.1 (f_X12_toldStep_30 fu x1 s l).2.2)) := by
  intro x1 s l hk
  generalize he : f_X12_toldStep_30 fu x1 s l = res
  unfold f_X12_toldStep_30 at he
  unfold p_X12_toldStep_30 at hk
  refine r_aload_n rfl rfl ?_
  refine r_iconst_ (a := 0) rfl (by decide) ?_
  refine r_iconst_ (a := 2) rfl (by decide) ?_
  obtain ⟨hb0, hk⟩ := hk
  refine q_callV0 [_, _] _ rfl kY_X12_bounded kT_X12_bounded rfl rfl (Nat.le_of_ble_eq_true rfl) (Nat.le_of_ble_eq_true rfl) (cc_60 _) (s_X12_bounded hb0) (fun r h q => ?_)
  obtain ⟨rfl, rfl⟩ := q
  simp only [Option.toList, List.cons_append, List.nil_append]
  subst he
  exact r_weak (L1 := [none, some (.int x1), none]) ⟨rfl, trivial⟩ (lp_X12_toldStep_36 _ _ _ _ hk)

def f_X12_toldStep_20 (fu : Nat) (s : fl_I) (l : fl_L) : Int32 × fl_I × fl_L :=
    if ((0 : Int32) = 0) then f_X12_toldStep_30 fu (0 : Int32) s l else f_X12_toldStep_30 fu (0 : Int32) (f_X12_goesOn fu s l).1 (f_X12_goesOn fu s l).2

def p_X12_toldStep_20 (fu : Nat) (s : fl_I) (l : fl_L) : Prop :=
    ((((0 : Int32) = 0) → p_X12_toldStep_30 fu (0 : Int32) s l) ∧ (¬ ((0 : Int32) = 0) → (p_X12_goesOn fu s l) ∧ p_X12_toldStep_30 fu (0 : Int32) (f_X12_goesOn fu s l).1 (f_X12_goesOn fu s l).2))

set_option maxRecDepth 100000 in
set_option maxHeartbeats 1000000 in
theorem lp_X12_toldStep_20 {G : ab_G} {fu : Nat} {d : Nat} {D : fl_D} : ∀ (s : fl_I) (l : fl_L), p_X12_toldStep_20 fu  s l → ab_C G (d + 3) 0 0 M_X12_toldStep 20 [some (.ref 60), none, none] [] (hp D s l) (rt (some (.int (f_X12_toldStep_20 fu  s l).1)) (hp D (f_X12_toldStep_20 fu  s l).2.1 (f_X12_toldStep_20 fu  s l).2.2)) := by
  intro  s l hk
  generalize he : f_X12_toldStep_20 fu  s l = res
  unfold f_X12_toldStep_20 at he
  unfold p_X12_toldStep_20 at hk
  refine r_iconst_ (a := 0) rfl (by decide) ?_
  refine r_istore_n rfl (Nat.le_of_ble_eq_true rfl) rfl ?_
  refine r_iload_n rfl rfl ?_
  refine r_if_eq rfl (fun c_23 => ?_) (fun c_23 => ?_)
  · rw [if_pos c_23] at he
    replace hk := hk.1 c_23
    subst he
    exact r_weak (L1 := [some (.ref 60), some (.int (0 : Int32)), none]) ⟨rfl, rfl, trivial⟩ (lp_X12_toldStep_30 _ _ _ hk)
  · rw [if_neg c_23] at he
    replace hk := hk.2 c_23
    refine r_aload_n rfl rfl ?_
    obtain ⟨hb1, hk⟩ := hk
    refine q_callV0 [] _ rfl kY_X12_goesOn kT_X12_goesOn rfl rfl (Nat.le_of_ble_eq_true rfl) (Nat.le_of_ble_eq_true rfl) (cc_60 _) (s_X12_goesOn hb1) (fun r h q => ?_)
    obtain ⟨rfl, rfl⟩ := q
    simp only [Option.toList, List.cons_append, List.nil_append]
    subst he
    exact r_weak (L1 := [some (.ref 60), some (.int (0 : Int32)), none]) ⟨rfl, rfl, trivial⟩ (lp_X12_toldStep_30 _ _ _ hk)

def f_X12_toldStep (fu : Nat) (s : fl_I) (l : fl_L) : Int32 × fl_I × fl_L :=
  if ((s 60 13) = 0) then if ((f_X12_is fu (9 : Int32) s l) = 0) then f_X12_toldStep_20 fu  s l else if ((1 : Int32) = 0) then f_X12_toldStep_30 fu (1 : Int32) s l else f_X12_toldStep_30 fu (1 : Int32) (f_X12_goesOn fu s l).1 (f_X12_goesOn fu s l).2 else f_X12_toldStep_20 fu  s l

def p_X12_toldStep (fu : Nat) (s : fl_I) (l : fl_L) : Prop :=
  ((((s 60 13) = 0) → (p_X12_is fu (9 : Int32) s l) ∧ ((((f_X12_is fu (9 : Int32) s l) = 0) → p_X12_toldStep_20 fu  s l) ∧ (¬ ((f_X12_is fu (9 : Int32) s l) = 0) → ((((1 : Int32) = 0) → p_X12_toldStep_30 fu (1 : Int32) s l) ∧ (¬ ((1 : Int32) = 0) → (p_X12_goesOn fu s l) ∧ p_X12_toldStep_30 fu (1 : Int32) (f_X12_goesOn fu s l).1 (f_X12_goesOn fu s l).2))))) ∧ (¬ ((s 60 13) = 0) → p_X12_toldStep_20 fu  s l))

set_option maxRecDepth 100000 in
set_option maxHeartbeats 1000000 in
theorem s_X12_toldStep {G : ab_G} {fu : Nat} {d : Nat} {D : fl_D} {s : fl_I} {l : fl_L}  (hk : p_X12_toldStep fu s l) : ab_C G (d + 3) 0 0 M_X12_toldStep 0 (ab_ent [.ref 60]) [] (hp D s l) (rt (some (.int (f_X12_toldStep fu s l).1)) (hp D (f_X12_toldStep fu s l).2.1 (f_X12_toldStep fu s l).2.2)) := by
  generalize he : (f_X12_toldStep fu s l) = res
  unfold f_X12_toldStep at he
  unfold p_X12_toldStep at hk
  refine r_weak (L1 := [some (.ref 60), none, none]) ⟨rfl, trivial⟩ ?_
  refine r_aload_n rfl rfl ?_
  refine q_getfield rfl (cc_60 _) rfl ?_
  refine r_if_ne rfl (fun c_4 => ?_) (fun c_4 => ?_)
  · rw [if_neg c_4] at he
    replace hk := hk.2 c_4
    subst he
    exact r_weak (L1 := [some (.ref 60), none, none]) ⟨rfl, trivial⟩ (lp_X12_toldStep_20 _ _ hk)
  · rw [if_pos c_4] at he
    replace hk := hk.1 c_4
    refine r_aload_n rfl rfl ?_
    refine r_bipush_ (a := 9) rfl (by decide) ?_
    obtain ⟨hb2, hk⟩ := hk
    refine q_callV0 [_] _ rfl kY_X12_is kT_X12_is rfl rfl (Nat.le_of_ble_eq_true rfl) (Nat.le_of_ble_eq_true rfl) (cc_60 _) (s_X12_is hb2) (fun r h q => ?_)
    obtain ⟨rfl, rfl⟩ := q
    simp only [Option.toList, List.cons_append, List.nil_append]
    refine r_if_eq rfl (fun c_13 => ?_) (fun c_13 => ?_)
    · rw [if_pos c_13] at he
      replace hk := hk.1 c_13
      subst he
      exact r_weak (L1 := [some (.ref 60), none, none]) ⟨rfl, trivial⟩ (lp_X12_toldStep_20 _ _ hk)
    · rw [if_neg c_13] at he
      replace hk := hk.2 c_13
      refine r_iconst_ (a := 1) rfl (by decide) ?_
      refine r_goto rfl ?_
      refine r_istore_n rfl (Nat.le_of_ble_eq_true rfl) rfl ?_
      refine r_iload_n rfl rfl ?_
      refine r_if_eq rfl (fun c_23 => ?_) (fun c_23 => ?_)
      · rw [if_pos c_23] at he
        replace hk := hk.1 c_23
        subst he
        exact r_weak (L1 := [some (.ref 60), some (.int (1 : Int32)), none]) ⟨rfl, rfl, trivial⟩ (lp_X12_toldStep_30 _ _ _ hk)
      · rw [if_neg c_23] at he
        replace hk := hk.2 c_23
        refine r_aload_n rfl rfl ?_
        obtain ⟨hb3, hk⟩ := hk
        refine q_callV0 [] _ rfl kY_X12_goesOn kT_X12_goesOn rfl rfl (Nat.le_of_ble_eq_true rfl) (Nat.le_of_ble_eq_true rfl) (cc_60 _) (s_X12_goesOn hb3) (fun r h q => ?_)
        obtain ⟨rfl, rfl⟩ := q
        simp only [Option.toList, List.cons_append, List.nil_append]
        subst he
        exact r_weak (L1 := [some (.ref 60), some (.int (1 : Int32)), none]) ⟨rfl, rfl, trivial⟩ (lp_X12_toldStep_30 _ _ _ hk)

