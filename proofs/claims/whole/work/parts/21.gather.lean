def f_X8_gather_15 (fu : Nat) : Nat → Int32 → Int32 → Nat → fl_D → fl_I → fl_L → Int32 × fl_D × fl_I × fl_L
  | 0, x2, x3, a, D, s, l => (0, D, s, l)
  | n + 1, x2, x3, a, D, s, l =>
    if ((80 : Int32) ≤ x3) then ((1 : Int32), (f_fillFrom fu D s l).1, (f_fillFrom fu D s l).2.1, (f_fillFrom fu D s l).2.2) else if ((s 53 x3.toNatClampNeg) ≤ 0) then f_X8_gather_15 fu n x2 (x3 + 1) a D s l else if (x3 = x2) then f_X8_gather_15 fu n x2 (x3 + 1) a D s l else if ((s 51 0) < (10 : Int32)) then f_X8_gather_15 fu n x2 (x3 + 1) a D (wi (wi s 52 (s 51 0).toNatClampNeg x3) 51 0 (((wi s 52 (s 51 0).toNatClampNeg x3) 51 0) + (1 : Int32))) l else ((0 : Int32), D, s, l)

def p_X8_gather_15 (fu : Nat) : Nat → Int32 → Int32 → Nat → fl_D → fl_I → fl_L → Prop
  | 0, _, _, _, _, _, _ => False
  | n + 1, x2, x3, a, D, s, l =>
    ((((80 : Int32) ≤ x3) → (p_fillFrom fu D s l) ∧ True) ∧ (¬ ((80 : Int32) ≤ x3) → (vp_in x3 80) ∧ ((((s 53 x3.toNatClampNeg) ≤ 0) → p_X8_gather_15 fu n x2 (x3 + 1) a D s l) ∧ (¬ ((s 53 x3.toNatClampNeg) ≤ 0) → (((x3 = x2) → p_X8_gather_15 fu n x2 (x3 + 1) a D s l) ∧ (¬ (x3 = x2) → ((((s 51 0) < (10 : Int32)) → (vp_in (s 51 0) 10) ∧ p_X8_gather_15 fu n x2 (x3 + 1) a D (wi (wi s 52 (s 51 0).toNatClampNeg x3) 51 0 (((wi s 52 (s 51 0).toNatClampNeg x3) 51 0) + (1 : Int32))) l) ∧ (¬ ((s 51 0) < (10 : Int32)) → True))))))))

set_option maxRecDepth 100000 in
set_option maxHeartbeats 1000000 in
theorem lp_X8_gather_15 {G : ab_G} {fu : Nat} {d : Nat} {D : fl_D} {a : Nat} (hya : isY D a) (hok : fl_ok D) (hfo : fl_fr D) : ∀ (n : Nat) (x2 : Int32) (x3 : Int32) (s : fl_I) (l : fl_L), p_X8_gather_15 fu n x2 x3 a D s l → ab_C G (d + 5) 1 10240 M_X8_gather 15 [some (.ref 51), none, some (.int x2), some (.int x3)] [] (hp D s l) (rt (some (.int (f_X8_gather_15 fu n x2 x3 a D s l).1)) (hp (f_X8_gather_15 fu n x2 x3 a D s l).2.1 (f_X8_gather_15 fu n x2 x3 a D s l).2.2.1 (f_X8_gather_15 fu n x2 x3 a D s l).2.2.2)) := by
  intro n
  induction n with
  | zero => intro x2 x3 s l hk; exact hk.elim
  | succ n ih =>
    intro x2 x3 s l hk
    generalize he : f_X8_gather_15 fu (n + 1) x2 x3 a D s l = res
    unfold f_X8_gather_15 at he
    unfold p_X8_gather_15 at hk
    refine r_iload_n rfl rfl ?_
    refine r_bipush_ (a := 80) rfl (by decide) ?_
    refine r_icmp_ge rfl (fun c_18 => ?_) (fun c_18 => ?_)
    · rw [if_pos c_18] at he
      replace hk := hk.1 c_18
      refine r_aload_n rfl rfl ?_
      obtain ⟨hb1, hk⟩ := hk
      refine q_callVf [] _ rfl kY_X8_fillFrom kT_X8_fillFrom rfl rfl (Nat.le_of_ble_eq_true rfl) (Nat.le_of_ble_eq_true rfl) (cc_51 _) (s_fillFrom (fu := fu) hok hfo hb1) (fun r h q => ?_)
      obtain ⟨rfl, rfl⟩ := q
      simp only [Option.toList, List.cons_append, List.nil_append]
      refine r_iconst_ (a := 1) rfl (by decide) ?_
      refine r_iret rfl rfl rfl ?_
      first | with_reducible exact fin_k he | exact fin_k he
    · rw [if_neg c_18] at he
      replace hk := hk.2 c_18
      refine r_aload_n rfl rfl ?_
      refine q_getfield rfl (cc_51 _) rfl ?_
      refine r_iload_n rfl rfl ?_
      obtain ⟨hb2, hk⟩ := hk
      refine q_iald rfl (cc_53 _) hb2 ?_
      refine r_if_le rfl (fun c_27 => ?_) (fun c_27 => ?_)
      · rw [if_pos c_27] at he
        replace hk := hk.1 c_27
        refine r_iinc (b := x3 + 1) rfl rfl rfl (Nat.le_of_ble_eq_true rfl) rfl ?_
        refine r_goto rfl ?_
        subst he
        exact r_weak (L1 := [some (.ref 51), none, some (.int x2), some (.int (x3 + 1))]) ⟨rfl, rfl, rfl, trivial⟩ (ih _ _ _ _ hk)
      · rw [if_neg c_27] at he
        replace hk := hk.2 c_27
        refine r_iload_n rfl rfl ?_
        refine r_iload_n rfl rfl ?_
        refine r_icmp_eq rfl (fun c_32 => ?_) (fun c_32 => ?_)
        · rw [if_pos c_32] at he
          replace hk := hk.1 c_32
          refine r_iinc (b := x3 + 1) rfl rfl rfl (Nat.le_of_ble_eq_true rfl) rfl ?_
          refine r_goto rfl ?_
          subst he
          exact r_weak (L1 := [some (.ref 51), none, some (.int x2), some (.int (x3 + 1))]) ⟨rfl, rfl, rfl, trivial⟩ (ih _ _ _ _ hk)
        · rw [if_neg c_32] at he
          replace hk := hk.2 c_32
          refine r_aload_n rfl rfl ?_
          refine q_getfield rfl (cc_51 _) rfl ?_
          refine r_bipush_ (a := 10) rfl (by decide) ?_
          refine r_icmp_lt rfl (fun c_41 => ?_) (fun c_41 => ?_)
          · rw [if_pos c_41] at he
            replace hk := hk.1 c_41
            refine r_aload_n rfl rfl ?_
            refine q_getfield rfl (cc_51 _) rfl ?_
            refine r_aload_n rfl rfl ?_
            refine q_getfield rfl (cc_51 _) rfl ?_
            refine r_iload_n rfl rfl ?_
            obtain ⟨hb3, hk⟩ := hk
            refine w_iast rfl (cc_52 _) hb3 ?_
            refine r_aload_n rfl rfl ?_
            refine r_dup rfl rfl ?_
            refine q_getfield rfl (cc_51 _) rfl ?_
            refine r_iconst_ (a := 1) rfl (by decide) ?_
            refine r_iadd rfl ?_
            refine w_put rfl (cc_51 _) ff_8_0 ft_8_0 (fun _ _ => (Nat.le_of_ble_eq_true rfl)) (fun _ _ => rfl) ?_
            refine r_iinc (b := x3 + 1) rfl rfl rfl (Nat.le_of_ble_eq_true rfl) rfl ?_
            refine r_goto rfl ?_
            subst he
            exact r_weak (L1 := [some (.ref 51), none, some (.int x2), some (.int (x3 + 1))]) ⟨rfl, rfl, rfl, trivial⟩ (ih _ _ _ _ hk)
          · rw [if_neg c_41] at he
            replace hk := hk.2 c_41
            refine r_iconst_ (a := 0) rfl (by decide) ?_
            refine r_iret rfl rfl rfl ?_
            first | with_reducible exact fin_k he | exact fin_k he

def f_X8_gather (fu : Nat) (v1 : Int32) (a : Nat) (D : fl_D) (s : fl_I) (l : fl_L) : Int32 × fl_D × fl_I × fl_L :=
  f_X8_gather_15 fu fu v1 (0 : Int32) a D (wi (f_X10_countAll fu a 53 s l).1 51 0 (0 : Int32)) (f_X10_countAll fu a 53 s l).2

def p_X8_gather (fu : Nat) (v1 : Int32) (a : Nat) (D : fl_D) (s : fl_I) (l : fl_L) : Prop :=
  (p_X10_countAll fu a 53 s l) ∧ p_X8_gather_15 fu fu v1 (0 : Int32) a D (wi (f_X10_countAll fu a 53 s l).1 51 0 (0 : Int32)) (f_X10_countAll fu a 53 s l).2

set_option maxRecDepth 100000 in
set_option maxHeartbeats 1000000 in
theorem s_X8_gather {G : ab_G} {fu : Nat} {d : Nat} {D : fl_D} {s : fl_I} {l : fl_L} {a : Nat} (hya : isY D a) (hok : fl_ok D) (hfo : fl_fr D) {v1 : Int32} (hk : p_X8_gather fu v1 a D s l) : ab_C G (d + 5) 1 10240 M_X8_gather 0 (ab_ent [.ref 51, .ref a, .int v1]) [] (hp D s l) (rt (some (.int (f_X8_gather fu v1 a D s l).1)) (hp (f_X8_gather fu v1 a D s l).2.1 (f_X8_gather fu v1 a D s l).2.2.1 (f_X8_gather fu v1 a D s l).2.2.2)) := by
  generalize he : (f_X8_gather fu v1 a D s l) = res
  unfold f_X8_gather at he
  unfold p_X8_gather at hk
  refine r_weak (L1 := [some (.ref 51), some (.ref a), some (.int v1), none]) ⟨rfl, rfl, rfl, trivial⟩ ?_
  refine r_aload_n rfl rfl ?_
  refine r_aload_n rfl rfl ?_
  refine q_getfield rfl (cc_51 _) rfl ?_
  obtain ⟨hb0, hk⟩ := hk
  refine q_callV0 [_] _ rfl kY_X10_countAll kT_X10_countAll rfl rfl (Nat.le_of_ble_eq_true rfl) (Nat.le_of_ble_eq_true rfl) (cY_0 hya) (s_X10_countAll hya (cc_53 _) hb0) (fun r h q => ?_)
  obtain ⟨rfl, rfl⟩ := q
  simp only [Option.toList, List.cons_append, List.nil_append]
  refine r_aload_n rfl rfl ?_
  refine r_iconst_ (a := 0) rfl (by decide) ?_
  refine w_put rfl (cc_51 _) ff_8_0 ft_8_0 (fun _ _ => (Nat.le_of_ble_eq_true rfl)) (fun _ _ => rfl) ?_
  refine r_iconst_ (a := 0) rfl (by decide) ?_
  refine r_istore_n rfl (Nat.le_of_ble_eq_true rfl) rfl ?_
  subst he
  exact r_weak (L1 := [some (.ref 51), none, some (.int v1), some (.int (0 : Int32))]) ⟨rfl, rfl, rfl, trivial⟩ (lp_X8_gather_15 hya hok hfo fu _ _ _ _ hk)

def f_X11_round (fu : Nat) (v0 : Int32) (v1 : Int32) (D : fl_D) (s : fl_I) (l : fl_L) : Int32 × fl_D × fl_I × fl_L :=
  if ((f_X11_isPicker fu v0 s l) = 0) then ((-1 : Int32), D, s, l) else if (v1 < 0) then ((-1 : Int32), D, s, l) else if (v1 ≤ (1 : Int32)) then if ((f_X8_gather fu (s 34 v0.toNatClampNeg) 31 D s l).1 = 0) then ((-3 : Int32), (f_X8_gather fu (s 34 v0.toNatClampNeg) 31 D s l).2.1, (f_X8_gather fu (s 34 v0.toNatClampNeg) 31 D s l).2.2.1, (f_X8_gather fu (s 34 v0.toNatClampNeg) 31 D s l).2.2.2) else if (v1 = 0) then ((f_X8_fewest fu (s 34 v0.toNatClampNeg) (f_X8_all fu (f_X8_gather fu (s 34 v0.toNatClampNeg) 31 D s l).2.2.1 (f_X8_gather fu (s 34 v0.toNatClampNeg) 31 D s l).2.2.2) (f_X8_gather fu (s 34 v0.toNatClampNeg) 31 D s l).2.1 (f_X8_gather fu (s 34 v0.toNatClampNeg) 31 D s l).2.2.1 (f_X8_gather fu (s 34 v0.toNatClampNeg) 31 D s l).2.2.2), (f_X8_gather fu (s 34 v0.toNatClampNeg) 31 D s l).2.1, (f_X8_gather fu (s 34 v0.toNatClampNeg) 31 D s l).2.2.1, (f_X8_gather fu (s 34 v0.toNatClampNeg) 31 D s l).2.2.2) else ((f_X8_firstCell fu (s 34 v0.toNatClampNeg) (f_X8_gather fu (s 34 v0.toNatClampNeg) 31 D s l).2.1 (f_X8_gather fu (s 34 v0.toNatClampNeg) 31 D s l).2.2.1 (f_X8_gather fu (s 34 v0.toNatClampNeg) 31 D s l).2.2.2), (f_X8_gather fu (s 34 v0.toNatClampNeg) 31 D s l).2.1, (f_X8_gather fu (s 34 v0.toNatClampNeg) 31 D s l).2.2.1, (f_X8_gather fu (s 34 v0.toNatClampNeg) 31 D s l).2.2.2) else ((-1 : Int32), D, s, l)

def p_X11_round (fu : Nat) (v0 : Int32) (v1 : Int32) (D : fl_D) (s : fl_I) (l : fl_L) : Prop :=
  (p_X11_isPicker fu v0 s l) ∧ ((((f_X11_isPicker fu v0 s l) = 0) → True) ∧ (¬ ((f_X11_isPicker fu v0 s l) = 0) → (((v1 < 0) → True) ∧ (¬ (v1 < 0) → (((v1 ≤ (1 : Int32)) → (vp_in v0 4) ∧ (p_X8_gather fu (s 34 v0.toNatClampNeg) 31 D s l) ∧ ((((f_X8_gather fu (s 34 v0.toNatClampNeg) 31 D s l).1 = 0) → True) ∧ (¬ ((f_X8_gather fu (s 34 v0.toNatClampNeg) 31 D s l).1 = 0) → (((v1 = 0) → (p_X8_all fu (f_X8_gather fu (s 34 v0.toNatClampNeg) 31 D s l).2.2.1 (f_X8_gather fu (s 34 v0.toNatClampNeg) 31 D s l).2.2.2) ∧ (p_X8_fewest fu (s 34 v0.toNatClampNeg) (f_X8_all fu (f_X8_gather fu (s 34 v0.toNatClampNeg) 31 D s l).2.2.1 (f_X8_gather fu (s 34 v0.toNatClampNeg) 31 D s l).2.2.2) (f_X8_gather fu (s 34 v0.toNatClampNeg) 31 D s l).2.1 (f_X8_gather fu (s 34 v0.toNatClampNeg) 31 D s l).2.2.1 (f_X8_gather fu (s 34 v0.toNatClampNeg) 31 D s l).2.2.2) ∧ (frok (f_X8_gather fu (s 34 v0.toNatClampNeg) 31 D s l).2.1) ∧ True) ∧ (¬ (v1 = 0) → (p_X8_firstCell fu (s 34 v0.toNatClampNeg) (f_X8_gather fu (s 34 v0.toNatClampNeg) 31 D s l).2.1 (f_X8_gather fu (s 34 v0.toNatClampNeg) 31 D s l).2.2.1 (f_X8_gather fu (s 34 v0.toNatClampNeg) 31 D s l).2.2.2) ∧ (frok (f_X8_gather fu (s 34 v0.toNatClampNeg) 31 D s l).2.1) ∧ True))))) ∧ (¬ (v1 ≤ (1 : Int32)) → True))))))

set_option maxRecDepth 100000 in
set_option maxHeartbeats 1000000 in
theorem s_X11_round {G : ab_G} {fu : Nat} {d : Nat} {D : fl_D} {s : fl_I} {l : fl_L} (hok : fl_ok D) (hfo : fl_fr D) {v0 : Int32} {v1 : Int32} (hk : p_X11_round fu v0 v1 D s l) : ab_C G (d + 6) 1 10240 M_X11_round 0 (ab_ent [.ref 0, .int v0, .int v1]) [] (hp D s l) (rt (some (.int (f_X11_round fu v0 v1 D s l).1)) (hp (f_X11_round fu v0 v1 D s l).2.1 (f_X11_round fu v0 v1 D s l).2.2.1 (f_X11_round fu v0 v1 D s l).2.2.2)) := by
  generalize he : (f_X11_round fu v0 v1 D s l) = res
  unfold f_X11_round at he
  unfold p_X11_round at hk
  refine r_weak (L1 := [some (.ref 0), some (.int v0), some (.int v1), none]) ⟨rfl, rfl, rfl, trivial⟩ ?_
  refine r_aload_n rfl rfl ?_
  refine r_iload_n rfl rfl ?_
  obtain ⟨hb0, hk⟩ := hk
  refine q_callV0 [_] _ rfl kY_X11_isPicker kT_X11_isPicker rfl rfl (Nat.le_of_ble_eq_true rfl) (Nat.le_of_ble_eq_true rfl) (cc_0 _) (s_X11_isPicker hb0) (fun r h q => ?_)
  obtain ⟨rfl, rfl⟩ := q
  simp only [Option.toList, List.cons_append, List.nil_append]
  refine r_if_eq rfl (fun c_5 => ?_) (fun c_5 => ?_)
  · rw [if_pos c_5] at he
    replace hk := hk.1 c_5
    refine r_iconst_ (a := -1) rfl (by decide) ?_
    refine r_iret rfl rfl rfl ?_
    first | with_reducible exact fin_k he | exact fin_k he
  · rw [if_neg c_5] at he
    replace hk := hk.2 c_5
    refine r_iload_n rfl rfl ?_
    refine r_if_lt rfl (fun c_9 => ?_) (fun c_9 => ?_)
    · rw [if_pos c_9] at he
      replace hk := hk.1 c_9
      refine r_iconst_ (a := -1) rfl (by decide) ?_
      refine r_iret rfl rfl rfl ?_
      first | with_reducible exact fin_k he | exact fin_k he
    · rw [if_neg c_9] at he
      replace hk := hk.2 c_9
      refine r_iload_n rfl rfl ?_
      refine r_iconst_ (a := 1) rfl (by decide) ?_
      refine r_icmp_le rfl (fun c_14 => ?_) (fun c_14 => ?_)
      · rw [if_pos c_14] at he
        replace hk := hk.1 c_14
        refine r_aload_n rfl rfl ?_
        refine q_getfield rfl (cc_0 _) rfl ?_
        refine q_getfield rfl (cc_31 _) rfl ?_
        refine r_iload_n rfl rfl ?_
        obtain ⟨hb1, hk⟩ := hk
        refine q_iald rfl (cc_34 _) hb1 ?_
        refine r_istore_n rfl (Nat.le_of_ble_eq_true rfl) rfl ?_
        refine r_aload_n rfl rfl ?_
        refine q_getfield rfl (cc_0 _) rfl ?_
        refine r_aload_n rfl rfl ?_
        refine q_getfield rfl (cc_0 _) rfl ?_
        refine r_iload_n rfl rfl ?_
        obtain ⟨hb2, hk⟩ := hk
        refine q_callVf [_, _] _ rfl kY_X8_gather kT_X8_gather rfl rfl (Nat.le_of_ble_eq_true rfl) (Nat.le_of_ble_eq_true rfl) (cc_51 _) (s_X8_gather (Or.inl rfl) hok hfo hb2) (fun r h q => ?_)
        obtain ⟨rfl, rfl⟩ := q
        simp only [Option.toList, List.cons_append, List.nil_append]
        refine r_if_ne rfl (fun c_41 => ?_) (fun c_41 => ?_)
        · rw [if_neg c_41] at he
          replace hk := hk.2 c_41
          refine r_iload_n rfl rfl ?_
          refine r_if_ne rfl (fun c_48 => ?_) (fun c_48 => ?_)
          · rw [if_neg c_48] at he
            replace hk := hk.2 c_48
            refine r_aload_n rfl rfl ?_
            refine q_getfield rfl (cc_0 _) rfl ?_
            refine r_iload_n rfl rfl ?_
            obtain ⟨hb3, hk⟩ := hk
            obtain ⟨hb4, hk⟩ := hk
            refine q_callV0 [_] _ rfl kY_X8_firstCell kT_X8_firstCell rfl rfl (Nat.le_of_ble_eq_true rfl) (Nat.le_of_ble_eq_true rfl) (cc_51 _) (s_X8_firstCell hb4 hb3) (fun r h q => ?_)
            obtain ⟨rfl, rfl⟩ := q
            simp only [Option.toList, List.cons_append, List.nil_append]
            refine r_iret rfl rfl rfl ?_
            first | with_reducible exact fin_k he | exact fin_k he
          · rw [if_pos c_48] at he
            replace hk := hk.1 c_48
            refine r_aload_n rfl rfl ?_
            refine q_getfield rfl (cc_0 _) rfl ?_
            refine r_iload_n rfl rfl ?_
            refine r_aload_n rfl rfl ?_
            refine q_getfield rfl (cc_0 _) rfl ?_
            obtain ⟨hb5, hk⟩ := hk
            refine q_callV0 [] _ rfl kY_X8_all kT_X8_all rfl rfl (Nat.le_of_ble_eq_true rfl) (Nat.le_of_ble_eq_true rfl) (cc_51 _) (s_X8_all hb5) (fun r h q => ?_)
            obtain ⟨rfl, rfl⟩ := q
            simp only [Option.toList, List.cons_append, List.nil_append]
            obtain ⟨hb6, hk⟩ := hk
            obtain ⟨hb7, hk⟩ := hk
            refine q_callV0 [_, _] _ rfl kY_X8_fewest kT_X8_fewest rfl rfl (Nat.le_of_ble_eq_true rfl) (Nat.le_of_ble_eq_true rfl) (cc_51 _) (s_X8_fewest hb7 hb6) (fun r h q => ?_)
            obtain ⟨rfl, rfl⟩ := q
            simp only [Option.toList, List.cons_append, List.nil_append]
            refine r_goto rfl ?_
            refine r_iret rfl rfl rfl ?_
            first | with_reducible exact fin_k he | exact fin_k he
        · rw [if_pos c_41] at he
          replace hk := hk.1 c_41
          refine r_bipush_ (a := -3) rfl (by decide) ?_
          refine r_iret rfl rfl rfl ?_
          first | with_reducible exact fin_k he | exact fin_k he
      · rw [if_neg c_14] at he
        replace hk := hk.2 c_14
        refine r_iconst_ (a := -1) rfl (by decide) ?_
        refine r_iret rfl rfl rfl ?_
        first | with_reducible exact fin_k he | exact fin_k he

def f_X11_share (fu : Nat) (v0 : Int32) (v1 : Int32) (D : fl_D) (s : fl_I) (l : fl_L) : Int32 × fl_D × fl_I × fl_L :=
  if ((f_X11_isPicker fu v0 s l) = 0) then ((-1 : Int32), D, s, l) else if ((f_X11_isPicker fu v1 s l) = 0) then ((-1 : Int32), D, s, l) else if (v0 = v1) then ((-1 : Int32), D, s, l) else if ((f_X8_gather fu (-2 : Int32) 31 D s l).1 = 0) then ((-3 : Int32), (f_X8_gather fu (-2 : Int32) 31 D s l).2.1, (f_X8_gather fu (-2 : Int32) 31 D s l).2.2.1, (f_X8_gather fu (-2 : Int32) 31 D s l).2.2.2) else ((f_X8_shared fu ((f_X8_gather fu (-2 : Int32) 31 D s l).2.2.1 34 v0.toNatClampNeg) ((f_X8_gather fu (-2 : Int32) 31 D s l).2.2.1 34 v1.toNatClampNeg) (f_X8_gather fu (-2 : Int32) 31 D s l).2.1 (f_X8_gather fu (-2 : Int32) 31 D s l).2.2.1 (f_X8_gather fu (-2 : Int32) 31 D s l).2.2.2), (f_X8_gather fu (-2 : Int32) 31 D s l).2.1, (f_X8_gather fu (-2 : Int32) 31 D s l).2.2.1, (f_X8_gather fu (-2 : Int32) 31 D s l).2.2.2)

def p_X11_share (fu : Nat) (v0 : Int32) (v1 : Int32) (D : fl_D) (s : fl_I) (l : fl_L) : Prop :=
  (p_X11_isPicker fu v0 s l) ∧ ((((f_X11_isPicker fu v0 s l) = 0) → True) ∧ (¬ ((f_X11_isPicker fu v0 s l) = 0) → (p_X11_isPicker fu v1 s l) ∧ ((((f_X11_isPicker fu v1 s l) = 0) → True) ∧ (¬ ((f_X11_isPicker fu v1 s l) = 0) → (((v0 = v1) → True) ∧ (¬ (v0 = v1) → (p_X8_gather fu (-2 : Int32) 31 D s l) ∧ ((((f_X8_gather fu (-2 : Int32) 31 D s l).1 = 0) → True) ∧ (¬ ((f_X8_gather fu (-2 : Int32) 31 D s l).1 = 0) → (vp_in v0 4) ∧ (vp_in v1 4) ∧ (p_X8_shared fu ((f_X8_gather fu (-2 : Int32) 31 D s l).2.2.1 34 v0.toNatClampNeg) ((f_X8_gather fu (-2 : Int32) 31 D s l).2.2.1 34 v1.toNatClampNeg) (f_X8_gather fu (-2 : Int32) 31 D s l).2.1 (f_X8_gather fu (-2 : Int32) 31 D s l).2.2.1 (f_X8_gather fu (-2 : Int32) 31 D s l).2.2.2) ∧ (frok (f_X8_gather fu (-2 : Int32) 31 D s l).2.1) ∧ True))))))))

set_option maxRecDepth 100000 in
set_option maxHeartbeats 1000000 in
theorem s_X11_share {G : ab_G} {fu : Nat} {d : Nat} {D : fl_D} {s : fl_I} {l : fl_L} (hok : fl_ok D) (hfo : fl_fr D) {v0 : Int32} {v1 : Int32} (hk : p_X11_share fu v0 v1 D s l) : ab_C G (d + 6) 1 10240 M_X11_share 0 (ab_ent [.ref 0, .int v0, .int v1]) [] (hp D s l) (rt (some (.int (f_X11_share fu v0 v1 D s l).1)) (hp (f_X11_share fu v0 v1 D s l).2.1 (f_X11_share fu v0 v1 D s l).2.2.1 (f_X11_share fu v0 v1 D s l).2.2.2)) := by
  generalize he : (f_X11_share fu v0 v1 D s l) = res
  unfold f_X11_share at he
  unfold p_X11_share at hk
  refine r_weak (L1 := [some (.ref 0), some (.int v0), some (.int v1)]) ⟨rfl, rfl, rfl, trivial⟩ ?_
  refine r_aload_n rfl rfl ?_
  refine r_iload_n rfl rfl ?_
  obtain ⟨hb0, hk⟩ := hk
  refine q_callV0 [_] _ rfl kY_X11_isPicker kT_X11_isPicker rfl rfl (Nat.le_of_ble_eq_true rfl) (Nat.le_of_ble_eq_true rfl) (cc_0 _) (s_X11_isPicker hb0) (fun r h q => ?_)
  obtain ⟨rfl, rfl⟩ := q
  simp only [Option.toList, List.cons_append, List.nil_append]
  refine r_if_eq rfl (fun c_5 => ?_) (fun c_5 => ?_)
  · rw [if_pos c_5] at he
    replace hk := hk.1 c_5
    refine r_iconst_ (a := -1) rfl (by decide) ?_
    refine r_iret rfl rfl rfl ?_
    first | with_reducible exact fin_k he | exact fin_k he
  · rw [if_neg c_5] at he
    replace hk := hk.2 c_5
    refine r_aload_n rfl rfl ?_
    refine r_iload_n rfl rfl ?_
    obtain ⟨hb1, hk⟩ := hk
    refine q_callV0 [_] _ rfl kY_X11_isPicker kT_X11_isPicker rfl rfl (Nat.le_of_ble_eq_true rfl) (Nat.le_of_ble_eq_true rfl) (cc_0 _) (s_X11_isPicker hb1) (fun r h q => ?_)
    obtain ⟨rfl, rfl⟩ := q
    simp only [Option.toList, List.cons_append, List.nil_append]
    refine r_if_eq rfl (fun c_13 => ?_) (fun c_13 => ?_)
    · rw [if_pos c_13] at he
      replace hk := hk.1 c_13
      refine r_iconst_ (a := -1) rfl (by decide) ?_
      refine r_iret rfl rfl rfl ?_
      first | with_reducible exact fin_k he | exact fin_k he
    · rw [if_neg c_13] at he
      replace hk := hk.2 c_13
      refine r_iload_n rfl rfl ?_
      refine r_iload_n rfl rfl ?_
      refine r_icmp_ne rfl (fun c_18 => ?_) (fun c_18 => ?_)
      · rw [if_neg c_18] at he
        replace hk := hk.2 c_18
        refine r_aload_n rfl rfl ?_
        refine q_getfield rfl (cc_0 _) rfl ?_
        refine r_aload_n rfl rfl ?_
        refine q_getfield rfl (cc_0 _) rfl ?_
        refine r_bipush_ (a := -2) rfl (by decide) ?_
        obtain ⟨hb2, hk⟩ := hk
        refine q_callVf [_, _] _ rfl kY_X8_gather kT_X8_gather rfl rfl (Nat.le_of_ble_eq_true rfl) (Nat.le_of_ble_eq_true rfl) (cc_51 _) (s_X8_gather (Or.inl rfl) hok hfo hb2) (fun r h q => ?_)
        obtain ⟨rfl, rfl⟩ := q
        simp only [Option.toList, List.cons_append, List.nil_append]
        refine r_if_ne rfl (fun c_36 => ?_) (fun c_36 => ?_)
        · rw [if_neg c_36] at he
          replace hk := hk.2 c_36
          refine r_aload_n rfl rfl ?_
          refine q_getfield rfl (cc_0 _) rfl ?_
          refine r_aload_n rfl rfl ?_
          refine q_getfield rfl (cc_0 _) rfl ?_
          refine q_getfield rfl (cc_31 _) rfl ?_
          refine r_iload_n rfl rfl ?_
          obtain ⟨hb3, hk⟩ := hk
          refine q_iald rfl (cc_34 _) hb3 ?_
          refine r_aload_n rfl rfl ?_
          refine q_getfield rfl (cc_0 _) rfl ?_
          refine q_getfield rfl (cc_31 _) rfl ?_
          refine r_iload_n rfl rfl ?_
          obtain ⟨hb4, hk⟩ := hk
          refine q_iald rfl (cc_34 _) hb4 ?_
          obtain ⟨hb5, hk⟩ := hk
          obtain ⟨hb6, hk⟩ := hk
          refine q_callV0 [_, _] _ rfl kY_X8_shared kT_X8_shared rfl rfl (Nat.le_of_ble_eq_true rfl) (Nat.le_of_ble_eq_true rfl) (cc_51 _) (s_X8_shared hb6 hb5) (fun r h q => ?_)
          obtain ⟨rfl, rfl⟩ := q
          simp only [Option.toList, List.cons_append, List.nil_append]
          refine r_iret rfl rfl rfl ?_
          first | with_reducible exact fin_k he | exact fin_k he
        · rw [if_pos c_36] at he
          replace hk := hk.1 c_36
          refine r_bipush_ (a := -3) rfl (by decide) ?_
          refine r_iret rfl rfl rfl ?_
          first | with_reducible exact fin_k he | exact fin_k he
      · rw [if_pos c_18] at he
        replace hk := hk.1 c_18
        refine r_iconst_ (a := -1) rfl (by decide) ?_
        refine r_iret rfl rfl rfl ?_
        first | with_reducible exact fin_k he | exact fin_k he
